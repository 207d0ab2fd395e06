theorem up2_s {f : Nat → Nat → Int32} {i j : Nat} {x : Int32} (h : f i j = x) : up2 f i j x = f := by
  funext a b; rw [up2_at]; split
  · rename_i e; rw [e.1, e.2, h]
  · rfl
theorem QC.r0 {vc wc tx : Nat → Nat → Int32} {nt lm cm c a : Nat} (h : QC vc wc tx nt lm cm) (hc : c < cm) (ha : a ≠ 0) (ha5 : a < 5) (e : wc c 3 = nI a) : wc c 8 = nI 0 := by
  rcases h.rush c hc with q | q
  · exact q
  · exact absurd (q.2.symm.trans e) (nI_ne (Ne.symm ha) (by omega) (by omega))
theorem abandon_w {c : RS} {g : CG} {L q l a z q0 cm : Nat} {w iv : Nat → Int32} (hL : L < 12) (hq : q < 30) (hqc : q < cm) (hl : l < 6) (hz : z ≤ 30) (hcm : cm ≤ 30) (hq0 : q0 ≤ z) (h0 : w (137 + 25 * q + 0) = nI l) (ha : a < 5) (es : w (137 + 25 * q + 3) = nI a) (hsz : w (113 + 4 * l + 1) = nI z) (hnp : w (1100 + 8 * l + 0) = nI q0) (hb : ∀ p, p < z → ∃ k, k < cm ∧ c (100 + 6 * L + l) p = nI k) (hs : ∀ k, k < cm → ∃ a, a < 5 ∧ w (137 + 25 * k + 3) = nI a) :
    ∃ q2, q0 ≤ q2 ∧ q2 ≤ z ∧ C3_abandon g (setL c L w iv) L (nI q) = some (setL c L (upd (upd (upd (upd (upd w (137 + 25 * q + 8) (nI 0)) (137 + 25 * q + 3) (nI 4)) (137 + 25 * q + 4) m1) (1100 + 8 * l + 2) (w (1100 + 8 * l + 2) + nI 1)) (1100 + 8 * l + 0) (nI q2)) (ivM iv a 4)) ∧ (∀ p k, q0 ≤ p → p < q2 → k < cm → c (100 + 6 * L + l) p = nI k → fin (up2 (sC w) q 3 (nI 4)) k) ∧ (∀ k, q2 < z → k < cm → c (100 + 6 * L + l) q2 = nI k → ¬ fin (up2 (sC w) q 3 (nI 4)) k) := by
  obtain ⟨q2, g1, g2, g3, g4, g5⟩ := findNext_w (c := c) (g := g) (iv := ivM iv a 4) (w := upd (upd (upd (upd w (137 + 25 * q + 8) (nI 0)) (137 + 25 * q + 3) (nI 4)) (137 + 25 * q + 4) m1) (1100 + 8 * l + 2) (w (1100 + 8 * l + 2) + nI 1)) hL hl hz hcm hq0 (by simp (disch := omega) only [upd_n]; exact hsz) (by simp (disch := omega) only [upd_n]; exact hnp) hb (fun k hk => by
    by_cases e : k = q
    · subst e; exact ⟨4, by omega, by simp (disch := omega) only [upd_n, upd_e]⟩
    · obtain ⟨a, ha, e⟩ := hs k hk
      exact ⟨a, ha, by simp (disch := omega) only [upd_n]; exact e⟩)
  have hv : ∀ k, k < cm → (fin (sC (upd (upd (upd (upd w (137 + 25 * q + 8) (nI 0)) (137 + 25 * q + 3) (nI 4)) (137 + 25 * q + 4) m1) (1100 + 8 * l + 2) (w (1100 + 8 * l + 2) + nI 1))) k ↔ fin (up2 (sC w) q 3 (nI 4)) k) := by
    intro k hk
    simp (disch := omega) only [sA_A, sA_S, sA_L, sA_C, sA_F, sA_P, sA_E, sA_M, sS_A, sS_S, sS_L, sS_C, sS_F, sS_P, sS_E, sS_M, sL_A, sL_S, sL_L, sL_C, sL_F, sL_P, sL_E, sL_M, sC_A, sC_S, sC_L, sC_C, sC_F, sC_P, sC_E, sC_M, sF_A, sF_S, sF_L, sF_C, sF_F, sF_P, sF_E, sF_M, sP_A, sP_S, sP_L, sP_C, sP_F, sP_P, sP_E, sP_M, sE_A, sE_S, sE_L, sE_C, sE_F, sE_P, sE_E, sE_M]
    unfold fin; simp [up2_at]
  refine ⟨q2, g1, g2, ?_, fun p k h1 h2 h3 h4 => (hv k h3).mp (g4 p k h1 h2 h3 h4), fun k h1 h2 h3 f => g5 k h1 h2 h3 ((hv k h2).mpr f)⟩
  unfold C3_abandon
  simp (disch := omega) only [lit32, neg1, nI_add, nI_mul, bS, pt_n, ix_n, rd_n, ws_n, rdo_n, wso_n, setR_1, setL_w, setL_iv, up_setR, up_setL_w, up_setL_iv, nz_0, nz_1]
  rw [change_w (a := a) (b := 4) ha (by omega) (by simp (disch := omega) only [upd_n]; exact es)]
  simp (disch := omega) only [lit32, neg1, nI_add, nI_mul, bS, pt_n, ix_n, rd_n, ws_n, rdo_n, wso_n, setR_1, setL_w, setL_iv, up_setR, up_setL_w, up_setL_iv, nz_0, nz_1, upd_n, h0]
  rw [g3]; rfl
noncomputable def faV (v : Nat → Int32) (s q l b : Nat) : Nat → Int32 := upd (upd (upd (upd (upd (upd (upd v (17 + 16 * s + 2) m1) (17 + 16 * s + 5) (v (17 + 16 * s + 5) + nI 1)) (137 + 25 * q + 5) (v (137 + 25 * q + 5) + nI 1)) (137 + 25 * q + 4) m1) (137 + 25 * q + 3) (nI b)) 13 (v 13 + nI 1)) (113 + 4 * l + 3) (v (113 + 4 * l + 3) + nI 1)
noncomputable def faB (v : Nat → Int32) (q : Nat) : Nat := if v (137 + 25 * q + 5) + nI 1 < v 2 then 0 else 4
theorem failsIn_v {r : RS} {v : Nat → Int32} {s q l : Nat} (hs : s < 6) (hq : q < 30) (hl : l < 6) (h0 : v (137 + 25 * q + 0) = nI l) : F8_failsIn (setR r v) (nI s) (nI q) = some (setR r (faV v s q l (faB v q))) := by
  unfold F8_failsIn faV faB
  simp (disch := omega) only [lit32, neg1, nI_add, nI_mul, bS, pt_n, ix_n, rd_n, ws_n, rdo_n, wso_n, setR_1, setL_w, setL_iv, up_setR, up_setL_w, up_setL_iv, nz_0, nz_1, F8_setsCard_s, F8_ofCard_v, F8_sets_s, F8_grows_v, upd_n, upd_e]
  have e : ((if v (137 + 25 * q + 5) + nI 1 < v 2 then some (nI 0) else some (nI 4)) : Option Int32) = some (nI (if v (137 + 25 * q + 5) + nI 1 < v 2 then 0 else 4)) := by split <;> rfl
  rw [e]
  generalize (if v (137 + 25 * q + 5) + nI 1 < v 2 then 0 else 4) = b
  simp (disch := omega) only [lit32, neg1, nI_add, nI_mul, bS, pt_n, ix_n, rd_n, ws_n, rdo_n, wso_n, setR_1, setL_w, setL_iv, up_setR, up_setL_w, up_setL_iv, nz_0, nz_1, F8_setsCard_s, F8_ofCard_v, upd_n, h0]
noncomputable def faW (w : Nat → Int32) (s q l : Nat) : Nat → Int32 := upd (upd (upd (upd (upd (upd w (17 + 16 * s + 2) m1) (17 + 16 * s + 5) (w (17 + 16 * s + 5) + nI 1)) 13 (w 13 + nI 1)) (1100 + 8 * l + 3) (w (1100 + 8 * l + 3) + nI 1)) (113 + 4 * l + 3) (w (113 + 4 * l + 3) + nI 1)) (137 + 25 * q + 5) (w (137 + 25 * q + 5) + nI 1)
theorem fail_ok {r c : RS} {g : CG} {L sm lm cm B U s q : Nat} {v w iv : Nat → Int32} (hL : L < 12) (h : QX c g L v w iv sm lm cm B U) (hs : s < sm) (hq : q < cm) (eh : sS w s 2 = nI q) (es : sC w q 3 = nI 1) :
    ∃ v' w' iv', F8_failsIn (setR r v) (nI s) (nI q) = some (setR r v') ∧ C3_failCardIn g (setL c L w iv) L s = some (setL c L w' iv') ∧ QX c g L v' w' iv' sm lm cm B U ∧ (∀ s' k, k ≠ 2 → k ≠ 5 → sS w' s' k = sS w s' k) ∧ w' 1060 = w 1060 ∧ sS v' s 2 = m1 := by
  have hsm := h.a.sm6; have hcm := h.a.cm30; have hlm := h.a.lm6
  have hs6 : s < 6 := by omega
  have hq30 : q < 30 := by omega
  obtain ⟨l, hl, e0⟩ := h.c.lot q hq
  have hl6 : l < 6 := by omega
  have e0w : w (137 + 25 * q + 0) = nI l := by rw [sC_r (v := w) (by omega) (by omega)]; exact e0
  have ehw : w (17 + 16 * s + 2) = nI q := by rw [sS_r (v := w) (by omega) (by omega)]; exact eh
  have esw : w (137 + 25 * q + 3) = nI 1 := by rw [sC_r (v := w) (by omega) (by omega)]; exact es
  have r0 := h.c.r0 hq (by omega) (by omega) es
  have eF : v (137 + 25 * q + 5) = w (137 + 25 * q + 5) := h.rc hq (by omega) (by omega)
  have e5 : v (17 + 16 * s + 5) = w (17 + 16 * s + 5) := h.rs hs (by omega) (by omega)
  have e2 : v 2 = w 2 := h.ra (by omega) (by omega) (by omega)
  have e13 : v 13 = w 13 := h.ra (by omega) (by omega) (by omega)
  have eT : v (113 + 4 * l + 3) = w (113 + 4 * l + 3) := by
    rw [sL_r (v := v) (by omega) (by omega), sL_r (v := w) (by omega) (by omega)]; exact h.l.eql l 3 hl (by omega)
  have nf := not_fin (a := 1) (by omega) es
  have nh := h.s.nh hsm hcm hs hq30 eh
  have hF8 := failsIn_v (r := r) (v := v) hs6 hq30 hl6 (by rw [h.rc hq (by omega) (by omega)]; exact e0w)
  have hb : faB v q = faB w q := by unfold faB; rw [eF, e2]
  -- the class up to the fork
  have hC : C3_failCardIn g (setL c L w iv) L s = (if w (137 + 25 * q + 5) + nI 1 < w 2 then C3_changeState g (setL c L (faW w s q l) iv) L q (nI 0) else C3_abandon g (setL c L (faW w s q l) iv) L (nI q)) := by
    unfold C3_failCardIn C6_letFail faW
    simp (disch := omega) only [lit32, neg1, nI_add, nI_mul, bS, pt_n, ix_n, rd_n, ws_n, rdo_n, wso_n, setR_1, setL_w, setL_iv, up_setR, up_setL_w, up_setL_iv, nz_0, nz_1, ehw, upd_n, upd_e, e0w]
    simp only [show 12 + 1 = 13 from rfl]
    split
    · cases C3_changeState g _ L q (nI 0) <;> rfl
    · cases C3_abandon g _ L (nI q) <;> rfl
  have qa0 : QA (upd (sA v) 13 (w 13 + nI 1)) (upd (sA w) 13 (w 13 + nI 1)) sm lm cm B := h.a.free (by omega)
  have qs0 : QS (up2 (up2 (sS v) s 2 m1) s 5 (w (17 + 16 * s + 5) + nI 1)) (up2 (up2 (sS w) s 2 m1) s 5 (w (17 + 16 * s + 5) + nI 1)) (up2 (sC w) q 5 (w (137 + 25 * q + 5) + nI 1)) _ g.nt sm cm U := (QS.free 5 (by omega) (h.s.uHold (Or.inl rfl))).cardk (by decide) (by decide)
  have nh2 : NH (up2 (up2 (sS w) s 2 m1) s 5 (w (17 + 16 * s + 5) + nI 1)) sm q := nh.up (by decide)
  have qc0 : QC (up2 (sC v) q 5 (w (137 + 25 * q + 5) + nI 1)) (up2 (sC w) q 5 (w (137 + 25 * q + 5) + nI 1)) _ g.nt lm cm := h.c.set (by omega)
  have qn0 : QN (upd (sA v) 13 (w 13 + nI 1)) (sF v) (sF w) (up2 (sC w) q 5 (w (137 + 25 * q + 5) + nI 1)) iv cm := (h.n.cardk (by decide)).va (by omega)
  have ew5 : w (137 + 25 * q + 5) = sC w q 5 := sC_r (v := w) (by omega) (by omega)
  have ql0 : QL (up2 (sL v) l 3 (w (113 + 4 * l + 3) + nI 1)) (up2 (sL w) l 3 (w (113 + 4 * l + 3) + nI 1)) (up2 (sE w) l 3 (w (1100 + 8 * l + 3) + nI 1)) (up2 (sC w) q 5 (w (137 + 25 * q + 5) + nI 1)) (fun l => c (100 + 6 * L + l)) lm cm := by
    have := (h.l.more (k := 5) hcm hlm hq hl e0 (Or.inl rfl)).free (l := l) (k := 3) (x := w (113 + 4 * l + 3) + nI 1) (by omega)
    rw [ew5, sE_r (v := w) (by omega) (by omega)]; exact this
  have qd0 : QD (upd (sA v) 13 (w 13 + nI 1)) (sP v) (upd (sA w) 13 (w 13 + nI 1)) (fun l => c (200 + 6 * L + l)) (fun l => c (300 + 6 * L + l)) lm := h.d.free (by omega)
  have es2 : up2 (sC w) q 5 (w (137 + 25 * q + 5) + nI 1) q 3 = nI 1 := by rw [up2_ne (by decide)]; exact es
  have nf2 : ¬ fin (up2 (sC w) q 5 (w (137 + 25 * q + 5) + nI 1)) q := not_fin (a := 1) (by omega) es2
  have vA : sA (faV v s q l (faB v q)) = upd (sA v) 13 (w 13 + nI 1) := by unfold faV; simp (disch := omega) only [sA_A, sA_S, sA_L, sA_C, sA_F, sA_P, sA_E, sA_M, sS_A, sS_S, sS_L, sS_C, sS_F, sS_P, sS_E, sS_M, sL_A, sL_S, sL_L, sL_C, sL_F, sL_P, sL_E, sL_M, sC_A, sC_S, sC_L, sC_C, sC_F, sC_P, sC_E, sC_M, sF_A, sF_S, sF_L, sF_C, sF_F, sF_P, sF_E, sF_M, sP_A, sP_S, sP_L, sP_C, sP_F, sP_P, sP_E, sP_M, sE_A, sE_S, sE_L, sE_C, sE_F, sE_P, sE_E, sE_M, e13]
  have vS : sS (faV v s q l (faB v q)) = up2 (up2 (sS v) s 2 m1) s 5 (w (17 + 16 * s + 5) + nI 1) := by unfold faV; simp (disch := omega) only [sA_A, sA_S, sA_L, sA_C, sA_F, sA_P, sA_E, sA_M, sS_A, sS_S, sS_L, sS_C, sS_F, sS_P, sS_E, sS_M, sL_A, sL_S, sL_L, sL_C, sL_F, sL_P, sL_E, sL_M, sC_A, sC_S, sC_L, sC_C, sC_F, sC_P, sC_E, sC_M, sF_A, sF_S, sF_L, sF_C, sF_F, sF_P, sF_E, sF_M, sP_A, sP_S, sP_L, sP_C, sP_F, sP_P, sP_E, sP_M, sE_A, sE_S, sE_L, sE_C, sE_F, sE_P, sE_E, sE_M, e5]
  have vC : sC (faV v s q l (faB v q)) = up2 (up2 (up2 (sC v) q 5 (w (137 + 25 * q + 5) + nI 1)) q 3 (nI (faB v q))) q 4 m1 := by
    unfold faV; simp (disch := omega) only [sA_A, sA_S, sA_L, sA_C, sA_F, sA_P, sA_E, sA_M, sS_A, sS_S, sS_L, sS_C, sS_F, sS_P, sS_E, sS_M, sL_A, sL_S, sL_L, sL_C, sL_F, sL_P, sL_E, sL_M, sC_A, sC_S, sC_L, sC_C, sC_F, sC_P, sC_E, sC_M, sF_A, sF_S, sF_L, sF_C, sF_F, sF_P, sF_E, sF_M, sP_A, sP_S, sP_L, sP_C, sP_F, sP_P, sP_E, sP_M, sE_A, sE_S, sE_L, sE_C, sE_F, sE_P, sE_E, sE_M, eF]
    (funext a b; simp only [up2_at]; repeat' split)
    all_goals (first | rfl | (exfalso; omega))
  have vF : sF (faV v s q l (faB v q)) = sF v := by unfold faV; simp (disch := omega) only [sA_A, sA_S, sA_L, sA_C, sA_F, sA_P, sA_E, sA_M, sS_A, sS_S, sS_L, sS_C, sS_F, sS_P, sS_E, sS_M, sL_A, sL_S, sL_L, sL_C, sL_F, sL_P, sL_E, sL_M, sC_A, sC_S, sC_L, sC_C, sC_F, sC_P, sC_E, sC_M, sF_A, sF_S, sF_L, sF_C, sF_F, sF_P, sF_E, sF_M, sP_A, sP_S, sP_L, sP_C, sP_F, sP_P, sP_E, sP_M, sE_A, sE_S, sE_L, sE_C, sE_F, sE_P, sE_E, sE_M]
  have vL : sL (faV v s q l (faB v q)) = up2 (sL v) l 3 (w (113 + 4 * l + 3) + nI 1) := by unfold faV; simp (disch := omega) only [sA_A, sA_S, sA_L, sA_C, sA_F, sA_P, sA_E, sA_M, sS_A, sS_S, sS_L, sS_C, sS_F, sS_P, sS_E, sS_M, sL_A, sL_S, sL_L, sL_C, sL_F, sL_P, sL_E, sL_M, sC_A, sC_S, sC_L, sC_C, sC_F, sC_P, sC_E, sC_M, sF_A, sF_S, sF_L, sF_C, sF_F, sF_P, sF_E, sF_M, sP_A, sP_S, sP_L, sP_C, sP_F, sP_P, sP_E, sP_M, sE_A, sE_S, sE_L, sE_C, sE_F, sE_P, sE_E, sE_M, eT]
  have vP : sP (faV v s q l (faB v q)) = sP v := by unfold faV; simp (disch := omega) only [sA_A, sA_S, sA_L, sA_C, sA_F, sA_P, sA_E, sA_M, sS_A, sS_S, sS_L, sS_C, sS_F, sS_P, sS_E, sS_M, sL_A, sL_S, sL_L, sL_C, sL_F, sL_P, sL_E, sL_M, sC_A, sC_S, sC_L, sC_C, sC_F, sC_P, sC_E, sC_M, sF_A, sF_S, sF_L, sF_C, sF_F, sF_P, sF_E, sF_M, sP_A, sP_S, sP_L, sP_C, sP_F, sP_P, sP_E, sP_M, sE_A, sE_S, sE_L, sE_C, sE_F, sE_P, sE_E, sE_M]
  by_cases hlt : w (137 + 25 * q + 5) + nI 1 < w 2
  · have hb0 : faB v q = 0 := by rw [hb]; exact if_pos hlt
    rw [if_pos hlt, change_w (a := 1) (b := 0) (by omega) (by omega) (by unfold faW; simp (disch := omega) only [upd_n]; exact esw)] at hC
    refine ⟨_, _, _, hF8, hC, ?_, ?_, ?_, ?_⟩
    · refine ⟨?_, ?_, ?_, ?_, ?_, ?_, ?_⟩
      · rw [vA]; unfold faW; simp (disch := omega) only [sA_A, sA_S, sA_L, sA_C, sA_F, sA_P, sA_E, sA_M, sS_A, sS_S, sS_L, sS_C, sS_F, sS_P, sS_E, sS_M, sL_A, sL_S, sL_L, sL_C, sL_F, sL_P, sL_E, sL_M, sC_A, sC_S, sC_L, sC_C, sC_F, sC_P, sC_E, sC_M, sF_A, sF_S, sF_L, sF_C, sF_F, sF_P, sF_E, sF_M, sP_A, sP_S, sP_L, sP_C, sP_F, sP_P, sP_E, sP_M, sE_A, sE_S, sE_L, sE_C, sE_F, sE_P, sE_E, sE_M]; exact qa0
      · rw [vS]; unfold faW; simp (disch := omega) only [sA_A, sA_S, sA_L, sA_C, sA_F, sA_P, sA_E, sA_M, sS_A, sS_S, sS_L, sS_C, sS_F, sS_P, sS_E, sS_M, sL_A, sL_S, sL_L, sL_C, sL_F, sL_P, sL_E, sL_M, sC_A, sC_S, sC_L, sC_C, sC_F, sC_P, sC_E, sC_M, sF_A, sF_S, sF_L, sF_C, sF_F, sF_P, sF_E, sF_M, sP_A, sP_S, sP_L, sP_C, sP_F, sP_P, sP_E, sP_M, sE_A, sE_S, sE_L, sE_C, sE_F, sE_P, sE_E, sE_M]; exact (qs0.card hq hcm nh2).card hq hcm nh2
      · rw [vC, hb0]; unfold faW; simp (disch := omega) only [sA_A, sA_S, sA_L, sA_C, sA_F, sA_P, sA_E, sA_M, sS_A, sS_S, sS_L, sS_C, sS_F, sS_P, sS_E, sS_M, sL_A, sL_S, sL_L, sL_C, sL_F, sL_P, sL_E, sL_M, sC_A, sC_S, sC_L, sC_C, sC_F, sC_P, sC_E, sC_M, sF_A, sF_S, sF_L, sF_C, sF_F, sF_P, sF_E, sF_M, sP_A, sP_S, sP_L, sP_C, sP_F, sP_P, sP_E, sP_M, sE_A, sE_S, sE_L, sE_C, sE_F, sE_P, sE_E, sE_M]; exact QC.set (by omega) (QC.uState (by omega) (Or.inl rfl) qc0)
      · rw [vA, vF]; unfold faW; simp (disch := omega) only [sA_A, sA_S, sA_L, sA_C, sA_F, sA_P, sA_E, sA_M, sS_A, sS_S, sS_L, sS_C, sS_F, sS_P, sS_E, sS_M, sL_A, sL_S, sL_L, sL_C, sL_F, sL_P, sL_E, sL_M, sC_A, sC_S, sC_L, sC_C, sC_F, sC_P, sC_E, sC_M, sF_A, sF_S, sF_L, sF_C, sF_F, sF_P, sF_E, sF_M, sP_A, sP_S, sP_L, sP_C, sP_F, sP_P, sP_E, sP_M, sE_A, sE_S, sE_L, sE_C, sE_F, sE_P, sE_E, sE_M]; exact (QN.move hcm hq (by omega) (by omega) (by omega) (by omega) (by omega) es2 qn0).cardk (by decide)
      · rw [vL]; unfold faW; simp (disch := omega) only [sA_A, sA_S, sA_L, sA_C, sA_F, sA_P, sA_E, sA_M, sS_A, sS_S, sS_L, sS_C, sS_F, sS_P, sS_E, sS_M, sL_A, sL_S, sL_L, sL_C, sL_F, sL_P, sL_E, sL_M, sC_A, sC_S, sC_L, sC_C, sC_F, sC_P, sC_E, sC_M, sF_A, sF_S, sF_L, sF_C, sF_F, sF_P, sF_E, sF_M, sP_A, sP_S, sP_L, sP_C, sP_F, sP_P, sP_E, sP_M, sE_A, sE_S, sE_L, sE_C, sE_F, sE_P, sE_E, sE_M]; exact (ql0.state nf2 (by omega)).cardk (by omega)
      · rw [vA, vP]; unfold faW; simp (disch := omega) only [sA_A, sA_S, sA_L, sA_C, sA_F, sA_P, sA_E, sA_M, sS_A, sS_S, sS_L, sS_C, sS_F, sS_P, sS_E, sS_M, sL_A, sL_S, sL_L, sL_C, sL_F, sL_P, sL_E, sL_M, sC_A, sC_S, sC_L, sC_C, sC_F, sC_P, sC_E, sC_M, sF_A, sF_S, sF_L, sF_C, sF_F, sF_P, sF_E, sF_M, sP_A, sP_S, sP_L, sP_C, sP_F, sP_P, sP_E, sP_M, sE_A, sE_S, sE_L, sE_C, sE_F, sE_P, sE_E, sE_M]; exact qd0
      · unfold faW; simp (disch := omega) only [sA_A, sA_S, sA_L, sA_C, sA_F, sA_P, sA_E, sA_M, sS_A, sS_S, sS_L, sS_C, sS_F, sS_P, sS_E, sS_M, sL_A, sL_S, sL_L, sL_C, sL_F, sL_P, sL_E, sL_M, sC_A, sC_S, sC_L, sC_C, sC_F, sC_P, sC_E, sC_M, sF_A, sF_S, sF_L, sF_C, sF_F, sF_P, sF_E, sF_M, sP_A, sP_S, sP_L, sP_C, sP_F, sP_P, sP_E, sP_M, sE_A, sE_S, sE_L, sE_C, sE_F, sE_P, sE_E, sE_M]; exact (h.wh.up (k := 5) (by decide) (by decide)).st
    · intro s' k h2 h5; unfold faW; simp (disch := omega) only [sA_A, sA_S, sA_L, sA_C, sA_F, sA_P, sA_E, sA_M, sS_A, sS_S, sS_L, sS_C, sS_F, sS_P, sS_E, sS_M, sL_A, sL_S, sL_L, sL_C, sL_F, sL_P, sL_E, sL_M, sC_A, sC_S, sC_L, sC_C, sC_F, sC_P, sC_E, sC_M, sF_A, sF_S, sF_L, sF_C, sF_F, sF_P, sF_E, sF_M, sP_A, sP_S, sP_L, sP_C, sP_F, sP_P, sP_E, sP_M, sE_A, sE_S, sE_L, sE_C, sE_F, sE_P, sE_E, sE_M]; rw [up2_ne h5, up2_ne h2]
    · unfold faW; simp (disch := omega) only [upd_n]
    · rw [vS, up2_ne (by decide), up2_eq]
  · have hb4 : faB v q = 4 := by rw [hb]; exact if_neg hlt
    obtain ⟨q0, f1, f2, f3, f4⟩ := h.l.next l hl
    have hz30 : cnt cm (loC (sC w) l) ≤ 30 := Nat.le_trans cnt_le hcm
    obtain ⟨q2, k1, k2, k3, k4, k5⟩ := abandon_w (c := c) (g := g) (iv := iv) (w := faW w s q l) (z := cnt cm (loC (sC w) l)) (q0 := q0) (a := 1) (l := l) hL hq30 hq hl6 hz30 hcm f1 (by unfold faW; simp (disch := omega) only [upd_n]; exact e0w) (by omega) (by unfold faW; simp (disch := omega) only [upd_n]; exact esw) (by unfold faW; simp (disch := omega) only [upd_n]; rw [sL_r (v := w) (by omega) (by omega)]; exact h.l.size l hl) (by unfold faW; simp (disch := omega) only [upd_n]; rw [sE_r (v := w) (by omega) (by omega)]; exact f2) (fun p hp => by obtain ⟨k, m1, m2, -⟩ := h.l.byp l hl p hp; exact ⟨k, m1, m2⟩) (fun k hk => by obtain ⟨a, m1, m2⟩ := h.c.state k hk; exact ⟨a, m1, by unfold faW; simp (disch := omega) only [upd_n]; rw [sC_r (v := w) (by omega) (by omega)]; exact m2⟩)
    rw [if_neg hlt, k3] at hC
    have cW : sC (faW w s q l) = up2 (sC w) q 5 (w (137 + 25 * q + 5) + nI 1) := by unfold faW; simp (disch := omega) only [sA_A, sA_S, sA_L, sA_C, sA_F, sA_P, sA_E, sA_M, sS_A, sS_S, sS_L, sS_C, sS_F, sS_P, sS_E, sS_M, sL_A, sL_S, sL_L, sL_C, sL_F, sL_P, sL_E, sL_M, sC_A, sC_S, sC_L, sC_C, sC_F, sC_P, sC_E, sC_M, sF_A, sF_S, sF_L, sF_C, sF_F, sF_P, sF_E, sF_M, sP_A, sP_S, sP_L, sP_C, sP_F, sP_P, sP_E, sP_M, sE_A, sE_S, sE_L, sE_C, sE_F, sE_P, sE_E, sE_M]
    rw [cW] at k4 k5
    have eE2 : faW w s q l (1100 + 8 * l + 2) = up2 (sE w) l 3 (w (1100 + 8 * l + 3) + nI 1) l (4 - 2) := by
      unfold faW; simp (disch := omega) only [upd_n]; rw [up2_ne (by decide), sE_r (v := w) (by omega) (by omega)]
    have r8 : up2 (sC w) q 5 (w (137 + 25 * q + 5) + nI 1) q 8 = nI 0 := by rw [up2_ne (by decide)]; exact r0
    have lz : cnt cm (loC (up2 (sC w) q 5 (w (137 + 25 * q + 5) + nI 1)) l) = cnt cm (loC (sC w) l) := by rw [loC_at (by decide)]
    have e02 : up2 (sC w) q 5 (w (137 + 25 * q + 5) + nI 1) q 0 = nI l := by rw [up2_ne (by decide)]; exact e0
    refine ⟨_, _, _, hF8, hC, ?_, ?_, ?_, ?_⟩
    · refine ⟨?_, ?_, ?_, ?_, ?_, ?_, ?_⟩
      · rw [vA]; simp (disch := omega) only [sA_A, sA_S, sA_L, sA_C, sA_F, sA_P, sA_E, sA_M, sS_A, sS_S, sS_L, sS_C, sS_F, sS_P, sS_E, sS_M, sL_A, sL_S, sL_L, sL_C, sL_F, sL_P, sL_E, sL_M, sC_A, sC_S, sC_L, sC_C, sC_F, sC_P, sC_E, sC_M, sF_A, sF_S, sF_L, sF_C, sF_F, sF_P, sF_E, sF_M, sP_A, sP_S, sP_L, sP_C, sP_F, sP_P, sP_E, sP_M, sE_A, sE_S, sE_L, sE_C, sE_F, sE_P, sE_E, sE_M]; unfold faW; simp (disch := omega) only [sA_A, sA_S, sA_L, sA_C, sA_F, sA_P, sA_E, sA_M, sS_A, sS_S, sS_L, sS_C, sS_F, sS_P, sS_E, sS_M, sL_A, sL_S, sL_L, sL_C, sL_F, sL_P, sL_E, sL_M, sC_A, sC_S, sC_L, sC_C, sC_F, sC_P, sC_E, sC_M, sF_A, sF_S, sF_L, sF_C, sF_F, sF_P, sF_E, sF_M, sP_A, sP_S, sP_L, sP_C, sP_F, sP_P, sP_E, sP_M, sE_A, sE_S, sE_L, sE_C, sE_F, sE_P, sE_E, sE_M]; exact qa0
      · rw [vS]; simp (disch := omega) only [sA_A, sA_S, sA_L, sA_C, sA_F, sA_P, sA_E, sA_M, sS_A, sS_S, sS_L, sS_C, sS_F, sS_P, sS_E, sS_M, sL_A, sL_S, sL_L, sL_C, sL_F, sL_P, sL_E, sL_M, sC_A, sC_S, sC_L, sC_C, sC_F, sC_P, sC_E, sC_M, sF_A, sF_S, sF_L, sF_C, sF_F, sF_P, sF_E, sF_M, sP_A, sP_S, sP_L, sP_C, sP_F, sP_P, sP_E, sP_M, sE_A, sE_S, sE_L, sE_C, sE_F, sE_P, sE_E, sE_M, cW]; rw [up2_s r8]; unfold faW; simp (disch := omega) only [sA_A, sA_S, sA_L, sA_C, sA_F, sA_P, sA_E, sA_M, sS_A, sS_S, sS_L, sS_C, sS_F, sS_P, sS_E, sS_M, sL_A, sL_S, sL_L, sL_C, sL_F, sL_P, sL_E, sL_M, sC_A, sC_S, sC_L, sC_C, sC_F, sC_P, sC_E, sC_M, sF_A, sF_S, sF_L, sF_C, sF_F, sF_P, sF_E, sF_M, sP_A, sP_S, sP_L, sP_C, sP_F, sP_P, sP_E, sP_M, sE_A, sE_S, sE_L, sE_C, sE_F, sE_P, sE_E, sE_M]; exact (qs0.card hq hcm nh2).card hq hcm nh2
      · rw [vC, hb4]; simp (disch := omega) only [sA_A, sA_S, sA_L, sA_C, sA_F, sA_P, sA_E, sA_M, sS_A, sS_S, sS_L, sS_C, sS_F, sS_P, sS_E, sS_M, sL_A, sL_S, sL_L, sL_C, sL_F, sL_P, sL_E, sL_M, sC_A, sC_S, sC_L, sC_C, sC_F, sC_P, sC_E, sC_M, sF_A, sF_S, sF_L, sF_C, sF_F, sF_P, sF_E, sF_M, sP_A, sP_S, sP_L, sP_C, sP_F, sP_P, sP_E, sP_M, sE_A, sE_S, sE_L, sE_C, sE_F, sE_P, sE_E, sE_M, cW]; rw [up2_s r8]; exact QC.set (by omega) (QC.uState (by omega) (Or.inr r8) qc0)
      · rw [vA, vF]; simp (disch := omega) only [sA_A, sA_S, sA_L, sA_C, sA_F, sA_P, sA_E, sA_M, sS_A, sS_S, sS_L, sS_C, sS_F, sS_P, sS_E, sS_M, sL_A, sL_S, sL_L, sL_C, sL_F, sL_P, sL_E, sL_M, sC_A, sC_S, sC_L, sC_C, sC_F, sC_P, sC_E, sC_M, sF_A, sF_S, sF_L, sF_C, sF_F, sF_P, sF_E, sF_M, sP_A, sP_S, sP_L, sP_C, sP_F, sP_P, sP_E, sP_M, sE_A, sE_S, sE_L, sE_C, sE_F, sE_P, sE_E, sE_M, cW]; rw [up2_s r8]; unfold faW; simp (disch := omega) only [sA_A, sA_S, sA_L, sA_C, sA_F, sA_P, sA_E, sA_M, sS_A, sS_S, sS_L, sS_C, sS_F, sS_P, sS_E, sS_M, sL_A, sL_S, sL_L, sL_C, sL_F, sL_P, sL_E, sL_M, sC_A, sC_S, sC_L, sC_C, sC_F, sC_P, sC_E, sC_M, sF_A, sF_S, sF_L, sF_C, sF_F, sF_P, sF_E, sF_M, sP_A, sP_S, sP_L, sP_C, sP_F, sP_P, sP_E, sP_M, sE_A, sE_S, sE_L, sE_C, sE_F, sE_P, sE_E, sE_M]; exact (QN.move hcm hq (by omega) (by omega) (by omega) (by omega) (by omega) es2 qn0).cardk (by decide)
      · rw [vL]; simp (disch := omega) only [sA_A, sA_S, sA_L, sA_C, sA_F, sA_P, sA_E, sA_M, sS_A, sS_S, sS_L, sS_C, sS_F, sS_P, sS_E, sS_M, sL_A, sL_S, sL_L, sL_C, sL_F, sL_P, sL_E, sL_M, sC_A, sC_S, sC_L, sC_C, sC_F, sC_P, sC_E, sC_M, sF_A, sF_S, sF_L, sF_C, sF_F, sF_P, sF_E, sF_M, sP_A, sP_S, sP_L, sP_C, sP_F, sP_P, sP_E, sP_M, sE_A, sE_S, sE_L, sE_C, sE_F, sE_P, sE_E, sE_M, cW]; rw [up2_s r8, eE2]; unfold faW; simp (disch := omega) only [sA_A, sA_S, sA_L, sA_C, sA_F, sA_P, sA_E, sA_M, sS_A, sS_S, sS_L, sS_C, sS_F, sS_P, sS_E, sS_M, sL_A, sL_S, sL_L, sL_C, sL_F, sL_P, sL_E, sL_M, sC_A, sC_S, sC_L, sC_C, sC_F, sC_P, sC_E, sC_M, sF_A, sF_S, sF_L, sF_C, sF_F, sF_P, sF_E, sF_M, sP_A, sP_S, sP_L, sP_C, sP_F, sP_P, sP_E, sP_M, sE_A, sE_S, sE_L, sE_C, sE_F, sE_P, sE_E, sE_M]
        refine QL.cardk (by omega) (QL.finish (b := 4) hcm hlm hq hl e02 nf2 (Or.inr rfl) (by rw [lz]; exact k2) (fun p c' hp hc' e => ?_) (by rw [lz]; exact k5) ql0)
        by_cases hp0 : p < q0
        · have := f3 p c' hp0 hc' e
          by_cases ec : c' = q
          · rw [ec] at this; exact absurd this nf
          · exact (fin_at (Or.inr ec)).mpr ((fin_at (Or.inl (by decide))).mpr this)
        · exact k4 p c' (by omega) hp hc' e
      · rw [vA, vP]; simp (disch := omega) only [sA_A, sA_S, sA_L, sA_C, sA_F, sA_P, sA_E, sA_M, sS_A, sS_S, sS_L, sS_C, sS_F, sS_P, sS_E, sS_M, sL_A, sL_S, sL_L, sL_C, sL_F, sL_P, sL_E, sL_M, sC_A, sC_S, sC_L, sC_C, sC_F, sC_P, sC_E, sC_M, sF_A, sF_S, sF_L, sF_C, sF_F, sF_P, sF_E, sF_M, sP_A, sP_S, sP_L, sP_C, sP_F, sP_P, sP_E, sP_M, sE_A, sE_S, sE_L, sE_C, sE_F, sE_P, sE_E, sE_M]; unfold faW; simp (disch := omega) only [sA_A, sA_S, sA_L, sA_C, sA_F, sA_P, sA_E, sA_M, sS_A, sS_S, sS_L, sS_C, sS_F, sS_P, sS_E, sS_M, sL_A, sL_S, sL_L, sL_C, sL_F, sL_P, sL_E, sL_M, sC_A, sC_S, sC_L, sC_C, sC_F, sC_P, sC_E, sC_M, sF_A, sF_S, sF_L, sF_C, sF_F, sF_P, sF_E, sF_M, sP_A, sP_S, sP_L, sP_C, sP_F, sP_P, sP_E, sP_M, sE_A, sE_S, sE_L, sE_C, sE_F, sE_P, sE_E, sE_M]; exact qd0
      · simp (disch := omega) only [sA_A, sA_S, sA_L, sA_C, sA_F, sA_P, sA_E, sA_M, sS_A, sS_S, sS_L, sS_C, sS_F, sS_P, sS_E, sS_M, sL_A, sL_S, sL_L, sL_C, sL_F, sL_P, sL_E, sL_M, sC_A, sC_S, sC_L, sC_C, sC_F, sC_P, sC_E, sC_M, sF_A, sF_S, sF_L, sF_C, sF_F, sF_P, sF_E, sF_M, sP_A, sP_S, sP_L, sP_C, sP_F, sP_P, sP_E, sP_M, sE_A, sE_S, sE_L, sE_C, sE_F, sE_P, sE_E, sE_M, cW]; rw [up2_s r8]; exact (h.wh.up (k := 5) (by decide) (by decide)).st
    · intro s' k h2 h5; simp (disch := omega) only [sA_A, sA_S, sA_L, sA_C, sA_F, sA_P, sA_E, sA_M, sS_A, sS_S, sS_L, sS_C, sS_F, sS_P, sS_E, sS_M, sL_A, sL_S, sL_L, sL_C, sL_F, sL_P, sL_E, sL_M, sC_A, sC_S, sC_L, sC_C, sC_F, sC_P, sC_E, sC_M, sF_A, sF_S, sF_L, sF_C, sF_F, sF_P, sF_E, sF_M, sP_A, sP_S, sP_L, sP_C, sP_F, sP_P, sP_E, sP_M, sE_A, sE_S, sE_L, sE_C, sE_F, sE_P, sE_E, sE_M]; unfold faW; simp (disch := omega) only [sA_A, sA_S, sA_L, sA_C, sA_F, sA_P, sA_E, sA_M, sS_A, sS_S, sS_L, sS_C, sS_F, sS_P, sS_E, sS_M, sL_A, sL_S, sL_L, sL_C, sL_F, sL_P, sL_E, sL_M, sC_A, sC_S, sC_L, sC_C, sC_F, sC_P, sC_E, sC_M, sF_A, sF_S, sF_L, sF_C, sF_F, sF_P, sF_E, sF_M, sP_A, sP_S, sP_L, sP_C, sP_F, sP_P, sP_E, sP_M, sE_A, sE_S, sE_L, sE_C, sE_F, sE_P, sE_E, sE_M]; rw [up2_ne h5, up2_ne h2]
    · unfold faW; simp (disch := omega) only [upd_n]
    · rw [vS, up2_ne (by decide), up2_eq]
