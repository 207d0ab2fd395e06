noncomputable abbrev QX (c : RS) (g : CG) (L : Nat) (v w iv : Nat → Int32) (sm lm cm B U : Nat) : Prop := QR v w iv (fun l => c (100 + 6 * L + l)) (fun l => c (200 + 6 * L + l)) (fun l => c (300 + 6 * L + l)) (fun t => c (500 + t)) g.nt sm lm cm B U
noncomputable def lvV (v : Nat → Int32) (q l nl : Nat) : Nat → Int32 := upd (upd (upd (upd (upd (upd v (137 + 25 * q + 3) (nI 3)) (137 + 25 * q + 4) m1) (137 + 25 * q + 7) (v 6)) (887 + nl) (nI q)) 10 (v 10 + nI 1)) (113 + 4 * l + 2) (v (113 + 4 * l + 2) + nI 1)
noncomputable def lvW (w : Nat → Int32) (q l nl q2 : Nat) : Nat → Int32 := upd (upd (upd (upd (upd (upd (upd w (887 + nl) (nI q)) (137 + 25 * q + 7) (w 6)) (137 + 25 * q + 3) (nI 3)) (137 + 25 * q + 4) m1) (1100 + 8 * l + 1) (w (1100 + 8 * l + 1) + nI 1)) (113 + 4 * l + 2) (w (113 + 4 * l + 2) + nI 1)) (1100 + 8 * l + 0) (nI q2)
theorem leaves_v {r : RS} {v : Nat → Int32} {q l nl : Nat} (hq : q < 30) (hl : l < 6) (hn : nl < 30) (h10 : v 10 = nI nl) (h0 : v (137 + 25 * q + 0) = nI l) : F8_leaves (setR r v) (nI q) = some (setR r (lvV v q l nl)) := by
  unfold F8_leaves lvV
  simp (disch := omega) only [lit32, neg1, nI_add, nI_mul, bS, pt_n, ix_n, rd_n, ws_n, rdo_n, wso_n, setR_1, setL_w, setL_iv, up_setR, up_setL_w, up_setL_iv, nz_0, nz_1, F8_setsCard_s, F8_ofCard_v, upd_n, h10, h0]
theorem leave_w {c : RS} {g : CG} {L q l nl a z q0 cm : Nat} {w iv : Nat → Int32} (hL : L < 12) (hq : q < 30) (hqc : q < cm) (hl : l < 6) (hn : nl < 30) (hz : z ≤ 30) (hcm : cm ≤ 30) (hq0 : q0 ≤ z) (h3 : iv 3 = nI nl) (h0 : w (137 + 25 * q + 0) = nI l) (ha : a < 5) (es : w (137 + 25 * q + 3) = nI a) (hsz : w (113 + 4 * l + 1) = nI z) (hnp : w (1100 + 8 * l + 0) = nI q0) (hb : ∀ p, p < z → ∃ k, k < cm ∧ c (100 + 6 * L + l) p = nI k) (hs : ∀ k, k < cm → ∃ a, a < 5 ∧ w (137 + 25 * k + 3) = nI a) :
    ∃ q2, q0 ≤ q2 ∧ q2 ≤ z ∧ C3_leave g (setL c L w iv) L (nI q) = some (setL c L (lvW w q l nl q2) (ivM iv a 3)) ∧ (∀ p k, q0 ≤ p → p < q2 → k < cm → c (100 + 6 * L + l) p = nI k → fin (up2 (sC w) q 3 (nI 3)) k) ∧ (∀ k, q2 < z → k < cm → c (100 + 6 * L + l) q2 = nI k → ¬ fin (up2 (sC w) q 3 (nI 3)) k) := by
  obtain ⟨q2, g1, g2, g3, g4, g5⟩ := findNext_w (c := c) (g := g) (iv := ivM iv a 3) (w := upd (upd (upd (upd (upd (upd w (887 + nl) (nI q)) (137 + 25 * q + 7) (w 6)) (137 + 25 * q + 3) (nI 3)) (137 + 25 * q + 4) m1) (1100 + 8 * l + 1) (w (1100 + 8 * l + 1) + nI 1)) (113 + 4 * l + 2) (w (113 + 4 * l + 2) + nI 1)) hL hl hz hcm hq0 (by simp (disch := omega) only [upd_n]; exact hsz) (by simp (disch := omega) only [upd_n]; exact hnp) hb (fun k hk => by
    by_cases e : k = q
    · subst e; exact ⟨3, by omega, by simp (disch := omega) only [upd_n, upd_e]⟩
    · obtain ⟨a, ha, e⟩ := hs k hk
      exact ⟨a, ha, by simp (disch := omega) only [upd_n]; exact e⟩)
  have hv : ∀ k, k < cm → (fin (sC (upd (upd (upd (upd (upd (upd w (887 + nl) (nI q)) (137 + 25 * q + 7) (w 6)) (137 + 25 * q + 3) (nI 3)) (137 + 25 * q + 4) m1) (1100 + 8 * l + 1) (w (1100 + 8 * l + 1) + nI 1)) (113 + 4 * l + 2) (w (113 + 4 * l + 2) + nI 1))) k ↔ fin (up2 (sC w) q 3 (nI 3)) k) := by
    intro k hk
    simp (disch := omega) only [sA_A, sA_S, sA_L, sA_C, sA_F, sA_P, sA_E, sA_M, sS_A, sS_S, sS_L, sS_C, sS_F, sS_P, sS_E, sS_M, sL_A, sL_S, sL_L, sL_C, sL_F, sL_P, sL_E, sL_M, sC_A, sC_S, sC_L, sC_C, sC_F, sC_P, sC_E, sC_M, sF_A, sF_S, sF_L, sF_C, sF_F, sF_P, sF_E, sF_M, sP_A, sP_S, sP_L, sP_C, sP_F, sP_P, sP_E, sP_M, sE_A, sE_S, sE_L, sE_C, sE_F, sE_P, sE_E, sE_M]
    rw [fin_at (Or.inl (by decide))]
    unfold fin; simp [up2_at]
  refine ⟨q2, g1, g2, ?_, fun p k h1 h2 h3 h4 => (hv k h3).mp (g4 p k h1 h2 h3 h4), fun k h1 h2 h3 f => g5 k h1 h2 h3 ((hv k h2).mpr f)⟩
  unfold C3_leave lvW
  simp (disch := omega) only [lit32, neg1, nI_add, nI_mul, bS, pt_n, ix_n, rd_n, ws_n, rdo_n, wso_n, setR_1, setL_w, setL_iv, up_setR, up_setL_w, up_setL_iv, nz_0, nz_1, h3, upd_n, h0]
  rw [change_w (a := a) (b := 3) ha (by omega) (by simp (disch := omega) only [upd_n]; exact es)]
  simp (disch := omega) only [lit32, neg1, nI_add, nI_mul, bS, pt_n, ix_n, rd_n, ws_n, rdo_n, wso_n, setR_1, setL_w, setL_iv, up_setR, up_setL_w, up_setL_iv, nz_0, nz_1, upd_n, h0]
  rw [g3]; rfl
theorem leave_ok {r c : RS} {g : CG} {L sm lm cm B U q a : Nat} {v w iv : Nat → Int32} (hL : L < 12) (h : QX c g L v w iv sm lm cm B U) (hq : q < cm) (ha : a < 3) (es : sC w q 3 = nI a) (hr : sC w q 8 = nI 0) (nh : NH (sS w) sm q) :
    ∃ v' w' iv', F8_leaves (setR r v) (nI q) = some (setR r v') ∧ C3_leave g (setL c L w iv) L (nI q) = some (setL c L w' iv') ∧ QX c g L v' w' iv' sm lm cm B U ∧ sS w' = sS w ∧ sC w' q 3 = nI 3 ∧ (∀ k, k ≠ q → sC w' k 3 = sC w k 3) ∧ w' 1060 = w 1060 := by
  have hcm := h.a.cm30; have hlm := h.a.lm6
  have hq30 : q < 30 := by omega
  obtain ⟨l, hl, e0⟩ := h.c.lot q hq
  have hl6 : l < 6 := by omega
  obtain ⟨hQN, hnl⟩ := QN.leave hcm hq (by omega) (by omega) es h.n
  generalize hnle : cnt cm (stC (sC w) 3) = nl at hQN hnl
  have hiv : iv 3 = nI nl := by rw [h.n.ins 3 (by omega), hnle]
  have h10 : v 10 = nI nl := by
    have := h.n.nl; rw [← sA_r (v := v) (by omega), hiv] at this; exact this
  obtain ⟨q0, f1, f2, f3, f4⟩ := h.l.next l hl
  have hz30 : cnt cm (loC (sC w) l) ≤ 30 := Nat.le_trans cnt_le hcm
  obtain ⟨q2, k1, k2, k3, k4, k5⟩ := leave_w (c := c) (g := g) (iv := iv) (w := w) (z := cnt cm (loC (sC w) l)) (q0 := q0) (nl := nl) (a := a) (l := l) hL hq30 hq hl6 (by omega) hz30 hcm f1 hiv (by rw [sC_r (v := w) (by omega) (by omega)]; exact e0) (by omega) (by rw [sC_r (v := w) (by omega) (by omega)]; exact es) (by rw [sL_r (v := w) (by omega) (by omega)]; exact h.l.size l hl) (by rw [sE_r (v := w) (by omega) (by omega)]; exact f2) (fun p hp => by obtain ⟨k, m1, m2, -⟩ := h.l.byp l hl p hp; exact ⟨k, m1, m2⟩) (fun k hk => by obtain ⟨a, m1, m2⟩ := h.c.state k hk; exact ⟨a, m1, by rw [sC_r (v := w) (by omega) (by omega)]; exact m2⟩)
  have e6 : v 6 = w 6 := h.ra (by omega) (by omega) (by omega)
  have eT : v (113 + 4 * l + 2) = w (113 + 4 * l + 2) := by
    rw [sL_r (v := v) (by omega) (by omega), sL_r (v := w) (by omega) (by omega)]; exact h.l.eql l 2 hl (by omega)
  have nf := not_fin ha es
  refine ⟨lvV v q l nl, lvW w q l nl q2, ivM iv a 3, leaves_v hq30 hl6 (by omega) h10 (by rw [h.rc hq (by omega) (by omega), sC_r (v := w) (by omega) (by omega)]; exact e0), k3, ?_, ?_, ?_, ?_, ?_⟩
  · have A1 : sA (lvV v q l nl) = upd (sA v) 10 (v 10 + nI 1) := by unfold lvV; simp (disch := omega) only [sA_A, sA_S, sA_L, sA_C, sA_F, sA_P, sA_E, sA_M, sS_A, sS_S, sS_L, sS_C, sS_F, sS_P, sS_E, sS_M, sL_A, sL_S, sL_L, sL_C, sL_F, sL_P, sL_E, sL_M, sC_A, sC_S, sC_L, sC_C, sC_F, sC_P, sC_E, sC_M, sF_A, sF_S, sF_L, sF_C, sF_F, sF_P, sF_E, sF_M, sP_A, sP_S, sP_L, sP_C, sP_F, sP_P, sP_E, sP_M, sE_A, sE_S, sE_L, sE_C, sE_F, sE_P, sE_E, sE_M]
    have S1 : sS (lvV v q l nl) = sS v := by unfold lvV; simp (disch := omega) only [sA_A, sA_S, sA_L, sA_C, sA_F, sA_P, sA_E, sA_M, sS_A, sS_S, sS_L, sS_C, sS_F, sS_P, sS_E, sS_M, sL_A, sL_S, sL_L, sL_C, sL_F, sL_P, sL_E, sL_M, sC_A, sC_S, sC_L, sC_C, sC_F, sC_P, sC_E, sC_M, sF_A, sF_S, sF_L, sF_C, sF_F, sF_P, sF_E, sF_M, sP_A, sP_S, sP_L, sP_C, sP_F, sP_P, sP_E, sP_M, sE_A, sE_S, sE_L, sE_C, sE_F, sE_P, sE_E, sE_M]
    have C1 : sC (lvV v q l nl) = up2 (up2 (up2 (sC v) q 3 (nI 3)) q 4 m1) q 7 (w 6) := by unfold lvV; simp (disch := omega) only [sA_A, sA_S, sA_L, sA_C, sA_F, sA_P, sA_E, sA_M, sS_A, sS_S, sS_L, sS_C, sS_F, sS_P, sS_E, sS_M, sL_A, sL_S, sL_L, sL_C, sL_F, sL_P, sL_E, sL_M, sC_A, sC_S, sC_L, sC_C, sC_F, sC_P, sC_E, sC_M, sF_A, sF_S, sF_L, sF_C, sF_F, sF_P, sF_E, sF_M, sP_A, sP_S, sP_L, sP_C, sP_F, sP_P, sP_E, sP_M, sE_A, sE_S, sE_L, sE_C, sE_F, sE_P, sE_E, sE_M, e6]
    have F1 : sF (lvV v q l nl) = upd (sF v) nl (nI q) := by unfold lvV; simp (disch := omega) only [sA_A, sA_S, sA_L, sA_C, sA_F, sA_P, sA_E, sA_M, sS_A, sS_S, sS_L, sS_C, sS_F, sS_P, sS_E, sS_M, sL_A, sL_S, sL_L, sL_C, sL_F, sL_P, sL_E, sL_M, sC_A, sC_S, sC_L, sC_C, sC_F, sC_P, sC_E, sC_M, sF_A, sF_S, sF_L, sF_C, sF_F, sF_P, sF_E, sF_M, sP_A, sP_S, sP_L, sP_C, sP_F, sP_P, sP_E, sP_M, sE_A, sE_S, sE_L, sE_C, sE_F, sE_P, sE_E, sE_M]
    have L1 : sL (lvV v q l nl) = up2 (sL v) l 2 (w (113 + 4 * l + 2) + nI 1) := by unfold lvV; simp (disch := omega) only [sA_A, sA_S, sA_L, sA_C, sA_F, sA_P, sA_E, sA_M, sS_A, sS_S, sS_L, sS_C, sS_F, sS_P, sS_E, sS_M, sL_A, sL_S, sL_L, sL_C, sL_F, sL_P, sL_E, sL_M, sC_A, sC_S, sC_L, sC_C, sC_F, sC_P, sC_E, sC_M, sF_A, sF_S, sF_L, sF_C, sF_F, sF_P, sF_E, sF_M, sP_A, sP_S, sP_L, sP_C, sP_F, sP_P, sP_E, sP_M, sE_A, sE_S, sE_L, sE_C, sE_F, sE_P, sE_E, sE_M, eT]
    have P1 : sP (lvV v q l nl) = sP v := by unfold lvV; simp (disch := omega) only [sA_A, sA_S, sA_L, sA_C, sA_F, sA_P, sA_E, sA_M, sS_A, sS_S, sS_L, sS_C, sS_F, sS_P, sS_E, sS_M, sL_A, sL_S, sL_L, sL_C, sL_F, sL_P, sL_E, sL_M, sC_A, sC_S, sC_L, sC_C, sC_F, sC_P, sC_E, sC_M, sF_A, sF_S, sF_L, sF_C, sF_F, sF_P, sF_E, sF_M, sP_A, sP_S, sP_L, sP_C, sP_F, sP_P, sP_E, sP_M, sE_A, sE_S, sE_L, sE_C, sE_F, sE_P, sE_E, sE_M]
    have A2 : sA (lvW w q l nl q2) = sA w := by unfold lvW; simp (disch := omega) only [sA_A, sA_S, sA_L, sA_C, sA_F, sA_P, sA_E, sA_M, sS_A, sS_S, sS_L, sS_C, sS_F, sS_P, sS_E, sS_M, sL_A, sL_S, sL_L, sL_C, sL_F, sL_P, sL_E, sL_M, sC_A, sC_S, sC_L, sC_C, sC_F, sC_P, sC_E, sC_M, sF_A, sF_S, sF_L, sF_C, sF_F, sF_P, sF_E, sF_M, sP_A, sP_S, sP_L, sP_C, sP_F, sP_P, sP_E, sP_M, sE_A, sE_S, sE_L, sE_C, sE_F, sE_P, sE_E, sE_M]
    have S2 : sS (lvW w q l nl q2) = sS w := by unfold lvW; simp (disch := omega) only [sA_A, sA_S, sA_L, sA_C, sA_F, sA_P, sA_E, sA_M, sS_A, sS_S, sS_L, sS_C, sS_F, sS_P, sS_E, sS_M, sL_A, sL_S, sL_L, sL_C, sL_F, sL_P, sL_E, sL_M, sC_A, sC_S, sC_L, sC_C, sC_F, sC_P, sC_E, sC_M, sF_A, sF_S, sF_L, sF_C, sF_F, sF_P, sF_E, sF_M, sP_A, sP_S, sP_L, sP_C, sP_F, sP_P, sP_E, sP_M, sE_A, sE_S, sE_L, sE_C, sE_F, sE_P, sE_E, sE_M]
    have C2 : sC (lvW w q l nl q2) = up2 (up2 (up2 (sC w) q 7 (w 6)) q 3 (nI 3)) q 4 m1 := by unfold lvW; simp (disch := omega) only [sA_A, sA_S, sA_L, sA_C, sA_F, sA_P, sA_E, sA_M, sS_A, sS_S, sS_L, sS_C, sS_F, sS_P, sS_E, sS_M, sL_A, sL_S, sL_L, sL_C, sL_F, sL_P, sL_E, sL_M, sC_A, sC_S, sC_L, sC_C, sC_F, sC_P, sC_E, sC_M, sF_A, sF_S, sF_L, sF_C, sF_F, sF_P, sF_E, sF_M, sP_A, sP_S, sP_L, sP_C, sP_F, sP_P, sP_E, sP_M, sE_A, sE_S, sE_L, sE_C, sE_F, sE_P, sE_E, sE_M]
    have C3 : up2 (up2 (up2 (sC w) q 7 (w 6)) q 3 (nI 3)) q 4 m1 = up2 (up2 (up2 (sC w) q 3 (nI 3)) q 4 m1) q 7 (w 6) := by
      (funext a b; simp only [up2_at]; repeat' split)
      all_goals (first | rfl | (exfalso; omega))
    have F2 : sF (lvW w q l nl q2) = upd (sF w) nl (nI q) := by unfold lvW; simp (disch := omega) only [sA_A, sA_S, sA_L, sA_C, sA_F, sA_P, sA_E, sA_M, sS_A, sS_S, sS_L, sS_C, sS_F, sS_P, sS_E, sS_M, sL_A, sL_S, sL_L, sL_C, sL_F, sL_P, sL_E, sL_M, sC_A, sC_S, sC_L, sC_C, sC_F, sC_P, sC_E, sC_M, sF_A, sF_S, sF_L, sF_C, sF_F, sF_P, sF_E, sF_M, sP_A, sP_S, sP_L, sP_C, sP_F, sP_P, sP_E, sP_M, sE_A, sE_S, sE_L, sE_C, sE_F, sE_P, sE_E, sE_M]
    have L2 : sL (lvW w q l nl q2) = up2 (sL w) l 2 (w (113 + 4 * l + 2) + nI 1) := by unfold lvW; simp (disch := omega) only [sA_A, sA_S, sA_L, sA_C, sA_F, sA_P, sA_E, sA_M, sS_A, sS_S, sS_L, sS_C, sS_F, sS_P, sS_E, sS_M, sL_A, sL_S, sL_L, sL_C, sL_F, sL_P, sL_E, sL_M, sC_A, sC_S, sC_L, sC_C, sC_F, sC_P, sC_E, sC_M, sF_A, sF_S, sF_L, sF_C, sF_F, sF_P, sF_E, sF_M, sP_A, sP_S, sP_L, sP_C, sP_F, sP_P, sP_E, sP_M, sE_A, sE_S, sE_L, sE_C, sE_F, sE_P, sE_E, sE_M]
    have E2 : sE (lvW w q l nl q2) = up2 (up2 (sE w) l (3 - 2) (sE w l (3 - 2) + nI 1)) l 0 (nI q2) := by
      unfold lvW; simp (disch := omega) only [sA_A, sA_S, sA_L, sA_C, sA_F, sA_P, sA_E, sA_M, sS_A, sS_S, sS_L, sS_C, sS_F, sS_P, sS_E, sS_M, sL_A, sL_S, sL_L, sL_C, sL_F, sL_P, sL_E, sL_M, sC_A, sC_S, sC_L, sC_C, sC_F, sC_P, sC_E, sC_M, sF_A, sF_S, sF_L, sF_C, sF_F, sF_P, sF_E, sF_M, sP_A, sP_S, sP_L, sP_C, sP_F, sP_P, sP_E, sP_M, sE_A, sE_S, sE_L, sE_C, sE_F, sE_P, sE_E, sE_M]; rw [sE_r (v := w) (by omega) (by omega)]
    refine ⟨?_, ?_, ?_, ?_, ?_, ?_, ?_⟩
    · rw [A1, A2]; exact h.a.v (Or.inl rfl)
    · rw [S1, S2, C2, C3]
      exact ((h.s.card hq hcm nh).card hq hcm nh).cardk (by decide) (by decide)
    · rw [C1, C2, C3]
      exact QC.set (by omega) (QC.set (by omega) (QC.uState (by omega) (Or.inr hr) h.c))
    · rw [A1, F1, F2, C2, C3]
      have : v 10 = sA v 10 := sA_r (v := v) (by omega)
      rw [this]
      exact (hQN.cardk (by decide)).cardk (by decide)
    · rw [L1, L2, E2, C2, C3]
      refine QL.cardk (by omega) (QL.cardk (by omega) (QL.free (by omega) (QL.finish (b := 3) hcm hlm hq hl e0 nf (Or.inl rfl) k2 (fun p c' hp hc' e => ?_) k5 h.l)))
      by_cases hp0 : p < q0
      · have := f3 p c' hp0 hc' e
        by_cases ec : c' = q
        · rw [ec] at this; exact absurd this nf
        · exact (fin_at (Or.inr ec)).mpr this
      · exact k4 p c' (by omega) hp hc' e
    · rw [A1, A2, P1]; exact h.d.v (by omega)
    · rw [C2, C3]; exact h.wh.st.up (by decide) (by decide)
  · unfold lvW; simp (disch := omega) only [sA_A, sA_S, sA_L, sA_C, sA_F, sA_P, sA_E, sA_M, sS_A, sS_S, sS_L, sS_C, sS_F, sS_P, sS_E, sS_M, sL_A, sL_S, sL_L, sL_C, sL_F, sL_P, sL_E, sL_M, sC_A, sC_S, sC_L, sC_C, sC_F, sC_P, sC_E, sC_M, sF_A, sF_S, sF_L, sF_C, sF_F, sF_P, sF_E, sF_M, sP_A, sP_S, sP_L, sP_C, sP_F, sP_P, sP_E, sP_M, sE_A, sE_S, sE_L, sE_C, sE_F, sE_P, sE_E, sE_M]
  · unfold lvW; simp (disch := omega) only [sA_A, sA_S, sA_L, sA_C, sA_F, sA_P, sA_E, sA_M, sS_A, sS_S, sS_L, sS_C, sS_F, sS_P, sS_E, sS_M, sL_A, sL_S, sL_L, sL_C, sL_F, sL_P, sL_E, sL_M, sC_A, sC_S, sC_L, sC_C, sC_F, sC_P, sC_E, sC_M, sF_A, sF_S, sF_L, sF_C, sF_F, sF_P, sF_E, sF_M, sP_A, sP_S, sP_L, sP_C, sP_F, sP_P, sP_E, sP_M, sE_A, sE_S, sE_L, sE_C, sE_F, sE_P, sE_E, sE_M]; rw [up2_ne (by decide), up2_eq]
  · intro k hk; unfold lvW; simp (disch := omega) only [sA_A, sA_S, sA_L, sA_C, sA_F, sA_P, sA_E, sA_M, sS_A, sS_S, sS_L, sS_C, sS_F, sS_P, sS_E, sS_M, sL_A, sL_S, sL_L, sL_C, sL_F, sL_P, sL_E, sL_M, sC_A, sC_S, sC_L, sC_C, sC_F, sC_P, sC_E, sC_M, sF_A, sF_S, sF_L, sF_C, sF_F, sF_P, sF_E, sF_M, sP_A, sP_S, sP_L, sP_C, sP_F, sP_P, sP_E, sP_M, sE_A, sE_S, sE_L, sE_C, sE_F, sE_P, sE_E, sE_M]; rw [up2_ne1 hk, up2_ne1 hk, up2_ne1 hk]
  · unfold lvW; simp (disch := omega) only [upd_n]
