theorem inState_L {r : RS} {v : Nat → Int32} {a cm : Nat} (ha : a < 5) (hcm : cm ≤ 30) (h9 : v 9 = nI cm) : ∀ (d y fu s : Nat), y + d = cm → d < fu → s = cnt y (stC (sC v) a) → F8_inState_L4 (nI a) (setR r v) fu (nI y) (nI s) = some (nI cm, nI (cnt cm (stC (sC v) a))) := by
  intro d
  induction d with
  | zero =>
    intro y fu s hy hfu hs
    obtain ⟨fu, rfl⟩ : ∃ m, fu = m + 1 := ⟨fu - 1, by omega⟩
    obtain rfl : y = cm := by omega
    unfold F8_inState_L4
    simp (disch := omega) only [lit32, neg1, nI_add, nI_mul, bS, pt_n, ix_n, rd_n, ws_n, rdo_n, wso_n, setR_1, setL_w, setL_iv, up_setR, up_setL_w, up_setL_iv, nz_0, nz_1, h9]
    rw [if_pos (nI_le (by omega) (by omega)), hs]
  | succ d ih =>
    intro y fu s hy hfu hs
    obtain ⟨fu, rfl⟩ : ∃ m, fu = m + 1 := ⟨fu - 1, by omega⟩
    unfold F8_inState_L4
    simp (disch := omega) only [lit32, neg1, nI_add, nI_mul, bS, pt_n, ix_n, rd_n, ws_n, rdo_n, wso_n, setR_1, setL_w, setL_iv, up_setR, up_setL_w, up_setL_iv, nz_0, nz_1, h9, F8_ofCard_v]
    rw [if_neg (nI_ge (by omega) (by omega))]
    have e : ((if v (137 + 25 * y + 3) = nI a then some (nI 1) else some (nI 0)) : Option Int32) = some (nI (if stC (sC v) a y then 1 else 0)) := by
      unfold stC
      rw [← sC_r (v := v) (by omega) (by omega)]
      by_cases h : v (137 + 25 * y + 3) = nI a
      · rw [if_pos h, if_pos (decide_eq_true h)]
      · rw [if_neg h, if_neg (by simpa using h)]
    rw [e]
    simp (disch := omega) only [lit32, neg1, nI_add, nI_mul, bS, pt_n, ix_n, rd_n, ws_n, rdo_n, wso_n, setR_1, setL_w, setL_iv, up_setR, up_setL_w, up_setL_iv, nz_0, nz_1]
    refine ih (y + 1) fu _ (by omega) (by omega) ?_
    rw [hs]; rfl
theorem inState_ok {r c : RS} {g : CG} {L sm lm cm B U a : Nat} {v w iv : Nat → Int32} (h : QX c g L v w iv sm lm cm B U) (ha : a < 5) : F8_inState (setR r v) (nI a) = some (iv a) := by
  have hcm := h.a.cm30
  have h9 : v 9 = nI cm := by
    have := h.ra (i := 9) (by omega) (by omega) (by omega)
    rw [this, sA_r (v := w) (by omega)]; exact h.a.w9
  unfold F8_inState
  simp only [lit32]
  rw [inState_L ha hcm h9 cm 0 FUEL 0 (by omega) (by show cm < 10000; omega) rfl, bS, h.n.ins a ha]
  refine congrArg (fun n => some (nI n)) (cnt_congr fun i hi => ?_)
  unfold stC
  rw [h.c.eqc i 3 hi (by omega) (by omega)]
theorem QR.upM {v w iv : Nat → Int32} {bp dl df tx : Nat → Nat → Int32} {nt sm lm cm B U : Nat} {x : Int32} (h : QR v w iv bp dl df tx nt sm lm cm B U) : QR v (upd w 1060 x) iv bp dl df tx nt sm lm cm B U :=
  h.ofS ⟨rfl, sA_M⟩ ⟨rfl, sC_M⟩ ⟨rfl, sF_M⟩ ⟨rfl, sL_M⟩ sE_M rfl (by rw [sS_M]; exact h.s)
theorem QR.tot {v w iv : Nat → Int32} {bp dl df tx : Nat → Nat → Int32} {nt sm lm cm B U i : Nat} {x : Int32} (hi : i < 17 ∧ i ≠ 0 ∧ i ≠ 6 ∧ i ≠ 7 ∧ i ≠ 8 ∧ i ≠ 9 ∧ i ≠ 10 ∧ i ≠ 11) (h : QR v w iv bp dl df tx nt sm lm cm B U) : QR (upd v i x) (upd w i x) iv bp dl df tx nt sm lm cm B U := by
  refine ⟨?_, ?_, ?_, ?_, ?_, ?_, ?_⟩
  · rw [sA_A hi.1, sA_A hi.1]; exact h.a.free (by omega)
  · rw [sS_A hi.1, sS_A hi.1, sC_A hi.1]; exact h.s
  · rw [sC_A hi.1, sC_A hi.1]; exact h.c
  · rw [sA_A hi.1, sF_A hi.1, sF_A hi.1, sC_A hi.1]; exact h.n.va (by omega)
  · rw [sL_A hi.1, sL_A hi.1, sE_A hi.1, sC_A hi.1]; exact h.l
  · rw [sA_A hi.1, sA_A hi.1, sP_A hi.1]; exact h.d.free (by omega)
  · rw [sC_A hi.1]; exact h.wh
theorem QR.scrap {v w iv : Nat → Int32} {bp dl df tx : Nat → Nat → Int32} {nt sm lm cm B U q l k : Nat} (hk : k = 5 ∨ k = 6) (h : QR v w iv bp dl df tx nt sm lm cm B U) (hq : q < cm) (hl : l < lm) (el : sC w q 0 = nI l) : QR (upd v (137 + 25 * q + k) (w (137 + 25 * q + k) + nI 1)) (upd (upd w (137 + 25 * q + k) (w (137 + 25 * q + k) + nI 1)) (1100 + 8 * l + (k - 2)) (w (1100 + 8 * l + (k - 2)) + nI 1)) iv bp dl df tx nt sm lm cm B U := by
  have hcm := h.a.cm30; have hlm := h.a.lm6
  have e1 : w (137 + 25 * q + k) = sC w q k := sC_r (v := w) (by omega) (by omega)
  have e2 : w (1100 + 8 * l + (k - 2)) = sE w l (k - 2) := sE_r (v := w) (by omega) (by omega)
  refine ⟨?_, ?_, ?_, ?_, ?_, ?_, ?_⟩
  · simp (disch := omega) only [sA_A, sA_S, sA_L, sA_C, sA_F, sA_P, sA_E, sA_M, sS_A, sS_S, sS_L, sS_C, sS_F, sS_P, sS_E, sS_M, sL_A, sL_S, sL_L, sL_C, sL_F, sL_P, sL_E, sL_M, sC_A, sC_S, sC_L, sC_C, sC_F, sC_P, sC_E, sC_M, sF_A, sF_S, sF_L, sF_C, sF_F, sF_P, sF_E, sF_M, sP_A, sP_S, sP_L, sP_C, sP_F, sP_P, sP_E, sP_M, sE_A, sE_S, sE_L, sE_C, sE_F, sE_P, sE_E, sE_M]; exact h.a
  · simp (disch := omega) only [sA_A, sA_S, sA_L, sA_C, sA_F, sA_P, sA_E, sA_M, sS_A, sS_S, sS_L, sS_C, sS_F, sS_P, sS_E, sS_M, sL_A, sL_S, sL_L, sL_C, sL_F, sL_P, sL_E, sL_M, sC_A, sC_S, sC_L, sC_C, sC_F, sC_P, sC_E, sC_M, sF_A, sF_S, sF_L, sF_C, sF_F, sF_P, sF_E, sF_M, sP_A, sP_S, sP_L, sP_C, sP_F, sP_P, sP_E, sP_M, sE_A, sE_S, sE_L, sE_C, sE_F, sE_P, sE_E, sE_M]; exact h.s.cardk (by omega) (by omega)
  · simp (disch := omega) only [sA_A, sA_S, sA_L, sA_C, sA_F, sA_P, sA_E, sA_M, sS_A, sS_S, sS_L, sS_C, sS_F, sS_P, sS_E, sS_M, sL_A, sL_S, sL_L, sL_C, sL_F, sL_P, sL_E, sL_M, sC_A, sC_S, sC_L, sC_C, sC_F, sC_P, sC_E, sC_M, sF_A, sF_S, sF_L, sF_C, sF_F, sF_P, sF_E, sF_M, sP_A, sP_S, sP_L, sP_C, sP_F, sP_P, sP_E, sP_M, sE_A, sE_S, sE_L, sE_C, sE_F, sE_P, sE_E, sE_M]; exact h.c.set (by omega)
  · simp (disch := omega) only [sA_A, sA_S, sA_L, sA_C, sA_F, sA_P, sA_E, sA_M, sS_A, sS_S, sS_L, sS_C, sS_F, sS_P, sS_E, sS_M, sL_A, sL_S, sL_L, sL_C, sL_F, sL_P, sL_E, sL_M, sC_A, sC_S, sC_L, sC_C, sC_F, sC_P, sC_E, sC_M, sF_A, sF_S, sF_L, sF_C, sF_F, sF_P, sF_E, sF_M, sP_A, sP_S, sP_L, sP_C, sP_F, sP_P, sP_E, sP_M, sE_A, sE_S, sE_L, sE_C, sE_F, sE_P, sE_E, sE_M]; exact h.n.cardk (by omega)
  · simp (disch := omega) only [sA_A, sA_S, sA_L, sA_C, sA_F, sA_P, sA_E, sA_M, sS_A, sS_S, sS_L, sS_C, sS_F, sS_P, sS_E, sS_M, sL_A, sL_S, sL_L, sL_C, sL_F, sL_P, sL_E, sL_M, sC_A, sC_S, sC_L, sC_C, sC_F, sC_P, sC_E, sC_M, sF_A, sF_S, sF_L, sF_C, sF_F, sF_P, sF_E, sF_M, sP_A, sP_S, sP_L, sP_C, sP_F, sP_P, sP_E, sP_M, sE_A, sE_S, sE_L, sE_C, sE_F, sE_P, sE_E, sE_M]; rw [e1, e2]; exact h.l.more hcm hlm hq hl el hk
  · simp (disch := omega) only [sA_A, sA_S, sA_L, sA_C, sA_F, sA_P, sA_E, sA_M, sS_A, sS_S, sS_L, sS_C, sS_F, sS_P, sS_E, sS_M, sL_A, sL_S, sL_L, sL_C, sL_F, sL_P, sL_E, sL_M, sC_A, sC_S, sC_L, sC_C, sC_F, sC_P, sC_E, sC_M, sF_A, sF_S, sF_L, sF_C, sF_F, sF_P, sF_E, sF_M, sP_A, sP_S, sP_L, sP_C, sP_F, sP_P, sP_E, sP_M, sE_A, sE_S, sE_L, sE_C, sE_F, sE_P, sE_E, sE_M]; exact h.d
  · simp (disch := omega) only [sA_A, sA_S, sA_L, sA_C, sA_F, sA_P, sA_E, sA_M, sS_A, sS_S, sS_L, sS_C, sS_F, sS_P, sS_E, sS_M, sL_A, sL_S, sL_L, sL_C, sL_F, sL_P, sL_E, sL_M, sC_A, sC_S, sC_L, sC_C, sC_F, sC_P, sC_E, sC_M, sF_A, sF_S, sF_L, sF_C, sF_F, sF_P, sF_E, sF_M, sP_A, sP_S, sP_L, sP_C, sP_F, sP_P, sP_E, sP_M, sE_A, sE_S, sE_L, sE_C, sE_F, sE_P, sE_E, sE_M]; exact h.wh.up (by omega) (by omega)
theorem QR.move {v w iv : Nat → Int32} {bp dl df tx : Nat → Nat → Int32} {nt sm lm cm B U q a b : Nat} (h : QR v w iv bp dl df tx nt sm lm cm B U) (hq : q < cm) (nh : NH (sS w) sm q) (ha : a < 3) (hb : b < 3) (hab : a ≠ b) (es : sC w q 3 = nI a) (hr : b = 0 ∨ sC w q 8 = nI 0) : QR (upd (upd v (137 + 25 * q + 3) (nI b)) (137 + 25 * q + 4) m1) (upd (upd w (137 + 25 * q + 3) (nI b)) (137 + 25 * q + 4) m1) (ivM iv a b) bp dl df tx nt sm lm cm B U := by
  have hcm := h.a.cm30
  refine ⟨?_, ?_, ?_, ?_, ?_, ?_, ?_⟩
  · simp (disch := omega) only [sA_A, sA_S, sA_L, sA_C, sA_F, sA_P, sA_E, sA_M, sS_A, sS_S, sS_L, sS_C, sS_F, sS_P, sS_E, sS_M, sL_A, sL_S, sL_L, sL_C, sL_F, sL_P, sL_E, sL_M, sC_A, sC_S, sC_L, sC_C, sC_F, sC_P, sC_E, sC_M, sF_A, sF_S, sF_L, sF_C, sF_F, sF_P, sF_E, sF_M, sP_A, sP_S, sP_L, sP_C, sP_F, sP_P, sP_E, sP_M, sE_A, sE_S, sE_L, sE_C, sE_F, sE_P, sE_E, sE_M]; exact h.a
  · simp (disch := omega) only [sA_A, sA_S, sA_L, sA_C, sA_F, sA_P, sA_E, sA_M, sS_A, sS_S, sS_L, sS_C, sS_F, sS_P, sS_E, sS_M, sL_A, sL_S, sL_L, sL_C, sL_F, sL_P, sL_E, sL_M, sC_A, sC_S, sC_L, sC_C, sC_F, sC_P, sC_E, sC_M, sF_A, sF_S, sF_L, sF_C, sF_F, sF_P, sF_E, sF_M, sP_A, sP_S, sP_L, sP_C, sP_F, sP_P, sP_E, sP_M, sE_A, sE_S, sE_L, sE_C, sE_F, sE_P, sE_E, sE_M]; exact (h.s.card hq hcm nh).card hq hcm nh
  · simp (disch := omega) only [sA_A, sA_S, sA_L, sA_C, sA_F, sA_P, sA_E, sA_M, sS_A, sS_S, sS_L, sS_C, sS_F, sS_P, sS_E, sS_M, sL_A, sL_S, sL_L, sL_C, sL_F, sL_P, sL_E, sL_M, sC_A, sC_S, sC_L, sC_C, sC_F, sC_P, sC_E, sC_M, sF_A, sF_S, sF_L, sF_C, sF_F, sF_P, sF_E, sF_M, sP_A, sP_S, sP_L, sP_C, sP_F, sP_P, sP_E, sP_M, sE_A, sE_S, sE_L, sE_C, sE_F, sE_P, sE_E, sE_M]; exact QC.set (by omega) (QC.uState (by omega) hr h.c)
  · simp (disch := omega) only [sA_A, sA_S, sA_L, sA_C, sA_F, sA_P, sA_E, sA_M, sS_A, sS_S, sS_L, sS_C, sS_F, sS_P, sS_E, sS_M, sL_A, sL_S, sL_L, sL_C, sL_F, sL_P, sL_E, sL_M, sC_A, sC_S, sC_L, sC_C, sC_F, sC_P, sC_E, sC_M, sF_A, sF_S, sF_L, sF_C, sF_F, sF_P, sF_E, sF_M, sP_A, sP_S, sP_L, sP_C, sP_F, sP_P, sP_E, sP_M, sE_A, sE_S, sE_L, sE_C, sE_F, sE_P, sE_E, sE_M]; exact (QN.move hcm hq (by omega) (by omega) hab (by omega) (by omega) es h.n).cardk (by decide)
  · simp (disch := omega) only [sA_A, sA_S, sA_L, sA_C, sA_F, sA_P, sA_E, sA_M, sS_A, sS_S, sS_L, sS_C, sS_F, sS_P, sS_E, sS_M, sL_A, sL_S, sL_L, sL_C, sL_F, sL_P, sL_E, sL_M, sC_A, sC_S, sC_L, sC_C, sC_F, sC_P, sC_E, sC_M, sF_A, sF_S, sF_L, sF_C, sF_F, sF_P, sF_E, sF_M, sP_A, sP_S, sP_L, sP_C, sP_F, sP_P, sP_E, sP_M, sE_A, sE_S, sE_L, sE_C, sE_F, sE_P, sE_E, sE_M]; exact (h.l.state (not_fin ha es) hb).cardk (by omega)
  · simp (disch := omega) only [sA_A, sA_S, sA_L, sA_C, sA_F, sA_P, sA_E, sA_M, sS_A, sS_S, sS_L, sS_C, sS_F, sS_P, sS_E, sS_M, sL_A, sL_S, sL_L, sL_C, sL_F, sL_P, sL_E, sL_M, sC_A, sC_S, sC_L, sC_C, sC_F, sC_P, sC_E, sC_M, sF_A, sF_S, sF_L, sF_C, sF_F, sF_P, sF_E, sF_M, sP_A, sP_S, sP_L, sP_C, sP_F, sP_P, sP_E, sP_M, sE_A, sE_S, sE_L, sE_C, sE_F, sE_P, sE_E, sE_M]; exact h.d
  · simp (disch := omega) only [sA_A, sA_S, sA_L, sA_C, sA_F, sA_P, sA_E, sA_M, sS_A, sS_S, sS_L, sS_C, sS_F, sS_P, sS_E, sS_M, sL_A, sL_S, sL_L, sL_C, sL_F, sL_P, sL_E, sL_M, sC_A, sC_S, sC_L, sC_C, sC_F, sC_P, sC_E, sC_M, sF_A, sF_S, sF_L, sF_C, sF_F, sF_P, sF_E, sF_M, sP_A, sP_S, sP_L, sP_C, sP_F, sP_P, sP_E, sP_M, sE_A, sE_S, sE_L, sE_C, sE_F, sE_P, sE_E, sE_M]; exact h.wh.st
theorem QR.setK {v w iv : Nat → Int32} {bp dl df tx : Nat → Nat → Int32} {nt sm lm cm B U q k : Nat} {x : Int32} (hk : (k = 4 ∧ x = m1) ∨ k = 7) (h : QR v w iv bp dl df tx nt sm lm cm B U) (hq : q < cm) (nh : NH (sS w) sm q) : QR (upd v (137 + 25 * q + k) x) (upd w (137 + 25 * q + k) x) iv bp dl df tx nt sm lm cm B U := by
  have hcm := h.a.cm30
  refine ⟨?_, ?_, ?_, ?_, ?_, ?_, ?_⟩
  · simp (disch := omega) only [sA_A, sA_S, sA_L, sA_C, sA_F, sA_P, sA_E, sA_M, sS_A, sS_S, sS_L, sS_C, sS_F, sS_P, sS_E, sS_M, sL_A, sL_S, sL_L, sL_C, sL_F, sL_P, sL_E, sL_M, sC_A, sC_S, sC_L, sC_C, sC_F, sC_P, sC_E, sC_M, sF_A, sF_S, sF_L, sF_C, sF_F, sF_P, sF_E, sF_M, sP_A, sP_S, sP_L, sP_C, sP_F, sP_P, sP_E, sP_M, sE_A, sE_S, sE_L, sE_C, sE_F, sE_P, sE_E, sE_M]; exact h.a
  · simp (disch := omega) only [sA_A, sA_S, sA_L, sA_C, sA_F, sA_P, sA_E, sA_M, sS_A, sS_S, sS_L, sS_C, sS_F, sS_P, sS_E, sS_M, sL_A, sL_S, sL_L, sL_C, sL_F, sL_P, sL_E, sL_M, sC_A, sC_S, sC_L, sC_C, sC_F, sC_P, sC_E, sC_M, sF_A, sF_S, sF_L, sF_C, sF_F, sF_P, sF_E, sF_M, sP_A, sP_S, sP_L, sP_C, sP_F, sP_P, sP_E, sP_M, sE_A, sE_S, sE_L, sE_C, sE_F, sE_P, sE_E, sE_M]; exact h.s.card hq hcm nh
  · simp (disch := omega) only [sA_A, sA_S, sA_L, sA_C, sA_F, sA_P, sA_E, sA_M, sS_A, sS_S, sS_L, sS_C, sS_F, sS_P, sS_E, sS_M, sL_A, sL_S, sL_L, sL_C, sL_F, sL_P, sL_E, sL_M, sC_A, sC_S, sC_L, sC_C, sC_F, sC_P, sC_E, sC_M, sF_A, sF_S, sF_L, sF_C, sF_F, sF_P, sF_E, sF_M, sP_A, sP_S, sP_L, sP_C, sP_F, sP_P, sP_E, sP_M, sE_A, sE_S, sE_L, sE_C, sE_F, sE_P, sE_E, sE_M]; exact QC.set (by omega) h.c
  · simp (disch := omega) only [sA_A, sA_S, sA_L, sA_C, sA_F, sA_P, sA_E, sA_M, sS_A, sS_S, sS_L, sS_C, sS_F, sS_P, sS_E, sS_M, sL_A, sL_S, sL_L, sL_C, sL_F, sL_P, sL_E, sL_M, sC_A, sC_S, sC_L, sC_C, sC_F, sC_P, sC_E, sC_M, sF_A, sF_S, sF_L, sF_C, sF_F, sF_P, sF_E, sF_M, sP_A, sP_S, sP_L, sP_C, sP_F, sP_P, sP_E, sP_M, sE_A, sE_S, sE_L, sE_C, sE_F, sE_P, sE_E, sE_M]; exact h.n.cardk (by omega)
  · simp (disch := omega) only [sA_A, sA_S, sA_L, sA_C, sA_F, sA_P, sA_E, sA_M, sS_A, sS_S, sS_L, sS_C, sS_F, sS_P, sS_E, sS_M, sL_A, sL_S, sL_L, sL_C, sL_F, sL_P, sL_E, sL_M, sC_A, sC_S, sC_L, sC_C, sC_F, sC_P, sC_E, sC_M, sF_A, sF_S, sF_L, sF_C, sF_F, sF_P, sF_E, sF_M, sP_A, sP_S, sP_L, sP_C, sP_F, sP_P, sP_E, sP_M, sE_A, sE_S, sE_L, sE_C, sE_F, sE_P, sE_E, sE_M]; exact h.l.cardk (by omega)
  · simp (disch := omega) only [sA_A, sA_S, sA_L, sA_C, sA_F, sA_P, sA_E, sA_M, sS_A, sS_S, sS_L, sS_C, sS_F, sS_P, sS_E, sS_M, sL_A, sL_S, sL_L, sL_C, sL_F, sL_P, sL_E, sL_M, sC_A, sC_S, sC_L, sC_C, sC_F, sC_P, sC_E, sC_M, sF_A, sF_S, sF_L, sF_C, sF_F, sF_P, sF_E, sF_M, sP_A, sP_S, sP_L, sP_C, sP_F, sP_P, sP_E, sP_M, sE_A, sE_S, sE_L, sE_C, sE_F, sE_P, sE_E, sE_M]; exact h.d
  · simp (disch := omega) only [sA_A, sA_S, sA_L, sA_C, sA_F, sA_P, sA_E, sA_M, sS_A, sS_S, sS_L, sS_C, sS_F, sS_P, sS_E, sS_M, sL_A, sL_S, sL_L, sL_C, sL_F, sL_P, sL_E, sL_M, sC_A, sC_S, sC_L, sC_C, sC_F, sC_P, sC_E, sC_M, sF_A, sF_S, sF_L, sF_C, sF_F, sF_P, sF_E, sF_M, sP_A, sP_S, sP_L, sP_C, sP_F, sP_P, sP_E, sP_M, sE_A, sE_S, sE_L, sE_C, sE_F, sE_P, sE_E, sE_M]
    rcases hk with ⟨rfl, rfl⟩ | rfl
    · exact h.wh.at4
    · exact h.wh.up (by decide) (by decide)
theorem nextCard_4 {c : RS} {g : CG} {L l q : Nat} {w iv : Nat → Int32} {x : Int32} (hl : l < 6) (hq : q < 30) : C4_nextCard g (setL c L (upd w (137 + 25 * q + 4) x) iv) L l = C4_nextCard g (setL c L w iv) L l := by
  unfold C4_nextCard C4_cardAt
  simp (disch := omega) only [lit32, neg1, nI_add, nI_mul, bS, pt_n, ix_n, rd_n, ws_n, rdo_n, wso_n, setR_1, setL_w, setL_iv, up_setR, up_setL_w, up_setL_iv, nz_0, nz_1, upd_n]
  rw [show rd (setL c L (upd w (137 + 25 * q + 4) x) iv) (100 + 6 * L + l) 30 (w (1100 + 8 * l + 0)) = rd (setL c L w iv) (100 + 6 * L + l) 30 (w (1100 + 8 * l + 0)) from by
    unfold rd
    by_cases e : 100 + 6 * L + l = 10 + L
    · omega
    · by_cases e2 : 100 + 6 * L + l = 400 + L
      · rw [e2, setL_iv, setL_iv]
      · rw [setL_o e e2, setL_o e e2]]
theorem nextCard_M {c : RS} {g : CG} {L l : Nat} {w iv : Nat → Int32} {x : Int32} (hl : l < 6) : C4_nextCard g (setL c L (upd w 1060 x) iv) L l = C4_nextCard g (setL c L w iv) L l := by
  unfold C4_nextCard C4_cardAt
  simp (disch := omega) only [lit32, neg1, nI_add, nI_mul, bS, pt_n, ix_n, rd_n, ws_n, rdo_n, wso_n, setR_1, setL_w, setL_iv, up_setR, up_setL_w, up_setL_iv, nz_0, nz_1, upd_n]
  rw [show rd (setL c L (upd w 1060 x) iv) (100 + 6 * L + l) 30 (w (1100 + 8 * l + 0)) = rd (setL c L w iv) (100 + 6 * L + l) 30 (w (1100 + 8 * l + 0)) from by
    unfold rd
    by_cases e : 100 + 6 * L + l = 10 + L
    · omega
    · by_cases e2 : 100 + 6 * L + l = 400 + L
      · rw [e2, setL_iv, setL_iv]
      · rw [setL_o e e2, setL_o e e2]]
theorem lvV_4 {v : Nat → Int32} {q l nl : Nat} (hq : q < 30) (hl : l < 6) (hn : nl < 30) : lvV (upd v (137 + 25 * q + 4) m1) q l nl = lvV v q l nl := by
  unfold lvV
  simp (disch := omega) only [upd_n]
  rw [upd_c (i := 137 + 25 * q + 4) (j := 137 + 25 * q + 3) (by omega), upd_u]
noncomputable def ouV (v : Nat → Int32) (s : Nat) : Nat → Int32 := upd (upd v (17 + 16 * s + 2) m1) (17 + 16 * s + 6) (v (17 + 16 * s + 6) + nI 1)
theorem QR.out {v w iv : Nat → Int32} {bp dl df tx : Nat → Nat → Int32} {nt sm lm cm B U s : Nat} (h : QR v w iv bp dl df tx nt sm lm cm B U) (hs : s < sm) : QR (ouV v s) (ouV w s) iv bp dl df tx nt sm lm cm B U := by
  have := h.a.sm6
  unfold ouV
  rw [h.rs hs (k := 6) (by omega) (by omega)]
  exact QR.free 6 (by omega) (by omega) (h.upS (by omega) (by omega) (h.s.uHold (Or.inl rfl)))
theorem sS_out {v : Nat → Int32} {s : Nat} (hs : s < 6) : sS (ouV v s) = up2 (up2 (sS v) s 2 m1) s 6 (v (17 + 16 * s + 6) + nI 1) := by unfold ouV; simp (disch := omega) only [sA_A, sA_S, sA_L, sA_C, sA_F, sA_P, sA_E, sA_M, sS_A, sS_S, sS_L, sS_C, sS_F, sS_P, sS_E, sS_M, sL_A, sL_S, sL_L, sL_C, sL_F, sL_P, sL_E, sL_M, sC_A, sC_S, sC_L, sC_C, sC_F, sC_P, sC_E, sC_M, sF_A, sF_S, sF_L, sF_C, sF_F, sF_P, sF_E, sF_M, sP_A, sP_S, sP_L, sP_C, sP_F, sP_P, sP_E, sP_M, sE_A, sE_S, sE_L, sE_C, sE_F, sE_P, sE_E, sE_M]
theorem sC_out {v : Nat → Int32} {s : Nat} (hs : s < 6) : sC (ouV v s) = sC v := by unfold ouV; simp (disch := omega) only [sA_A, sA_S, sA_L, sA_C, sA_F, sA_P, sA_E, sA_M, sS_A, sS_S, sS_L, sS_C, sS_F, sS_P, sS_E, sS_M, sL_A, sL_S, sL_L, sL_C, sL_F, sL_P, sL_E, sL_M, sC_A, sC_S, sC_L, sC_C, sC_F, sC_P, sC_E, sC_M, sF_A, sF_S, sF_L, sF_C, sF_F, sF_P, sF_E, sF_M, sP_A, sP_S, sP_L, sP_C, sP_F, sP_P, sP_E, sP_M, sE_A, sE_S, sE_L, sE_C, sE_F, sE_P, sE_E, sE_M]
theorem comeOut_ok {r c : RS} {g : CG} {L sm lm cm B U s q : Nat} {v w iv : Nat → Int32} (hL : L < 12) (h : QX c g L v w iv sm lm cm B U) (hs : s + 1 = sm) (hq : q < cm) (eh : sS w s 2 = nI q) (es : sC w q 3 = nI 1) :
    ∃ v' w' iv', F8_goesOn (setR r v) (nI s) = some (setR r v') ∧ C3_comeOut g (setL c L w iv) L s = some (setL c L w' iv') ∧ QX c g L v' w' iv' sm lm cm B U ∧ (∀ s' k, s' ≠ s → sS w' s' k = sS w s' k) ∧ w' 1060 = nI 1 ∧ (∀ k, k ≠ 2 → k ≠ 6 → sS w' s k = sS w s k) := by
  have hsm := h.a.sm6; have hcm := h.a.cm30; have hlm := h.a.lm6
  have hs6 : s < 6 := by omega
  have hq30 : q < 30 := by omega
  obtain ⟨l, hl, e0⟩ := h.c.lot q hq
  have hl6 : l < 6 := by omega
  have e0w : w (137 + 25 * q + 0) = nI l := by rw [sC_r (v := w) (by omega) (by omega)]; exact e0
  have ehw : w (17 + 16 * s + 2) = nI q := by rw [sS_r (v := w) (by omega) (by omega)]; exact eh
  have ehv : v (17 + 16 * s + 2) = nI q := by rw [h.rs (by omega) (by omega) (by omega)]; exact ehw
  have esw : w (137 + 25 * q + 3) = nI 1 := by rw [sC_r (v := w) (by omega) (by omega)]; exact es
  have r0 := h.c.r0 hq (by omega) (by omega) es
  have h7 : v 7 = nI sm := by rw [h.ra (i := 7) (by omega) (by omega) (by omega), sA_r (v := w) (by omega)]; exact h.a.w7
  have e0v : v (137 + 25 * q + 0) = nI l := by rw [h.rc hq (by omega) (by omega)]; exact e0w
  -- behind the first steps
  have h1 : QX c g L (ouV v s) (ouV w s) iv sm lm cm B U := h.out (by omega)
  have nh1 : NH (sS (ouV w s)) sm q := by rw [sS_out hs6]; exact (h.s.nh hsm hcm (by omega) hq30 eh).up (by decide)
  have es1 : sC (ouV w s) q 3 = nI 1 := by rw [sC_out hs6]; exact es
  have r1 : sC (ouV w s) q 8 = nI 0 := by rw [sC_out hs6]; exact r0
  have e01 : sC (ouV w s) q 0 = nI l := by rw [sC_out hs6]; exact e0
  have h2 : QX c g L (upd (ouV v s) (137 + 25 * q + 4) m1) (upd (ouV w s) (137 + 25 * q + 4) m1) iv sm lm cm B U := h1.setK (Or.inl ⟨rfl, rfl⟩) hq nh1
  obtain ⟨x, x1, x2, x3⟩ := next_ok (r := r) hL h2 hl
  rw [nextCard_4 hl6 hq30] at x2
  have ou4 : ∀ f : Nat → Int32, ouV f s (137 + 25 * q + 4) = f (137 + 25 * q + 4) := fun f => by unfold ouV; simp (disch := omega) only [upd_n]
  have oud : ∀ (f : Nat → Int32) j, j ≠ 17 + 16 * s + 2 → j ≠ 17 + 16 * s + 6 → ouV f s j = f j := fun f j a b => by unfold ouV; rw [upd_n b, upd_n a]
  have oI := inState_ok (r := r) (a := 2) h2 (by omega)
  have hx1 : v 1 = w 1 := h.ra (by omega) (by omega) (by omega)
  have frS : ∀ {w2 : Nat → Int32}, sS w2 = sS (ouV w s) → (∀ s' k, s' ≠ s → sS w2 s' k = sS w s' k) ∧ (∀ k, k ≠ 2 → k ≠ 6 → sS w2 s k = sS w s k) := fun {w2} e => by
    rw [e, sS_out hs6]
    exact ⟨fun s' k hne => by rw [up2_ne1 hne, up2_ne1 hne], fun k a b => by rw [up2_ne b, up2_ne a]⟩
  by_cases hx : x = nI q
  · obtain ⟨v', w', iv', k1, k2, k3, k4, k5, k6, k7⟩ := leave_ok (r := r) (c := c) (g := g) (a := 1) hL (w := upd (ouV w s) 1060 (nI 1)) h1.upM hq (by omega) (by rw [sC_M]; exact es1) (by rw [sC_M]; exact r1) (by rw [sS_M]; exact nh1)
    refine ⟨v', w', iv', ?_, ?_, k3, ?_, ?_, ?_⟩
    · unfold F8_goesOn
      simp (disch := omega) only [lit32, neg1, nI_add, nI_mul, bS, pt_n, ix_n, rd_n, ws_n, rdo_n, wso_n, setR_1, setL_w, setL_iv, up_setR, up_setL_w, up_setL_iv, nz_0, nz_1, F8_of_v, ehv, h7]
      rw [nI_sub (by omega), if_pos (by congr 1; omega)]
      simp (disch := omega) only [lit32, neg1, nI_add, nI_mul, bS, pt_n, ix_n, rd_n, ws_n, rdo_n, wso_n, setR_1, setL_w, setL_iv, up_setR, up_setL_w, up_setL_iv, nz_0, nz_1]
      rw [if_neg (nI_ne (by omega) (by omega) (by omega))]
      simp (disch := omega) only [lit32, neg1, nI_add, nI_mul, bS, pt_n, ix_n, rd_n, ws_n, rdo_n, wso_n, setR_1, setL_w, setL_iv, up_setR, up_setL_w, up_setL_iv, nz_0, nz_1, F8_sets_s, F8_grows_v, upd_n]
      rw [if_neg (nI_ne (by omega) (by omega) (by omega))]
      simp (disch := omega) only [lit32, neg1, nI_add, nI_mul, bS, pt_n, ix_n, rd_n, ws_n, rdo_n, wso_n, setR_1, setL_w, setL_iv, up_setR, up_setL_w, up_setL_iv, nz_0, nz_1, F8_setsCard_s, F8_ofCard_v, upd_n, e0v]
      have := x1
      unfold ouV at this
      rw [this, bS, if_pos hx]
      have hnl : (ouV v s) 10 = iv 3 := by
        have := h1.n.nl; rw [← sA_r (v := ouV v s) (by omega)] at this; exact this
      have hiv := h1.n.ins 3 (by omega)
      have hlt : cnt cm (stC (sC (ouV w s)) 3) < cm := cnt_lt (c := q) hq (by unfold stC; rw [es1]; exact decide_eq_false (nI_ne (by omega) (by omega) (by omega)))
      have k1' := k1
      rw [leaves_v (l := l) (nl := cnt cm (stC (sC (ouV w s)) 3)) hq30 hl6 (by omega) (by rw [hnl, hiv]) (by rw [oud _ _ (by omega) (by omega)]; exact e0v)] at k1'
      have k9 := leaves_v (r := r) (v := upd (ouV v s) (137 + 25 * q + 4) m1) (q := q) (l := l) (nl := cnt cm (stC (sC (ouV w s)) 3)) hq30 hl6 (by omega) (by rw [upd_n (by omega), hnl, hiv]) (by rw [upd_n (by omega), oud _ _ (by omega) (by omega)]; exact e0v)
      rw [lvV_4 hq30 hl6 (by omega), k1'] at k9
      unfold ouV at k9
      rw [k9]; rfl
    · unfold C3_comeOut C6_letGoOn
      simp (disch := omega) only [lit32, neg1, nI_add, nI_mul, bS, pt_n, ix_n, rd_n, ws_n, rdo_n, wso_n, setR_1, setL_w, setL_iv, up_setR, up_setL_w, up_setL_iv, nz_0, nz_1, ehw, upd_n, e0w]
      have hc := nextCard_M (c := c) (g := g) (L := L) (l := l) (w := ouV w s) (iv := iv) (x := nI 1) hl6
      rw [x2] at hc
      unfold ouV at hc
      rw [hc, bS, if_pos hx]
      unfold ouV at k2
      rw [k2]; rfl
    · exact (frS (by rw [k4, sS_M])).1
    · rw [k7, upd_e]
    · exact (frS (by rw [k4, sS_M])).2
  · have h3 : QX c g L (ouV v s) (upd (ouV w s) 1060 (nI 1)) iv sm lm cm B U := h1.upM
    have oI2 : F8_inState (setR r (upd (ouV v s) (137 + 25 * q + 4) m1)) (nI 2) = some (iv 2) := oI
    have hc := nextCard_M (c := c) (g := g) (L := L) (l := l) (w := ouV w s) (iv := iv) (x := nI 1) hl6
    rw [x2] at hc
    have nh3 : NH (sS (upd (ouV w s) 1060 (nI 1))) sm q := by rw [sS_M]; exact nh1
    have es3 : sC (upd (ouV w s) 1060 (nI 1)) q 3 = nI 1 := by rw [sC_M]; exact es1
    have r3 : sC (upd (ouV w s) 1060 (nI 1)) q 8 = nI 0 := by rw [sC_M]; exact r1
    by_cases hle : w 1 ≤ iv 2
    · have eF : (ouV v s) (137 + 25 * q + 6) = (ouV w s) (137 + 25 * q + 6) := h1.rc hq (by omega) (by omega)
      have e14 : (ouV v s) 14 = (ouV w s) 14 := h1.ra (by omega) (by omega) (by omega)
      have h4 := (h3.scrap (k := 6) (Or.inr rfl) hq hl (by rw [sC_M]; exact e01)).tot (i := 14) (x := (ouV w s) 14 + nI 1) (by omega)
      have h5 := h4.move (a := 1) (b := 0) hq (by simp (disch := omega) only [sA_A, sA_S, sA_L, sA_C, sA_F, sA_P, sA_E, sA_M, sS_A, sS_S, sS_L, sS_C, sS_F, sS_P, sS_E, sS_M, sL_A, sL_S, sL_L, sL_C, sL_F, sL_P, sL_E, sL_M, sC_A, sC_S, sC_L, sC_C, sC_F, sC_P, sC_E, sC_M, sF_A, sF_S, sF_L, sF_C, sF_F, sF_P, sF_E, sF_M, sP_A, sP_S, sP_L, sP_C, sP_F, sP_P, sP_E, sP_M, sE_A, sE_S, sE_L, sE_C, sE_F, sE_P, sE_E, sE_M]; exact nh1) (by omega) (by omega) (by omega) (by simp (disch := omega) only [sA_A, sA_S, sA_L, sA_C, sA_F, sA_P, sA_E, sA_M, sS_A, sS_S, sS_L, sS_C, sS_F, sS_P, sS_E, sS_M, sL_A, sL_S, sL_L, sL_C, sL_F, sL_P, sL_E, sL_M, sC_A, sC_S, sC_L, sC_C, sC_F, sC_P, sC_E, sC_M, sF_A, sF_S, sF_L, sF_C, sF_F, sF_P, sF_E, sF_M, sP_A, sP_S, sP_L, sP_C, sP_F, sP_P, sP_E, sP_M, sE_A, sE_S, sE_L, sE_C, sE_F, sE_P, sE_E, sE_M]; rw [up2_ne (by decide)]; exact es1) (Or.inl rfl)
      refine ⟨_, _, _, ?_, ?_, h5, ?_, ?_, ?_⟩
      · unfold F8_goesOn
        simp (disch := omega) only [lit32, neg1, nI_add, nI_mul, bS, pt_n, ix_n, rd_n, ws_n, rdo_n, wso_n, setR_1, setL_w, setL_iv, up_setR, up_setL_w, up_setL_iv, nz_0, nz_1, F8_of_v, ehv, h7]
        rw [nI_sub (by omega), if_pos (by congr 1; omega)]
        simp (disch := omega) only [lit32, neg1, nI_add, nI_mul, bS, pt_n, ix_n, rd_n, ws_n, rdo_n, wso_n, setR_1, setL_w, setL_iv, up_setR, up_setL_w, up_setL_iv, nz_0, nz_1]
        rw [if_neg (nI_ne (by omega) (by omega) (by omega))]
        simp (disch := omega) only [lit32, neg1, nI_add, nI_mul, bS, pt_n, ix_n, rd_n, ws_n, rdo_n, wso_n, setR_1, setL_w, setL_iv, up_setR, up_setL_w, up_setL_iv, nz_0, nz_1, F8_sets_s, F8_grows_v, upd_n]
        rw [if_neg (nI_ne (by omega) (by omega) (by omega))]
        simp (disch := omega) only [lit32, neg1, nI_add, nI_mul, bS, pt_n, ix_n, rd_n, ws_n, rdo_n, wso_n, setR_1, setL_w, setL_iv, up_setR, up_setL_w, up_setL_iv, nz_0, nz_1, F8_setsCard_s, F8_ofCard_v, upd_n, e0v]
        have := x1
        unfold ouV at this
        rw [this, bS, if_neg hx]
        unfold ouV at oI2
        rw [oI2, bS, hx1, if_pos hle]
        simp (disch := omega) only [lit32, neg1, nI_add, nI_mul, bS, pt_n, ix_n, rd_n, ws_n, rdo_n, wso_n, setR_1, setL_w, setL_iv, up_setR, up_setL_w, up_setL_iv, nz_0, nz_1, F8_setsCard_s, F8_ofCard_v, upd_n]
        unfold ouV at eF e14
        simp (disch := omega) only [upd_n] at eF e14
        congr 2
        unfold ouV
        try simp (disch := omega) only [upd_n]
        rw [eF, e14]
        (funext j9; simp only [upd_at]; repeat' split)
        all_goals (first | rfl | (exfalso; omega))
      · unfold C3_comeOut C6_letGoOn
        simp (disch := omega) only [lit32, neg1, nI_add, nI_mul, bS, pt_n, ix_n, rd_n, ws_n, rdo_n, wso_n, setR_1, setL_w, setL_iv, up_setR, up_setL_w, up_setL_iv, nz_0, nz_1, ehw, upd_n, e0w]
        unfold ouV at hc
        rw [hc, bS, if_neg hx, if_pos hle]
        simp only [show 12 + 2 = 14 from rfl]
        rw [change_w (a := 1) (b := 0) (by omega) (by omega) (by simp (disch := omega) only [upd_n]; exact esw)]
        unfold ouV
        try simp (disch := omega) only [upd_n]
        rfl
      · exact (frS (by simp (disch := omega) only [sA_A, sA_S, sA_L, sA_C, sA_F, sA_P, sA_E, sA_M, sS_A, sS_S, sS_L, sS_C, sS_F, sS_P, sS_E, sS_M, sL_A, sL_S, sL_L, sL_C, sL_F, sL_P, sL_E, sL_M, sC_A, sC_S, sC_L, sC_C, sC_F, sC_P, sC_E, sC_M, sF_A, sF_S, sF_L, sF_C, sF_F, sF_P, sF_E, sF_M, sP_A, sP_S, sP_L, sP_C, sP_F, sP_P, sP_E, sP_M, sE_A, sE_S, sE_L, sE_C, sE_F, sE_P, sE_E, sE_M])).1
      · simp (disch := omega) only [upd_n, upd_e]
      · exact (frS (by simp (disch := omega) only [sA_A, sA_S, sA_L, sA_C, sA_F, sA_P, sA_E, sA_M, sS_A, sS_S, sS_L, sS_C, sS_F, sS_P, sS_E, sS_M, sL_A, sL_S, sL_L, sL_C, sL_F, sL_P, sL_E, sL_M, sC_A, sC_S, sC_L, sC_C, sC_F, sC_P, sC_E, sC_M, sF_A, sF_S, sF_L, sF_C, sF_F, sF_P, sF_E, sF_M, sP_A, sP_S, sP_L, sP_C, sP_F, sP_P, sP_E, sP_M, sE_A, sE_S, sE_L, sE_C, sE_F, sE_P, sE_E, sE_M])).2
    · have h5 := h3.move (a := 1) (b := 2) hq nh3 (by omega) (by omega) (by omega) es3 (Or.inr r3)
      refine ⟨_, _, _, ?_, ?_, h5, ?_, ?_, ?_⟩
      · unfold F8_goesOn
        simp (disch := omega) only [lit32, neg1, nI_add, nI_mul, bS, pt_n, ix_n, rd_n, ws_n, rdo_n, wso_n, setR_1, setL_w, setL_iv, up_setR, up_setL_w, up_setL_iv, nz_0, nz_1, F8_of_v, ehv, h7]
        rw [nI_sub (by omega), if_pos (by congr 1; omega)]
        simp (disch := omega) only [lit32, neg1, nI_add, nI_mul, bS, pt_n, ix_n, rd_n, ws_n, rdo_n, wso_n, setR_1, setL_w, setL_iv, up_setR, up_setL_w, up_setL_iv, nz_0, nz_1]
        rw [if_neg (nI_ne (by omega) (by omega) (by omega))]
        simp (disch := omega) only [lit32, neg1, nI_add, nI_mul, bS, pt_n, ix_n, rd_n, ws_n, rdo_n, wso_n, setR_1, setL_w, setL_iv, up_setR, up_setL_w, up_setL_iv, nz_0, nz_1, F8_sets_s, F8_grows_v, upd_n]
        rw [if_neg (nI_ne (by omega) (by omega) (by omega))]
        simp (disch := omega) only [lit32, neg1, nI_add, nI_mul, bS, pt_n, ix_n, rd_n, ws_n, rdo_n, wso_n, setR_1, setL_w, setL_iv, up_setR, up_setL_w, up_setL_iv, nz_0, nz_1, F8_setsCard_s, F8_ofCard_v, upd_n, e0v]
        have := x1
        unfold ouV at this
        rw [this, bS, if_neg hx]
        unfold ouV at oI2
        rw [oI2, bS, hx1, if_neg hle]
        simp (disch := omega) only [lit32, neg1, nI_add, nI_mul, bS, pt_n, ix_n, rd_n, ws_n, rdo_n, wso_n, setR_1, setL_w, setL_iv, up_setR, up_setL_w, up_setL_iv, nz_0, nz_1, F8_setsCard_s]
        congr 2
        unfold ouV
        rw [upd_c (i := 137 + 25 * q + 4) (j := 137 + 25 * q + 3) (by omega)]
      · unfold C3_comeOut C6_letGoOn
        simp (disch := omega) only [lit32, neg1, nI_add, nI_mul, bS, pt_n, ix_n, rd_n, ws_n, rdo_n, wso_n, setR_1, setL_w, setL_iv, up_setR, up_setL_w, up_setL_iv, nz_0, nz_1, ehw, upd_n, e0w]
        unfold ouV at hc
        rw [hc, bS, if_neg hx, if_neg hle]
        rw [change_w (a := 1) (b := 2) (by omega) (by omega) (by simp (disch := omega) only [upd_n]; exact esw)]
        unfold ouV
        rfl
      · exact (frS (by simp (disch := omega) only [sA_A, sA_S, sA_L, sA_C, sA_F, sA_P, sA_E, sA_M, sS_A, sS_S, sS_L, sS_C, sS_F, sS_P, sS_E, sS_M, sL_A, sL_S, sL_L, sL_C, sL_F, sL_P, sL_E, sL_M, sC_A, sC_S, sC_L, sC_C, sC_F, sC_P, sC_E, sC_M, sF_A, sF_S, sF_L, sF_C, sF_F, sF_P, sF_E, sF_M, sP_A, sP_S, sP_L, sP_C, sP_F, sP_P, sP_E, sP_M, sE_A, sE_S, sE_L, sE_C, sE_F, sE_P, sE_E, sE_M])).1
      · simp (disch := omega) only [upd_n, upd_e]
      · exact (frS (by simp (disch := omega) only [sA_A, sA_S, sA_L, sA_C, sA_F, sA_P, sA_E, sA_M, sS_A, sS_S, sS_L, sS_C, sS_F, sS_P, sS_E, sS_M, sL_A, sL_S, sL_L, sL_C, sL_F, sL_P, sL_E, sL_M, sC_A, sC_S, sC_L, sC_C, sC_F, sC_P, sC_E, sC_M, sF_A, sF_S, sF_L, sF_C, sF_F, sF_P, sF_E, sF_M, sP_A, sP_S, sP_L, sP_C, sP_F, sP_P, sP_E, sP_M, sE_A, sE_S, sE_L, sE_C, sE_F, sE_P, sE_E, sE_M])).2
