theorem ivM_same {iv : Nat → Int32} {a : Nat} : ivM iv a a = iv := by
  unfold ivM
  rw [upd_u, upd_e, Int32.sub_add_cancel, upd_s]
theorem QN.st1 {va vf wf iv : Nat → Int32} {wc : Nat → Nat → Int32} {cm c a : Nat} (hcm : cm ≤ 30) (hc : c < cm) (ha : a = 0 ∨ a = 1) (e : wc c 3 = nI a) (h : QN va vf wf wc iv cm) : QN va vf wf (up2 wc c 3 (nI 1)) (ivM iv a 1) cm := by
  rcases ha with rfl | rfl
  · exact QN.move hcm hc (by omega) (by omega) (by omega) (by omega) (by omega) e h
  · rw [ivM_same]
    have : up2 wc c 3 (nI 1) = wc := by
      funext i j; rw [up2_at]; split
      · rename_i q; rw [q.1, q.2, e]
      · rfl
    rw [this]; exact h
theorem not_fin {wc : Nat → Nat → Int32} {c a : Nat} (ha : a < 3) (e : wc c 3 = nI a) : ¬ fin wc c := by
  unfold fin; rw [e]
  rintro (q | q)
  · exact nI_ne (by omega) (by omega) (by omega) q
  · exact nI_ne (by omega) (by omega) (by omega) q
theorem QR.ent {v w iv : Nat → Int32} {bp dl df tx : Nat → Nat → Int32} {nt sm lm cm B U s q tk tr la a : Nat} {wh : Bool} (h : QR v w iv bp dl df tx nt sm lm cm B U) (hs : s < sm) (hq : q < cm) (nh : NH (sS w) sm q) (ha : a = 0 ∨ a = 1) (e3 : sC w q 3 = nI a) (e8 : sC w q 8 = nI 0) (htk : tk ≤ 1000) (hwh : wh = true → sS w s 0 = nI 3) (hla : wh = true → la < 26) : QR (entS v s q tk tr la wh) (entS w s q tk tr la wh) (ivM iv a 1) bp dl df tx nt sm lm cm B U := by
  have hsm := h.a.sm6; have hcm := h.a.cm30
  have hs6 : s < 6 := by omega
  have hq30 : q < 30 := by omega
  have h15 : v 15 = w 15 := by
    have := h.a.eqa 15 (by omega) (by omega) (by omega)
    rwa [← sA_r (v := v) (by omega), ← sA_r (v := w) (by omega)] at this
  have hS1 : QS (if wh then up2 (sS v) s 8 (nI la) else sS v) (if wh then up2 (sS w) s 8 (nI la) else sS w) (sC w) tx nt sm cm U ∧ NH (if wh then up2 (sS w) s 8 (nI la) else sS w) sm q := by
    cases wh with
    | true => exact ⟨h.s.lett (hwh rfl) (hla rfl), nh.up (by decide)⟩
    | false => exact ⟨h.s, nh⟩
  have vS : ∀ f : Nat → Int32, sS (entS f s q tk tr la wh) = up2 (up2 (if wh then up2 (sS f) s 8 (nI la) else sS f) s 2 (nI q)) s 3 (nI tk) := fun f => by
    unfold entS; cases wh <;> (simp only [if_true, Bool.false_eq_true, if_false]; simp (disch := omega) only [sA_A, sA_S, sA_L, sA_C, sA_F, sA_P, sA_E, sA_M, sS_A, sS_S, sS_L, sS_C, sS_F, sS_P, sS_E, sS_M, sL_A, sL_S, sL_L, sL_C, sL_F, sL_P, sL_E, sL_M, sC_A, sC_S, sC_L, sC_C, sC_F, sC_P, sC_E, sC_M, sF_A, sF_S, sF_L, sF_C, sF_F, sF_P, sF_E, sF_M, sP_A, sP_S, sP_L, sP_C, sP_F, sP_P, sP_E, sP_M, sE_A, sE_S, sE_L, sE_C, sE_F, sE_P, sE_E, sE_M])
  have vC : ∀ f : Nat → Int32, sC (entS f s q tk tr la wh) = up2 (up2 (sC f) q 3 (nI 1)) q 4 (nI s) := fun f => by
    unfold entS; cases wh <;> (simp only [if_true, Bool.false_eq_true, if_false]; simp (disch := omega) only [sA_A, sA_S, sA_L, sA_C, sA_F, sA_P, sA_E, sA_M, sS_A, sS_S, sS_L, sS_C, sS_F, sS_P, sS_E, sS_M, sL_A, sL_S, sL_L, sL_C, sL_F, sL_P, sL_E, sL_M, sC_A, sC_S, sC_L, sC_C, sC_F, sC_P, sC_E, sC_M, sF_A, sF_S, sF_L, sF_C, sF_F, sF_P, sF_E, sF_M, sP_A, sP_S, sP_L, sP_C, sP_F, sP_P, sP_E, sP_M, sE_A, sE_S, sE_L, sE_C, sE_F, sE_P, sE_E, sE_M])
  have vA : ∀ f : Nat → Int32, sA (entS f s q tk tr la wh) = upd (sA f) 15 (f 15 + nI tr) := fun f => by
    unfold entS; cases wh <;> (simp only [if_true, Bool.false_eq_true, if_false]; simp (disch := omega) only [sA_A, sA_S, sA_L, sA_C, sA_F, sA_P, sA_E, sA_M, sS_A, sS_S, sS_L, sS_C, sS_F, sS_P, sS_E, sS_M, sL_A, sL_S, sL_L, sL_C, sL_F, sL_P, sL_E, sL_M, sC_A, sC_S, sC_L, sC_C, sC_F, sC_P, sC_E, sC_M, sF_A, sF_S, sF_L, sF_C, sF_F, sF_P, sF_E, sF_M, sP_A, sP_S, sP_L, sP_C, sP_F, sP_P, sP_E, sP_M, sE_A, sE_S, sE_L, sE_C, sE_F, sE_P, sE_E, sE_M])
  have vF : ∀ f : Nat → Int32, sF (entS f s q tk tr la wh) = sF f := fun f => by
    unfold entS; cases wh <;> (simp only [if_true, Bool.false_eq_true, if_false]; simp (disch := omega) only [sA_A, sA_S, sA_L, sA_C, sA_F, sA_P, sA_E, sA_M, sS_A, sS_S, sS_L, sS_C, sS_F, sS_P, sS_E, sS_M, sL_A, sL_S, sL_L, sL_C, sL_F, sL_P, sL_E, sL_M, sC_A, sC_S, sC_L, sC_C, sC_F, sC_P, sC_E, sC_M, sF_A, sF_S, sF_L, sF_C, sF_F, sF_P, sF_E, sF_M, sP_A, sP_S, sP_L, sP_C, sP_F, sP_P, sP_E, sP_M, sE_A, sE_S, sE_L, sE_C, sE_F, sE_P, sE_E, sE_M])
  have vL : ∀ f : Nat → Int32, sL (entS f s q tk tr la wh) = sL f := fun f => by
    unfold entS; cases wh <;> (simp only [if_true, Bool.false_eq_true, if_false]; simp (disch := omega) only [sA_A, sA_S, sA_L, sA_C, sA_F, sA_P, sA_E, sA_M, sS_A, sS_S, sS_L, sS_C, sS_F, sS_P, sS_E, sS_M, sL_A, sL_S, sL_L, sL_C, sL_F, sL_P, sL_E, sL_M, sC_A, sC_S, sC_L, sC_C, sC_F, sC_P, sC_E, sC_M, sF_A, sF_S, sF_L, sF_C, sF_F, sF_P, sF_E, sF_M, sP_A, sP_S, sP_L, sP_C, sP_F, sP_P, sP_E, sP_M, sE_A, sE_S, sE_L, sE_C, sE_F, sE_P, sE_E, sE_M])
  have vE : ∀ f : Nat → Int32, sE (entS f s q tk tr la wh) = sE f := fun f => by
    unfold entS; cases wh <;> (simp only [if_true, Bool.false_eq_true, if_false]; simp (disch := omega) only [sA_A, sA_S, sA_L, sA_C, sA_F, sA_P, sA_E, sA_M, sS_A, sS_S, sS_L, sS_C, sS_F, sS_P, sS_E, sS_M, sL_A, sL_S, sL_L, sL_C, sL_F, sL_P, sL_E, sL_M, sC_A, sC_S, sC_L, sC_C, sC_F, sC_P, sC_E, sC_M, sF_A, sF_S, sF_L, sF_C, sF_F, sF_P, sF_E, sF_M, sP_A, sP_S, sP_L, sP_C, sP_F, sP_P, sP_E, sP_M, sE_A, sE_S, sE_L, sE_C, sE_F, sE_P, sE_E, sE_M])
  have vP : ∀ f : Nat → Int32, sP (entS f s q tk tr la wh) = sP f := fun f => by
    unfold entS; cases wh <;> (simp only [if_true, Bool.false_eq_true, if_false]; simp (disch := omega) only [sA_A, sA_S, sA_L, sA_C, sA_F, sA_P, sA_E, sA_M, sS_A, sS_S, sS_L, sS_C, sS_F, sS_P, sS_E, sS_M, sL_A, sL_S, sL_L, sL_C, sL_F, sL_P, sL_E, sL_M, sC_A, sC_S, sC_L, sC_C, sC_F, sC_P, sC_E, sC_M, sF_A, sF_S, sF_L, sF_C, sF_F, sF_P, sF_E, sF_M, sP_A, sP_S, sP_L, sP_C, sP_F, sP_P, sP_E, sP_M, sE_A, sE_S, sE_L, sE_C, sE_F, sE_P, sE_E, sE_M])
  refine ⟨?_, ?_, ?_, ?_, ?_, ?_, ?_⟩
  · rw [vA, vA, h15]; exact h.a.free (by omega)
  · rw [vS, vS, vC]
    refine QS.uNeed htk (QS.uHold (Or.inr ⟨q, hq, rfl, ?_, up2_eq⟩) ((hS1.1.card hq hcm hS1.2).card hq hcm hS1.2))
    rw [up2_ne (by decide)]; exact up2_eq
  · rw [vC, vC]
    exact QC.set (by omega) (QC.uState (by omega) (Or.inr e8) h.c)
  · rw [vA, vF, vF, vC]
    exact QN.va (by omega) (QN.cardk (by decide) (QN.st1 hcm hq ha e3 h.n))
  · rw [vL, vL, vE, vC]
    exact QL.cardk (by omega) (QL.state (not_fin (a := a) (by omega) e3) (by omega) h.l)
  · rw [vA, vA, vP]; exact h.d.free (by omega)
  · rw [vC]; exact h.wh.on
