section
theorem hasReady_w {c : RS} {g : CG} {L s n : Nat} {w iv : Nat → Int32} {x : Int32} (h2 : w (17 + 16 * s + 2) = x) (h3 : w (17 + 16 * s + 3) = nI n) (hn : n < 2 ^ 31) : C6_hasReadyCard g (setL c L w iv) L s = some (if x = m1 ∨ n ≠ 0 then nI 0 else nI 1) := by
  unfold C6_hasReadyCard
  simp (disch := omega) only [lit32, neg1, nI_add, nI_mul, bS, pt_n, ix_n, rd_n, ws_n, rdo_n, wso_n, setR_1, setL_w, setL_iv, up_setR, up_setL_w, up_setL_iv, nz_0, nz_1, h2, h3]
  by_cases e : x = m1
  · rw [if_pos e, if_pos (Or.inl e)]; rfl
  · rw [if_neg e]
    by_cases e2 : n = 0
    · subst e2; rw [if_pos (show nI 0 = nI 0 from rfl), if_neg (show ¬ (x = m1 ∨ 0 ≠ 0) by rintro (q | q); exact e q; exact q rfl)]; rfl
    · rw [if_neg (nI_ne e2 hn (by omega)), if_pos (Or.inr e2)]; rfl
theorem isReady_v {r : RS} {v : Nat → Int32} {s n : Nat} {x : Int32} (hs : s < 6) (h2 : v (17 + 16 * s + 2) = x) (h3 : v (17 + 16 * s + 3) = nI n) (hn : n < 2 ^ 31) : F8_isReady (setR r v) (nI s) = some (if x = m1 ∨ n ≠ 0 then nI 0 else nI 1) := by
  unfold F8_isReady
  simp (disch := omega) only [lit32, neg1, nI_add, nI_mul, bS, pt_n, ix_n, rd_n, ws_n, rdo_n, wso_n, setR_1, setL_w, setL_iv, up_setR, up_setL_w, up_setL_iv, nz_0, nz_1, F8_of_v, h2, h3]
  by_cases e : x = m1
  · rw [if_pos e, if_pos (Or.inl e)]; rfl
  · rw [if_neg e]
    by_cases e2 : n = 0
    · subst e2; rw [if_pos (show nI 0 = nI 0 from rfl), if_neg (show ¬ (x = m1 ∨ 0 ≠ 0) by rintro (q | q); exact e q; exact q rfl)]; rfl
    · rw [if_neg (nI_ne e2 hn (by omega)), if_pos (Or.inr e2)]; rfl
noncomputable def rdyC (g : CG) (L : Nat) (u : RS) (s : Nat) (y : Int32) : Option RS := (C6_hasReadyCard g u L s).bind fun x30 => if x30 = 0 then ((C6_hasReadyCard g u L s).bind fun x33 => if x33 = 0 then (some u) else ((ix 6 (y + 1)).bind fun n36 => if (u (10 + L) (17 + 16 * n36 + 2)) = (-1) then ((C3_goOn g u L s ((y + 1))).bind fun u39 => some u39) else (some u))) else (if y = ((u (10 + L) 7) - 1) then ((C3_comeOut g u L s).bind fun u50 => some u50) else ((C6_hasReadyCard g u L s).bind fun x42 => if x42 = 0 then (some u) else ((ix 6 (y + 1)).bind fun n45 => if (u (10 + L) (17 + 16 * n45 + 2)) = (-1) then ((C3_goOn g u L s ((y + 1))).bind fun u48 => some u48) else (some u))))
noncomputable def rdyF (u : RS) (y : Int32) : Option RS := (F8_isReady u y).bind fun x7 => (if x7 = 0 then (some u) else ((F8_goesOn u y).bind fun u13 => some u13) : Option (RS)).bind fun t10 => some t10
theorem bSome {α : Type} {x : Option α} : (x.bind fun u => some u) = x := by cases x <;> rfl
noncomputable def RG (w : Nat → Int32) (sm s : Nat) : Prop := sS w s 2 ≠ m1 ∧ sS w s 3 = nI 0 ∧ (s + 1 = sm ∨ sS w (s + 1) 2 = m1)
theorem rdy_ok {r c : RS} {g : CG} {L sm lm cm B U s : Nat} {v w iv : Nat → Int32} (hL : L < 12) (hg : g.nt < 2 ^ 31) (h : QX c g L v w iv sm lm cm B U) (hs : s < sm) :
    ∃ v' w' iv', rdyF (setR r v) (nI s) = some (setR r v') ∧ rdyC g L (setL c L w iv) s (nI s) = some (setL c L w' iv') ∧ QX c g L v' w' iv' sm lm cm B U ∧ (∀ s', s' < s → sS w' s' 4 = sS w s' 4) ∧ ((¬ RG w sm s ∧ v' = v ∧ w' = w ∧ iv' = iv) ∨ (RG w sm s ∧ w' 1060 = nI 1)) := by
  have hsm := h.a.sm6; have hcm := h.a.cm30
  have hs6 : s < 6 := by omega
  obtain ⟨n, hn, en⟩ := h.s.need s hs
  have enw : w (17 + 16 * s + 3) = nI n := by rw [sS_r (v := w) (by omega) (by omega)]; exact en
  have env : v (17 + 16 * s + 3) = nI n := by rw [h.rs hs (by omega) (by omega)]; exact enw
  have hx2 : v (17 + 16 * s + 2) = w (17 + 16 * s + 2) := h.rs hs (by omega) (by omega)
  have s2 : w (17 + 16 * s + 2) = sS w s 2 := sS_r (v := w) (by omega) (by omega)
  have h7 : w 7 = nI sm := by rw [sA_r (v := w) (by omega)]; exact h.a.w7
  unfold rdyF rdyC
  rw [isReady_v hs6 hx2 env (by omega), hasReady_w rfl enw (by omega)]
  rcases h.s.hold s hs with e | ⟨q, q1, q2, q3, q4⟩
  · have e' : w (17 + 16 * s + 2) = m1 := s2.trans e
    rw [if_pos (Or.inl e')]
    refine ⟨v, w, iv, rfl, rfl, h, fun s' _ => rfl, Or.inl ⟨fun f => f.1 e, rfl, rfl, rfl⟩⟩
  · have e' : w (17 + 16 * s + 2) = nI q := s2.trans q2
    have ne : ¬ w (17 + 16 * s + 2) = m1 := by rw [e']; exact m1_ne (by omega)
    by_cases hn0 : n = 0
    · subst hn0
      rw [if_neg (by rintro (f | f); exact ne f; exact f rfl)]
      have hF : ∀ u, ((some (nI 1)).bind fun x7 => (if x7 = 0 then (some (setR r v)) else ((F8_goesOn (setR r v) (nI s)).bind fun u13 => some u13) : Option (RS)).bind fun t10 => some t10) = some u ↔ F8_goesOn (setR r v) (nI s) = some u := fun u => by
        rw [bS, if_neg (show ¬ nI 1 = 0 by decide), bSome, bSome]
      simp (disch := omega) only [lit32, neg1, nI_add, nI_mul, bS, pt_n, ix_n, rd_n, ws_n, rdo_n, wso_n, setR_1, setL_w, setL_iv, up_setR, up_setL_w, up_setL_iv, nz_0, nz_1]
      simp only [show ¬ nI 1 = nI 0 from nI_ne (by omega) (by omega) (by omega), if_false, bSome, h7]
      rw [nI_sub (by omega)]
      by_cases hl : s + 1 = sm
      · rw [if_pos (by congr 1; omega)]
        obtain ⟨v', w', iv', k1, k2, k3, k4, k5, k6⟩ := comeOut_ok (r := r) hL h hl q1 q2 q3
        exact ⟨v', w', iv', k1, k2, k3, fun s' hs' => k4 s' 4 (by omega), Or.inr ⟨⟨by rw [q2]; exact m1_ne (by omega), en, Or.inl hl⟩, k5⟩⟩
      · rw [if_neg (nI_ne (by omega) (by omega) (by omega))]
        simp (disch := omega) only [lit32, neg1, nI_add, nI_mul, bS, pt_n, ix_n, rd_n, ws_n, rdo_n, wso_n, setR_1, setL_w, setL_iv, up_setR, up_setL_w, up_setL_iv, nz_0, nz_1]
        have s3 : w (17 + 16 * (s + 1) + 2) = sS w (s + 1) 2 := sS_r (v := w) (by omega) (by omega)
        by_cases hf : w (17 + 16 * (s + 1) + 2) = m1
        · rw [if_pos hf]
          obtain ⟨v', w', iv', k1, k2, k3, k4, k5, k6⟩ := goOn_ok (r := r) hL hg h (by omega) q1 q2 q3 (s3.symm.trans hf)
          exact ⟨v', w', iv', k1, k2, k3, fun s' hs' => k4 s' 4 (by omega) (by omega), Or.inr ⟨⟨by rw [q2]; exact m1_ne (by omega), en, Or.inr (s3.symm.trans hf)⟩, k5⟩⟩
        · rw [if_neg hf]
          refine ⟨v, w, iv, ?_, rfl, h, fun s' _ => rfl, Or.inl ⟨fun f => ?_, rfl, rfl, rfl⟩⟩
          · unfold F8_goesOn
            have h7v : v 7 = nI sm := by rw [h.ra (by omega) (by omega) (by omega)]; exact h7
            have hfv : ¬ v (17 + 16 * (s + 1) + 2) = m1 := by rw [h.rs (by omega) (by omega) (by omega)]; exact hf
            simp (disch := omega) only [lit32, neg1, nI_add, nI_mul, bS, pt_n, ix_n, rd_n, ws_n, rdo_n, wso_n, setR_1, setL_w, setL_iv, up_setR, up_setL_w, up_setL_iv, nz_0, nz_1, F8_of_v, h7v]
            rw [nI_sub (by omega), if_neg (nI_ne (by omega) (by omega) (by omega))]
            simp (disch := omega) only [lit32, neg1, nI_add, nI_mul, bS, pt_n, ix_n, rd_n, ws_n, rdo_n, wso_n, setR_1, setL_w, setL_iv, up_setR, up_setL_w, up_setL_iv, nz_0, nz_1, F8_of_v]
            rw [if_pos trivial]
            try simp (disch := omega) only [lit32, neg1, nI_add, nI_mul, bS, pt_n, ix_n, rd_n, ws_n, rdo_n, wso_n, setR_1, setL_w, setL_iv, up_setR, up_setL_w, up_setL_iv, nz_0, nz_1, F8_of_v]
            rw [if_neg hfv]
          · rcases f.2.2 with f | f
            · omega
            · exact hf (s3.trans f)
    · rw [if_pos (Or.inr hn0)]
      refine ⟨v, w, iv, rfl, rfl, h, fun s' _ => rfl, Or.inl ⟨fun f => ?_, rfl, rfl, rfl⟩⟩
      exact hn0 ((nI_eq (by omega) (by omega)).mp (en.symm.trans f.2.1))
end
section
theorem add_m1 {x : Int32} : x + m1 = x - nI 1 := by rw [Int32.sub_eq_add_neg]; rfl
noncomputable def STw (w : Nat → Int32) (s : Nat) : Prop := sS w s 11 ≤ nI 0 ∧ (sS w s 2 = m1 ∨ sS w s 3 = nI 0 ∨ sS w s 7 ≠ nI 0)
theorem ne10 : ¬ nI 1 = 0 := by decide
theorem e00 : nI 0 = 0 := by decide
theorem sS_sgn {f : Nat → Int32} {s k s' : Nat} (hs : s < 6) (a1 : k ≠ 4) (a2 : k ≠ 13) (a3 : k ≠ 11) : sS (sgnF f s) s' k = sS f s' k := by
  unfold sgnF; split <;> simp (disch := first | decide | assumption) only [sA_A, sA_S, sA_L, sA_C, sA_F, sA_P, sA_E, sA_M, sS_A, sS_S, sS_L, sS_C, sS_F, sS_P, sS_E, sS_M, sL_A, sL_S, sL_L, sL_C, sL_F, sL_P, sL_E, sL_M, sC_A, sC_S, sC_L, sC_C, sC_F, sC_P, sC_E, sC_M, sF_A, sF_S, sF_L, sF_C, sF_F, sF_P, sF_E, sF_M, sP_A, sP_S, sP_L, sP_C, sP_F, sP_P, sP_E, sP_M, sE_A, sE_S, sE_L, sE_C, sE_F, sE_P, sE_E, sE_M]
  · rw [up2_ne a2, up2_ne a1]
  · rw [up2_ne a2, up2_ne a3, up2_ne a2, up2_ne a1]
theorem sS_sgn4 {f : Nat → Int32} {s s' : Nat} (hs : s < 6) (hs' : s' < s) : sS (sgnF f s) s' 4 = sS f s' 4 := by
  unfold sgnF; split <;> simp (disch := first | decide | assumption) only [sA_A, sA_S, sA_L, sA_C, sA_F, sA_P, sA_E, sA_M, sS_A, sS_S, sS_L, sS_C, sS_F, sS_P, sS_E, sS_M, sL_A, sL_S, sL_L, sL_C, sL_F, sL_P, sL_E, sL_M, sC_A, sC_S, sC_L, sC_C, sC_F, sC_P, sC_E, sC_M, sF_A, sF_S, sF_L, sF_C, sF_F, sF_P, sF_E, sF_M, sP_A, sP_S, sP_L, sP_C, sP_F, sP_P, sP_E, sP_M, sE_A, sE_S, sE_L, sE_C, sE_F, sE_P, sE_E, sE_M]
  · rw [up2_ne (by decide), up2_ne1 (by omega)]
  · rw [up2_ne (by decide), up2_ne (by decide), up2_ne (by decide), up2_ne1 (by omega)]
theorem sC_sgn {f : Nat → Int32} {s : Nat} (hs : s < 6) : sC (sgnF f s) = sC f := by unfold sgnF; split <;> simp (disch := first | decide | assumption) only [sA_A, sA_S, sA_L, sA_C, sA_F, sA_P, sA_E, sA_M, sS_A, sS_S, sS_L, sS_C, sS_F, sS_P, sS_E, sS_M, sL_A, sL_S, sL_L, sL_C, sL_F, sL_P, sL_E, sL_M, sC_A, sC_S, sC_L, sC_C, sC_F, sC_P, sC_E, sC_M, sF_A, sF_S, sF_L, sF_C, sF_F, sF_P, sF_E, sF_M, sP_A, sP_S, sP_L, sP_C, sP_F, sP_P, sP_E, sP_M, sE_A, sE_S, sE_L, sE_C, sE_F, sE_P, sE_E, sE_M]
theorem sM_sgn {f : Nat → Int32} {s : Nat} (hs : s < 6) : sgnF f s 1060 = f 1060 := by unfold sgnF; split <;> simp (disch := omega) only [upd_n]
noncomputable def wkF (f : Nat → Int32) (s n : Nat) : Nat → Int32 := upd (upd f (17 + 16 * s + 12) (f (17 + 16 * s + 12) + nI 1)) (17 + 16 * s + 3) (nI (n - 1))
noncomputable def stF (u : RS) (s : Nat) : Option RS := (F8_of u (nI s) (nI 11)).bind fun x1 => (if x1 ≤ 0 then ((F8_of u (nI s) (nI 2)).bind fun x15 => if x15 = (-1) then (some u) else ((F8_of u (nI s) (nI 3)).bind fun x18 => if x18 ≤ 0 then (some u) else ((F8_of u (nI s) (nI 7)).bind fun x21 => if x21 = 0 then ((F8_works u (nI s)).bind fun u24 => some u24) else (some u)))) else ((F8_grows u (nI s) (nI 11) (-1)).bind fun u26 => some u26) : Option (RS))
theorem works1_v {r : RS} {v : Nat → Int32} {s : Nat} (hs : s < 6) (enw : v (17 + 16 * s + 3) = nI 1) : F8_works (setR r v) (nI s) = ((F8_isBad (setR r (wkF v s 1)) (nI s)).bind fun t11 => if t11.1 = 0 then (some t11.2) else ((F8_of t11.2 (nI s) (nI 2)).bind fun x14 => (F8_failsIn t11.2 (nI s) (x14)).bind fun u16 => some u16)) := by
  unfold F8_works wkF
  simp (disch := omega) only [lit32, neg1, nI_add, nI_mul, bS, pt_n, ix_n, rd_n, ws_n, rdo_n, wso_n, setR_1, setL_w, setL_iv, up_setR, up_setL_w, up_setL_iv, nz_0, nz_1, F8_grows_v, F8_of_v, upd_n, upd_e, enw]
  rw [im1 (by omega)]
  simp only [show (1 : Nat) - 1 = 0 from rfl]
  rw [if_pos trivial, bSome]
theorem worksn_v {r : RS} {v : Nat → Int32} {s n : Nat} (hs : s < 6) (hn : 2 ≤ n) (hn2 : n ≤ 1000) (enw : v (17 + 16 * s + 3) = nI n) : F8_works (setR r v) (nI s) = some (setR r (wkF v s n)) := by
  unfold F8_works wkF
  simp (disch := omega) only [lit32, neg1, nI_add, nI_mul, bS, pt_n, ix_n, rd_n, ws_n, rdo_n, wso_n, setR_1, setL_w, setL_iv, up_setR, up_setL_w, up_setL_iv, nz_0, nz_1, F8_grows_v, F8_of_v, upd_n, upd_e, enw]
  rw [im1 (by omega), if_neg (nI_ne (by omega) (by omega) (by omega)), bS]
theorem rest1_w {c : RS} {g : CG} {L s : Nat} {w iv : Nat → Int32} (hs : s < 6) (hr : w (17 + 16 * s + 11) ≤ nI 0) (h2 : ¬ w (17 + 16 * s + 2) = m1) (h7 : w (17 + 16 * s + 7) = nI 0) (enw : w (17 + 16 * s + 3) = nI 1) : C3_restOrWork g (setL c L w iv) L s = ((C6_useSign g (setL c L (upd (wkF w s 1) 1060 (nI 1)) iv) L s).bind fun t17 => (if t17.1 = 0 then some (nI 0, t17.2) else some (nI 1, t17.2) : Option (Int32 × RS)).bind fun t12 => (nz t12.1).bind fun x15 => some (x15, t12.2)) := by
  unfold C3_restOrWork wkF
  simp (disch := omega) only [lit32, neg1, nI_add, nI_mul, bS, pt_n, ix_n, rd_n, ws_n, rdo_n, wso_n, setR_1, setL_w, setL_iv, up_setR, up_setL_w, up_setL_iv, nz_0, nz_1, enw, upd_n, upd_e]
  rw [if_pos hr, if_neg h2, if_neg (nI_ne (by omega) (by omega) (by omega)), if_pos h7, i1 (by omega)]
  simp only [show (1 : Nat) - 1 = 0 from rfl]
  rw [if_pos trivial]
  generalize C6_useSign g _ L s = X
  cases X <;> rfl
theorem restn_w {c : RS} {g : CG} {L s n : Nat} {w iv : Nat → Int32} (hs : s < 6) (hn : 2 ≤ n) (hn2 : n ≤ 1000) (hr : w (17 + 16 * s + 11) ≤ nI 0) (h2 : ¬ w (17 + 16 * s + 2) = m1) (h7 : w (17 + 16 * s + 7) = nI 0) (enw : w (17 + 16 * s + 3) = nI n) : C3_restOrWork g (setL c L w iv) L s = some (nI 0, setL c L (upd (wkF w s n) 1060 (nI 1)) iv) := by
  unfold C3_restOrWork wkF
  simp (disch := omega) only [lit32, neg1, nI_add, nI_mul, bS, pt_n, ix_n, rd_n, ws_n, rdo_n, wso_n, setR_1, setL_w, setL_iv, up_setR, up_setL_w, up_setL_iv, nz_0, nz_1, enw, upd_n, upd_e]
  rw [if_pos hr, if_neg h2, if_neg (nI_ne (by omega) (by omega) (by omega)), if_pos h7, i1 (by omega), if_neg (nI_ne (by omega) (by omega) (by omega)), bS]
  simp (disch := omega) only [lit32, neg1, nI_add, nI_mul, bS, pt_n, ix_n, rd_n, ws_n, rdo_n, wso_n, setR_1, setL_w, setL_iv, up_setR, up_setL_w, up_setL_iv, nz_0, nz_1]
theorem still_v {r : RS} {v : Nat → Int32} {s n : Nat} (hs : s < 6) (hn : n ≤ 1000) (enw : v (17 + 16 * s + 3) = nI n) (s1 : v (17 + 16 * s + 11) ≤ nI 0) (s2 : v (17 + 16 * s + 2) = m1 ∨ v (17 + 16 * s + 3) = nI 0 ∨ v (17 + 16 * s + 7) ≠ nI 0) : stF (setR r v) s = some (setR r v) := by
  unfold stF
  simp (disch := omega) only [lit32, neg1, nI_add, nI_mul, bS, pt_n, ix_n, rd_n, ws_n, rdo_n, wso_n, setR_1, setL_w, setL_iv, up_setR, up_setL_w, up_setL_iv, nz_0, nz_1, F8_of_v, enw]
  rw [if_pos s1]
  by_cases h2 : v (17 + 16 * s + 2) = m1
  · rw [if_pos h2]
  · rw [if_neg h2]
    by_cases h3 : n = 0
    · subst h3; rw [if_pos (nI_le (Nat.le_refl 0) (by omega))]
    · rw [if_neg (nI_ge (a := 0) (by omega) (by omega))]
      have h7 : ¬ v (17 + 16 * s + 7) = nI 0 := by
        rcases s2 with q | q | q
        · exact absurd q h2
        · exact absurd ((nI_eq (by omega) (by omega)).mp (enw.symm.trans q)) h3
        · exact q
      rw [if_neg h7]
theorem still_w {c : RS} {g : CG} {L s n : Nat} {w iv : Nat → Int32} (hs : s < 6) (hn : n ≤ 1000) (enw : w (17 + 16 * s + 3) = nI n) (s1 : w (17 + 16 * s + 11) ≤ nI 0) (s2 : w (17 + 16 * s + 2) = m1 ∨ w (17 + 16 * s + 3) = nI 0 ∨ w (17 + 16 * s + 7) ≠ nI 0) : C3_restOrWork g (setL c L w iv) L s = some (nI 0, setL c L w iv) := by
  unfold C3_restOrWork
  simp (disch := omega) only [lit32, neg1, nI_add, nI_mul, bS, pt_n, ix_n, rd_n, ws_n, rdo_n, wso_n, setR_1, setL_w, setL_iv, up_setR, up_setL_w, up_setL_iv, nz_0, nz_1, enw]
  rw [if_pos s1]
  by_cases h2 : w (17 + 16 * s + 2) = m1
  · rw [if_pos h2]
  · rw [if_neg h2]
    by_cases h3 : n = 0
    · subst h3; rw [if_pos (show nI 0 = nI 0 from rfl)]
    · rw [if_neg (nI_ne h3 (by omega) (by omega))]
      have h7 : ¬ w (17 + 16 * s + 7) = nI 0 := by
        rcases s2 with q | q | q
        · exact absurd q h2
        · exact absurd ((nI_eq (by omega) (by omega)).mp (enw.symm.trans q)) h3
        · exact q
      rw [if_neg h7]
theorem wkv {r : RS} {v : Nat → Int32} {s n : Nat} (hs : s < 6) (hn : 1 ≤ n) (hn2 : n ≤ 1000) (hr : v (17 + 16 * s + 11) ≤ nI 0) (h2 : ¬ v (17 + 16 * s + 2) = m1) (h7 : v (17 + 16 * s + 7) = nI 0) (enw : v (17 + 16 * s + 3) = nI n) : stF (setR r v) s = F8_works (setR r v) (nI s) := by
  unfold stF
  simp (disch := omega) only [lit32, neg1, nI_add, nI_mul, bS, pt_n, ix_n, rd_n, ws_n, rdo_n, wso_n, setR_1, setL_w, setL_iv, up_setR, up_setL_w, up_setL_iv, nz_0, nz_1, F8_of_v, enw]
  rw [if_pos hr, if_neg h2, if_neg (nI_ge (a := 0) (by omega) (by omega)), if_pos h7, bSome]
theorem rests_v {r : RS} {v : Nat → Int32} {s : Nat} (hs : s < 6) (hr : ¬ v (17 + 16 * s + 11) ≤ nI 0) : stF (setR r v) s = some (setR r (upd v (17 + 16 * s + 11) (v (17 + 16 * s + 11) - nI 1))) := by
  unfold stF
  simp (disch := omega) only [lit32, neg1, nI_add, nI_mul, bS, pt_n, ix_n, rd_n, ws_n, rdo_n, wso_n, setR_1, setL_w, setL_iv, up_setR, up_setL_w, up_setL_iv, nz_0, nz_1, F8_of_v, F8_grows_v]
  rw [if_neg hr, add_m1]
theorem rests_w {c : RS} {g : CG} {L s : Nat} {w iv : Nat → Int32} (hs : s < 6) (hr : ¬ w (17 + 16 * s + 11) ≤ nI 0) : C3_restOrWork g (setL c L w iv) L s = some (nI 0, setL c L (upd (upd w (17 + 16 * s + 11) (w (17 + 16 * s + 11) - nI 1)) 1060 (nI 1)) iv) := by
  unfold C3_restOrWork
  simp (disch := omega) only [lit32, neg1, nI_add, nI_mul, bS, pt_n, ix_n, rd_n, ws_n, rdo_n, wso_n, setR_1, setL_w, setL_iv, up_setR, up_setL_w, up_setL_iv, nz_0, nz_1]
  rw [if_neg hr]
theorem bad_1 {g : CG} {L s : Nat} {u : RS} : ((some (nI 1, u)).bind fun t17 => (if t17.1 = 0 then some (nI 0, t17.2) else some (nI 1, t17.2) : Option (Int32 × RS)).bind fun t12 => (nz t12.1).bind fun x15 => some (x15, t12.2)) = some (nI 1, u) := by
  rw [bS]; simp only; rw [if_neg ne10, bS]; rfl
theorem bad_0 {g : CG} {L s : Nat} {u : RS} : ((some (nI 0, u)).bind fun t17 => (if t17.1 = 0 then some (nI 0, t17.2) else some (nI 1, t17.2) : Option (Int32 × RS)).bind fun t12 => (nz t12.1).bind fun x15 => some (x15, t12.2)) = some (nI 0, u) := by
  rw [bS]; simp only; rw [if_pos e00, bS]; rfl
theorem work_ok {r c : RS} {g : CG} {L sm lm cm B U s u : Nat} {v w iv : Nat → Int32} (hL : L < 12) (hg : g.nt < 2 ^ 31) (hU2 : U < 2000000000) (h : QX c g L v w iv sm lm cm B U) (hs : s < sm) (hu : sS w s 4 = nI u) (hU : u + 1 ≤ U) :
    ∃ v1 w1 iv1 b, stF (setR r v) s = some (setR r v1) ∧
      ((b = 0 ∧ C3_restOrWork g (setL c L w iv) L s = some (nI 0, setL c L w1 iv1)) ∨ (b = 1 ∧ sS v1 s 2 = m1 ∧ ∃ w0 iv0, C3_restOrWork g (setL c L w iv) L s = some (nI 1, setL c L w0 iv0) ∧ C3_failCardIn g (setL c L w0 iv0) L s = some (setL c L w1 iv1))) ∧
      QX c g L v1 w1 iv1 sm lm cm B U ∧ (∀ s', s' < s → sS w1 s' 4 = sS w s' 4) ∧ ((STw w s ∧ b = 0 ∧ v1 = v ∧ w1 = w ∧ iv1 = iv) ∨ (¬ STw w s ∧ w1 1060 = nI 1)) := by
  have hsm := h.a.sm6; have hcm := h.a.cm30
  have hs6 : s < 6 := by omega
  have S : ∀ k, k < 16 → w (17 + 16 * s + k) = sS w s k := fun k hk => sS_r (v := w) (by omega) hk
  have E : ∀ k, k < 14 → k ≠ 8 → v (17 + 16 * s + k) = w (17 + 16 * s + k) := fun k a b => h.rs hs a b
  obtain ⟨n, hn, en⟩ := h.s.need s hs
  have enw : w (17 + 16 * s + 3) = nI n := (S 3 (by omega)).trans en
  have env : v (17 + 16 * s + 3) = nI n := (E 3 (by omega) (by omega)).trans enw
  by_cases hst : STw w s
  · have s1 : w (17 + 16 * s + 11) ≤ nI 0 := by rw [S 11 (by omega)]; exact hst.1
    have s2 : w (17 + 16 * s + 2) = m1 ∨ w (17 + 16 * s + 3) = nI 0 ∨ w (17 + 16 * s + 7) ≠ nI 0 := by rw [S 2 (by omega), S 3 (by omega), S 7 (by omega)]; exact hst.2
    exact ⟨v, w, iv, 0, still_v hs6 hn env (by rw [E 11 (by omega) (by omega)]; exact s1) (by rw [E 2 (by omega) (by omega), E 3 (by omega) (by omega), E 7 (by omega) (by omega)]; exact s2), Or.inl ⟨rfl, still_w hs6 hn enw s1 s2⟩, h, fun _ _ => rfl, Or.inl ⟨hst, rfl, rfl, rfl, rfl⟩⟩
  · by_cases hr : w (17 + 16 * s + 11) ≤ nI 0
    · have hr' : sS w s 11 ≤ nI 0 := by rw [← S 11 (by omega)]; exact hr
      have h2 : ¬ w (17 + 16 * s + 2) = m1 := fun q => hst ⟨hr', Or.inl ((S 2 (by omega)).symm.trans q)⟩
      have h3 : n ≠ 0 := fun q => hst ⟨hr', Or.inr (Or.inl (by rw [en, q]))⟩
      have h7 : w (17 + 16 * s + 7) = nI 0 := by
        by_cases q : w (17 + 16 * s + 7) = nI 0
        · exact q
        · exact absurd ⟨hr', Or.inr (Or.inr (by rw [← S 7 (by omega)]; exact q))⟩ hst
      obtain ⟨q, q1, q2, q3, q4⟩ : ∃ q, q < cm ∧ sS w s 2 = nI q ∧ sC w q 3 = nI 1 ∧ sC w q 4 = nI s := by
        rcases h.s.hold s hs with e | e
        · exact absurd ((S 2 (by omega)).trans e) h2
        · exact e
      have hF0 := wkv (r := r) (v := v) (n := n) hs6 (by omega) hn (by rw [E 11 (by omega) (by omega)]; exact hr) (by rw [E 2 (by omega) (by omega)]; exact h2) (by rw [E 7 (by omega) (by omega)]; exact h7) env
      have hA : QX c g L (wkF v s n) (upd (wkF w s n) 1060 (nI 1)) iv sm lm cm B U := by
        unfold wkF
        rw [E 12 (by omega) (by omega)]
        exact ((QR.free 12 (by omega) hs6 h).upS hs6 (by omega) (QS.uNeed (by omega) (QR.free 12 (by omega) hs6 h).s)).upM
      have vS : ∀ f : Nat → Int32, sS (wkF f s n) = up2 (up2 (sS f) s 12 (f (17 + 16 * s + 12) + nI 1)) s 3 (nI (n - 1)) := fun f => by unfold wkF; simp (disch := first | decide | assumption) only [sA_A, sA_S, sA_L, sA_C, sA_F, sA_P, sA_E, sA_M, sS_A, sS_S, sS_L, sS_C, sS_F, sS_P, sS_E, sS_M, sL_A, sL_S, sL_L, sL_C, sL_F, sL_P, sL_E, sL_M, sC_A, sC_S, sC_L, sC_C, sC_F, sC_P, sC_E, sC_M, sF_A, sF_S, sF_L, sF_C, sF_F, sF_P, sF_E, sF_M, sP_A, sP_S, sP_L, sP_C, sP_F, sP_P, sP_E, sP_M, sE_A, sE_S, sE_L, sE_C, sE_F, sE_P, sE_E, sE_M]
      have vC : ∀ f : Nat → Int32, sC (wkF f s n) = sC f := fun f => by unfold wkF; simp (disch := first | decide | assumption) only [sA_A, sA_S, sA_L, sA_C, sA_F, sA_P, sA_E, sA_M, sS_A, sS_S, sS_L, sS_C, sS_F, sS_P, sS_E, sS_M, sL_A, sL_S, sL_L, sL_C, sL_F, sL_P, sL_E, sL_M, sC_A, sC_S, sC_L, sC_C, sC_F, sC_P, sC_E, sC_M, sF_A, sF_S, sF_L, sF_C, sF_F, sF_P, sF_E, sF_M, sP_A, sP_S, sP_L, sP_C, sP_F, sP_P, sP_E, sP_M, sE_A, sE_S, sE_L, sE_C, sE_F, sE_P, sE_E, sE_M]
      have fr : ∀ s', s' < s → sS (upd (wkF w s n) 1060 (nI 1)) s' 4 = sS w s' 4 := fun s' hs' => by
        rw [sS_M, vS, up2_ne (by decide), up2_ne (by decide)]
      have rd_ : ∀ (f : Nat → Int32) k, k < 16 → k ≠ 12 → k ≠ 3 → wkF f s n (17 + 16 * s + k) = f (17 + 16 * s + k) := fun f k a b d => by unfold wkF; simp (disch := omega) only [upd_n]
      by_cases hn1 : n = 1
      · subst hn1
        obtain ⟨t, k, t1, t2, t3, t4, t5, t6, t7, t8⟩ := h.s.script s hs
        have huw : w (17 + 16 * s + 4) = nI u := (S 4 (by omega)).trans hu
        have t7v : v (17 + 16 * s + 14) = nI k := by rw [sS_r (v := v) (by omega) (by omega)]; exact t7
        have t3w : w (17 + 16 * s + 14) = nI t := (S 14 (by omega)).trans t3
        have hB := hA.sig hs (u := u) (by rw [upd_n (by omega), rd_ w 4 (by omega) (by omega) (by omega)]; exact huw) hU
        have hmk : u % k < k := Nat.mod_lt _ (by omega)
        have bits : c (500 + t) (1 + u % k) = nI 49 ↔ sS v s 15 >>> nI (u % k) &&& nI 1 = nI 1 := t8 (u % k) hmk
        have b1 := isBad_v (r := r) (v := wkF v s 1) (s := s) (u := u) (n := k) hs6 (by rw [rd_ v 4 (by omega) (by omega) (by omega), E 4 (by omega) (by omega)]; exact huw) (by omega) (by rw [rd_ v 14 (by omega) (by omega) (by omega)]; exact t7v) t5 t6
        have b2 := useSign_w (c := c) (g := g) (iv := iv) (w := upd (wkF w s 1) 1060 (nI 1)) (s := s) (u := u) (n := k) (t := t) hL hs6 (by rw [upd_n (by omega), rd_ w 14 (by omega) (by omega) (by omega)]; exact t3w) t1 t2 (by omega) t4 t5 t6 (by rw [upd_n (by omega), rd_ w 4 (by omega) (by omega) (by omega)]; exact huw) (by omega)
        rw [rd_ v 15 (by omega) (by omega) (by omega), sS_r (v := v) (by omega) (by omega)] at b1
        have hW := works1_v (r := r) (v := v) hs6 env
        have hR := rest1_w (c := c) (g := g) (L := L) (iv := iv) hs6 hr h2 h7 enw
        rw [b1] at hW
        rw [b2] at hR
        have h2s : sS (sgnF (upd (wkF w s 1) 1060 (nI 1)) s) s 2 = nI q := by
          rw [sS_sgn hs6 (by decide) (by decide) (by decide), sS_M, vS, up2_ne (by decide), up2_ne (by decide)]; exact q2
        by_cases hbad : c (500 + t) (1 + u % k) = nI 49
        · rw [if_pos (bits.mp hbad), bS] at hW
          rw [if_pos hbad, bad_1 (g := g) (L := L) (s := s)] at hR
          obtain ⟨v', w', iv', k1, k2, k3, k4, k5, k6⟩ := fail_ok (r := r) hL hB hs q1 h2s (by rw [sC_sgn hs6, sC_M, vC]; exact q3)
          refine ⟨v', w', iv', 1, ?_, Or.inr ⟨rfl, k6, _, _, hR, k2⟩, k3, fun s' hs' => ?_, Or.inr ⟨hst, ?_⟩⟩
          · rw [hF0, hW]
            simp only
            rw [if_neg ne10, F8_of_v hs6 (by omega), bS, hB.rs hs (by omega) (by omega), sS_r (v := sgnF _ s) (by omega) (by omega), h2s, k1, bS]
          · rw [k4 s' 4 (by decide) (by decide), sS_sgn4 hs6 hs']; exact fr s' hs'
          · rw [k5, sM_sgn hs6, upd_e]
        · rw [if_neg (fun q => hbad (bits.mpr q)), bS] at hW
          rw [if_neg hbad, bad_0 (g := g) (L := L) (s := s)] at hR
          refine ⟨_, _, _, 0, ?_, Or.inl ⟨rfl, hR⟩, hB, fun s' hs' => ?_, Or.inr ⟨hst, ?_⟩⟩
          · rw [hF0, hW]
            simp only
            rw [if_pos e00]
          · rw [sS_sgn4 hs6 hs']; exact fr s' hs'
          · rw [sM_sgn hs6, upd_e]
      · exact ⟨_, _, _, 0, hF0.trans (worksn_v hs6 (by omega) hn env), Or.inl ⟨rfl, restn_w hs6 (by omega) hn hr h2 h7 enw⟩, hA, fr, Or.inr ⟨hst, upd_e⟩⟩
    · refine ⟨_, _, _, 0, rests_v hs6 (by rw [E 11 (by omega) (by omega)]; exact hr), Or.inl ⟨rfl, rests_w hs6 hr⟩, ?_, fun s' hs' => ?_, Or.inr ⟨hst, upd_e⟩⟩
      · rw [E 11 (by omega) (by omega)]
        exact (QR.free 11 (by omega) hs6 h (x := w (17 + 16 * s + 11) - nI 1)).upM
      · simp (disch := first | decide | assumption) only [sA_A, sA_S, sA_L, sA_C, sA_F, sA_P, sA_E, sA_M, sS_A, sS_S, sS_L, sS_C, sS_F, sS_P, sS_E, sS_M, sL_A, sL_S, sL_L, sL_C, sL_F, sL_P, sL_E, sL_M, sC_A, sC_S, sC_L, sC_C, sC_F, sC_P, sC_E, sC_M, sF_A, sF_S, sF_L, sF_C, sF_F, sF_P, sF_E, sF_M, sP_A, sP_S, sP_L, sP_C, sP_F, sP_P, sP_E, sP_M, sE_A, sE_S, sE_L, sE_C, sE_F, sE_P, sE_E, sE_M]; rw [up2_ne (by decide)]
end
section
noncomputable def ST (w : Nat → Int32) (sm s : Nat) : Prop := STw w s ∧ ¬ RG w sm s
theorem passes_F {u : RS} {s : Nat} : F8_stationPasses u (nI s) = (stF u s).bind fun t => rdyF t (nI s) := by
  unfold F8_stationPasses stF rdyF
  simp only [lit32, neg1]
  cases F8_of u (nI s) (nI 11) with
  | none => rfl
  | some x => rfl
theorem tick_C {g : CG} {L fu s : Nat} {u : RS} (hs : s < 6) : C3_tick_L12 L g (fu + 1) (nI s) u = ((C3_restOrWork g u L s).bind fun t24 => (if t24.1 = 0 then rdyC g L t24.2 s (nI s) else (C3_failCardIn g t24.2 L s) : Option RS)).bind fun t27 => C3_tick_L12 L g fu (nI s + m1) t27 := by
  rw [C3_tick_L12]
  rw [if_neg (nI_pos (by omega)), ix_n (by omega) (by omega), bS]
  simp only [lit32, neg1, bSome]
  cases C3_restOrWork g u L s with
  | none => rfl
  | some t =>
    rw [bS, bS]
    unfold rdyC
    simp only [lit32, neg1, bSome]
theorem pass_ok {r c : RS} {g : CG} {L sm lm cm B U s u : Nat} {v w iv : Nat → Int32} (hL : L < 12) (hg : g.nt < 2 ^ 31) (hU2 : U < 2000000000) (h : QX c g L v w iv sm lm cm B U) (hs : s < sm) (hu : sS w s 4 = nI u) (hU : u + 1 ≤ U) :
    ∃ v' w' iv', F8_stationPasses (setR r v) (nI s) = some (setR r v') ∧ (∀ fu, C3_tick_L12 L g (fu + 1) (nI s) (setL c L w iv) = C3_tick_L12 L g fu (nI s + m1) (setL c L w' iv')) ∧ QX c g L v' w' iv' sm lm cm B U ∧ (∀ s', s' < s → sS w' s' 4 = sS w s' 4) ∧ ((ST w sm s ∧ v' = v ∧ w' = w ∧ iv' = iv) ∨ (¬ ST w sm s ∧ w' 1060 = nI 1)) := by
  have hsm := h.a.sm6
  have hs6 : s < 6 := by omega
  obtain ⟨v1, w1, iv1, b, a1, a2, a3, a4, a5⟩ := work_ok (r := r) hL hg hU2 h hs hu hU
  rcases a2 with ⟨rfl, a2⟩ | ⟨rfl, ah, w0, iv0, a2, a6⟩
  · obtain ⟨v', w', iv', k1, k2, k3, k4, k5⟩ := rdy_ok (r := r) hL hg a3 hs
    refine ⟨v', w', iv', ?_, fun fu => ?_, k3, fun s' hs' => (k4 s' hs').trans (a4 s' hs'), ?_⟩
    · rw [passes_F, a1, bS, k1]
    · rw [tick_C hs6, a2, bS]
      rw [if_pos e00, k2, bS]
    · rcases a5 with ⟨m1_, -, rfl, rfl, rfl⟩ | ⟨m1_, m2⟩
      · rcases k5 with ⟨n1, rfl, rfl, rfl⟩ | ⟨n1, n2⟩
        · exact Or.inl ⟨⟨m1_, n1⟩, rfl, rfl, rfl⟩
        · exact Or.inr ⟨fun q => q.2 n1, n2⟩
      · refine Or.inr ⟨fun q => m1_ q.1, ?_⟩
        rcases k5 with ⟨-, -, rfl, -⟩ | ⟨-, n2⟩
        · exact m2
        · exact n2
  · have hsm2 : sS v1 s 2 = sS w1 s 2 := a3.s.eqs s 2 hs (by omega) (by omega)
    obtain ⟨n, hn, en⟩ := a3.s.need s hs
    refine ⟨v1, w1, iv1, ?_, fun fu => ?_, a3, a4, ?_⟩
    · rw [passes_F, a1, bS]
      unfold rdyF
      rw [isReady_v (n := n) (x := m1) hs6 (by rw [sS_r (v := v1) (by omega) (by omega)]; exact ah) (by rw [sS_r (v := v1) (by omega) (by omega), a3.s.eqs s 3 hs (by omega) (by omega)]; exact en) (by omega), if_pos (Or.inl rfl), bS, if_pos e00, bS]
    · rw [tick_C hs6, a2, bS]
      rw [if_neg ne10, a6, bS]
    · rcases a5 with ⟨-, q, -⟩ | ⟨m1_, m2⟩
      · exact absurd q (by decide)
      · exact Or.inr ⟨fun q => m1_ q.1, m2⟩
theorem loop_ok {r c : RS} {g : CG} {L sm lm cm B U : Nat} (hL : L < 12) (hg : g.nt < 2 ^ 31) (hU2 : U < 2000000000) : ∀ (s fu fu2 : Nat) (v w iv : Nat → Int32), s ≤ sm → s < fu → s < fu2 → QX c g L v w iv sm lm cm B U → (∀ s', s' < s → ∃ u, u + 1 ≤ U ∧ sS w s' 4 = nI u) →
    ∃ v' w' iv', F8_passes_L10 fu (if s = 0 then m1 else nI (s - 1)) (setR r v) = some (m1, setR r v') ∧ C3_tick_L12 L g fu2 (if s = 0 then m1 else nI (s - 1)) (setL c L w iv) = some (m1, setL c L w' iv') ∧ QX c g L v' w' iv' sm lm cm B U ∧ (((∀ s', s' < s → ST w sm s') ∧ v' = v ∧ w' = w ∧ iv' = iv) ∨ (¬ (∀ s', s' < s → ST w sm s') ∧ w' 1060 = nI 1) ∨ (w 1060 = nI 1 ∧ w' 1060 = nI 1)) := by
  intro s
  induction s with
  | zero =>
    intro fu fu2 v w iv hs h1 h2 h hu
    obtain ⟨fu, rfl⟩ : ∃ m, fu = m + 1 := ⟨fu - 1, by omega⟩
    obtain ⟨fu2, rfl⟩ : ∃ m, fu2 = m + 1 := ⟨fu2 - 1, by omega⟩
    refine ⟨v, w, iv, ?_, ?_, h, Or.inl ⟨fun s' q => by omega, rfl, rfl, rfl⟩⟩
    · rw [F8_passes_L10, if_pos rfl, if_pos (show m1 < 0 by decide)]
    · rw [C3_tick_L12, if_pos rfl, if_pos (show m1 < 0 by decide)]
  | succ s ih =>
    intro fu fu2 v w iv hs h1 h2 h hu
    obtain ⟨fu, rfl⟩ : ∃ m, fu = m + 1 := ⟨fu - 1, by omega⟩
    obtain ⟨fu2, rfl⟩ : ∃ m, fu2 = m + 1 := ⟨fu2 - 1, by omega⟩
    have hsm := h.a.sm6
    obtain ⟨u, hu1, hu2⟩ := hu s (by omega)
    obtain ⟨v1, w1, iv1, a1, a2, a3, a4, a5⟩ := pass_ok (r := r) hL hg hU2 h (by omega) hu2 hu1
    have hi : nI s + m1 = if s = 0 then m1 else nI (s - 1) := by
      by_cases e : s = 0
      · subst e; rfl
      · rw [if_neg e, im1 (by omega)]
    obtain ⟨v', w', iv', b1, b2, b3, b4⟩ := ih fu fu2 v1 w1 iv1 (by omega) (by omega) (by omega) a3 (fun s' hs' => by obtain ⟨u', x1, x2⟩ := hu s' (by omega); exact ⟨u', x1, by rw [a4 s' hs']; exact x2⟩)
    refine ⟨v', w', iv', ?_, ?_, b3, ?_⟩
    · rw [F8_passes_L10, if_neg (show ¬ s + 1 = 0 by omega), show s + 1 - 1 = s by omega, if_neg (nI_pos (by omega)), a1, bS]
      simp only [lit32, neg1]
      rw [hi]; exact b1
    · rw [if_neg (show ¬ s + 1 = 0 by omega), show s + 1 - 1 = s by omega, a2, hi]; exact b2
    · rcases a5 with ⟨c1, rfl, rfl, rfl⟩ | ⟨c1, c2⟩
      · rcases b4 with ⟨d1, rfl, rfl, rfl⟩ | ⟨d1, d2⟩ | ⟨d1, d2⟩
        · exact Or.inl ⟨fun s' hs' => by
            by_cases e : s' = s
            · rw [e]; exact c1
            · exact d1 s' (by omega), rfl, rfl, rfl⟩
        · exact Or.inr (Or.inl ⟨fun q => d1 fun s' hs' => q s' (by omega), d2⟩)
        · exact Or.inr (Or.inr ⟨d1, d2⟩)
      · refine Or.inr (Or.inl ⟨fun q => c1 (q s (by omega)), ?_⟩)
        rcases b4 with ⟨-, -, rfl, -⟩ | ⟨-, d2⟩ | ⟨-, d2⟩
        · exact c2
        · exact d2
        · exact d2
end
section
noncomputable def clsN (v : Nat → Int32) (k : Nat) : Nat := if v (137 + 25 * k + 8) = nI 1 then 0 else if v (137 + 25 * k + 5) + v (137 + 25 * k + 6) ≤ nI 0 then 2 else 1
theorem classOf_v {r : RS} {v : Nat → Int32} {k : Nat} (hk : k < 30) : F8_classOf (setR r v) (nI k) = some (nI (clsN v k)) := by
  unfold F8_classOf clsN
  simp (disch := omega) only [lit32, neg1, nI_add, nI_mul, bS, pt_n, ix_n, rd_n, ws_n, rdo_n, wso_n, setR_1, setL_w, setL_iv, up_setR, up_setL_w, up_setL_iv, nz_0, nz_1, F8_ofCard_v]
  by_cases h8 : v (137 + 25 * k + 8) = nI 1
  · rw [if_pos h8, if_pos h8, bS]
  · rw [if_neg h8, if_neg h8]
    by_cases h5 : v (137 + 25 * k + 5) + v (137 + 25 * k + 6) ≤ nI 0
    · rw [if_pos h5, if_pos h5, bS]
    · rw [if_neg h5, if_neg h5, bS]
theorem clsN_le {v : Nat → Int32} {k : Nat} : clsN v k ≤ 2 := by
  unfold clsN
  split
  · omega
  · split <;> omega
theorem isAhead_v {r : RS} {v : Nat → Int32} {a b la lb pa pb : Nat} (ha : a < 30) (hb : b < 30) (hla : la < 6) (hlb : lb < 6) (ea : v (137 + 25 * a + 0) = nI la) (eb : v (137 + 25 * b + 0) = nI lb) (ra : v (113 + 4 * la + 0) = nI pa) (rb : v (113 + 4 * lb + 0) = nI pb) (hpa : pa ≤ 9) (hpb : pb ≤ 9) : F8_isAhead (setR r v) (nI a) (nI b) = some (if clsN v a < clsN v b ∨ (clsN v a = 2 ∧ clsN v b = 2 ∧ pb < pa) then nI 1 else nI 0) := by
  have h1 := @clsN_le v a; have h2 := @clsN_le v b
  unfold F8_isAhead F8_rankOf
  simp (disch := omega) only [lit32, neg1, nI_add, nI_mul, bS, pt_n, ix_n, rd_n, ws_n, rdo_n, wso_n, setR_1, setL_w, setL_iv, up_setR, up_setL_w, up_setL_iv, nz_0, nz_1, classOf_v, F8_ofCard_v, ea, eb, F8_ofLot_v, ra, rb]
  by_cases e : clsN v a = clsN v b
  · rw [if_pos (congrArg nI e)]
    by_cases e2 : clsN v a = 2
    · rw [if_pos (congrArg nI e2)]
      by_cases e3 : pa ≤ pb
      · rw [if_pos (nI_le e3 (by omega)), if_neg (show ¬ (clsN v a < clsN v b ∨ (clsN v a = 2 ∧ clsN v b = 2 ∧ pb < pa)) by omega), bS, nz_0, bS]
      · rw [if_neg (nI_ge (by omega) (by omega)), if_pos (show clsN v a < clsN v b ∨ (clsN v a = 2 ∧ clsN v b = 2 ∧ pb < pa) by omega), bS, nz_1, bS]
    · rw [if_neg (nI_ne e2 (by omega) (by omega)), if_neg (show ¬ (clsN v a < clsN v b ∨ (clsN v a = 2 ∧ clsN v b = 2 ∧ pb < pa)) by omega), bS, nz_0, bS]
  · rw [if_neg (nI_ne e (by omega) (by omega))]
    by_cases e3 : clsN v b ≤ clsN v a
    · rw [if_pos (nI_le e3 (by omega)), if_neg (show ¬ (clsN v a < clsN v b ∨ (clsN v a = 2 ∧ clsN v b = 2 ∧ pb < pa)) by omega), bS, nz_0, bS]
    · rw [if_neg (nI_ge (by omega) (by omega)), if_pos (show clsN v a < clsN v b ∨ (clsN v a = 2 ∧ clsN v b = 2 ∧ pb < pa) by omega), bS, nz_1, bS]
noncomputable def LR (v : Nat → Int32) (cm : Nat) (lo rk : Nat → Nat) : Prop := ∀ k, k < cm → v (137 + 25 * k + 0) = nI (lo k) ∧ lo k < 6 ∧ v (113 + 4 * lo k + 0) = nI (rk k) ∧ rk k ≤ 9
theorem feedF_0 {r : RS} {v : Nat → Int32} {cm fu y : Nat} {b : Int32} (hcm : cm ≤ 30) (h9 : v 9 = nI cm) (hy : y < cm) (e : ¬ v (137 + 25 * y + 3) = nI 0) : F8_toFeed_L4 (setR r v) (fu + 1) (nI y) b = F8_toFeed_L4 (setR r v) fu (nI (y + 1)) b := by
  rw [F8_toFeed_L4]
  simp (disch := omega) only [lit32, neg1, nI_add, nI_mul, bS, pt_n, ix_n, rd_n, ws_n, rdo_n, wso_n, setR_1, setL_w, setL_iv, up_setR, up_setL_w, up_setL_iv, nz_0, nz_1, h9, F8_ofCard_v]
  rw [if_neg (nI_ge (by omega) (by omega)), if_neg e, bS]
theorem feedF_1 {r : RS} {v : Nat → Int32} {cm fu y : Nat} (hcm : cm ≤ 30) (h9 : v 9 = nI cm) (hy : y < cm) (e : v (137 + 25 * y + 3) = nI 0) : F8_toFeed_L4 (setR r v) (fu + 1) (nI y) m1 = F8_toFeed_L4 (setR r v) fu (nI (y + 1)) (nI y) := by
  rw [F8_toFeed_L4]
  simp (disch := omega) only [lit32, neg1, nI_add, nI_mul, bS, pt_n, ix_n, rd_n, ws_n, rdo_n, wso_n, setR_1, setL_w, setL_iv, up_setR, up_setL_w, up_setL_iv, nz_0, nz_1, h9, F8_ofCard_v, e]
  rw [if_neg (nI_ge (by omega) (by omega)), if_pos trivial, if_pos trivial, bS]
theorem feedF_2 {r : RS} {v : Nat → Int32} {cm fu y k : Nat} {lo rk : Nat → Nat} (hcm : cm ≤ 30) (h9 : v 9 = nI cm) (hlr : LR v cm lo rk) (hy : y < cm) (hk : k < cm) (e : v (137 + 25 * y + 3) = nI 0) : F8_toFeed_L4 (setR r v) (fu + 1) (nI y) (nI k) = F8_toFeed_L4 (setR r v) fu (nI (y + 1)) (if clsN v y < clsN v k ∨ (clsN v y = 2 ∧ clsN v k = 2 ∧ rk k < rk y) then nI y else nI k) := by
  obtain ⟨a1, a2, a3, a4⟩ := hlr y hy
  obtain ⟨b1, b2, b3, b4⟩ := hlr k hk
  rw [F8_toFeed_L4]
  simp (disch := omega) only [lit32, neg1, nI_add, nI_mul, bS, pt_n, ix_n, rd_n, ws_n, rdo_n, wso_n, setR_1, setL_w, setL_iv, up_setR, up_setL_w, up_setL_iv, nz_0, nz_1, h9, F8_ofCard_v, e]
  rw [if_neg (nI_ge (by omega) (by omega)), if_pos trivial, if_neg (m1_ne (by omega)), isAhead_v (by omega) (by omega) a2 b2 a1 b1 a3 b3 a4 b4]
  by_cases q : clsN v y < clsN v k ∨ (clsN v y = 2 ∧ clsN v k = 2 ∧ rk k < rk y)
  · rw [if_pos q, if_pos q, bS, if_neg (nI_ne (by omega) (by omega) (by omega)), bS]
  · rw [if_neg q, if_neg q, bS, if_pos (show nI 0 = nI 0 from rfl), bS]
theorem feedF_R {r : RS} {v : Nat → Int32} {cm k0 : Nat} {lo rk : Nat → Nat} (hcm : cm ≤ 30) (h9 : v 9 = nI cm) (hlr : LR v cm lo rk) (hk0 : k0 < cm) (h0 : clsN v k0 = 0) : ∀ (d y fu : Nat), y + d = cm → d < fu → F8_toFeed_L4 (setR r v) fu (nI y) (nI k0) = some (nI cm, nI k0) := by
  intro d
  induction d with
  | zero =>
    intro y fu hy hfu
    obtain ⟨fu, rfl⟩ : ∃ m, fu = m + 1 := ⟨fu - 1, by omega⟩
    obtain rfl : y = cm := by omega
    rw [F8_toFeed_L4]
    simp (disch := omega) only [lit32, neg1, nI_add, nI_mul, bS, pt_n, ix_n, rd_n, ws_n, rdo_n, wso_n, setR_1, setL_w, setL_iv, up_setR, up_setL_w, up_setL_iv, nz_0, nz_1, h9]
    rw [if_pos (nI_le (by omega) (by omega))]
  | succ d ih =>
    intro y fu hy hfu
    obtain ⟨fu, rfl⟩ : ∃ m, fu = m + 1 := ⟨fu - 1, by omega⟩
    by_cases e : v (137 + 25 * y + 3) = nI 0
    · rw [feedF_2 hcm h9 hlr (by omega) hk0 e, if_neg (by omega)]
      exact ih (y + 1) fu (by omega) (by omega)
    · rw [feedF_0 hcm h9 (by omega) e]
      exact ih (y + 1) fu (by omega) (by omega)
theorem feedC_0 {c : RS} {g : CG} {L cm fu y : Nat} {w iv : Nat → Int32} {y2 y3 y4 : Int32} (hcm : cm ≤ 30) (h9 : w 9 = nI cm) (hy : y < cm) (e : ¬ w (137 + 25 * y + 3) = nI 0) : C3_nextWaiting_L9 L g (setL c L w iv) (fu + 1) (nI y) y2 y3 y4 = C3_nextWaiting_L9 L g (setL c L w iv) fu (nI (y + 1)) y2 y3 y4 := by
  rw [C3_nextWaiting_L9]
  simp (disch := omega) only [lit32, neg1, nI_add, nI_mul, bS, pt_n, ix_n, rd_n, ws_n, rdo_n, wso_n, setR_1, setL_w, setL_iv, up_setR, up_setL_w, up_setL_iv, nz_0, nz_1, h9]
  rw [if_neg (nI_ge (by omega) (by omega)), if_neg e]
theorem feedC_r {c : RS} {g : CG} {L cm fu y : Nat} {w iv : Nat → Int32} {y2 y3 y4 : Int32} (hcm : cm ≤ 30) (h9 : w 9 = nI cm) (hy : y < cm) (e : w (137 + 25 * y + 3) = nI 0) (e8 : w (137 + 25 * y + 8) = nI 1) : C3_nextWaiting_L9 L g (setL c L w iv) (fu + 1) (nI y) y2 y3 y4 = some (.inl (nI y)) := by
  rw [C3_nextWaiting_L9]
  simp (disch := omega) only [lit32, neg1, nI_add, nI_mul, bS, pt_n, ix_n, rd_n, ws_n, rdo_n, wso_n, setR_1, setL_w, setL_iv, up_setR, up_setL_w, up_setL_iv, nz_0, nz_1, h9, e, e8]
  rw [if_neg (nI_ge (by omega) (by omega)), if_pos trivial, if_neg (nI_ne (by omega) (by omega) (by omega))]
theorem feedC_1 {c : RS} {g : CG} {L cm fu y : Nat} {w iv : Nat → Int32} {y2 y3 y4 : Int32} {lo rk : Nat → Nat} (hcm : cm ≤ 30) (h9 : w 9 = nI cm) (hlr : LR w cm lo rk) (hy : y < cm) (e : w (137 + 25 * y + 3) = nI 0) (e8 : w (137 + 25 * y + 8) = nI 0) : C3_nextWaiting_L9 L g (setL c L w iv) (fu + 1) (nI y) y2 y3 y4 = C3_nextWaiting_L9 L g (setL c L w iv) fu (nI (y + 1)) (if nI (rk y) ≤ y2 then y2 else nI (rk y)) (if nI (rk y) ≤ y2 then y3 else nI y) (if y4 = m1 ∧ ¬ w (137 + 25 * y + 5) + w (137 + 25 * y + 6) ≤ nI 0 then nI y else y4) := by
  obtain ⟨a1, a2, a3, a4⟩ := hlr y hy
  rw [C3_nextWaiting_L9]
  simp (disch := omega) only [lit32, neg1, nI_add, nI_mul, bS, pt_n, ix_n, rd_n, ws_n, rdo_n, wso_n, setR_1, setL_w, setL_iv, up_setR, up_setL_w, up_setL_iv, nz_0, nz_1, h9, e, e8, a1]
  rw [if_neg (nI_ge (by omega) (by omega)), if_pos trivial, if_pos trivial]
  have k4 : (if y4 = m1 then (if w (137 + 25 * y + 5) + w (137 + 25 * y + 6) ≤ nI 0 then some y4 else some (nI y)) else some y4 : Option Int32) = some (if y4 = m1 ∧ ¬ w (137 + 25 * y + 5) + w (137 + 25 * y + 6) ≤ nI 0 then nI y else y4) := by
    by_cases p : y4 = m1
    · by_cases q : w (137 + 25 * y + 5) + w (137 + 25 * y + 6) ≤ nI 0
      · rw [if_pos p, if_pos q, if_neg (fun h => h.2 q)]
      · rw [if_pos p, if_neg q, if_pos ⟨p, q⟩]
    · rw [if_neg p, if_neg (fun h => p h.1)]
  rw [k4, bS, a3]
  by_cases q : nI (rk y) ≤ y2
  · rw [if_pos q, if_pos q, if_pos q, bS]
  · rw [if_neg q, if_neg q, if_neg q, bS]
noncomputable def fdR (t : Sum Int32 (Int32 × Int32 × Int32 × Int32)) : Int32 := match t with | .inl r => r | .inr t9 => if t9.2.2.2 = m1 then t9.2.2.1 else t9.2.2.2
noncomputable def FJ (v w : Nat → Int32) (rk : Nat → Nat) (y : Nat) (b y2 y3 y4 : Int32) : Prop :=
  (b = m1 ∧ y2 = m1 ∧ y3 = m1 ∧ y4 = m1 ∧ ∀ k, k < y → ¬ w (137 + 25 * k + 3) = nI 0) ∨
  (∃ k, k < y ∧ b = nI k ∧ y2 = nI (rk k) ∧ y3 = nI k ∧ y4 = m1 ∧ w (137 + 25 * k + 3) = nI 0 ∧ clsN v k = 2) ∨
  (∃ k, k < y ∧ b = nI k ∧ y4 = nI k ∧ w (137 + 25 * k + 3) = nI 0 ∧ clsN v k = 1)
theorem feed_L {r c : RS} {g : CG} {L cm : Nat} {v w iv : Nat → Int32} {lo rk : Nat → Nat} (hcm : cm ≤ 30) (h9v : v 9 = nI cm) (h9w : w 9 = nI cm) (hlv : LR v cm lo rk) (hlw : LR w cm lo rk) (heq : ∀ k j, k < cm → j < 9 → j ≠ 2 → v (137 + 25 * k + j) = w (137 + 25 * k + j)) (hru : ∀ k, k < cm → w (137 + 25 * k + 8) = nI 0 ∨ w (137 + 25 * k + 8) = nI 1) : ∀ (d y fu fu2 : Nat) (b y2 y3 y4 : Int32), y + d = cm → d < fu → d < fu2 → FJ v w rk y b y2 y3 y4 →
    ∃ x t, F8_toFeed_L4 (setR r v) fu (nI y) b = some (nI cm, x) ∧ C3_nextWaiting_L9 L g (setL c L w iv) fu2 (nI y) y2 y3 y4 = some t ∧ fdR t = x ∧ ((x = m1 ∧ ∀ k, k < cm → ¬ w (137 + 25 * k + 3) = nI 0) ∨ ∃ k, k < cm ∧ x = nI k ∧ w (137 + 25 * k + 3) = nI 0) := by
  intro d
  induction d with
  | zero =>
    intro y fu fu2 b y2 y3 y4 hy hfu hfu2 hj
    obtain ⟨fu, rfl⟩ : ∃ m, fu = m + 1 := ⟨fu - 1, by omega⟩
    obtain ⟨fu2, rfl⟩ : ∃ m, fu2 = m + 1 := ⟨fu2 - 1, by omega⟩
    obtain rfl : y = cm := by omega
    refine ⟨b, .inr (nI y, y2, y3, y4), ?_, ?_, ?_, ?_⟩
    · rw [F8_toFeed_L4]
      simp (disch := omega) only [lit32, neg1, nI_add, nI_mul, bS, pt_n, ix_n, rd_n, ws_n, rdo_n, wso_n, setR_1, setL_w, setL_iv, up_setR, up_setL_w, up_setL_iv, nz_0, nz_1, h9v]
      rw [if_pos (nI_le (by omega) (by omega))]
    · rw [C3_nextWaiting_L9]
      simp (disch := omega) only [lit32, neg1, nI_add, nI_mul, bS, pt_n, ix_n, rd_n, ws_n, rdo_n, wso_n, setR_1, setL_w, setL_iv, up_setR, up_setL_w, up_setL_iv, nz_0, nz_1, h9w]
      rw [if_pos (nI_le (by omega) (by omega))]
    · unfold fdR
      rcases hj with ⟨rfl, -, rfl, rfl, -⟩ | ⟨k, h1, rfl, -, rfl, rfl, -⟩ | ⟨k, h1, rfl, rfl, -⟩
      · exact if_pos rfl
      · exact if_pos rfl
      · exact if_neg (m1_ne (by omega))
    · rcases hj with ⟨rfl, -, rfl, rfl, h⟩ | ⟨k, h1, rfl, -, -, -, h2, -⟩ | ⟨k, h1, rfl, -, h2, -⟩
      · exact Or.inl ⟨rfl, h⟩
      · exact Or.inr ⟨k, h1, rfl, h2⟩
      · exact Or.inr ⟨k, h1, rfl, h2⟩
  | succ d ih =>
    intro y fu fu2 b y2 y3 y4 hy hfu hfu2 hj
    obtain ⟨fu, rfl⟩ : ∃ m, fu = m + 1 := ⟨fu - 1, by omega⟩
    obtain ⟨fu2, rfl⟩ : ∃ m, fu2 = m + 1 := ⟨fu2 - 1, by omega⟩
    have hyc : y < cm := by omega
    have e3 := heq y 3 hyc (by omega) (by omega)
    have e8 := heq y 8 hyc (by omega) (by omega)
    have e5 := heq y 5 hyc (by omega) (by omega)
    have e6 := heq y 6 hyc (by omega) (by omega)
    by_cases ew : w (137 + 25 * y + 3) = nI 0
    · have ev : v (137 + 25 * y + 3) = nI 0 := e3.trans ew
      rcases hru y hyc with h8 | h8
      · have c8 : ¬ v (137 + 25 * y + 8) = nI 1 := by rw [e8, h8]; exact nI_ne (by omega) (by omega) (by omega)
        rw [feedC_1 hcm h9w hlw hyc ew h8]
        have hc : clsN v y = if w (137 + 25 * y + 5) + w (137 + 25 * y + 6) ≤ nI 0 then 2 else 1 := by
          unfold clsN; rw [if_neg c8, e5, e6]
        have rky := (hlw y hyc).2.2.2
        rcases hj with ⟨rfl, rfl, rfl, rfl, h⟩ | ⟨k, h1, rfl, rfl, rfl, rfl, h2, h3⟩ | ⟨k, h1, rfl, rfl, h2, h3⟩
        · rw [feedF_1 hcm h9v hyc ev]
          have n1 : ¬ nI (rk y) ≤ m1 := by
            rw [Int32.le_iff_toInt_le, nI_toInt (by omega), show m1.toInt = -1 from rfl]; omega
          rw [if_neg n1, if_neg n1]
          refine ih (y + 1) fu fu2 _ _ _ _ (by omega) (by omega) (by omega) ?_
          by_cases q : w (137 + 25 * y + 5) + w (137 + 25 * y + 6) ≤ nI 0
          · rw [if_pos q] at hc
            rw [if_neg (fun p => p.2 q)]
            exact Or.inr (Or.inl ⟨y, by omega, rfl, rfl, rfl, rfl, ew, hc⟩)
          · rw [if_neg q] at hc
            rw [if_pos ⟨rfl, q⟩]
            exact Or.inr (Or.inr ⟨y, by omega, rfl, rfl, ew, hc⟩)
        · rw [feedF_2 hcm h9v hlv hyc (by omega) ev]
          have rkk := (hlw k (by omega)).2.2.2
          refine ih (y + 1) fu fu2 _ _ _ _ (by omega) (by omega) (by omega) ?_
          by_cases q : w (137 + 25 * y + 5) + w (137 + 25 * y + 6) ≤ nI 0
          · rw [if_pos q] at hc
            rw [if_neg (c := m1 = m1 ∧ ¬ w (137 + 25 * y + 5) + w (137 + 25 * y + 6) ≤ nI 0) (fun p => p.2 q)]
            by_cases q2 : rk y ≤ rk k
            · rw [if_neg (by omega), if_pos (nI_le q2 (by omega)), if_pos (nI_le q2 (by omega))]
              exact Or.inr (Or.inl ⟨k, by omega, rfl, rfl, rfl, rfl, h2, h3⟩)
            · rw [if_pos (by omega), if_neg (nI_ge (by omega) (by omega)), if_neg (nI_ge (by omega) (by omega))]
              exact Or.inr (Or.inl ⟨y, by omega, rfl, rfl, rfl, rfl, ew, hc⟩)
          · rw [if_neg q] at hc
            rw [if_pos (c := m1 = m1 ∧ ¬ w (137 + 25 * y + 5) + w (137 + 25 * y + 6) ≤ nI 0) ⟨rfl, q⟩, if_pos (c := clsN v y < clsN v k ∨ (clsN v y = 2 ∧ clsN v k = 2 ∧ rk k < rk y)) (by omega)]
            exact Or.inr (Or.inr ⟨y, by omega, rfl, rfl, ew, hc⟩)
        · rw [feedF_2 hcm h9v hlv hyc (by omega) ev]
          refine ih (y + 1) fu fu2 _ _ _ _ (by omega) (by omega) (by omega) ?_
          have hc2 : 1 ≤ clsN v y := by rw [hc]; split <;> omega
          rw [if_neg (c := clsN v y < clsN v k ∨ (clsN v y = 2 ∧ clsN v k = 2 ∧ rk k < rk y)) (by omega), if_neg (c := nI k = m1 ∧ ¬ w (137 + 25 * y + 5) + w (137 + 25 * y + 6) ≤ nI 0) (fun p => m1_ne (by omega) p.1)]
          exact Or.inr (Or.inr ⟨k, by omega, rfl, rfl, h2, h3⟩)
      · have c0 : clsN v y = 0 := by unfold clsN; rw [if_pos (e8.trans h8)]
        have hF : F8_toFeed_L4 (setR r v) (fu + 1) (nI y) b = some (nI cm, nI y) := by
          rcases hj with ⟨rfl, -⟩ | ⟨k, h1, rfl, -, -, -, h2, h3⟩ | ⟨k, h1, rfl, -, h2, h3⟩
          · rw [feedF_1 hcm h9v hyc ev]
            exact feedF_R hcm h9v hlv hyc c0 d (y + 1) fu (by omega) (by omega)
          · rw [feedF_2 hcm h9v hlv hyc (by omega) ev, if_pos (by omega)]
            exact feedF_R hcm h9v hlv hyc c0 d (y + 1) fu (by omega) (by omega)
          · rw [feedF_2 hcm h9v hlv hyc (by omega) ev, if_pos (by omega)]
            exact feedF_R hcm h9v hlv hyc c0 d (y + 1) fu (by omega) (by omega)
        exact ⟨nI y, .inl (nI y), hF, feedC_r hcm h9w hyc ew h8, rfl, Or.inr ⟨y, hyc, rfl, ew⟩⟩
    · rw [feedF_0 hcm h9v hyc (fun q => ew (e3.symm.trans q)), feedC_0 hcm h9w hyc ew]
      refine ih (y + 1) fu fu2 _ _ _ _ (by omega) (by omega) (by omega) ?_
      rcases hj with ⟨rfl, rfl, rfl, rfl, h⟩ | ⟨k, h1, rfl, rfl, rfl, rfl, h2, h3⟩ | ⟨k, h1, rfl, rfl, h2, h3⟩
      · refine Or.inl ⟨rfl, rfl, rfl, rfl, fun k hk => ?_⟩
        by_cases e : k = y
        · rw [e]; exact ew
        · exact h k (by omega)
      · exact Or.inr (Or.inl ⟨k, by omega, rfl, rfl, rfl, rfl, h2, h3⟩)
      · exact Or.inr (Or.inr ⟨k, by omega, rfl, rfl, h2, h3⟩)
theorem nI_cl {x : Int32} {a N : Nat} (e : x = nI a) (ha : a < N) (hN : N < 2 ^ 31) : x = nI x.toNatClampNeg ∧ x.toNatClampNeg < N := by
  subst e; rw [nI_clamp (by omega)]; exact ⟨rfl, ha⟩
theorem toFeed_ok {r c : RS} {g : CG} {L sm lm cm B U : Nat} {v w iv : Nat → Int32} (h : QX c g L v w iv sm lm cm B U) :
    ∃ x, F8_toFeed (setR r v) = some x ∧ C3_nextWaiting g (setL c L w iv) L = some x ∧ ((x = m1 ∧ ∀ k, k < cm → ¬ sC w k 3 = nI 0) ∨ ∃ k, k < cm ∧ x = nI k ∧ sC w k 3 = nI 0) := by
  have hcm := h.a.cm30; have hlm := h.a.lm6
  have h9w : w 9 = nI cm := by rw [sA_r (v := w) (by omega)]; exact h.a.w9
  have h9v : v 9 = nI cm := by rw [h.ra (i := 9) (by omega) (by omega) (by omega)]; exact h9w
  have C : ∀ k j, k < cm → j < 25 → w (137 + 25 * k + j) = sC w k j := fun k j a b => sC_r (v := w) (by omega) b
  have lw : LR w cm (fun k => (w (137 + 25 * k + 0)).toNatClampNeg) (fun k => (w (113 + 4 * (w (137 + 25 * k + 0)).toNatClampNeg + 0)).toNatClampNeg) := fun k hk => by
    obtain ⟨l, l1, l2⟩ := h.c.lot k hk
    rw [← C k 0 hk (by omega)] at l2
    have a := nI_cl l2 (N := 6) (by omega) (by omega)
    have a3 : (w (137 + 25 * k + 0)).toNatClampNeg = l := by rw [l2, nI_clamp (by omega)]
    obtain ⟨p, p1, p2⟩ := h.l.rank l l1
    rw [← sL_r (v := w) (by omega) (by omega), ← a3] at p2
    have b := nI_cl p2 (N := 10) (by omega) (by omega)
    exact ⟨a.1, a.2, b.1, Nat.le_of_lt_succ b.2⟩
  have lv : LR v cm (fun k => (w (137 + 25 * k + 0)).toNatClampNeg) (fun k => (w (113 + 4 * (w (137 + 25 * k + 0)).toNatClampNeg + 0)).toNatClampNeg) := fun k hk => by
    obtain ⟨a1, a2, a3, a4⟩ := lw k hk
    refine ⟨(h.rc hk (by omega) (by omega)).trans a1, a2, ?_, a4⟩
    obtain ⟨l, l1, l2⟩ := h.c.lot k hk
    rw [← C k 0 hk (by omega)] at l2
    have b3 : (w (137 + 25 * k + 0)).toNatClampNeg = l := by rw [l2, nI_clamp (by omega)]
    refine Eq.trans ?_ a3
    simp only [b3]
    rw [sL_r (v := v) (by omega) (by omega), sL_r (v := w) (by omega) (by omega)]
    exact h.l.eql l 0 l1 (by omega)
  obtain ⟨x, t, g1, g2, g3, g4⟩ := feed_L (r := r) (c := c) (g := g) (L := L) (iv := iv) hcm h9v h9w lv lw (fun k j hk hj h2 => h.rc hk hj h2) (fun k hk => by
    rcases h.c.rush k hk with q | q
    · exact Or.inl ((C k 8 hk (by omega)).trans q)
    · exact Or.inr ((C k 8 hk (by omega)).trans q.1)) cm 0 FUEL FUEL m1 m1 m1 m1 (by omega) (by show cm < 10000; omega) (by show cm < 10000; omega) (Or.inl ⟨rfl, rfl, rfl, rfl, fun k hk => by omega⟩)
  refine ⟨x, ?_, ?_, ?_⟩
  · unfold F8_toFeed
    simp only [lit32, neg1]
    rw [g1]; rfl
  · unfold C3_nextWaiting
    simp only [lit32, neg1]
    rw [g2, bS, ← g3]
    unfold fdR
    rcases t with t | t
    · rfl
    · by_cases q : t.2.2.2 = m1
      · simp only [if_pos q, bS]
      · simp only [if_neg q, bS]
  · rcases g4 with ⟨a, b⟩ | ⟨k, a, b, d⟩
    · exact Or.inl ⟨a, fun k hk => by rw [← C k 3 hk (by omega)]; exact b k hk⟩
    · exact Or.inr ⟨k, a, b, by rw [← C k 3 a (by omega)]; exact d⟩
end
section
theorem QR.rush {v w iv : Nat → Int32} {bp dl df tx : Nat → Nat → Int32} {nt sm lm cm B U q : Nat} {x : Int32} (hx : x = nI 0 ∨ (x = nI 1 ∧ sC w q 3 = nI 0)) (h : QR v w iv bp dl df tx nt sm lm cm B U) (hq : q < cm) : QR (upd v (137 + 25 * q + 8) x) (upd w (137 + 25 * q + 8) x) iv bp dl df tx nt sm lm cm B U := by
  have hcm := h.a.cm30
  refine ⟨?_, ?_, ?_, ?_, ?_, ?_, ?_⟩
  · simp (disch := omega) only [sA_A, sA_S, sA_L, sA_C, sA_F, sA_P, sA_E, sA_M, sS_A, sS_S, sS_L, sS_C, sS_F, sS_P, sS_E, sS_M, sL_A, sL_S, sL_L, sL_C, sL_F, sL_P, sL_E, sL_M, sC_A, sC_S, sC_L, sC_C, sC_F, sC_P, sC_E, sC_M, sF_A, sF_S, sF_L, sF_C, sF_F, sF_P, sF_E, sF_M, sP_A, sP_S, sP_L, sP_C, sP_F, sP_P, sP_E, sP_M, sE_A, sE_S, sE_L, sE_C, sE_F, sE_P, sE_E, sE_M]; exact h.a
  · simp (disch := omega) only [sA_A, sA_S, sA_L, sA_C, sA_F, sA_P, sA_E, sA_M, sS_A, sS_S, sS_L, sS_C, sS_F, sS_P, sS_E, sS_M, sL_A, sL_S, sL_L, sL_C, sL_F, sL_P, sL_E, sL_M, sC_A, sC_S, sC_L, sC_C, sC_F, sC_P, sC_E, sC_M, sF_A, sF_S, sF_L, sF_C, sF_F, sF_P, sF_E, sF_M, sP_A, sP_S, sP_L, sP_C, sP_F, sP_P, sP_E, sP_M, sE_A, sE_S, sE_L, sE_C, sE_F, sE_P, sE_E, sE_M]; exact h.s.cardk (by decide) (by decide)
  · simp (disch := omega) only [sA_A, sA_S, sA_L, sA_C, sA_F, sA_P, sA_E, sA_M, sS_A, sS_S, sS_L, sS_C, sS_F, sS_P, sS_E, sS_M, sL_A, sL_S, sL_L, sL_C, sL_F, sL_P, sL_E, sL_M, sC_A, sC_S, sC_L, sC_C, sC_F, sC_P, sC_E, sC_M, sF_A, sF_S, sF_L, sF_C, sF_F, sF_P, sF_E, sF_M, sP_A, sP_S, sP_L, sP_C, sP_F, sP_P, sP_E, sP_M, sE_A, sE_S, sE_L, sE_C, sE_F, sE_P, sE_E, sE_M]; exact QC.rushed hx h.c
  · simp (disch := omega) only [sA_A, sA_S, sA_L, sA_C, sA_F, sA_P, sA_E, sA_M, sS_A, sS_S, sS_L, sS_C, sS_F, sS_P, sS_E, sS_M, sL_A, sL_S, sL_L, sL_C, sL_F, sL_P, sL_E, sL_M, sC_A, sC_S, sC_L, sC_C, sC_F, sC_P, sC_E, sC_M, sF_A, sF_S, sF_L, sF_C, sF_F, sF_P, sF_E, sF_M, sP_A, sP_S, sP_L, sP_C, sP_F, sP_P, sP_E, sP_M, sE_A, sE_S, sE_L, sE_C, sE_F, sE_P, sE_E, sE_M]; exact h.n.cardk (by omega)
  · simp (disch := omega) only [sA_A, sA_S, sA_L, sA_C, sA_F, sA_P, sA_E, sA_M, sS_A, sS_S, sS_L, sS_C, sS_F, sS_P, sS_E, sS_M, sL_A, sL_S, sL_L, sL_C, sL_F, sL_P, sL_E, sL_M, sC_A, sC_S, sC_L, sC_C, sC_F, sC_P, sC_E, sC_M, sF_A, sF_S, sF_L, sF_C, sF_F, sF_P, sF_E, sF_M, sP_A, sP_S, sP_L, sP_C, sP_F, sP_P, sP_E, sP_M, sE_A, sE_S, sE_L, sE_C, sE_F, sE_P, sE_E, sE_M]; exact h.l.cardk (by omega)
  · simp (disch := omega) only [sA_A, sA_S, sA_L, sA_C, sA_F, sA_P, sA_E, sA_M, sS_A, sS_S, sS_L, sS_C, sS_F, sS_P, sS_E, sS_M, sL_A, sL_S, sL_L, sL_C, sL_F, sL_P, sL_E, sL_M, sC_A, sC_S, sC_L, sC_C, sC_F, sC_P, sC_E, sC_M, sF_A, sF_S, sF_L, sF_C, sF_F, sF_P, sF_E, sF_M, sP_A, sP_S, sP_L, sP_C, sP_F, sP_P, sP_E, sP_M, sE_A, sE_S, sE_L, sE_C, sE_F, sE_P, sE_E, sE_M]; exact h.d
  · simp (disch := omega) only [sA_A, sA_S, sA_L, sA_C, sA_F, sA_P, sA_E, sA_M, sS_A, sS_S, sS_L, sS_C, sS_F, sS_P, sS_E, sS_M, sL_A, sL_S, sL_L, sL_C, sL_F, sL_P, sL_E, sL_M, sC_A, sC_S, sC_L, sC_C, sC_F, sC_P, sC_E, sC_M, sF_A, sF_S, sF_L, sF_C, sF_F, sF_P, sF_E, sF_M, sP_A, sP_S, sP_L, sP_C, sP_F, sP_P, sP_E, sP_M, sE_A, sE_S, sE_L, sE_C, sE_F, sE_P, sE_E, sE_M]; exact h.wh.up (by decide) (by decide)
noncomputable def FN (w : Nat → Int32) (sm cm : Nat) : Prop := (sm = 0 ∨ w 5 ≤ nI 0 ∨ sS w 0 2 ≠ m1 ∨ sS w 0 7 ≠ nI 0) ∨ ∀ k, k < cm → ¬ sC w k 3 = nI 0
theorem feed_ok {r c : RS} {g : CG} {L sm lm cm B U : Nat} {v w iv : Nat → Int32} (hL : L < 12) (hg : g.nt < 2 ^ 31) (h : QX c g L v w iv sm lm cm B U) :
    ∃ v' w' iv', F8_feeds (setR r v) = some (setR r v') ∧ C3_feed g (setL c L w iv) L = some (setL c L w' iv') ∧ QX c g L v' w' iv' sm lm cm B U ∧ ((FN w sm cm ∧ v' = v ∧ w' = w ∧ iv' = iv) ∨ (¬ FN w sm cm ∧ w' 1060 = nI 1)) := by
  have hcm := h.a.cm30; have hsm := h.a.sm6
  have h7w : w 7 = nI sm := by rw [sA_r (v := w) (by omega)]; exact h.a.w7
  have h7v : v 7 = nI sm := by rw [h.ra (i := 7) (by omega) (by omega) (by omega)]; exact h7w
  have h5v : v 5 = w 5 := h.ra (by omega) (by omega) (by omega)
  have s2 : w (17 + 16 * 0 + 2) = sS w 0 2 := sS_r (v := w) (by omega) (by omega)
  have s7 : w (17 + 16 * 0 + 7) = sS w 0 7 := sS_r (v := w) (by omega) (by omega)
  have mm : m1 = m1 := rfl
  have zz : nI 0 = nI 0 := rfl
  by_cases hc : sm = 0 ∨ w 5 ≤ nI 0 ∨ sS w 0 2 ≠ m1 ∨ sS w 0 7 ≠ nI 0
  · refine ⟨v, w, iv, ?_, ?_, h, Or.inl ⟨Or.inl hc, rfl, rfl, rfl⟩⟩
    · unfold F8_feeds
      simp (disch := omega) only [lit32, neg1, nI_add, nI_mul, bS, pt_n, ix_n, rd_n, ws_n, rdo_n, wso_n, setR_1, setL_w, setL_iv, up_setR, up_setL_w, up_setL_iv, nz_0, nz_1, h7v, F8_of_v, h5v]
      by_cases c1 : nI sm ≤ nI 0
      · rw [if_pos c1, bS, if_pos zz, bS, if_pos mm]
      · have c0 : ¬ sm = 0 := fun q => c1 (nI_le (by omega) (by omega))
        have e2 : v (17 + 16 * 0 + 2) = w (17 + 16 * 0 + 2) := h.rs (by omega) (by omega) (by omega)
        have e7 : v (17 + 16 * 0 + 7) = w (17 + 16 * 0 + 7) := h.rs (by omega) (by omega) (by omega)
        rw [if_neg c1, e2, e7]
        by_cases c2 : w (17 + 16 * 0 + 2) = m1
        · rw [if_pos c2]
          by_cases c7 : w (17 + 16 * 0 + 7) = nI 0
          · rw [if_pos c7]
            by_cases c5 : w 5 ≤ nI 0
            · rw [if_pos c5, bS, if_pos zz, bS, if_pos mm]
            · exfalso
              rcases hc with q | q | q | q
              · exact c0 q
              · exact c5 q
              · exact q (s2.symm.trans c2)
              · exact q (s7.symm.trans c7)
          · rw [if_neg c7, bS, if_pos zz, bS, if_pos mm]
        · rw [if_neg c2, bS, if_pos zz, bS, if_pos mm]
    · unfold C3_feed
      simp (disch := omega) only [lit32, neg1, nI_add, nI_mul, bS, pt_n, ix_n, rd_n, ws_n, rdo_n, wso_n, setR_1, setL_w, setL_iv, up_setR, up_setL_w, up_setL_iv, nz_0, nz_1, h7w]
      by_cases c0 : nI sm = nI 0
      · rw [if_pos c0]
      · rw [if_neg c0]
        by_cases c5 : w 5 ≤ nI 0
        · rw [if_pos c5]
        · rw [if_neg c5]
          by_cases c2 : w (17 + 16 * 0 + 2) = m1
          · rw [if_pos c2]
            by_cases c7 : w (17 + 16 * 0 + 7) = nI 0
            · exfalso
              rcases hc with q | q | q | q
              · exact c0 (congrArg nI q)
              · exact c5 q
              · exact q (s2.symm.trans c2)
              · exact q (s7.symm.trans c7)
            · rw [if_neg c7]
          · rw [if_neg c2]
  · have c0 : ¬ sm = 0 := fun q => hc (Or.inl q)
    have c5 : ¬ w 5 ≤ nI 0 := fun q => hc (Or.inr (Or.inl q))
    have c2 : w (17 + 16 * 0 + 2) = m1 := by
      by_cases q : w (17 + 16 * 0 + 2) = m1
      · exact q
      · exact absurd (Or.inr (Or.inr (Or.inl (by rw [← s2]; exact q)))) hc
    have c7 : w (17 + 16 * 0 + 7) = nI 0 := by
      by_cases q : w (17 + 16 * 0 + 7) = nI 0
      · exact q
      · exact absurd (Or.inr (Or.inr (Or.inr (by rw [← s7]; exact q)))) hc
    have e2 : v (17 + 16 * 0 + 2) = m1 := (h.rs (by omega) (by omega) (by omega)).trans c2
    have e7 : v (17 + 16 * 0 + 7) = nI 0 := (h.rs (by omega) (by omega) (by omega)).trans c7
    obtain ⟨x, x1, x2, x3⟩ := toFeed_ok (r := r) h
    have hF : F8_feeds (setR r v) = if x = m1 then some (setR r v) else ((ws (setR r v) 1 1037 (nI 5) (w 5 - nI 1)).bind fun u10 => (ws u10 1 1037 (nI 12) (u10 1 12 + nI 1)).bind fun u12 => (F8_setsCard u12 x (nI 8) (nI 0)).bind fun u14 => F8_enters u14 (nI 0) x) := by
      unfold F8_feeds
      simp only [lit32, neg1]
      rw [setR_1, h7v, if_neg (nI_ge (by omega) (by omega)), F8_of_v (by omega) (by omega), bS, e2, if_pos mm, F8_of_v (by omega) (by omega), bS, e7, if_pos zz, h5v, if_neg c5, bS, if_neg (nI_ne (by omega) (by omega) (by omega)), x1, bS, bS]
      simp only [bSome]
    have hC : C3_feed g (setL c L w iv) L = if x = m1 then some (setL c L w iv) else ((pt (setL c L w iv) (10 + L) 5 (w 5 - nI 1)).bind fun u11 => (wso u11 (10 + L) 12 5 (nI 0) ((u11 (10 + L) (12 + 0)) + nI 1)).bind fun u13 => (ix 30 x).bind fun n15 => (pt u13 (10 + L) (137 + 25 * n15 + 8) (nI 0)).bind fun u17 => (C3_enter g u17 L x (nI 0)).bind fun u19 => (pt u19 (10 + L) 1060 (nI 1)).bind fun u21 => some u21) := by
      unfold C3_feed
      simp only [lit32, neg1]
      rw [setL_w, h7w, if_neg (nI_ne c0 (by omega) (by omega)), if_neg c5, c2, if_pos mm, c7, if_pos zz, x2, bS]
      simp only [bSome]
    rcases x3 with ⟨rfl, x3⟩ | ⟨q, hq, rfl, x3⟩
    · rw [if_pos mm] at hF
      rw [if_pos mm] at hC
      exact ⟨v, w, iv, hF, hC, h, Or.inl ⟨Or.inr x3, rfl, rfl, rfl⟩⟩
    · rw [if_neg (m1_ne (by omega))] at hF
      rw [if_neg (m1_ne (by omega))] at hC
      have hq30 : q < 30 := by omega
      have hQ : QX c g L (upd (upd (upd v 5 (w 5 - nI 1)) 12 (v 12 + nI 1)) (137 + 25 * q + 8) (nI 0)) (upd (upd (upd w 5 (w 5 - nI 1)) 12 (w 12 + nI 1)) (137 + 25 * q + 8) (nI 0)) iv sm lm cm B U := by
        rw [h.ra (i := 12) (by omega) (by omega) (by omega)]
        exact QR.rush (Or.inl rfl) (QR.tot (by omega) (QR.tot (by omega) h)) hq
      obtain ⟨v', w', iv', k1, k2, k3, k4, k5, k6⟩ := enter_ok (r := r) hL hg hQ (s := 0) (q := q) (a := 0) (by omega) hq (by simp (disch := first | decide | assumption) only [sA_A, sA_S, sA_L, sA_C, sA_F, sA_P, sA_E, sA_M, sS_A, sS_S, sS_L, sS_C, sS_F, sS_P, sS_E, sS_M, sL_A, sL_S, sL_L, sL_C, sL_F, sL_P, sL_E, sL_M, sC_A, sC_S, sC_L, sC_C, sC_F, sC_P, sC_E, sC_M, sF_A, sF_S, sF_L, sF_C, sF_F, sF_P, sF_E, sF_M, sP_A, sP_S, sP_L, sP_C, sP_F, sP_P, sP_E, sP_M, sE_A, sE_S, sE_L, sE_C, sE_F, sE_P, sE_E, sE_M]; exact h.s.nh1 hcm hq (by rw [x3]; exact nI_ne (by omega) (by omega) (by omega))) (Or.inl rfl) (by simp (disch := first | decide | assumption) only [sA_A, sA_S, sA_L, sA_C, sA_F, sA_P, sA_E, sA_M, sS_A, sS_S, sS_L, sS_C, sS_F, sS_P, sS_E, sS_M, sL_A, sL_S, sL_L, sL_C, sL_F, sL_P, sL_E, sL_M, sC_A, sC_S, sC_L, sC_C, sC_F, sC_P, sC_E, sC_M, sF_A, sF_S, sF_L, sF_C, sF_F, sF_P, sF_E, sF_M, sP_A, sP_S, sP_L, sP_C, sP_F, sP_P, sP_E, sP_M, sE_A, sE_S, sE_L, sE_C, sE_F, sE_P, sE_E, sE_M]; rw [up2_ne (by decide)]; exact x3) (by simp (disch := first | decide | assumption) only [sA_A, sA_S, sA_L, sA_C, sA_F, sA_P, sA_E, sA_M, sS_A, sS_S, sS_L, sS_C, sS_F, sS_P, sS_E, sS_M, sL_A, sL_S, sL_L, sL_C, sL_F, sL_P, sL_E, sL_M, sC_A, sC_S, sC_L, sC_C, sC_F, sC_P, sC_E, sC_M, sF_A, sF_S, sF_L, sF_C, sF_F, sF_P, sF_E, sF_M, sP_A, sP_S, sP_L, sP_C, sP_F, sP_P, sP_E, sP_M, sE_A, sE_S, sE_L, sE_C, sE_F, sE_P, sE_E, sE_M]; rw [up2_eq])
      refine ⟨v', upd w' 1060 (nI 1), iv', ?_, ?_, k3.upM, Or.inr ⟨?_, upd_e⟩⟩
      · rw [hF]
        simp (disch := omega) only [lit32, neg1, nI_add, nI_mul, bS, pt_n, ix_n, rd_n, ws_n, rdo_n, wso_n, setR_1, setL_w, setL_iv, up_setR, up_setL_w, up_setL_iv, nz_0, nz_1, F8_setsCard_s, upd_n]
        exact k1
      · rw [hC]
        simp (disch := omega) only [lit32, neg1, nI_add, nI_mul, bS, pt_n, ix_n, rd_n, ws_n, rdo_n, wso_n, setR_1, setL_w, setL_iv, up_setR, up_setL_w, up_setL_iv, nz_0, nz_1, upd_n]
        simp only [Nat.add_zero]
        rw [k2]
        simp (disch := omega) only [lit32, neg1, nI_add, nI_mul, bS, pt_n, ix_n, rd_n, ws_n, rdo_n, wso_n, setR_1, setL_w, setL_iv, up_setR, up_setL_w, up_setL_iv, nz_0, nz_1]
      · rintro (p | p)
        · exact hc p
        · exact p q hq x3
theorem tray_in {r c : RS} {g : CG} {L sm lm cm B U l : Nat} (hL : L < 12) (hl : l < lm) : ∀ (n fu fu2 y : Nat) (v w iv : Nat → Int32) (x : Int32), QX c g L v w iv sm lm cm B U → cnt cm (stC (sC w) 2) = n → y + n ≤ 30 → n < fu → n < fu2 → (x = m1 ∨ ∃ q, q < cm ∧ x = nI q) →
    ∃ v' w' iv' x1 y2 x2, F8_clearsTray_L19 (nI l) fu x (setR r v) = some (x1, setR r v') ∧ C3_emptyTray_L31 (nI l) L g fu2 (nI y) x (setL c L w iv) = some (y2, x2, setL c L w' iv') ∧ QX c g L v' w' iv' sm lm cm B U ∧ (((∀ q, q < cm → x = nI q → ¬ sC w q 3 = nI 2) ∧ v' = v ∧ w' = w ∧ iv' = iv) ∨ ((∃ q, q < cm ∧ x = nI q ∧ sC w q 3 = nI 2) ∧ w' 1060 = nI 1)) := by
  intro n
  induction n with
  | zero =>
    intro fu fu2 y v w iv x h hn hy hfu hfu2 hx
    obtain ⟨fu, rfl⟩ : ∃ m, fu = m + 1 := ⟨fu - 1, by omega⟩
    obtain ⟨fu2, rfl⟩ : ∃ m, fu2 = m + 1 := ⟨fu2 - 1, by omega⟩
    have hcm := h.a.cm30
    have nt : ∀ q, q < cm → ¬ sC w q 3 = nI 2 := fun q hq e => by
      have := cnt_pos (p := stC (sC w) 2) hq (decide_eq_true e); omega
    refine ⟨v, w, iv, x, nI y, x, ?_, ?_, h, Or.inl ⟨fun q hq _ => nt q hq, rfl, rfl, rfl⟩⟩
    · rw [F8_clearsTray_L19]
      rcases hx with rfl | ⟨q, hq, rfl⟩
      · rw [if_pos (show m1 = -1 from rfl)]
      · have hq30 : q < 30 := by omega
        simp (disch := omega) only [lit32, neg1, nI_add, nI_mul, bS, pt_n, ix_n, rd_n, ws_n, rdo_n, wso_n, setR_1, setL_w, setL_iv, up_setR, up_setL_w, up_setL_iv, nz_0, nz_1, F8_ofCard_v]
        rw [if_neg (m1_ne (by omega)), if_neg]
        rw [h.rc hq (by omega) (by omega), sC_r (v := w) (by omega) (by omega)]
        exact nt q hq
    · rw [C3_emptyTray_L31]
      by_cases hy3 : y = 30
      · simp (disch := omega) only [lit32, neg1, nI_add, nI_mul, bS, pt_n, ix_n, rd_n, ws_n, rdo_n, wso_n, setR_1, setL_w, setL_iv, up_setR, up_setL_w, up_setL_iv, nz_0, nz_1]
        rw [if_pos (nI_le (by omega) (by omega))]
      · rcases hx with rfl | ⟨q, hq, rfl⟩
        · simp only [lit32, neg1]
          rw [if_neg (nI_ge (by omega) (by omega)), if_pos trivial]
        · have hq30 : q < 30 := by omega
          simp (disch := omega) only [lit32, neg1, nI_add, nI_mul, bS, pt_n, ix_n, rd_n, ws_n, rdo_n, wso_n, setR_1, setL_w, setL_iv, up_setR, up_setL_w, up_setL_iv, nz_0, nz_1]
          rw [if_neg (nI_ge (by omega) (by omega)), if_neg (m1_ne (by omega)), if_neg]
          rw [sC_r (v := w) (by omega) (by omega)]
          exact nt q hq
  | succ n ih =>
    intro fu fu2 y v w iv x h hn hy hfu hfu2 hx
    obtain ⟨fu, rfl⟩ : ∃ m, fu = m + 1 := ⟨fu - 1, by omega⟩
    obtain ⟨fu2, rfl⟩ : ∃ m, fu2 = m + 1 := ⟨fu2 - 1, by omega⟩
    have hcm := h.a.cm30; have hlm := h.a.lm6
    by_cases hT : ∃ q, q < cm ∧ x = nI q ∧ sC w q 3 = nI 2
    · obtain ⟨q, hq, rfl, e3⟩ := hT
      have hq30 : q < 30 := by omega
      have hl6 : l < 6 := by omega
      obtain ⟨v1, w1, iv1, k1, k2, k3, k4, k5, k6, k7⟩ := leave_ok (r := r) hL h hq (a := 2) (by omega) e3 (h.c.r0 hq (by omega) (by omega) e3) (h.s.nh1 hcm hq (by rw [e3]; exact nI_ne (by omega) (by omega) (by omega)))
      obtain ⟨x', x1, x2, x3⟩ := next_ok (r := r) hL k3.upM hl (w := upd w1 1060 (nI 1))
      have hd : cnt cm (stC (sC (upd w1 1060 (nI 1))) 2) = n := by
        rw [sC_M]
        have := cnt_dec (p := stC (sC w) 2) (q := stC (sC w1) 2) hq (fun i hi hne => by unfold stC; rw [k6 i hne]) (decide_eq_true e3) (decide_eq_false (by rw [k5]; exact nI_ne (by omega) (by omega) (by omega)))
        omega
      obtain ⟨v2, w2, iv2, z1, y2, z2, j1, j2, j3, j4⟩ := ih fu fu2 (y + 1) v1 (upd w1 1060 (nI 1)) iv1 x' k3.upM hd (by omega) (by omega) (by omega) (by
        rcases x3 with q | ⟨q, q1, q2, -⟩
        · exact Or.inl q
        · exact Or.inr ⟨q, q1, q2⟩)
      refine ⟨v2, w2, iv2, z1, y2, z2, ?_, ?_, j3, Or.inr ⟨⟨q, hq, rfl, e3⟩, ?_⟩⟩
      · rw [F8_clearsTray_L19]
        simp (disch := omega) only [lit32, neg1, nI_add, nI_mul, bS, pt_n, ix_n, rd_n, ws_n, rdo_n, wso_n, setR_1, setL_w, setL_iv, up_setR, up_setL_w, up_setL_iv, nz_0, nz_1, F8_ofCard_v]
        rw [if_neg (m1_ne (by omega)), if_pos (by rw [h.rc hq (by omega) (by omega), sC_r (v := w) (by omega) (by omega)]; exact e3), k1, bS, x1, bS]
        exact j1
      · rw [C3_emptyTray_L31]
        simp (disch := omega) only [lit32, neg1, nI_add, nI_mul, bS, pt_n, ix_n, rd_n, ws_n, rdo_n, wso_n, setR_1, setL_w, setL_iv, up_setR, up_setL_w, up_setL_iv, nz_0, nz_1]
        rw [if_neg (nI_ge (by omega) (by omega)), if_neg (m1_ne (by omega)), if_pos (by rw [sC_r (v := w) (by omega) (by omega)]; exact e3), k2]
        simp (disch := omega) only [lit32, neg1, nI_add, nI_mul, bS, pt_n, ix_n, rd_n, ws_n, rdo_n, wso_n, setR_1, setL_w, setL_iv, up_setR, up_setL_w, up_setL_iv, nz_0, nz_1]
        rw [x2, bS]
        exact j2
      · rcases j4 with ⟨-, -, rfl, -⟩ | ⟨-, j4⟩
        · exact upd_e
        · exact j4
    · have nt : ∀ q, q < cm → x = nI q → ¬ sC w q 3 = nI 2 := fun q hq e e3 => hT ⟨q, hq, e, e3⟩
      refine ⟨v, w, iv, x, nI y, x, ?_, ?_, h, Or.inl ⟨nt, rfl, rfl, rfl⟩⟩
      · rw [F8_clearsTray_L19]
        rcases hx with rfl | ⟨q, hq, rfl⟩
        · rw [if_pos (show m1 = -1 from rfl)]
        · have hq30 : q < 30 := by omega
          simp (disch := omega) only [lit32, neg1, nI_add, nI_mul, bS, pt_n, ix_n, rd_n, ws_n, rdo_n, wso_n, setR_1, setL_w, setL_iv, up_setR, up_setL_w, up_setL_iv, nz_0, nz_1, F8_ofCard_v]
          rw [if_neg (m1_ne (by omega)), if_neg]
          rw [h.rc hq (by omega) (by omega), sC_r (v := w) (by omega) (by omega)]
          exact nt q hq rfl
      · rw [C3_emptyTray_L31]
        rcases hx with rfl | ⟨q, hq, rfl⟩
        · simp only [lit32, neg1]
          rw [if_neg (nI_ge (by omega) (by omega)), if_pos trivial]
        · have hq30 : q < 30 := by omega
          simp (disch := omega) only [lit32, neg1, nI_add, nI_mul, bS, pt_n, ix_n, rd_n, ws_n, rdo_n, wso_n, setR_1, setL_w, setL_iv, up_setR, up_setL_w, up_setL_iv, nz_0, nz_1]
          rw [if_neg (nI_ge (by omega) (by omega)), if_neg (m1_ne (by omega)), if_neg]
          rw [sC_r (v := w) (by omega) (by omega)]
          exact nt q hq rfl
noncomputable def TQ (c : RS) (g : CG) (L cm : Nat) (w iv : Nat → Int32) (l : Nat) : Prop := ∀ q, q < cm → C4_nextCard g (setL c L w iv) L l = some (nI q) → ¬ sC w q 3 = nI 2
theorem trayF_0 {r c : RS} {g : CG} {L sm lm cm B U : Nat} {v w iv : Nat → Int32} (hL : L < 12) (h : QX c g L v w iv sm lm cm B U) (h0 : cnt cm (stC (sC w) 2) = 0) : ∀ (d l fu : Nat), l + d = lm → d < fu → F8_clearsTray_L2 fu (nI l) (setR r v) = some (nI lm, setR r v) := by
  have hlm := h.a.lm6; have hcm := h.a.cm30
  have h8v : v 8 = nI lm := by rw [h.ra (i := 8) (by omega) (by omega) (by omega), sA_r (v := w) (by omega)]; exact h.a.w8
  intro d
  induction d with
  | zero =>
    intro l fu hy hfu
    obtain ⟨fu, rfl⟩ : ∃ m, fu = m + 1 := ⟨fu - 1, by omega⟩
    obtain rfl : l = lm := by omega
    rw [F8_clearsTray_L2]
    simp (disch := omega) only [lit32, neg1, nI_add, nI_mul, bS, pt_n, ix_n, rd_n, ws_n, rdo_n, wso_n, setR_1, setL_w, setL_iv, up_setR, up_setL_w, up_setL_iv, nz_0, nz_1, h8v]
    rw [if_pos (nI_le (by omega) (by omega))]
  | succ d ih =>
    intro l fu hy hfu
    obtain ⟨fu, rfl⟩ : ∃ m, fu = m + 1 := ⟨fu - 1, by omega⟩
    obtain ⟨x, x1, x2, x3⟩ := next_ok (r := r) hL h (l := l) (by omega)
    obtain ⟨v', w', iv', z1, y2, z2, j1, j2, j3, j4⟩ := tray_in (r := r) hL (l := l) (by omega) 0 FUEL FUEL 0 v w iv x h h0 (by omega) (by show 0 < 10000; omega) (by show 0 < 10000; omega) (by
      rcases x3 with q | ⟨q, q1, q2, -⟩
      · exact Or.inl q
      · exact Or.inr ⟨q, q1, q2⟩)
    have hv : v' = v := by
      rcases j4 with ⟨-, q, -⟩ | ⟨⟨q, q1, q2, q3⟩, -⟩
      · exact q
      · have := cnt_pos (p := stC (sC w) 2) q1 (decide_eq_true q3); omega
    rw [F8_clearsTray_L2]
    simp (disch := omega) only [lit32, neg1, nI_add, nI_mul, bS, pt_n, ix_n, rd_n, ws_n, rdo_n, wso_n, setR_1, setL_w, setL_iv, up_setR, up_setL_w, up_setL_iv, nz_0, nz_1, h8v]
    rw [if_neg (nI_ge (by omega) (by omega)), x1, bS, j1, bS, hv]
    exact ih (l + 1) fu (by omega) (by omega)
theorem tray_out {r c : RS} {g : CG} {L sm lm cm B U : Nat} (hL : L < 12) : ∀ (d l fu fu2 : Nat) (v w iv : Nat → Int32), l + d = lm → d < fu → d < fu2 → QX c g L v w iv sm lm cm B U →
    ∃ v' w' iv' y2, F8_clearsTray_L2 fu (nI l) (setR r v) = some (nI lm, setR r v') ∧ C3_emptyTray_L2 L g fu2 (nI l) (setL c L w iv) = some (y2, setL c L w' iv') ∧ QX c g L v' w' iv' sm lm cm B U ∧ (((∀ l', l ≤ l' → l' < lm → TQ c g L cm w iv l') ∧ v' = v ∧ w' = w ∧ iv' = iv) ∨ (¬ (∀ l', l ≤ l' → l' < lm → TQ c g L cm w iv l') ∧ w' 1060 = nI 1) ∨ (w 1060 = nI 1 ∧ w' 1060 = nI 1)) := by
  intro d
  induction d with
  | zero =>
    intro l fu fu2 v w iv hy hfu hfu2 h
    obtain ⟨fu, rfl⟩ : ∃ m, fu = m + 1 := ⟨fu - 1, by omega⟩
    obtain ⟨fu2, rfl⟩ : ∃ m, fu2 = m + 1 := ⟨fu2 - 1, by omega⟩
    obtain rfl : l = lm := by omega
    have hlm := h.a.lm6
    have h8w : w 8 = nI l := by rw [sA_r (v := w) (by omega)]; exact h.a.w8
    have h8v : v 8 = nI l := by rw [h.ra (i := 8) (by omega) (by omega) (by omega)]; exact h8w
    refine ⟨v, w, iv, nI l, ?_, ?_, h, Or.inl ⟨fun l' a b => by omega, rfl, rfl, rfl⟩⟩
    · rw [F8_clearsTray_L2]
      simp (disch := omega) only [lit32, neg1, nI_add, nI_mul, bS, pt_n, ix_n, rd_n, ws_n, rdo_n, wso_n, setR_1, setL_w, setL_iv, up_setR, up_setL_w, up_setL_iv, nz_0, nz_1, h8v]
      rw [if_pos (nI_le (by omega) (by omega))]
    · rw [C3_emptyTray_L2]
      simp (disch := omega) only [lit32, neg1, nI_add, nI_mul, bS, pt_n, ix_n, rd_n, ws_n, rdo_n, wso_n, setR_1, setL_w, setL_iv, up_setR, up_setL_w, up_setL_iv, nz_0, nz_1, h8w]
      rw [if_pos (nI_le (by omega) (by omega))]
  | succ d ih =>
    intro l fu fu2 v w iv hy hfu hfu2 h
    have hlm := h.a.lm6; have hcm := h.a.cm30
    have h8w : w 8 = nI lm := by rw [sA_r (v := w) (by omega)]; exact h.a.w8
    have h8v : v 8 = nI lm := by rw [h.ra (i := 8) (by omega) (by omega) (by omega)]; exact h8w
    have i2 : iv 2 = nI (cnt cm (stC (sC w) 2)) := h.n.ins 2 (by omega)
    have hle : cnt cm (stC (sC w) 2) ≤ cm := cnt_le
    by_cases h0 : cnt cm (stC (sC w) 2) = 0
    · obtain ⟨fu2, rfl⟩ : ∃ m, fu2 = m + 1 := ⟨fu2 - 1, by omega⟩
      refine ⟨v, w, iv, nI l, trayF_0 hL h h0 (d + 1) l fu (by omega) (by omega), ?_, h, Or.inl ⟨fun l' a b q hq _ e => ?_, rfl, rfl, rfl⟩⟩
      · rw [C3_emptyTray_L2]
        simp (disch := omega) only [lit32, neg1, nI_add, nI_mul, bS, pt_n, ix_n, rd_n, ws_n, rdo_n, wso_n, setR_1, setL_w, setL_iv, up_setR, up_setL_w, up_setL_iv, nz_0, nz_1, h8w, i2]
        rw [if_neg (nI_ge (by omega) (by omega)), if_pos (nI_le (by omega) (by omega))]
      · have := cnt_pos (p := stC (sC w) 2) hq (decide_eq_true e); omega
    · obtain ⟨fu, rfl⟩ : ∃ m, fu = m + 1 := ⟨fu - 1, by omega⟩
      obtain ⟨fu2, rfl⟩ : ∃ m, fu2 = m + 1 := ⟨fu2 - 1, by omega⟩
      have hl6 : l < 6 := by omega
      obtain ⟨x, x1, x2, x3⟩ := next_ok (r := r) hL h (l := l) (by omega)
      obtain ⟨v1, w1, iv1, z1, y2, z2, j1, j2, j3, j4⟩ := tray_in (r := r) hL (l := l) (by omega) (cnt cm (stC (sC w) 2)) FUEL FUEL 0 v w iv x h rfl (by omega) (by show _ < 10000; omega) (by show _ < 10000; omega) (by
        rcases x3 with q | ⟨q, q1, q2, -⟩
        · exact Or.inl q
        · exact Or.inr ⟨q, q1, q2⟩)
      obtain ⟨v2, w2, iv2, y3, i1, i2', i3, i4⟩ := ih (l + 1) fu fu2 v1 w1 iv1 (by omega) (by omega) (by omega) j3
      refine ⟨v2, w2, iv2, y3, ?_, ?_, i3, ?_⟩
      · rw [F8_clearsTray_L2]
        simp (disch := omega) only [lit32, neg1, nI_add, nI_mul, bS, pt_n, ix_n, rd_n, ws_n, rdo_n, wso_n, setR_1, setL_w, setL_iv, up_setR, up_setL_w, up_setL_iv, nz_0, nz_1, h8v]
        rw [if_neg (nI_ge (by omega) (by omega)), x1, bS, j1, bS]
        exact i1
      · rw [C3_emptyTray_L2]
        simp (disch := omega) only [lit32, neg1, nI_add, nI_mul, bS, pt_n, ix_n, rd_n, ws_n, rdo_n, wso_n, setR_1, setL_w, setL_iv, up_setR, up_setL_w, up_setL_iv, nz_0, nz_1, h8w, i2]
        rw [if_neg (nI_ge (by omega) (by omega)), if_neg (nI_ge (by omega) (by omega)), x2, bS, j2, bS]
        exact i2'
      · rcases j4 with ⟨j4, rfl, rfl, rfl⟩ | ⟨⟨q, q1, rfl, q3⟩, j5⟩
        · have hTl : TQ c g L cm w1 iv1 l := fun q hq e => j4 q hq (Option.some.inj (x2.symm.trans e))
          rcases i4 with ⟨i4, rfl, rfl, rfl⟩ | ⟨i4, i5⟩ | ⟨i4, i5⟩
          · refine Or.inl ⟨fun l' a b => ?_, rfl, rfl, rfl⟩
            by_cases e : l' = l
            · rw [e]; exact hTl
            · exact i4 l' (by omega) b
          · exact Or.inr (Or.inl ⟨fun q => i4 fun l' a b => q l' (by omega) b, i5⟩)
          · exact Or.inr (Or.inr ⟨i4, i5⟩)
        · refine Or.inr (Or.inl ⟨fun p => p l (by omega) (by omega) q q1 x2 q3, ?_⟩)
          rcases i4 with ⟨-, -, rfl, -⟩ | ⟨-, i5⟩ | ⟨-, i5⟩
          · exact j5
          · exact i5
          · exact i5
noncomputable def TN (c : RS) (g : CG) (L lm cm : Nat) (w iv : Nat → Int32) : Prop := ∀ l', 0 ≤ l' → l' < lm → TQ c g L cm w iv l'
theorem tray_ok {r c : RS} {g : CG} {L sm lm cm B U : Nat} {v w iv : Nat → Int32} (hL : L < 12) (h : QX c g L v w iv sm lm cm B U) :
    ∃ v' w' iv', F8_clearsTray (setR r v) = some (setR r v') ∧ C3_emptyTray g (setL c L w iv) L = some (setL c L w' iv') ∧ QX c g L v' w' iv' sm lm cm B U ∧ ((TN c g L lm cm w iv ∧ v' = v ∧ w' = w ∧ iv' = iv) ∨ (¬ TN c g L lm cm w iv ∧ w' 1060 = nI 1) ∨ (w 1060 = nI 1 ∧ w' 1060 = nI 1)) := by
  have hlm := h.a.lm6
  obtain ⟨v', w', iv', y2, k1, k2, k3, k4⟩ := tray_out (r := r) hL lm 0 FUEL FUEL v w iv (by omega) (by show lm < 10000; omega) (by show lm < 10000; omega) h
  refine ⟨v', w', iv', ?_, ?_, k3, k4⟩
  · unfold F8_clearsTray
    simp only [lit32]
    rw [k1, bS]
  · unfold C3_emptyTray
    simp only [lit32]
    rw [k2, bS]
end
section
noncomputable def rdB (v : Nat → Int32) (s : Nat) : Nat := if v (17 + 16 * s + 2) ≠ m1 ∧ v (17 + 16 * s + 3) = nI 0 then 1 else 0
noncomputable def rdS (v : Nat → Int32) : Nat → Nat → Nat
  | _, 0 => 0
  | y, z + 1 => rdB v y + rdS v (y + 1) z
theorem rdS_congr {v w : Nat → Int32} : ∀ {z y : Nat}, (∀ s, s < y + z → v (17 + 16 * s + 2) = w (17 + 16 * s + 2) ∧ v (17 + 16 * s + 3) = w (17 + 16 * s + 3)) → rdS v y z = rdS w y z := by
  intro z
  induction z with
  | zero => intro y h; rfl
  | succ z ih =>
    intro y h
    unfold rdS rdB
    rw [(h y (by omega)).1, (h y (by omega)).2, ih fun s hs => h s (by omega)]
theorem rdyB {v : Nat → Int32} {s n : Nat} (h3 : v (17 + 16 * s + 3) = nI n) (hn : n ≤ 1000) : (if v (17 + 16 * s + 2) = m1 ∨ n ≠ 0 then nI 0 else nI 1) = nI (rdB v s) := by
  unfold rdB
  have e : v (17 + 16 * s + 3) = nI 0 ↔ n = 0 := by rw [h3]; exact nI_eq (by omega) (by omega)
  by_cases h2 : v (17 + 16 * s + 2) = m1
  · rw [if_pos (Or.inl h2), if_neg (fun q => q.1 h2)]
  · by_cases h0 : n = 0
    · rw [if_neg (by rintro (q | q); exact h2 q; exact q h0), if_pos ⟨h2, e.mpr h0⟩]
    · rw [if_pos (Or.inr h0), if_neg (fun q => h0 (e.mp q.2))]
theorem rdB01 {v : Nat → Int32} {s : Nat} : rdB v s = 0 ∨ rdB v s = 1 := by
  unfold rdB; split
  · exact Or.inr rfl
  · exact Or.inl rfl
theorem stoodF {r : RS} {v : Nat → Int32} {sm : Nat} (hsm : sm ≤ 6) (h7 : v 7 = nI sm) (hn : ∀ s, s < sm → ∃ n, n ≤ 1000 ∧ v (17 + 16 * s + 3) = nI n) : ∀ (d y fu : Nat) (x : Int32), y + d = sm → d < fu → F8_passes_L67 fu (nI y) (setR r (upd v 16 x)) = some (nI sm, setR r (upd v 16 (x + nI (rdS v y d)))) := by
  intro d
  induction d with
  | zero =>
    intro y fu x hy hfu
    obtain ⟨fu, rfl⟩ : ∃ m, fu = m + 1 := ⟨fu - 1, by omega⟩
    obtain rfl : y = sm := by omega
    rw [F8_passes_L67]
    simp (disch := omega) only [lit32, neg1, nI_add, nI_mul, bS, pt_n, ix_n, rd_n, ws_n, rdo_n, wso_n, setR_1, setL_w, setL_iv, up_setR, up_setL_w, up_setL_iv, nz_0, nz_1, upd_n, h7]
    rw [if_pos (nI_le (by omega) (by omega)), show rdS v y 0 = 0 from rfl, nI_z]
  | succ d ih =>
    intro y fu x hy hfu
    obtain ⟨fu, rfl⟩ : ∃ m, fu = m + 1 := ⟨fu - 1, by omega⟩
    obtain ⟨n, n1, n2⟩ := hn y (by omega)
    have u3 : upd v 16 x (17 + 16 * y + 3) = nI n := by rw [upd_n (by omega)]; exact n2
    rw [F8_passes_L67]
    simp (disch := omega) only [lit32, neg1, nI_add, nI_mul, bS, pt_n, ix_n, rd_n, ws_n, rdo_n, wso_n, setR_1, setL_w, setL_iv, up_setR, up_setL_w, up_setL_iv, nz_0, nz_1, upd_n, h7]
    rw [if_neg (nI_ge (by omega) (by omega)), isReady_v (n := n) (by omega) rfl u3 (by omega), bS, upd_n (by omega), rdyB n2 n1]
    have e : (if nI (rdB v y) = nI 0 then some (nI 0) else some (nI 1) : Option Int32) = some (nI (rdB v y)) := by
      rcases @rdB01 v y with q | q
      · rw [q]; exact if_pos rfl
      · rw [q]; exact if_neg (nI_ne (by omega) (by omega) (by omega))
    rw [e]
    simp (disch := omega) only [lit32, neg1, nI_add, nI_mul, bS, pt_n, ix_n, rd_n, ws_n, rdo_n, wso_n, setR_1, setL_w, setL_iv, up_setR, up_setL_w, up_setL_iv, nz_0, nz_1, upd_e, upd_u]
    rw [ih (y + 1) fu _ (by omega) (by omega), show rdS v y (d + 1) = rdB v y + rdS v (y + 1) d from rfl, ← nI_add, Int32.add_assoc]
theorem stoodC {c : RS} {g : CG} {L : Nat} {w iv : Nat → Int32} {sm : Nat} (hsm : sm ≤ 6) (h7 : w 7 = nI sm) (hn : ∀ s, s < sm → ∃ n, n ≤ 1000 ∧ w (17 + 16 * s + 3) = nI n) : ∀ (d y fu : Nat) (x : Int32), y + d = sm → d < fu → C3_countReadyCards_L2 L g fu (nI y) (setL c L (upd w 16 x) iv) = some (nI sm, setL c L (upd w 16 (x + nI (rdS w y d))) iv) := by
  intro d
  induction d with
  | zero =>
    intro y fu x hy hfu
    obtain ⟨fu, rfl⟩ : ∃ m, fu = m + 1 := ⟨fu - 1, by omega⟩
    obtain rfl : y = sm := by omega
    rw [C3_countReadyCards_L2]
    simp (disch := omega) only [lit32, neg1, nI_add, nI_mul, bS, pt_n, ix_n, rd_n, ws_n, rdo_n, wso_n, setR_1, setL_w, setL_iv, up_setR, up_setL_w, up_setL_iv, nz_0, nz_1, upd_n, h7]
    rw [if_pos (nI_le (by omega) (by omega)), show rdS w y 0 = 0 from rfl, nI_z]
  | succ d ih =>
    intro y fu x hy hfu
    obtain ⟨fu, rfl⟩ : ∃ m, fu = m + 1 := ⟨fu - 1, by omega⟩
    obtain ⟨n, n1, n2⟩ := hn y (by omega)
    have u3 : upd w 16 x (17 + 16 * y + 3) = nI n := by rw [upd_n (by omega)]; exact n2
    rw [C3_countReadyCards_L2]
    simp (disch := omega) only [lit32, neg1, nI_add, nI_mul, bS, pt_n, ix_n, rd_n, ws_n, rdo_n, wso_n, setR_1, setL_w, setL_iv, up_setR, up_setL_w, up_setL_iv, nz_0, nz_1, upd_n, h7]
    rw [if_neg (nI_ge (by omega) (by omega)), hasReady_w (n := n) rfl u3 (by omega), bS, upd_n (by omega), rdyB n2 n1, show rdS w y (d + 1) = rdB w y + rdS w (y + 1) d from rfl]
    rcases @rdB01 w y with q | q
    · rw [q, if_pos (show nI 0 = nI 0 from rfl), bS, ih (y + 1) fu _ (by omega) (by omega), Nat.zero_add]
    · rw [q, if_neg (nI_ne (by omega) (by omega) (by omega))]
      rw [show (12 + 4 : Nat) = 16 from rfl, upd_e, upd_u, bS, ih (y + 1) fu _ (by omega) (by omega), ← nI_add, Int32.add_assoc]
noncomputable def shV (v : Nat → Int32) (y : Nat) : Nat → Int32 := fun j => if 917 + y < j ∧ j < 1037 then v (j - 12) else v j
theorem shiftF {r : RS} {v : Nat → Int32} : ∀ (d y fu : Nat), y = 11 + d → y ≤ 119 → d < fu → F8_dayEnds_L3 fu (nI y) (setR r (shV v y)) = some (nI 11, setR r (shV v 11)) := by
  intro d
  induction d with
  | zero =>
    intro y fu hy hy2 hfu
    obtain ⟨fu, rfl⟩ : ∃ m, fu = m + 1 := ⟨fu - 1, by omega⟩
    obtain rfl : y = 11 := by omega
    rw [F8_dayEnds_L3]
    simp only [lit32]
    rw [if_pos (nI_lt (by omega) (by omega))]
  | succ d ih =>
    intro y fu hy hy2 hfu
    obtain ⟨fu, rfl⟩ : ∃ m, fu = m + 1 := ⟨fu - 1, by omega⟩
    have e : upd (shV v y) (917 + y) (shV v y (917 + y - 12)) = shV v (y - 1) := by
      funext j
      unfold upd shV
      by_cases h1 : j = 917 + y
      · rw [if_pos h1, if_neg (by omega), if_pos (by omega), h1]
      · rw [if_neg h1]
        by_cases h2 : 917 + y < j ∧ j < 1037
        · rw [if_pos h2, if_pos (by omega)]
        · rw [if_neg h2, if_neg (by omega)]
    rw [F8_dayEnds_L3]
    simp (disch := omega) only [lit32, neg1, nI_add, nI_mul, bS, pt_n, ix_n, rd_n, ws_n, rdo_n, wso_n, setR_1, setL_w, setL_iv, up_setR, up_setL_w, up_setL_iv, nz_0, nz_1, nI_sub]
    rw [if_neg (nI_nlt (by omega) (by omega)), e, im1 (by omega)]
    exact ih (y - 1) fu (by omega) (by omega) (by omega)
noncomputable def dlV (v : Nat → Int32) (l : Nat) : Nat → Int32 := fun j => if 917 ≤ j ∧ j < 917 + 2 * l then v (113 + 4 * ((j - 917) / 2) + 2 + (j - 917) % 2) else if 113 ≤ j ∧ j < 113 + 4 * l ∧ 2 ≤ (j - 113) % 4 then nI 0 else v j
theorem dayL {r : RS} {v : Nat → Int32} {l fu : Nat} (hl : l < 6) (hfu : 2 < fu) : F8_dayEnds_L48 (nI l) fu (nI 0) (setR r (dlV v l)) = some (nI 2, setR r (dlV v (l + 1))) := by
  obtain ⟨fu, rfl⟩ : ∃ m, fu = m + 1 + 1 + 1 := ⟨fu - 3, by omega⟩
  have e : upd (upd (upd (upd (dlV v l) (917 + 2 * l + 0) (dlV v l (113 + 4 * l + (2 + 0)))) (113 + 4 * l + 2 + 0) (nI 0)) (917 + 2 * l + 1) (dlV v l (113 + 4 * l + (2 + 1)))) (113 + 4 * l + 2 + 1) (nI 0) = dlV v (l + 1) := by
    funext j
    have a2 : dlV v l (113 + 4 * l + (2 + 0)) = v (113 + 4 * l + 2) := by unfold dlV; rw [if_neg (by omega), if_neg (by omega)]
    have a3 : dlV v l (113 + 4 * l + (2 + 1)) = v (113 + 4 * l + 3) := by unfold dlV; rw [if_neg (by omega), if_neg (by omega)]
    rw [a2, a3]
    unfold upd
    by_cases h1 : j = 113 + 4 * l + 2 + 1
    · rw [if_pos h1]; unfold dlV; rw [if_neg (by omega), if_pos (by omega)]
    · rw [if_neg h1]
      by_cases h2 : j = 917 + 2 * l + 1
      · rw [if_pos h2]; unfold dlV; rw [if_pos (by omega)]; exact congrArg v (by omega)
      · rw [if_neg h2]
        by_cases h3 : j = 113 + 4 * l + 2 + 0
        · rw [if_pos h3]; unfold dlV; rw [if_neg (by omega), if_pos (by omega)]
        · rw [if_neg h3]
          by_cases h4 : j = 917 + 2 * l + 0
          · rw [if_pos h4]; unfold dlV; rw [if_pos (by omega)]; exact congrArg v (by omega)
          · rw [if_neg h4]
            unfold dlV
            by_cases h5 : 917 ≤ j ∧ j < 917 + 2 * l
            · rw [if_pos h5, if_pos (by omega)]
            · rw [if_neg h5, if_neg (c := 917 ≤ j ∧ j < 917 + 2 * (l + 1)) (by omega)]
              by_cases h6 : 113 ≤ j ∧ j < 113 + 4 * l ∧ 2 ≤ (j - 113) % 4
              · rw [if_pos h6, if_pos (by omega)]
              · rw [if_neg h6, if_neg (by omega)]
  have o1 : upd (upd (dlV v l) (917 + 2 * l + 0) (dlV v l (113 + 4 * l + (2 + 0)))) (113 + 4 * l + 2 + 0) (nI 0) (113 + 4 * l + (2 + 1)) = dlV v l (113 + 4 * l + (2 + 1)) := by
    rw [upd_n (by omega), upd_n (by omega)]
  rw [F8_dayEnds_L48]
  simp (disch := omega) only [lit32, neg1, nI_add, nI_mul, bS, pt_n, ix_n, rd_n, ws_n, rdo_n, wso_n, setR_1, setL_w, setL_iv, up_setR, up_setL_w, up_setL_iv, nz_0, nz_1, F8_ofLot_v]
  rw [if_neg (nI_ge (by omega) (by omega)), F8_dayEnds_L48]
  simp (disch := omega) only [lit32, neg1, nI_add, nI_mul, bS, pt_n, ix_n, rd_n, ws_n, rdo_n, wso_n, setR_1, setL_w, setL_iv, up_setR, up_setL_w, up_setL_iv, nz_0, nz_1, F8_ofLot_v]
  rw [if_neg (nI_ge (by omega) (by omega)), F8_dayEnds_L48]
  simp (disch := omega) only [lit32, neg1, nI_add, nI_mul, bS, pt_n, ix_n, rd_n, ws_n, rdo_n, wso_n, setR_1, setL_w, setL_iv, up_setR, up_setL_w, up_setL_iv, nz_0, nz_1]
  rw [if_pos (nI_le (by omega) (by omega))]
  simp only [Nat.zero_add]
  rw [o1, e]
theorem dayLs {r : RS} {v : Nat → Int32} : ∀ (d l fu : Nat), l + d = 6 → d < fu → F8_dayEnds_L40 fu (nI l) (setR r (dlV v l)) = some (nI 6, setR r (dlV v 6)) := by
  intro d
  induction d with
  | zero =>
    intro l fu hy hfu
    obtain ⟨fu, rfl⟩ : ∃ m, fu = m + 1 := ⟨fu - 1, by omega⟩
    obtain rfl : l = 6 := by omega
    rw [F8_dayEnds_L40]
    simp only [lit32]
    rw [if_pos (nI_le (by omega) (by omega))]
  | succ d ih =>
    intro l fu hy hfu
    obtain ⟨fu, rfl⟩ : ∃ m, fu = m + 1 := ⟨fu - 1, by omega⟩
    rw [F8_dayEnds_L40]
    simp only [lit32]
    rw [if_neg (nI_ge (by omega) (by omega)), dayL (by omega) (by show 2 < 10000; omega), bS, nI_add]
    exact ih (l + 1) fu (by omega) (by omega)
noncomputable def dyV (v : Nat → Int32) (x : Int32) : Nat → Int32 := upd (dlV (shV v 11) 6) 11 x
theorem dayEnds_v {r : RS} {v : Nat → Int32} : F8_dayEnds (setR r v) = some (setR r (dyV v (if v 11 + nI 1 < nI 10 then v 11 + nI 1 else nI 10))) := by
  have s0 : v = shV v 119 := by
    funext j; unfold shV; rw [if_neg (by omega)]
  have d0 : shV v 11 = dlV (shV v 11) 0 := by
    funext j
    have n1 : ¬ (917 ≤ j ∧ j < 917 + 2 * 0) := by omega
    have n2 : ¬ (113 ≤ j ∧ j < 113 + 4 * 0 ∧ 2 ≤ (j - 113) % 4) := by omega
    show shV v 11 j = if 917 ≤ j ∧ j < 917 + 2 * 0 then _ else _
    rw [if_neg n1, if_neg n2]
  have e11 : dlV (shV v 11) 6 11 = v 11 := by
    have n1 : ¬ (917 ≤ 11 ∧ 11 < 917 + 2 * 6) := by omega
    have n2 : ¬ (113 ≤ 11 ∧ 11 < 113 + 4 * 6 ∧ 2 ≤ (11 - 113) % 4) := by omega
    show (if 917 ≤ 11 ∧ 11 < 917 + 2 * 6 then _ else _) = v 11
    rw [if_neg n1, if_neg n2]
    unfold shV; exact if_neg (by omega)
  unfold F8_dayEnds
  simp only [lit32]
  have k1 := shiftF (r := r) (v := v) 108 119 FUEL (by omega) (by omega) (by show 108 < 10000; omega)
  rw [← s0] at k1
  have k2 := dayLs (r := r) (v := shV v 11) 6 0 FUEL (by omega) (by show 6 < 10000; omega)
  rw [← d0] at k2
  rw [k1, bS, k2, bS]
  simp only [setR_1, e11]
  rw [ws_n (by omega) (by omega), bS, up_setR]
  rfl
theorem dyA {v : Nat → Int32} {x : Int32} : sA (dyV v x) = upd (sA v) 11 x := by
  unfold dyV
  rw [sA_A (by omega)]
  congr 1
  funext a
  unfold sA
  by_cases h : a < 17
  · rw [if_pos h, if_pos h]
    unfold dlV shV
    rw [if_neg (by omega), if_neg (by omega), if_neg (by omega)]
  · rw [if_neg h, if_neg h]
theorem dyS {v : Nat → Int32} {x : Int32} : sS (dyV v x) = sS v := by
  unfold dyV
  rw [sS_A (by omega)]
  funext a b
  unfold sS
  by_cases h : a < 6 ∧ b < 16
  · rw [if_pos h, if_pos h]
    unfold dlV shV
    rw [if_neg (by omega), if_neg (by omega), if_neg (by omega)]
  · rw [if_neg h, if_neg h]
theorem dyC {v : Nat → Int32} {x : Int32} : sC (dyV v x) = sC v := by
  unfold dyV
  rw [sC_A (by omega)]
  funext a b
  unfold sC
  by_cases h : a < 30 ∧ b < 25
  · rw [if_pos h, if_pos h]
    unfold dlV shV
    rw [if_neg (by omega), if_neg (by omega), if_neg (by omega)]
  · rw [if_neg h, if_neg h]
theorem dyF {v : Nat → Int32} {x : Int32} : sF (dyV v x) = sF v := by
  unfold dyV
  rw [sF_A (by omega)]
  funext a
  unfold sF
  by_cases h : a < 30
  · rw [if_pos h, if_pos h]
    unfold dlV shV
    rw [if_neg (by omega), if_neg (by omega), if_neg (by omega)]
  · rw [if_neg h, if_neg h]
theorem dyL {v : Nat → Int32} {x : Int32} {l k : Nat} (hl : l < 6) (hk : k < 4) : sL (dyV v x) l k = if 2 ≤ k then nI 0 else sL v l k := by
  unfold dyV
  rw [sL_A (by omega), ← sL_r hl hk, ← sL_r hl hk]
  unfold dlV shV
  rw [if_neg (by omega)]
  by_cases h : 2 ≤ k
  · rw [if_pos (by omega), if_pos h]
  · rw [if_neg (by omega), if_neg (by omega), if_neg h]
theorem dyP0 {v : Nat → Int32} {x : Int32} {l k : Nat} (hl : l < 6) (hk : k < 2) : sP (dyV v x) (2 * l + k) = sL v l (2 + k) := by
  unfold dyV
  rw [sP_A (by omega), ← sP_r (by omega), ← sL_r hl (by omega)]
  unfold dlV shV
  rw [if_pos (by omega), if_neg (by omega)]
  exact congrArg v (by omega)
theorem dyP1 {v : Nat → Int32} {x : Int32} {i : Nat} (h : 12 ≤ i) (h2 : i < 120) : sP (dyV v x) i = sP v (i - 12) := by
  unfold dyV
  rw [sP_A (by omega), ← sP_r (by omega), ← sP_r (by omega)]
  unfold dlV shV
  rw [if_neg (by omega), if_neg (by omega), if_pos (by omega)]
  exact congrArg v (by omega)
noncomputable def zW (w : Nat → Int32) (l : Nat) : Nat → Int32 := fun j => if 113 ≤ j ∧ j < 113 + 4 * l ∧ 2 ≤ (j - 113) % 4 then nI 0 else w j
noncomputable def dyK (c : RS) (L k : Nat) (w : Nat → Int32) (l : Nat) : RS := fun R j => if 200 + 6 * L ≤ R ∧ R < 200 + 6 * L + l ∧ j = k then w (113 + 4 * (R - 200 - 6 * L) + 2) else if 300 + 6 * L ≤ R ∧ R < 300 + 6 * L + l ∧ j = k then w (113 + 4 * (R - 300 - 6 * L) + 3) else c R j
theorem up_setL_o {c : RS} {L R i : Nat} {w iv : Nat → Int32} {x : Int32} (h : ¬ R = 10 + L) (h2 : ¬ R = 400 + L) : up (setL c L w iv) R i x = setL (up c R i x) L w iv := by
  funext R2 j
  rw [up_at]
  by_cases a : R2 = 10 + L
  · subst a; rw [if_neg (fun q => h q.1.symm), setL_w, setL_w]
  · by_cases b : R2 = 400 + L
    · subst b; rw [if_neg (fun q => h2 q.1.symm), setL_iv, setL_iv]
    · rw [setL_o a b, setL_o a b, up_at]
theorem endDay_w {c : RS} {g : CG} {L l k : Nat} {w iv : Nat → Int32} (hL : L < 12) (hl : l < 6) (hk : k < 10) : C4_endDay g (setL (dyK c L k w l) L (zW w l) iv) L l (nI k) = some (setL (dyK c L k w (l + 1)) L (zW w (l + 1)) iv) := by
  have z2 : zW w l (113 + 4 * l + 2) = w (113 + 4 * l + 2) := by unfold zW; exact if_neg (by omega)
  have z3 : zW w l (113 + 4 * l + 3) = w (113 + 4 * l + 3) := by unfold zW; exact if_neg (by omega)
  have zz : upd (upd (zW w l) (113 + 4 * l + 2) (nI 0)) (113 + 4 * l + 3) (nI 0) = zW w (l + 1) := by
    funext j
    unfold upd zW
    by_cases h1 : j = 113 + 4 * l + 3
    · rw [if_pos h1, if_pos (by omega)]
    · rw [if_neg h1]
      by_cases h2 : j = 113 + 4 * l + 2
      · rw [if_pos h2, if_pos (by omega)]
      · rw [if_neg h2]
        by_cases h3 : 113 ≤ j ∧ j < 113 + 4 * l ∧ 2 ≤ (j - 113) % 4
        · rw [if_pos h3, if_pos (by omega)]
        · rw [if_neg h3, if_neg (by omega)]
  have kk : up (up (dyK c L k w l) (200 + 6 * L + l) k (w (113 + 4 * l + 2))) (300 + 6 * L + l) k (w (113 + 4 * l + 3)) = dyK c L k w (l + 1) := by
    funext R j
    rw [up_at, up_at]
    unfold dyK
    by_cases h1 : R = 300 + 6 * L + l ∧ j = k
    · rw [if_pos h1, if_neg (by omega), if_pos (by omega)]; congr 1; omega
    · rw [if_neg h1]
      by_cases h2 : R = 200 + 6 * L + l ∧ j = k
      · rw [if_pos h2, if_pos (by omega)]; congr 1; omega
      · rw [if_neg h2]
        by_cases h3 : 200 + 6 * L ≤ R ∧ R < 200 + 6 * L + l ∧ j = k
        · rw [if_pos h3, if_pos (by omega)]
        · rw [if_neg h3, if_neg (c := 200 + 6 * L ≤ R ∧ R < 200 + 6 * L + (l + 1) ∧ j = k) (by omega)]
          by_cases h4 : 300 + 6 * L ≤ R ∧ R < 300 + 6 * L + l ∧ j = k
          · rw [if_pos h4, if_pos (by omega)]
          · rw [if_neg h4, if_neg (by omega)]
  unfold C4_endDay
  simp (disch := omega) only [lit32, setL_w, z2, ws_n, bS, up_setL_o, z3, pt_n, up_setL_w, zz, kk]
theorem passC {c : RS} {g : CG} {L k lm : Nat} {w iv : Nat → Int32} (hL : L < 12) (hlm : lm ≤ 6) (hk : k < 10) (h8 : w 8 = nI lm) : ∀ (d l fu : Nat), l + d = lm → d < fu → C3_passTime_L41 (nI k) L g fu (nI l) (setL (dyK c L k w l) L (zW w l) iv) = some (nI lm, setL (dyK c L k w lm) L (zW w lm) iv) := by
  intro d
  induction d with
  | zero =>
    intro l fu hy hfu
    obtain ⟨fu, rfl⟩ : ∃ m, fu = m + 1 := ⟨fu - 1, by omega⟩
    obtain rfl : l = lm := by omega
    have z8 : zW w l 8 = nI l := by unfold zW; rw [if_neg (by omega)]; exact h8
    rw [C3_passTime_L41]
    simp (disch := omega) only [lit32, neg1, nI_add, nI_mul, bS, pt_n, ix_n, rd_n, ws_n, rdo_n, wso_n, setR_1, setL_w, setL_iv, up_setR, up_setL_w, up_setL_iv, nz_0, nz_1, z8]
    rw [if_pos (nI_le (by omega) (by omega))]
  | succ d ih =>
    intro l fu hy hfu
    obtain ⟨fu, rfl⟩ : ∃ m, fu = m + 1 := ⟨fu - 1, by omega⟩
    have hl6 : l < 6 := by omega
    have z8 : zW w l 8 = nI lm := by unfold zW; rw [if_neg (by omega)]; exact h8
    rw [C3_passTime_L41]
    simp only [setL_w, z8]
    rw [if_neg (nI_ge (by omega) (by omega)), if_neg (nI_pos (by omega)), ix_n hl6 (by omega), bS, endDay_w hL hl6 hk, bS, nI_1]
    exact ih (l + 1) fu (by omega) (by omega)
end
