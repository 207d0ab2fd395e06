theorem add_m1 {x : Int32} : x + m1 = x - nI 1 := by rw [Int32.sub_eq_add_neg]; rfl
noncomputable def STw (w : Nat → Int32) (s : Nat) : Prop := sS w s 11 ≤ nI 0 ∧ (sS w s 2 = m1 ∨ sS w s 3 = nI 0 ∨ sS w s 7 ≠ nI 0)
theorem ne10 : ¬ nI 1 = 0 := by decide
theorem e00 : nI 0 = 0 := by decide
theorem sS_sgn {f : Nat → Int32} {s k s' : Nat} (hs : s < 6) (a1 : k ≠ 4) (a2 : k ≠ 13) (a3 : k ≠ 11) : sS (sgnF f s) s' k = sS f s' k := by
  unfold sgnF; split <;> simp (disch := omega) only [sA_A, sA_S, sA_L, sA_C, sA_F, sA_P, sA_E, sA_M, sS_A, sS_S, sS_L, sS_C, sS_F, sS_P, sS_E, sS_M, sL_A, sL_S, sL_L, sL_C, sL_F, sL_P, sL_E, sL_M, sC_A, sC_S, sC_L, sC_C, sC_F, sC_P, sC_E, sC_M, sF_A, sF_S, sF_L, sF_C, sF_F, sF_P, sF_E, sF_M, sP_A, sP_S, sP_L, sP_C, sP_F, sP_P, sP_E, sP_M, sE_A, sE_S, sE_L, sE_C, sE_F, sE_P, sE_E, sE_M]
  · rw [up2_ne a2, up2_ne a1]
  · rw [up2_ne a2, up2_ne a3, up2_ne a2, up2_ne a1]
theorem sS_sgn4 {f : Nat → Int32} {s s' : Nat} (hs : s < 6) (hs' : s' < s) : sS (sgnF f s) s' 4 = sS f s' 4 := by
  unfold sgnF; split <;> simp (disch := omega) only [sA_A, sA_S, sA_L, sA_C, sA_F, sA_P, sA_E, sA_M, sS_A, sS_S, sS_L, sS_C, sS_F, sS_P, sS_E, sS_M, sL_A, sL_S, sL_L, sL_C, sL_F, sL_P, sL_E, sL_M, sC_A, sC_S, sC_L, sC_C, sC_F, sC_P, sC_E, sC_M, sF_A, sF_S, sF_L, sF_C, sF_F, sF_P, sF_E, sF_M, sP_A, sP_S, sP_L, sP_C, sP_F, sP_P, sP_E, sP_M, sE_A, sE_S, sE_L, sE_C, sE_F, sE_P, sE_E, sE_M]
  · rw [up2_ne (by decide), up2_ne1 (by omega)]
  · rw [up2_ne (by decide), up2_ne (by decide), up2_ne (by decide), up2_ne1 (by omega)]
theorem sC_sgn {f : Nat → Int32} {s : Nat} (hs : s < 6) : sC (sgnF f s) = sC f := by unfold sgnF; split <;> simp (disch := omega) only [sA_A, sA_S, sA_L, sA_C, sA_F, sA_P, sA_E, sA_M, sS_A, sS_S, sS_L, sS_C, sS_F, sS_P, sS_E, sS_M, sL_A, sL_S, sL_L, sL_C, sL_F, sL_P, sL_E, sL_M, sC_A, sC_S, sC_L, sC_C, sC_F, sC_P, sC_E, sC_M, sF_A, sF_S, sF_L, sF_C, sF_F, sF_P, sF_E, sF_M, sP_A, sP_S, sP_L, sP_C, sP_F, sP_P, sP_E, sP_M, sE_A, sE_S, sE_L, sE_C, sE_F, sE_P, sE_E, sE_M]
theorem sM_sgn {f : Nat → Int32} {s : Nat} (hs : s < 6) : sgnF f s 1060 = f 1060 := by unfold sgnF; split <;> simp (disch := omega) only [upd_n]
noncomputable def wkF (f : Nat → Int32) (s n : Nat) : Nat → Int32 := upd (upd f (17 + 16 * s + 12) (f (17 + 16 * s + 12) + nI 1)) (17 + 16 * s + 3) (nI (n - 1))
noncomputable def stF (u : RS) (s : Nat) : Option RS := (F8_of u (nI s) (nI 11)).bind fun x1 => (if x1 ≤ 0 then ((F8_of u (nI s) (nI 2)).bind fun x15 => if x15 = (-1) then (some u) else ((F8_of u (nI s) (nI 3)).bind fun x18 => if x18 ≤ 0 then (some u) else ((F8_of u (nI s) (nI 7)).bind fun x21 => if x21 = 0 then ((F8_works u (nI s)).bind fun u24 => some u24) else (some u)))) else ((F8_grows u (nI s) (nI 11) (-1)).bind fun u26 => some u26) : Option (RS))
theorem works1_v {r : RS} {v : Nat → Int32} {s : Nat} (hs : s < 6) (enw : v (17 + 16 * s + 3) = nI 1) : F8_works (setR r v) (nI s) = ((F8_isBad (setR r (wkF v s 1)) (nI s)).bind fun t11 => if t11.1 = 0 then (some t11.2) else ((F8_of t11.2 (nI s) (nI 2)).bind fun x14 => (F8_failsIn t11.2 (nI s) (x14)).bind fun u16 => some u16)) := by
  unfold F8_works wkF
  simp (disch := omega) only [lit32, neg1, nI_add, nI_mul, bS, pt_n, ix_n, rd_n, ws_n, rdo_n, wso_n, setR_1, setL_w, setL_iv, up_setR, up_setL_w, up_setL_iv, nz_0, nz_1, F8_grows_v, F8_of_v, upd_n, upd_e, enw]
  rw [im1 (by omega)]
  simp only [show (1 : Nat) - 1 = 0 from rfl]
  rw [if_pos trivial, bSome]
theorem worksn_v {r : RS} {v : Nat → Int32} {s n : Nat} (hs : s < 6) (hn : 2 ≤ n) (hn2 : n ≤ 1000) (enw : v (17 + 16 * s + 3) = nI n) : F8_works (setR r v) (nI s) = some (setR r (wkF v s n)) := by
  unfold F8_works wkF
  simp (disch := omega) only [lit32, neg1, nI_add, nI_mul, bS, pt_n, ix_n, rd_n, ws_n, rdo_n, wso_n, setR_1, setL_w, setL_iv, up_setR, up_setL_w, up_setL_iv, nz_0, nz_1, F8_grows_v, F8_of_v, upd_n, upd_e, enw]
  rw [im1 (by omega), if_neg (nI_ne (by omega) (by omega) (by omega)), bS]
theorem rest1_w {c : RS} {g : CG} {L s : Nat} {w iv : Nat → Int32} (hs : s < 6) (hr : w (17 + 16 * s + 11) ≤ nI 0) (h2 : ¬ w (17 + 16 * s + 2) = m1) (h7 : w (17 + 16 * s + 7) = nI 0) (enw : w (17 + 16 * s + 3) = nI 1) : C3_restOrWork g (setL c L w iv) L s = ((C6_useSign g (setL c L (upd (wkF w s 1) 1060 (nI 1)) iv) L s).bind fun t17 => (if t17.1 = 0 then some (nI 0, t17.2) else some (nI 1, t17.2) : Option (Int32 × RS)).bind fun t12 => (nz t12.1).bind fun x15 => some (x15, t12.2)) := by
  unfold C3_restOrWork wkF
  simp (disch := omega) only [lit32, neg1, nI_add, nI_mul, bS, pt_n, ix_n, rd_n, ws_n, rdo_n, wso_n, setR_1, setL_w, setL_iv, up_setR, up_setL_w, up_setL_iv, nz_0, nz_1, enw, upd_n, upd_e]
  rw [if_pos hr, if_neg h2, if_neg (nI_ne (by omega) (by omega) (by omega)), if_pos h7, i1 (by omega)]
  simp only [show (1 : Nat) - 1 = 0 from rfl]
  rw [if_pos trivial]
  generalize C6_useSign g _ L s = X
  cases X <;> rfl
theorem restn_w {c : RS} {g : CG} {L s n : Nat} {w iv : Nat → Int32} (hs : s < 6) (hn : 2 ≤ n) (hn2 : n ≤ 1000) (hr : w (17 + 16 * s + 11) ≤ nI 0) (h2 : ¬ w (17 + 16 * s + 2) = m1) (h7 : w (17 + 16 * s + 7) = nI 0) (enw : w (17 + 16 * s + 3) = nI n) : C3_restOrWork g (setL c L w iv) L s = some (nI 0, setL c L (upd (wkF w s n) 1060 (nI 1)) iv) := by
  unfold C3_restOrWork wkF
  simp (disch := omega) only [lit32, neg1, nI_add, nI_mul, bS, pt_n, ix_n, rd_n, ws_n, rdo_n, wso_n, setR_1, setL_w, setL_iv, up_setR, up_setL_w, up_setL_iv, nz_0, nz_1, enw, upd_n, upd_e]
  rw [if_pos hr, if_neg h2, if_neg (nI_ne (by omega) (by omega) (by omega)), if_pos h7, i1 (by omega), if_neg (nI_ne (by omega) (by omega) (by omega)), bS]
  simp (disch := omega) only [lit32, neg1, nI_add, nI_mul, bS, pt_n, ix_n, rd_n, ws_n, rdo_n, wso_n, setR_1, setL_w, setL_iv, up_setR, up_setL_w, up_setL_iv, nz_0, nz_1]
theorem still_v {r : RS} {v : Nat → Int32} {s n : Nat} (hs : s < 6) (hn : n ≤ 1000) (enw : v (17 + 16 * s + 3) = nI n) (s1 : v (17 + 16 * s + 11) ≤ nI 0) (s2 : v (17 + 16 * s + 2) = m1 ∨ v (17 + 16 * s + 3) = nI 0 ∨ v (17 + 16 * s + 7) ≠ nI 0) : stF (setR r v) s = some (setR r v) := by
  unfold stF
  simp (disch := omega) only [lit32, neg1, nI_add, nI_mul, bS, pt_n, ix_n, rd_n, ws_n, rdo_n, wso_n, setR_1, setL_w, setL_iv, up_setR, up_setL_w, up_setL_iv, nz_0, nz_1, F8_of_v, enw]
  rw [if_pos s1]
  by_cases h2 : v (17 + 16 * s + 2) = m1
  · rw [if_pos h2]
  · rw [if_neg h2]
    by_cases h3 : n = 0
    · subst h3; rw [if_pos (nI_le (Nat.le_refl 0) (by omega))]
    · rw [if_neg (nI_ge (a := 0) (by omega) (by omega))]
      have h7 : ¬ v (17 + 16 * s + 7) = nI 0 := by
        rcases s2 with q | q | q
        · exact absurd q h2
        · exact absurd ((nI_eq (by omega) (by omega)).mp (enw.symm.trans q)) h3
        · exact q
      rw [if_neg h7]
theorem still_w {c : RS} {g : CG} {L s n : Nat} {w iv : Nat → Int32} (hs : s < 6) (hn : n ≤ 1000) (enw : w (17 + 16 * s + 3) = nI n) (s1 : w (17 + 16 * s + 11) ≤ nI 0) (s2 : w (17 + 16 * s + 2) = m1 ∨ w (17 + 16 * s + 3) = nI 0 ∨ w (17 + 16 * s + 7) ≠ nI 0) : C3_restOrWork g (setL c L w iv) L s = some (nI 0, setL c L w iv) := by
  unfold C3_restOrWork
  simp (disch := omega) only [lit32, neg1, nI_add, nI_mul, bS, pt_n, ix_n, rd_n, ws_n, rdo_n, wso_n, setR_1, setL_w, setL_iv, up_setR, up_setL_w, up_setL_iv, nz_0, nz_1, enw]
  rw [if_pos s1]
  by_cases h2 : w (17 + 16 * s + 2) = m1
  · rw [if_pos h2]
  · rw [if_neg h2]
    by_cases h3 : n = 0
    · subst h3; rw [if_pos (show nI 0 = nI 0 from rfl)]
    · rw [if_neg (nI_ne h3 (by omega) (by omega))]
      have h7 : ¬ w (17 + 16 * s + 7) = nI 0 := by
        rcases s2 with q | q | q
        · exact absurd q h2
        · exact absurd ((nI_eq (by omega) (by omega)).mp (enw.symm.trans q)) h3
        · exact q
      rw [if_neg h7]
theorem wkv {r : RS} {v : Nat → Int32} {s n : Nat} (hs : s < 6) (hn : 1 ≤ n) (hn2 : n ≤ 1000) (hr : v (17 + 16 * s + 11) ≤ nI 0) (h2 : ¬ v (17 + 16 * s + 2) = m1) (h7 : v (17 + 16 * s + 7) = nI 0) (enw : v (17 + 16 * s + 3) = nI n) : stF (setR r v) s = F8_works (setR r v) (nI s) := by
  unfold stF
  simp (disch := omega) only [lit32, neg1, nI_add, nI_mul, bS, pt_n, ix_n, rd_n, ws_n, rdo_n, wso_n, setR_1, setL_w, setL_iv, up_setR, up_setL_w, up_setL_iv, nz_0, nz_1, F8_of_v, enw]
  rw [if_pos hr, if_neg h2, if_neg (nI_ge (a := 0) (by omega) (by omega)), if_pos h7, bSome]
theorem rests_v {r : RS} {v : Nat → Int32} {s : Nat} (hs : s < 6) (hr : ¬ v (17 + 16 * s + 11) ≤ nI 0) : stF (setR r v) s = some (setR r (upd v (17 + 16 * s + 11) (v (17 + 16 * s + 11) - nI 1))) := by
  unfold stF
  simp (disch := omega) only [lit32, neg1, nI_add, nI_mul, bS, pt_n, ix_n, rd_n, ws_n, rdo_n, wso_n, setR_1, setL_w, setL_iv, up_setR, up_setL_w, up_setL_iv, nz_0, nz_1, F8_of_v, F8_grows_v]
  rw [if_neg hr, add_m1]
theorem rests_w {c : RS} {g : CG} {L s : Nat} {w iv : Nat → Int32} (hs : s < 6) (hr : ¬ w (17 + 16 * s + 11) ≤ nI 0) : C3_restOrWork g (setL c L w iv) L s = some (nI 0, setL c L (upd (upd w (17 + 16 * s + 11) (w (17 + 16 * s + 11) - nI 1)) 1060 (nI 1)) iv) := by
  unfold C3_restOrWork
  simp (disch := omega) only [lit32, neg1, nI_add, nI_mul, bS, pt_n, ix_n, rd_n, ws_n, rdo_n, wso_n, setR_1, setL_w, setL_iv, up_setR, up_setL_w, up_setL_iv, nz_0, nz_1]
  rw [if_neg hr]
theorem bad_1 {g : CG} {L s : Nat} {u : RS} : ((some (nI 1, u)).bind fun t17 => (if t17.1 = 0 then some (nI 0, t17.2) else some (nI 1, t17.2) : Option (Int32 × RS)).bind fun t12 => (nz t12.1).bind fun x15 => some (x15, t12.2)) = some (nI 1, u) := by
  rw [bS]; simp only; rw [if_neg ne10, bS]; rfl
theorem bad_0 {g : CG} {L s : Nat} {u : RS} : ((some (nI 0, u)).bind fun t17 => (if t17.1 = 0 then some (nI 0, t17.2) else some (nI 1, t17.2) : Option (Int32 × RS)).bind fun t12 => (nz t12.1).bind fun x15 => some (x15, t12.2)) = some (nI 0, u) := by
  rw [bS]; simp only; rw [if_pos e00, bS]; rfl
theorem work_ok {r c : RS} {g : CG} {L sm lm cm B U s u : Nat} {v w iv : Nat → Int32} (hL : L < 12) (hg : g.nt < 2 ^ 31) (hU2 : U < 2000000000) (h : QX c g L v w iv sm lm cm B U) (hs : s < sm) (hu : sS w s 4 = nI u) (hU : u + 1 ≤ U) :
    ∃ v1 w1 iv1 b, stF (setR r v) s = some (setR r v1) ∧
      ((b = 0 ∧ C3_restOrWork g (setL c L w iv) L s = some (nI 0, setL c L w1 iv1)) ∨ (b = 1 ∧ sS v1 s 2 = m1 ∧ ∃ w0 iv0, C3_restOrWork g (setL c L w iv) L s = some (nI 1, setL c L w0 iv0) ∧ C3_failCardIn g (setL c L w0 iv0) L s = some (setL c L w1 iv1))) ∧
      QX c g L v1 w1 iv1 sm lm cm B U ∧ (∀ s', s' < s → sS w1 s' 4 = sS w s' 4) ∧ ((STw w s ∧ b = 0 ∧ v1 = v ∧ w1 = w ∧ iv1 = iv) ∨ (¬ STw w s ∧ w1 1060 = nI 1)) := by
  have hsm := h.a.sm6; have hcm := h.a.cm30
  have hs6 : s < 6 := by omega
  have S : ∀ k, k < 16 → w (17 + 16 * s + k) = sS w s k := fun k hk => sS_r (v := w) (by omega) hk
  have E : ∀ k, k < 14 → k ≠ 8 → v (17 + 16 * s + k) = w (17 + 16 * s + k) := fun k a b => h.rs hs a b
  obtain ⟨n, hn, en⟩ := h.s.need s hs
  have enw : w (17 + 16 * s + 3) = nI n := (S 3 (by omega)).trans en
  have env : v (17 + 16 * s + 3) = nI n := (E 3 (by omega) (by omega)).trans enw
  by_cases hst : STw w s
  · have s1 : w (17 + 16 * s + 11) ≤ nI 0 := by rw [S 11 (by omega)]; exact hst.1
    have s2 : w (17 + 16 * s + 2) = m1 ∨ w (17 + 16 * s + 3) = nI 0 ∨ w (17 + 16 * s + 7) ≠ nI 0 := by rw [S 2 (by omega), S 3 (by omega), S 7 (by omega)]; exact hst.2
    exact ⟨v, w, iv, 0, still_v hs6 hn env (by rw [E 11 (by omega) (by omega)]; exact s1) (by rw [E 2 (by omega) (by omega), E 3 (by omega) (by omega), E 7 (by omega) (by omega)]; exact s2), Or.inl ⟨rfl, still_w hs6 hn enw s1 s2⟩, h, fun _ _ => rfl, Or.inl ⟨hst, rfl, rfl, rfl, rfl⟩⟩
  · by_cases hr : w (17 + 16 * s + 11) ≤ nI 0
    · have hr' : sS w s 11 ≤ nI 0 := by rw [← S 11 (by omega)]; exact hr
      have h2 : ¬ w (17 + 16 * s + 2) = m1 := fun q => hst ⟨hr', Or.inl ((S 2 (by omega)).symm.trans q)⟩
      have h3 : n ≠ 0 := fun q => hst ⟨hr', Or.inr (Or.inl (by rw [en, q]))⟩
      have h7 : w (17 + 16 * s + 7) = nI 0 := by
        by_cases q : w (17 + 16 * s + 7) = nI 0
        · exact q
        · exact absurd ⟨hr', Or.inr (Or.inr (by rw [← S 7 (by omega)]; exact q))⟩ hst
      obtain ⟨q, q1, q2, q3, q4⟩ : ∃ q, q < cm ∧ sS w s 2 = nI q ∧ sC w q 3 = nI 1 ∧ sC w q 4 = nI s := by
        rcases h.s.hold s hs with e | e
        · exact absurd ((S 2 (by omega)).trans e) h2
        · exact e
      have hF0 := wkv (r := r) (v := v) (n := n) hs6 (by omega) hn (by rw [E 11 (by omega) (by omega)]; exact hr) (by rw [E 2 (by omega) (by omega)]; exact h2) (by rw [E 7 (by omega) (by omega)]; exact h7) env
      have hA : QX c g L (wkF v s n) (upd (wkF w s n) 1060 (nI 1)) iv sm lm cm B U := by
        unfold wkF
        rw [E 12 (by omega) (by omega)]
        exact ((QR.free 12 (by omega) hs6 h).upS hs6 (by omega) (QS.uNeed (by omega) (QR.free 12 (by omega) hs6 h).s)).upM
      have vS : ∀ f : Nat → Int32, sS (wkF f s n) = up2 (up2 (sS f) s 12 (f (17 + 16 * s + 12) + nI 1)) s 3 (nI (n - 1)) := fun f => by unfold wkF; simp (disch := omega) only [sA_A, sA_S, sA_L, sA_C, sA_F, sA_P, sA_E, sA_M, sS_A, sS_S, sS_L, sS_C, sS_F, sS_P, sS_E, sS_M, sL_A, sL_S, sL_L, sL_C, sL_F, sL_P, sL_E, sL_M, sC_A, sC_S, sC_L, sC_C, sC_F, sC_P, sC_E, sC_M, sF_A, sF_S, sF_L, sF_C, sF_F, sF_P, sF_E, sF_M, sP_A, sP_S, sP_L, sP_C, sP_F, sP_P, sP_E, sP_M, sE_A, sE_S, sE_L, sE_C, sE_F, sE_P, sE_E, sE_M]
      have vC : ∀ f : Nat → Int32, sC (wkF f s n) = sC f := fun f => by unfold wkF; simp (disch := omega) only [sA_A, sA_S, sA_L, sA_C, sA_F, sA_P, sA_E, sA_M, sS_A, sS_S, sS_L, sS_C, sS_F, sS_P, sS_E, sS_M, sL_A, sL_S, sL_L, sL_C, sL_F, sL_P, sL_E, sL_M, sC_A, sC_S, sC_L, sC_C, sC_F, sC_P, sC_E, sC_M, sF_A, sF_S, sF_L, sF_C, sF_F, sF_P, sF_E, sF_M, sP_A, sP_S, sP_L, sP_C, sP_F, sP_P, sP_E, sP_M, sE_A, sE_S, sE_L, sE_C, sE_F, sE_P, sE_E, sE_M]
      have fr : ∀ s', s' < s → sS (upd (wkF w s n) 1060 (nI 1)) s' 4 = sS w s' 4 := fun s' hs' => by
        rw [sS_M, vS, up2_ne (by decide), up2_ne (by decide)]
      have rd_ : ∀ (f : Nat → Int32) k, k < 16 → k ≠ 12 → k ≠ 3 → wkF f s n (17 + 16 * s + k) = f (17 + 16 * s + k) := fun f k a b d => by unfold wkF; simp (disch := omega) only [upd_n]
      by_cases hn1 : n = 1
      · subst hn1
        obtain ⟨t, k, t1, t2, t3, t4, t5, t6, t7, t8⟩ := h.s.script s hs
        have huw : w (17 + 16 * s + 4) = nI u := (S 4 (by omega)).trans hu
        have t7v : v (17 + 16 * s + 14) = nI k := by rw [sS_r (v := v) (by omega) (by omega)]; exact t7
        have t3w : w (17 + 16 * s + 14) = nI t := (S 14 (by omega)).trans t3
        have hB := hA.sig hs (u := u) (by rw [upd_n (by omega), rd_ w 4 (by omega) (by omega) (by omega)]; exact huw) hU
        have hmk : u % k < k := Nat.mod_lt _ (by omega)
        have bits : c (500 + t) (1 + u % k) = nI 49 ↔ sS v s 15 >>> nI (u % k) &&& nI 1 = nI 1 := t8 (u % k) hmk
        have b1 := isBad_v (r := r) (v := wkF v s 1) (s := s) (u := u) (n := k) hs6 (by rw [rd_ v 4 (by omega) (by omega) (by omega), E 4 (by omega) (by omega)]; exact huw) (by omega) (by rw [rd_ v 14 (by omega) (by omega) (by omega)]; exact t7v) t5 t6
        have b2 := useSign_w (c := c) (g := g) (iv := iv) (w := upd (wkF w s 1) 1060 (nI 1)) (s := s) (u := u) (n := k) (t := t) hL hs6 (by rw [upd_n (by omega), rd_ w 14 (by omega) (by omega) (by omega)]; exact t3w) t1 t2 (by omega) t4 t5 t6 (by rw [upd_n (by omega), rd_ w 4 (by omega) (by omega) (by omega)]; exact huw) (by omega)
        rw [rd_ v 15 (by omega) (by omega) (by omega), sS_r (v := v) (by omega) (by omega)] at b1
        have hW := works1_v (r := r) (v := v) hs6 env
        have hR := rest1_w (c := c) (g := g) (L := L) (iv := iv) hs6 hr h2 h7 enw
        rw [b1] at hW
        rw [b2] at hR
        have h2s : sS (sgnF (upd (wkF w s 1) 1060 (nI 1)) s) s 2 = nI q := by
          rw [sS_sgn hs6 (by decide) (by decide) (by decide), sS_M, vS, up2_ne (by decide), up2_ne (by decide)]; exact q2
        by_cases hbad : c (500 + t) (1 + u % k) = nI 49
        · rw [if_pos (bits.mp hbad), bS] at hW
          rw [if_pos hbad, bad_1 (g := g) (L := L) (s := s)] at hR
          obtain ⟨v', w', iv', k1, k2, k3, k4, k5, k6⟩ := fail_ok (r := r) hL hB hs q1 h2s (by rw [sC_sgn hs6, sC_M, vC]; exact q3)
          refine ⟨v', w', iv', 1, ?_, Or.inr ⟨rfl, k6, _, _, hR, k2⟩, k3, fun s' hs' => ?_, Or.inr ⟨hst, ?_⟩⟩
          · rw [hF0, hW]
            simp only
            rw [if_neg ne10, F8_of_v hs6 (by omega), bS, hB.rs hs (by omega) (by omega), sS_r (v := sgnF _ s) (by omega) (by omega), h2s, k1, bS]
          · rw [k4 s' 4 (by decide) (by decide), sS_sgn4 hs6 hs']; exact fr s' hs'
          · rw [k5, sM_sgn hs6, upd_e]
        · rw [if_neg (fun q => hbad (bits.mpr q)), bS] at hW
          rw [if_neg hbad, bad_0 (g := g) (L := L) (s := s)] at hR
          refine ⟨_, _, _, 0, ?_, Or.inl ⟨rfl, hR⟩, hB, fun s' hs' => ?_, Or.inr ⟨hst, ?_⟩⟩
          · rw [hF0, hW]
            simp only
            rw [if_pos e00]
          · rw [sS_sgn4 hs6 hs']; exact fr s' hs'
          · rw [sM_sgn hs6, upd_e]
      · exact ⟨_, _, _, 0, hF0.trans (worksn_v hs6 (by omega) hn env), Or.inl ⟨rfl, restn_w hs6 (by omega) hn hr h2 h7 enw⟩, hA, fr, Or.inr ⟨hst, upd_e⟩⟩
    · refine ⟨_, _, _, 0, rests_v hs6 (by rw [E 11 (by omega) (by omega)]; exact hr), Or.inl ⟨rfl, rests_w hs6 hr⟩, ?_, fun s' hs' => ?_, Or.inr ⟨hst, upd_e⟩⟩
      · rw [E 11 (by omega) (by omega)]
        exact (QR.free 11 (by omega) hs6 h (x := w (17 + 16 * s + 11) - nI 1)).upM
      · simp (disch := omega) only [sA_A, sA_S, sA_L, sA_C, sA_F, sA_P, sA_E, sA_M, sS_A, sS_S, sS_L, sS_C, sS_F, sS_P, sS_E, sS_M, sL_A, sL_S, sL_L, sL_C, sL_F, sL_P, sL_E, sL_M, sC_A, sC_S, sC_L, sC_C, sC_F, sC_P, sC_E, sC_M, sF_A, sF_S, sF_L, sF_C, sF_F, sF_P, sF_E, sF_M, sP_A, sP_S, sP_L, sP_C, sP_F, sP_P, sP_E, sP_M, sE_A, sE_S, sE_L, sE_C, sE_F, sE_P, sE_E, sE_M]; rw [up2_ne (by decide)]
