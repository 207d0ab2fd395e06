theorem text_ok {c : RS} {g : CG} {L sm lm cm B U q : Nat} {v w iv : Nat → Int32} (hg : g.nt < 2 ^ 31) (h : QX c g L v w iv sm lm cm B U) (hq : q < cm) : ∃ t n f, TXv v q n f ∧ TXc c g t n f ∧ w (137 + 25 * q + 2) = nI t := by
  have hcm := h.a.cm30
  obtain ⟨t, n, h1, h2, h3, h4, h5, h6, h7, h8⟩ := h.c.text q hq
  have hf : ∀ k, k < n → c (500 + t) (1 + k) = nI ((c (500 + t) (1 + k)).toNatClampNeg) ∧ (c (500 + t) (1 + k)).toNatClampNeg < 26 := fun k hk => by
    obtain ⟨-, a, ha, e⟩ := h8 k hk
    have e : c (500 + t) (1 + k) = nI a := e
    rw [e, nI_clamp (by omega)]; exact ⟨rfl, ha⟩
  refine ⟨t, n, fun k => (c (500 + t) (1 + k)).toNatClampNeg, ⟨by omega, h5, h6, ?_, fun k hk => ⟨?_, (hf k hk).2⟩⟩, ⟨h1, h2, by omega, h5, h6, h4, hf⟩, ?_⟩
  · rw [sC_r (v := v) (by omega) (by omega)]; exact h7
  · rw [sC_r (v := v) (by omega) (by omega), (h8 k hk).1]; exact (hf k hk).1
  · rw [sC_r (v := w) (by omega) (by omega)]; exact h3
theorem stat_ok {c : RS} {g : CG} {L sm lm cm B U s : Nat} {v w iv : Nat → Int32} (h : QX c g L v w iv sm lm cm B U) (hs : s < sm) : ∃ (wh : Bool) (p a : Nat), (wh = true ↔ v (17 + 16 * s + 0) = nI 3) ∧ (wh = true ↔ w (17 + 16 * s + 0) = nI 3) ∧ 1 ≤ p ∧ p ≤ 99 ∧ v (17 + 16 * s + 1) = nI p ∧ w (17 + 16 * s + 1) = nI p ∧ (wh = true → v (17 + 16 * s + 8) = nI a ∧ a < 26) ∧ (wh = true → w (17 + 16 * s + 8) = nI a ∧ a < 26) := by
  have hsm := h.a.sm6
  obtain ⟨p, p1, p2, p3⟩ := h.s.pace s hs
  have e0 : v (17 + 16 * s + 0) = w (17 + 16 * s + 0) := h.rs hs (by omega) (by omega)
  have ew : w (17 + 16 * s + 1) = nI p := by rw [sS_r (v := w) (by omega) (by omega)]; exact p3
  have ev : v (17 + 16 * s + 1) = nI p := by rw [h.rs hs (by omega) (by omega)]; exact ew
  by_cases e : w (17 + 16 * s + 0) = nI 3
  · obtain ⟨l1, a, l2, l3⟩ := h.s.letter s hs (by rw [← sS_r (v := w) (by omega) (by omega)]; exact e)
    have lw : w (17 + 16 * s + 8) = nI a := by rw [sS_r (v := w) (by omega) (by omega)]; exact l3
    have lv : v (17 + 16 * s + 8) = nI a := by rw [sS_r (v := v) (by omega) (by omega), l1]; exact l3
    exact ⟨true, p, a, by rw [e0]; exact ⟨fun _ => e, fun _ => rfl⟩, ⟨fun _ => e, fun _ => rfl⟩, p1, p2, ev, ew, fun _ => ⟨lv, l2⟩, fun _ => ⟨lw, l2⟩⟩
  · exact ⟨false, p, 0, by rw [e0]; exact ⟨fun q => absurd q (by decide), fun q => absurd q e⟩, ⟨fun q => absurd q (by decide), fun q => absurd q e⟩, p1, p2, ev, ew, fun q => absurd q (by decide), fun q => absurd q (by decide)⟩
theorem enter_ok {r c : RS} {g : CG} {L sm lm cm B U s q a : Nat} {v w iv : Nat → Int32} (hL : L < 12) (hg : g.nt < 2 ^ 31) (h : QX c g L v w iv sm lm cm B U) (hs : s < sm) (hq : q < cm) (nh : NH (sS w) sm q) (ha : a = 0 ∨ a = 1) (es : sC w q 3 = nI a) (r0 : sC w q 8 = nI 0) :
    ∃ v' w' iv', F8_enters (setR r v) (nI s) (nI q) = some (setR r v') ∧ C3_enter g (setL c L w iv) L (nI q) (nI s) = some (setL c L w' iv') ∧ QX c g L v' w' iv' sm lm cm B U ∧ (∀ s' k, s' ≠ s → sS w' s' k = sS w s' k) ∧ w' 1060 = w 1060 ∧ (∀ k, k ≠ 2 → k ≠ 3 → k ≠ 8 → sS w' s k = sS w s k) := by
  have hsm := h.a.sm6; have hcm := h.a.cm30
  have hs6 : s < 6 := by omega
  have hq30 : q < 30 := by omega
  obtain ⟨t, n, f, t1, t2, t3⟩ := text_ok hg h hq
  obtain ⟨wh, p, b, s1, s2, s3, s4, s5, s6, s7, s8⟩ := stat_ok h hs
  have hn1 := t1.n1; have hn16 := t1.n16
  have esw : w (137 + 25 * q + 3) = nI a := by rw [sC_r (v := w) (by omega) (by omega)]; exact es
  refine ⟨entS v s q (tckN wh p b n f) (trnN wh b n f) (f (n - 1)) wh, entS w s q (tckN wh p b n f) (trnN wh b n f) (f (n - 1)) wh, ivM iv a 1, F8_enters_v hs6 t1 s1 s5 s3 s4 s7, C3_enter_w hL hs6 hq30 t2 t3 s2 s6 s3 s4 s8 esw (by omega), ?_, ?_, ?_, ?_⟩
  · exact h.ent hs hq nh ha es r0 (tckN_le s3 s4 hn16 (fun e => (s7 e).2) (fun k hk => (t1.lets k hk).2)) (fun e => by rw [← sS_r (v := w) (by omega) (by omega)]; exact s2.mp e) (fun _ => (t1.lets (n - 1) (by omega)).2)
  · intro s' k hne
    unfold entS
    cases wh <;> (simp only [if_true, Bool.false_eq_true, if_false]; simp (disch := omega) only [sA_A, sA_S, sA_L, sA_C, sA_F, sA_P, sA_E, sA_M, sS_A, sS_S, sS_L, sS_C, sS_F, sS_P, sS_E, sS_M, sL_A, sL_S, sL_L, sL_C, sL_F, sL_P, sL_E, sL_M, sC_A, sC_S, sC_L, sC_C, sC_F, sC_P, sC_E, sC_M, sF_A, sF_S, sF_L, sF_C, sF_F, sF_P, sF_E, sF_M, sP_A, sP_S, sP_L, sP_C, sP_F, sP_P, sP_E, sP_M, sE_A, sE_S, sE_L, sE_C, sE_F, sE_P, sE_E, sE_M])
    · rw [up2_ne1 hne, up2_ne1 hne]
    · rw [up2_ne1 hne, up2_ne1 hne, up2_ne1 hne]
  · unfold entS
    cases wh <;> (simp only [if_true, Bool.false_eq_true, if_false]; simp (disch := omega) only [upd_n])
  · intro k h2 h3 h8
    unfold entS
    cases wh <;> (simp only [if_true, Bool.false_eq_true, if_false]; simp (disch := omega) only [sA_A, sA_S, sA_L, sA_C, sA_F, sA_P, sA_E, sA_M, sS_A, sS_S, sS_L, sS_C, sS_F, sS_P, sS_E, sS_M, sL_A, sL_S, sL_L, sL_C, sL_F, sL_P, sL_E, sL_M, sC_A, sC_S, sC_L, sC_C, sC_F, sC_P, sC_E, sC_M, sF_A, sF_S, sF_L, sF_C, sF_F, sF_P, sF_E, sF_M, sP_A, sP_S, sP_L, sP_C, sP_F, sP_P, sP_E, sP_M, sE_A, sE_S, sE_L, sE_C, sE_F, sE_P, sE_E, sE_M])
    · rw [up2_ne h3, up2_ne h2]
    · rw [up2_ne h3, up2_ne h2, up2_ne h8]
theorem goOn_ok {r c : RS} {g : CG} {L sm lm cm B U s q : Nat} {v w iv : Nat → Int32} (hL : L < 12) (hg : g.nt < 2 ^ 31) (h : QX c g L v w iv sm lm cm B U) (hs : s + 1 < sm) (hq : q < cm) (eh : sS w s 2 = nI q) (es : sC w q 3 = nI 1) (en : sS w (s + 1) 2 = m1) :
    ∃ v' w' iv', F8_goesOn (setR r v) (nI s) = some (setR r v') ∧ C3_goOn g (setL c L w iv) L s (nI (s + 1)) = some (setL c L w' iv') ∧ QX c g L v' w' iv' sm lm cm B U ∧ (∀ s' k, s' ≠ s → s' ≠ s + 1 → sS w' s' k = sS w s' k) ∧ w' 1060 = nI 1 ∧ (∀ s' k, k ≠ 2 → k ≠ 3 → k ≠ 6 → k ≠ 8 → sS w' s' k = sS w s' k) := by
  have hsm := h.a.sm6; have hcm := h.a.cm30
  have hs6 : s < 6 := by omega
  have hq30 : q < 30 := by omega
  have ehw : w (17 + 16 * s + 2) = nI q := by rw [sS_r (v := w) (by omega) (by omega)]; exact eh
  have ehv : v (17 + 16 * s + 2) = nI q := by rw [h.rs (by omega) (by omega) (by omega)]; exact ehw
  have enw : w (17 + 16 * (s + 1) + 2) = m1 := by rw [sS_r (v := w) (by omega) (by omega)]; exact en
  have env : v (17 + 16 * (s + 1) + 2) = m1 := by rw [h.rs (by omega) (by omega) (by omega)]; exact enw
  have h7 : v 7 = nI sm := by rw [h.ra (i := 7) (by omega) (by omega) (by omega), sA_r (v := w) (by omega)]; exact h.a.w7
  have r0 := h.c.r0 hq (by omega) (by omega) es
  have h1 : QX c g L (ouV v s) (ouV w s) iv sm lm cm B U := h.out (by omega)
  obtain ⟨v', w', iv', k1, k2, k3, k4, k5, k6⟩ := enter_ok (r := r) hL hg h1 (s := s + 1) (q := q) (a := 1) hs hq (by rw [sS_out hs6]; exact (h.s.nh hsm hcm (by omega) hq30 eh).up (by decide)) (Or.inr rfl) (by rw [sC_out hs6]; exact es) (by rw [sC_out hs6]; exact r0)
  refine ⟨v', upd w' 1060 (nI 1), iv', ?_, ?_, k3.upM, ?_, upd_e, ?_⟩
  · unfold F8_goesOn
    simp (disch := omega) only [lit32, neg1, nI_add, nI_mul, bS, pt_n, ix_n, rd_n, ws_n, rdo_n, wso_n, setR_1, setL_w, setL_iv, up_setR, up_setL_w, up_setL_iv, nz_0, nz_1, F8_of_v, ehv, h7]
    rw [nI_sub (by omega), if_neg (nI_ne (by omega) (by omega) (by omega))]
    simp (disch := omega) only [lit32, neg1, nI_add, nI_mul, bS, pt_n, ix_n, rd_n, ws_n, rdo_n, wso_n, setR_1, setL_w, setL_iv, up_setR, up_setL_w, up_setL_iv, nz_0, nz_1, F8_of_v, env]
    rw [if_pos trivial]
    try simp (disch := omega) only [lit32, neg1, nI_add, nI_mul, bS, pt_n, ix_n, rd_n, ws_n, rdo_n, wso_n, setR_1, setL_w, setL_iv, up_setR, up_setL_w, up_setL_iv, nz_0, nz_1, F8_of_v, env]
    try rw [if_pos trivial]
    simp (disch := omega) only [lit32, neg1, nI_add, nI_mul, bS, pt_n, ix_n, rd_n, ws_n, rdo_n, wso_n, setR_1, setL_w, setL_iv, up_setR, up_setL_w, up_setL_iv, nz_0, nz_1, F8_sets_s, F8_grows_v, upd_n]
    try rw [if_pos trivial]
    unfold ouV at k1
    rw [k1]; rfl
  · unfold C3_goOn C6_letGoOn
    simp (disch := omega) only [lit32, neg1, nI_add, nI_mul, bS, pt_n, ix_n, rd_n, ws_n, rdo_n, wso_n, setR_1, setL_w, setL_iv, up_setR, up_setL_w, up_setL_iv, nz_0, nz_1, ehw, upd_n]
    unfold ouV at k2
    rw [k2]
    simp (disch := omega) only [lit32, neg1, nI_add, nI_mul, bS, pt_n, ix_n, rd_n, ws_n, rdo_n, wso_n, setR_1, setL_w, setL_iv, up_setR, up_setL_w, up_setL_iv, nz_0, nz_1]
  · intro s' k a b
    simp (disch := omega) only [sA_A, sA_S, sA_L, sA_C, sA_F, sA_P, sA_E, sA_M, sS_A, sS_S, sS_L, sS_C, sS_F, sS_P, sS_E, sS_M, sL_A, sL_S, sL_L, sL_C, sL_F, sL_P, sL_E, sL_M, sC_A, sC_S, sC_L, sC_C, sC_F, sC_P, sC_E, sC_M, sF_A, sF_S, sF_L, sF_C, sF_F, sF_P, sF_E, sF_M, sP_A, sP_S, sP_L, sP_C, sP_F, sP_P, sP_E, sP_M, sE_A, sE_S, sE_L, sE_C, sE_F, sE_P, sE_E, sE_M]
    rw [k4 s' k b, sS_out hs6, up2_ne1 a, up2_ne1 a]
  · intro s' k a2 a3 a6 a8
    simp (disch := omega) only [sA_A, sA_S, sA_L, sA_C, sA_F, sA_P, sA_E, sA_M, sS_A, sS_S, sS_L, sS_C, sS_F, sS_P, sS_E, sS_M, sL_A, sL_S, sL_L, sL_C, sL_F, sL_P, sL_E, sL_M, sC_A, sC_S, sC_L, sC_C, sC_F, sC_P, sC_E, sC_M, sF_A, sF_S, sF_L, sF_C, sF_F, sF_P, sF_E, sF_M, sP_A, sP_S, sP_L, sP_C, sP_F, sP_P, sP_E, sP_M, sE_A, sE_S, sE_L, sE_C, sE_F, sE_P, sE_E, sE_M]
    by_cases e : s' = s + 1
    · subst e
      rw [k6 k a2 a3 a8, sS_out hs6, up2_ne a6, up2_ne a2]
    · rw [k4 s' k e, sS_out hs6, up2_ne a6, up2_ne a2]
