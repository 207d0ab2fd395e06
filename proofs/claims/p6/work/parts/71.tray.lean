theorem QR.rush {v w iv : Nat → Int32} {bp dl df tx : Nat → Nat → Int32} {nt sm lm cm B U q : Nat} {x : Int32} (hx : x = nI 0 ∨ (x = nI 1 ∧ sC w q 3 = nI 0)) (h : QR v w iv bp dl df tx nt sm lm cm B U) (hq : q < cm) : QR (upd v (137 + 25 * q + 8) x) (upd w (137 + 25 * q + 8) x) iv bp dl df tx nt sm lm cm B U := by
  have hcm := h.a.cm30
  refine ⟨?_, ?_, ?_, ?_, ?_, ?_, ?_⟩
  · simp (disch := omega) only [sA_A, sA_S, sA_L, sA_C, sA_F, sA_P, sA_E, sA_M, sS_A, sS_S, sS_L, sS_C, sS_F, sS_P, sS_E, sS_M, sL_A, sL_S, sL_L, sL_C, sL_F, sL_P, sL_E, sL_M, sC_A, sC_S, sC_L, sC_C, sC_F, sC_P, sC_E, sC_M, sF_A, sF_S, sF_L, sF_C, sF_F, sF_P, sF_E, sF_M, sP_A, sP_S, sP_L, sP_C, sP_F, sP_P, sP_E, sP_M, sE_A, sE_S, sE_L, sE_C, sE_F, sE_P, sE_E, sE_M]; exact h.a
  · simp (disch := omega) only [sA_A, sA_S, sA_L, sA_C, sA_F, sA_P, sA_E, sA_M, sS_A, sS_S, sS_L, sS_C, sS_F, sS_P, sS_E, sS_M, sL_A, sL_S, sL_L, sL_C, sL_F, sL_P, sL_E, sL_M, sC_A, sC_S, sC_L, sC_C, sC_F, sC_P, sC_E, sC_M, sF_A, sF_S, sF_L, sF_C, sF_F, sF_P, sF_E, sF_M, sP_A, sP_S, sP_L, sP_C, sP_F, sP_P, sP_E, sP_M, sE_A, sE_S, sE_L, sE_C, sE_F, sE_P, sE_E, sE_M]; exact h.s.cardk (by decide) (by decide)
  · simp (disch := omega) only [sA_A, sA_S, sA_L, sA_C, sA_F, sA_P, sA_E, sA_M, sS_A, sS_S, sS_L, sS_C, sS_F, sS_P, sS_E, sS_M, sL_A, sL_S, sL_L, sL_C, sL_F, sL_P, sL_E, sL_M, sC_A, sC_S, sC_L, sC_C, sC_F, sC_P, sC_E, sC_M, sF_A, sF_S, sF_L, sF_C, sF_F, sF_P, sF_E, sF_M, sP_A, sP_S, sP_L, sP_C, sP_F, sP_P, sP_E, sP_M, sE_A, sE_S, sE_L, sE_C, sE_F, sE_P, sE_E, sE_M]; exact QC.rushed hx h.c
  · simp (disch := omega) only [sA_A, sA_S, sA_L, sA_C, sA_F, sA_P, sA_E, sA_M, sS_A, sS_S, sS_L, sS_C, sS_F, sS_P, sS_E, sS_M, sL_A, sL_S, sL_L, sL_C, sL_F, sL_P, sL_E, sL_M, sC_A, sC_S, sC_L, sC_C, sC_F, sC_P, sC_E, sC_M, sF_A, sF_S, sF_L, sF_C, sF_F, sF_P, sF_E, sF_M, sP_A, sP_S, sP_L, sP_C, sP_F, sP_P, sP_E, sP_M, sE_A, sE_S, sE_L, sE_C, sE_F, sE_P, sE_E, sE_M]; exact h.n.cardk (by omega)
  · simp (disch := omega) only [sA_A, sA_S, sA_L, sA_C, sA_F, sA_P, sA_E, sA_M, sS_A, sS_S, sS_L, sS_C, sS_F, sS_P, sS_E, sS_M, sL_A, sL_S, sL_L, sL_C, sL_F, sL_P, sL_E, sL_M, sC_A, sC_S, sC_L, sC_C, sC_F, sC_P, sC_E, sC_M, sF_A, sF_S, sF_L, sF_C, sF_F, sF_P, sF_E, sF_M, sP_A, sP_S, sP_L, sP_C, sP_F, sP_P, sP_E, sP_M, sE_A, sE_S, sE_L, sE_C, sE_F, sE_P, sE_E, sE_M]; exact h.l.cardk (by omega)
  · simp (disch := omega) only [sA_A, sA_S, sA_L, sA_C, sA_F, sA_P, sA_E, sA_M, sS_A, sS_S, sS_L, sS_C, sS_F, sS_P, sS_E, sS_M, sL_A, sL_S, sL_L, sL_C, sL_F, sL_P, sL_E, sL_M, sC_A, sC_S, sC_L, sC_C, sC_F, sC_P, sC_E, sC_M, sF_A, sF_S, sF_L, sF_C, sF_F, sF_P, sF_E, sF_M, sP_A, sP_S, sP_L, sP_C, sP_F, sP_P, sP_E, sP_M, sE_A, sE_S, sE_L, sE_C, sE_F, sE_P, sE_E, sE_M]; exact h.d
  · simp (disch := omega) only [sA_A, sA_S, sA_L, sA_C, sA_F, sA_P, sA_E, sA_M, sS_A, sS_S, sS_L, sS_C, sS_F, sS_P, sS_E, sS_M, sL_A, sL_S, sL_L, sL_C, sL_F, sL_P, sL_E, sL_M, sC_A, sC_S, sC_L, sC_C, sC_F, sC_P, sC_E, sC_M, sF_A, sF_S, sF_L, sF_C, sF_F, sF_P, sF_E, sF_M, sP_A, sP_S, sP_L, sP_C, sP_F, sP_P, sP_E, sP_M, sE_A, sE_S, sE_L, sE_C, sE_F, sE_P, sE_E, sE_M]; exact h.wh.up (by decide) (by decide)
noncomputable def FN (w : Nat → Int32) (sm cm : Nat) : Prop := (sm = 0 ∨ w 5 ≤ nI 0 ∨ sS w 0 2 ≠ m1 ∨ sS w 0 7 ≠ nI 0) ∨ ∀ k, k < cm → ¬ sC w k 3 = nI 0
theorem feed_ok {r c : RS} {g : CG} {L sm lm cm B U : Nat} {v w iv : Nat → Int32} (hL : L < 12) (hg : g.nt < 2 ^ 31) (h : QX c g L v w iv sm lm cm B U) :
    ∃ v' w' iv', F8_feeds (setR r v) = some (setR r v') ∧ C3_feed g (setL c L w iv) L = some (setL c L w' iv') ∧ QX c g L v' w' iv' sm lm cm B U ∧ ((FN w sm cm ∧ v' = v ∧ w' = w ∧ iv' = iv) ∨ (¬ FN w sm cm ∧ w' 1060 = nI 1)) := by
  have hcm := h.a.cm30; have hsm := h.a.sm6
  have h7w : w 7 = nI sm := by rw [sA_r (v := w) (by omega)]; exact h.a.w7
  have h7v : v 7 = nI sm := by rw [h.ra (i := 7) (by omega) (by omega) (by omega)]; exact h7w
  have h5v : v 5 = w 5 := h.ra (by omega) (by omega) (by omega)
  have s2 : w (17 + 16 * 0 + 2) = sS w 0 2 := sS_r (v := w) (by omega) (by omega)
  have s7 : w (17 + 16 * 0 + 7) = sS w 0 7 := sS_r (v := w) (by omega) (by omega)
  have mm : m1 = m1 := rfl
  have zz : nI 0 = nI 0 := rfl
  by_cases hc : sm = 0 ∨ w 5 ≤ nI 0 ∨ sS w 0 2 ≠ m1 ∨ sS w 0 7 ≠ nI 0
  · refine ⟨v, w, iv, ?_, ?_, h, Or.inl ⟨Or.inl hc, rfl, rfl, rfl⟩⟩
    · unfold F8_feeds
      simp (disch := omega) only [lit32, neg1, nI_add, nI_mul, bS, pt_n, ix_n, rd_n, ws_n, rdo_n, wso_n, setR_1, setL_w, setL_iv, up_setR, up_setL_w, up_setL_iv, nz_0, nz_1, h7v, F8_of_v, h5v]
      by_cases c1 : nI sm ≤ nI 0
      · rw [if_pos c1, bS, if_pos zz, bS, if_pos mm]
      · have c0 : ¬ sm = 0 := fun q => c1 (nI_le (by omega) (by omega))
        have e2 : v (17 + 16 * 0 + 2) = w (17 + 16 * 0 + 2) := h.rs (by omega) (by omega) (by omega)
        have e7 : v (17 + 16 * 0 + 7) = w (17 + 16 * 0 + 7) := h.rs (by omega) (by omega) (by omega)
        rw [if_neg c1, e2, e7]
        by_cases c2 : w (17 + 16 * 0 + 2) = m1
        · rw [if_pos c2]
          by_cases c7 : w (17 + 16 * 0 + 7) = nI 0
          · rw [if_pos c7]
            by_cases c5 : w 5 ≤ nI 0
            · rw [if_pos c5, bS, if_pos zz, bS, if_pos mm]
            · exfalso
              rcases hc with q | q | q | q
              · exact c0 q
              · exact c5 q
              · exact q (s2.symm.trans c2)
              · exact q (s7.symm.trans c7)
          · rw [if_neg c7, bS, if_pos zz, bS, if_pos mm]
        · rw [if_neg c2, bS, if_pos zz, bS, if_pos mm]
    · unfold C3_feed
      simp (disch := omega) only [lit32, neg1, nI_add, nI_mul, bS, pt_n, ix_n, rd_n, ws_n, rdo_n, wso_n, setR_1, setL_w, setL_iv, up_setR, up_setL_w, up_setL_iv, nz_0, nz_1, h7w]
      by_cases c0 : nI sm = nI 0
      · rw [if_pos c0]
      · rw [if_neg c0]
        by_cases c5 : w 5 ≤ nI 0
        · rw [if_pos c5]
        · rw [if_neg c5]
          by_cases c2 : w (17 + 16 * 0 + 2) = m1
          · rw [if_pos c2]
            by_cases c7 : w (17 + 16 * 0 + 7) = nI 0
            · exfalso
              rcases hc with q | q | q | q
              · exact c0 (congrArg nI q)
              · exact c5 q
              · exact q (s2.symm.trans c2)
              · exact q (s7.symm.trans c7)
            · rw [if_neg c7]
          · rw [if_neg c2]
  · have c0 : ¬ sm = 0 := fun q => hc (Or.inl q)
    have c5 : ¬ w 5 ≤ nI 0 := fun q => hc (Or.inr (Or.inl q))
    have c2 : w (17 + 16 * 0 + 2) = m1 := by
      by_cases q : w (17 + 16 * 0 + 2) = m1
      · exact q
      · exact absurd (Or.inr (Or.inr (Or.inl (by rw [← s2]; exact q)))) hc
    have c7 : w (17 + 16 * 0 + 7) = nI 0 := by
      by_cases q : w (17 + 16 * 0 + 7) = nI 0
      · exact q
      · exact absurd (Or.inr (Or.inr (Or.inr (by rw [← s7]; exact q)))) hc
    have e2 : v (17 + 16 * 0 + 2) = m1 := (h.rs (by omega) (by omega) (by omega)).trans c2
    have e7 : v (17 + 16 * 0 + 7) = nI 0 := (h.rs (by omega) (by omega) (by omega)).trans c7
    obtain ⟨x, x1, x2, x3⟩ := toFeed_ok (r := r) h
    have hF : F8_feeds (setR r v) = if x = m1 then some (setR r v) else ((ws (setR r v) 1 1037 (nI 5) (w 5 - nI 1)).bind fun u10 => (ws u10 1 1037 (nI 12) (u10 1 12 + nI 1)).bind fun u12 => (F8_setsCard u12 x (nI 8) (nI 0)).bind fun u14 => F8_enters u14 (nI 0) x) := by
      unfold F8_feeds
      simp only [lit32, neg1]
      rw [setR_1, h7v, if_neg (nI_ge (by omega) (by omega)), F8_of_v (by omega) (by omega), bS, e2, if_pos mm, F8_of_v (by omega) (by omega), bS, e7, if_pos zz, h5v, if_neg c5, bS, if_neg (nI_ne (by omega) (by omega) (by omega)), x1, bS, bS]
      simp only [bSome]
    have hC : C3_feed g (setL c L w iv) L = if x = m1 then some (setL c L w iv) else ((pt (setL c L w iv) (10 + L) 5 (w 5 - nI 1)).bind fun u11 => (wso u11 (10 + L) 12 5 (nI 0) ((u11 (10 + L) (12 + 0)) + nI 1)).bind fun u13 => (ix 30 x).bind fun n15 => (pt u13 (10 + L) (137 + 25 * n15 + 8) (nI 0)).bind fun u17 => (C3_enter g u17 L x (nI 0)).bind fun u19 => (pt u19 (10 + L) 1060 (nI 1)).bind fun u21 => some u21) := by
      unfold C3_feed
      simp only [lit32, neg1]
      rw [setL_w, h7w, if_neg (nI_ne c0 (by omega) (by omega)), if_neg c5, c2, if_pos mm, c7, if_pos zz, x2, bS]
      simp only [bSome]
    rcases x3 with ⟨rfl, x3⟩ | ⟨q, hq, rfl, x3⟩
    · rw [if_pos mm] at hF
      rw [if_pos mm] at hC
      exact ⟨v, w, iv, hF, hC, h, Or.inl ⟨Or.inr x3, rfl, rfl, rfl⟩⟩
    · rw [if_neg (m1_ne (by omega))] at hF
      rw [if_neg (m1_ne (by omega))] at hC
      have hq30 : q < 30 := by omega
      have hQ : QX c g L (upd (upd (upd v 5 (w 5 - nI 1)) 12 (v 12 + nI 1)) (137 + 25 * q + 8) (nI 0)) (upd (upd (upd w 5 (w 5 - nI 1)) 12 (w 12 + nI 1)) (137 + 25 * q + 8) (nI 0)) iv sm lm cm B U := by
        rw [h.ra (i := 12) (by omega) (by omega) (by omega)]
        exact QR.rush (Or.inl rfl) (QR.tot (by omega) (QR.tot (by omega) h)) hq
      obtain ⟨v', w', iv', k1, k2, k3, k4, k5, k6⟩ := enter_ok (r := r) hL hg hQ (s := 0) (q := q) (a := 0) (by omega) hq (by simp (disch := omega) only [sA_A, sA_S, sA_L, sA_C, sA_F, sA_P, sA_E, sA_M, sS_A, sS_S, sS_L, sS_C, sS_F, sS_P, sS_E, sS_M, sL_A, sL_S, sL_L, sL_C, sL_F, sL_P, sL_E, sL_M, sC_A, sC_S, sC_L, sC_C, sC_F, sC_P, sC_E, sC_M, sF_A, sF_S, sF_L, sF_C, sF_F, sF_P, sF_E, sF_M, sP_A, sP_S, sP_L, sP_C, sP_F, sP_P, sP_E, sP_M, sE_A, sE_S, sE_L, sE_C, sE_F, sE_P, sE_E, sE_M]; exact h.s.nh1 hcm hq (by rw [x3]; exact nI_ne (by omega) (by omega) (by omega))) (Or.inl rfl) (by simp (disch := omega) only [sA_A, sA_S, sA_L, sA_C, sA_F, sA_P, sA_E, sA_M, sS_A, sS_S, sS_L, sS_C, sS_F, sS_P, sS_E, sS_M, sL_A, sL_S, sL_L, sL_C, sL_F, sL_P, sL_E, sL_M, sC_A, sC_S, sC_L, sC_C, sC_F, sC_P, sC_E, sC_M, sF_A, sF_S, sF_L, sF_C, sF_F, sF_P, sF_E, sF_M, sP_A, sP_S, sP_L, sP_C, sP_F, sP_P, sP_E, sP_M, sE_A, sE_S, sE_L, sE_C, sE_F, sE_P, sE_E, sE_M]; rw [up2_ne (by decide)]; exact x3) (by simp (disch := omega) only [sA_A, sA_S, sA_L, sA_C, sA_F, sA_P, sA_E, sA_M, sS_A, sS_S, sS_L, sS_C, sS_F, sS_P, sS_E, sS_M, sL_A, sL_S, sL_L, sL_C, sL_F, sL_P, sL_E, sL_M, sC_A, sC_S, sC_L, sC_C, sC_F, sC_P, sC_E, sC_M, sF_A, sF_S, sF_L, sF_C, sF_F, sF_P, sF_E, sF_M, sP_A, sP_S, sP_L, sP_C, sP_F, sP_P, sP_E, sP_M, sE_A, sE_S, sE_L, sE_C, sE_F, sE_P, sE_E, sE_M]; rw [up2_eq])
      refine ⟨v', upd w' 1060 (nI 1), iv', ?_, ?_, k3.upM, Or.inr ⟨?_, upd_e⟩⟩
      · rw [hF]
        simp (disch := omega) only [lit32, neg1, nI_add, nI_mul, bS, pt_n, ix_n, rd_n, ws_n, rdo_n, wso_n, setR_1, setL_w, setL_iv, up_setR, up_setL_w, up_setL_iv, nz_0, nz_1, F8_setsCard_s, upd_n]
        exact k1
      · rw [hC]
        simp (disch := omega) only [lit32, neg1, nI_add, nI_mul, bS, pt_n, ix_n, rd_n, ws_n, rdo_n, wso_n, setR_1, setL_w, setL_iv, up_setR, up_setL_w, up_setL_iv, nz_0, nz_1, upd_n]
        simp only [Nat.add_zero]
        rw [k2]
        simp (disch := omega) only [lit32, neg1, nI_add, nI_mul, bS, pt_n, ix_n, rd_n, ws_n, rdo_n, wso_n, setR_1, setL_w, setL_iv, up_setR, up_setL_w, up_setL_iv, nz_0, nz_1]
      · rintro (p | p)
        · exact hc p
        · exact p q hq x3
theorem tray_in {r c : RS} {g : CG} {L sm lm cm B U l : Nat} (hL : L < 12) (hl : l < lm) : ∀ (n fu fu2 y : Nat) (v w iv : Nat → Int32) (x : Int32), QX c g L v w iv sm lm cm B U → cnt cm (stC (sC w) 2) = n → y + n ≤ 30 → n < fu → n < fu2 → (x = m1 ∨ ∃ q, q < cm ∧ x = nI q) →
    ∃ v' w' iv' x1 y2 x2, F8_clearsTray_L19 (nI l) fu x (setR r v) = some (x1, setR r v') ∧ C3_emptyTray_L31 (nI l) L g fu2 (nI y) x (setL c L w iv) = some (y2, x2, setL c L w' iv') ∧ QX c g L v' w' iv' sm lm cm B U ∧ (((∀ q, q < cm → x = nI q → ¬ sC w q 3 = nI 2) ∧ v' = v ∧ w' = w ∧ iv' = iv) ∨ ((∃ q, q < cm ∧ x = nI q ∧ sC w q 3 = nI 2) ∧ w' 1060 = nI 1)) := by
  intro n
  induction n with
  | zero =>
    intro fu fu2 y v w iv x h hn hy hfu hfu2 hx
    obtain ⟨fu, rfl⟩ : ∃ m, fu = m + 1 := ⟨fu - 1, by omega⟩
    obtain ⟨fu2, rfl⟩ : ∃ m, fu2 = m + 1 := ⟨fu2 - 1, by omega⟩
    have hcm := h.a.cm30
    have nt : ∀ q, q < cm → ¬ sC w q 3 = nI 2 := fun q hq e => by
      have := cnt_pos (p := stC (sC w) 2) hq (decide_eq_true e); omega
    refine ⟨v, w, iv, x, nI y, x, ?_, ?_, h, Or.inl ⟨fun q hq _ => nt q hq, rfl, rfl, rfl⟩⟩
    · rw [F8_clearsTray_L19]
      rcases hx with rfl | ⟨q, hq, rfl⟩
      · rw [if_pos (show m1 = -1 from rfl)]
      · have hq30 : q < 30 := by omega
        simp (disch := omega) only [lit32, neg1, nI_add, nI_mul, bS, pt_n, ix_n, rd_n, ws_n, rdo_n, wso_n, setR_1, setL_w, setL_iv, up_setR, up_setL_w, up_setL_iv, nz_0, nz_1, F8_ofCard_v]
        rw [if_neg (m1_ne (by omega)), if_neg]
        rw [h.rc hq (by omega) (by omega), sC_r (v := w) (by omega) (by omega)]
        exact nt q hq
    · rw [C3_emptyTray_L31]
      by_cases hy3 : y = 30
      · simp (disch := omega) only [lit32, neg1, nI_add, nI_mul, bS, pt_n, ix_n, rd_n, ws_n, rdo_n, wso_n, setR_1, setL_w, setL_iv, up_setR, up_setL_w, up_setL_iv, nz_0, nz_1]
        rw [if_pos (nI_le (by omega) (by omega))]
      · rcases hx with rfl | ⟨q, hq, rfl⟩
        · simp only [lit32, neg1]
          rw [if_neg (nI_ge (by omega) (by omega)), if_pos trivial]
        · have hq30 : q < 30 := by omega
          simp (disch := omega) only [lit32, neg1, nI_add, nI_mul, bS, pt_n, ix_n, rd_n, ws_n, rdo_n, wso_n, setR_1, setL_w, setL_iv, up_setR, up_setL_w, up_setL_iv, nz_0, nz_1]
          rw [if_neg (nI_ge (by omega) (by omega)), if_neg (m1_ne (by omega)), if_neg]
          rw [sC_r (v := w) (by omega) (by omega)]
          exact nt q hq
  | succ n ih =>
    intro fu fu2 y v w iv x h hn hy hfu hfu2 hx
    obtain ⟨fu, rfl⟩ : ∃ m, fu = m + 1 := ⟨fu - 1, by omega⟩
    obtain ⟨fu2, rfl⟩ : ∃ m, fu2 = m + 1 := ⟨fu2 - 1, by omega⟩
    have hcm := h.a.cm30; have hlm := h.a.lm6
    by_cases hT : ∃ q, q < cm ∧ x = nI q ∧ sC w q 3 = nI 2
    · obtain ⟨q, hq, rfl, e3⟩ := hT
      have hq30 : q < 30 := by omega
      have hl6 : l < 6 := by omega
      obtain ⟨v1, w1, iv1, k1, k2, k3, k4, k5, k6, k7⟩ := leave_ok (r := r) hL h hq (a := 2) (by omega) e3 (h.c.r0 hq (by omega) (by omega) e3) (h.s.nh1 hcm hq (by rw [e3]; exact nI_ne (by omega) (by omega) (by omega)))
      obtain ⟨x', x1, x2, x3⟩ := next_ok (r := r) hL k3.upM hl (w := upd w1 1060 (nI 1))
      have hd : cnt cm (stC (sC (upd w1 1060 (nI 1))) 2) = n := by
        rw [sC_M]
        have := cnt_dec (p := stC (sC w) 2) (q := stC (sC w1) 2) hq (fun i hi hne => by unfold stC; rw [k6 i hne]) (decide_eq_true e3) (decide_eq_false (by rw [k5]; exact nI_ne (by omega) (by omega) (by omega)))
        omega
      obtain ⟨v2, w2, iv2, z1, y2, z2, j1, j2, j3, j4⟩ := ih fu fu2 (y + 1) v1 (upd w1 1060 (nI 1)) iv1 x' k3.upM hd (by omega) (by omega) (by omega) (by
        rcases x3 with q | ⟨q, q1, q2, -⟩
        · exact Or.inl q
        · exact Or.inr ⟨q, q1, q2⟩)
      refine ⟨v2, w2, iv2, z1, y2, z2, ?_, ?_, j3, Or.inr ⟨⟨q, hq, rfl, e3⟩, ?_⟩⟩
      · rw [F8_clearsTray_L19]
        simp (disch := omega) only [lit32, neg1, nI_add, nI_mul, bS, pt_n, ix_n, rd_n, ws_n, rdo_n, wso_n, setR_1, setL_w, setL_iv, up_setR, up_setL_w, up_setL_iv, nz_0, nz_1, F8_ofCard_v]
        rw [if_neg (m1_ne (by omega)), if_pos (by rw [h.rc hq (by omega) (by omega), sC_r (v := w) (by omega) (by omega)]; exact e3), k1, bS, x1, bS]
        exact j1
      · rw [C3_emptyTray_L31]
        simp (disch := omega) only [lit32, neg1, nI_add, nI_mul, bS, pt_n, ix_n, rd_n, ws_n, rdo_n, wso_n, setR_1, setL_w, setL_iv, up_setR, up_setL_w, up_setL_iv, nz_0, nz_1]
        rw [if_neg (nI_ge (by omega) (by omega)), if_neg (m1_ne (by omega)), if_pos (by rw [sC_r (v := w) (by omega) (by omega)]; exact e3), k2]
        simp (disch := omega) only [lit32, neg1, nI_add, nI_mul, bS, pt_n, ix_n, rd_n, ws_n, rdo_n, wso_n, setR_1, setL_w, setL_iv, up_setR, up_setL_w, up_setL_iv, nz_0, nz_1]
        rw [x2, bS]
        exact j2
      · rcases j4 with ⟨-, -, rfl, -⟩ | ⟨-, j4⟩
        · exact upd_e
        · exact j4
    · have nt : ∀ q, q < cm → x = nI q → ¬ sC w q 3 = nI 2 := fun q hq e e3 => hT ⟨q, hq, e, e3⟩
      refine ⟨v, w, iv, x, nI y, x, ?_, ?_, h, Or.inl ⟨nt, rfl, rfl, rfl⟩⟩
      · rw [F8_clearsTray_L19]
        rcases hx with rfl | ⟨q, hq, rfl⟩
        · rw [if_pos (show m1 = -1 from rfl)]
        · have hq30 : q < 30 := by omega
          simp (disch := omega) only [lit32, neg1, nI_add, nI_mul, bS, pt_n, ix_n, rd_n, ws_n, rdo_n, wso_n, setR_1, setL_w, setL_iv, up_setR, up_setL_w, up_setL_iv, nz_0, nz_1, F8_ofCard_v]
          rw [if_neg (m1_ne (by omega)), if_neg]
          rw [h.rc hq (by omega) (by omega), sC_r (v := w) (by omega) (by omega)]
          exact nt q hq rfl
      · rw [C3_emptyTray_L31]
        rcases hx with rfl | ⟨q, hq, rfl⟩
        · simp only [lit32, neg1]
          rw [if_neg (nI_ge (by omega) (by omega)), if_pos trivial]
        · have hq30 : q < 30 := by omega
          simp (disch := omega) only [lit32, neg1, nI_add, nI_mul, bS, pt_n, ix_n, rd_n, ws_n, rdo_n, wso_n, setR_1, setL_w, setL_iv, up_setR, up_setL_w, up_setL_iv, nz_0, nz_1]
          rw [if_neg (nI_ge (by omega) (by omega)), if_neg (m1_ne (by omega)), if_neg]
          rw [sC_r (v := w) (by omega) (by omega)]
          exact nt q hq rfl
noncomputable def TQ (c : RS) (g : CG) (L cm : Nat) (w iv : Nat → Int32) (l : Nat) : Prop := ∀ q, q < cm → C4_nextCard g (setL c L w iv) L l = some (nI q) → ¬ sC w q 3 = nI 2
theorem trayF_0 {r c : RS} {g : CG} {L sm lm cm B U : Nat} {v w iv : Nat → Int32} (hL : L < 12) (h : QX c g L v w iv sm lm cm B U) (h0 : cnt cm (stC (sC w) 2) = 0) : ∀ (d l fu : Nat), l + d = lm → d < fu → F8_clearsTray_L2 fu (nI l) (setR r v) = some (nI lm, setR r v) := by
  have hlm := h.a.lm6; have hcm := h.a.cm30
  have h8v : v 8 = nI lm := by rw [h.ra (i := 8) (by omega) (by omega) (by omega), sA_r (v := w) (by omega)]; exact h.a.w8
  intro d
  induction d with
  | zero =>
    intro l fu hy hfu
    obtain ⟨fu, rfl⟩ : ∃ m, fu = m + 1 := ⟨fu - 1, by omega⟩
    obtain rfl : l = lm := by omega
    rw [F8_clearsTray_L2]
    simp (disch := omega) only [lit32, neg1, nI_add, nI_mul, bS, pt_n, ix_n, rd_n, ws_n, rdo_n, wso_n, setR_1, setL_w, setL_iv, up_setR, up_setL_w, up_setL_iv, nz_0, nz_1, h8v]
    rw [if_pos (nI_le (by omega) (by omega))]
  | succ d ih =>
    intro l fu hy hfu
    obtain ⟨fu, rfl⟩ : ∃ m, fu = m + 1 := ⟨fu - 1, by omega⟩
    obtain ⟨x, x1, x2, x3⟩ := next_ok (r := r) hL h (l := l) (by omega)
    obtain ⟨v', w', iv', z1, y2, z2, j1, j2, j3, j4⟩ := tray_in (r := r) hL (l := l) (by omega) 0 FUEL FUEL 0 v w iv x h h0 (by omega) (by show 0 < 10000; omega) (by show 0 < 10000; omega) (by
      rcases x3 with q | ⟨q, q1, q2, -⟩
      · exact Or.inl q
      · exact Or.inr ⟨q, q1, q2⟩)
    have hv : v' = v := by
      rcases j4 with ⟨-, q, -⟩ | ⟨⟨q, q1, q2, q3⟩, -⟩
      · exact q
      · have := cnt_pos (p := stC (sC w) 2) q1 (decide_eq_true q3); omega
    rw [F8_clearsTray_L2]
    simp (disch := omega) only [lit32, neg1, nI_add, nI_mul, bS, pt_n, ix_n, rd_n, ws_n, rdo_n, wso_n, setR_1, setL_w, setL_iv, up_setR, up_setL_w, up_setL_iv, nz_0, nz_1, h8v]
    rw [if_neg (nI_ge (by omega) (by omega)), x1, bS, j1, bS, hv]
    exact ih (l + 1) fu (by omega) (by omega)
theorem tray_out {r c : RS} {g : CG} {L sm lm cm B U : Nat} (hL : L < 12) : ∀ (d l fu fu2 : Nat) (v w iv : Nat → Int32), l + d = lm → d < fu → d < fu2 → QX c g L v w iv sm lm cm B U →
    ∃ v' w' iv' y2, F8_clearsTray_L2 fu (nI l) (setR r v) = some (nI lm, setR r v') ∧ C3_emptyTray_L2 L g fu2 (nI l) (setL c L w iv) = some (y2, setL c L w' iv') ∧ QX c g L v' w' iv' sm lm cm B U ∧ (((∀ l', l ≤ l' → l' < lm → TQ c g L cm w iv l') ∧ v' = v ∧ w' = w ∧ iv' = iv) ∨ (¬ (∀ l', l ≤ l' → l' < lm → TQ c g L cm w iv l') ∧ w' 1060 = nI 1) ∨ (w 1060 = nI 1 ∧ w' 1060 = nI 1)) := by
  intro d
  induction d with
  | zero =>
    intro l fu fu2 v w iv hy hfu hfu2 h
    obtain ⟨fu, rfl⟩ : ∃ m, fu = m + 1 := ⟨fu - 1, by omega⟩
    obtain ⟨fu2, rfl⟩ : ∃ m, fu2 = m + 1 := ⟨fu2 - 1, by omega⟩
    obtain rfl : l = lm := by omega
    have hlm := h.a.lm6
    have h8w : w 8 = nI l := by rw [sA_r (v := w) (by omega)]; exact h.a.w8
    have h8v : v 8 = nI l := by rw [h.ra (i := 8) (by omega) (by omega) (by omega)]; exact h8w
    refine ⟨v, w, iv, nI l, ?_, ?_, h, Or.inl ⟨fun l' a b => by omega, rfl, rfl, rfl⟩⟩
    · rw [F8_clearsTray_L2]
      simp (disch := omega) only [lit32, neg1, nI_add, nI_mul, bS, pt_n, ix_n, rd_n, ws_n, rdo_n, wso_n, setR_1, setL_w, setL_iv, up_setR, up_setL_w, up_setL_iv, nz_0, nz_1, h8v]
      rw [if_pos (nI_le (by omega) (by omega))]
    · rw [C3_emptyTray_L2]
      simp (disch := omega) only [lit32, neg1, nI_add, nI_mul, bS, pt_n, ix_n, rd_n, ws_n, rdo_n, wso_n, setR_1, setL_w, setL_iv, up_setR, up_setL_w, up_setL_iv, nz_0, nz_1, h8w]
      rw [if_pos (nI_le (by omega) (by omega))]
  | succ d ih =>
    intro l fu fu2 v w iv hy hfu hfu2 h
    have hlm := h.a.lm6; have hcm := h.a.cm30
    have h8w : w 8 = nI lm := by rw [sA_r (v := w) (by omega)]; exact h.a.w8
    have h8v : v 8 = nI lm := by rw [h.ra (i := 8) (by omega) (by omega) (by omega)]; exact h8w
    have i2 : iv 2 = nI (cnt cm (stC (sC w) 2)) := h.n.ins 2 (by omega)
    have hle : cnt cm (stC (sC w) 2) ≤ cm := cnt_le
    by_cases h0 : cnt cm (stC (sC w) 2) = 0
    · obtain ⟨fu2, rfl⟩ : ∃ m, fu2 = m + 1 := ⟨fu2 - 1, by omega⟩
      refine ⟨v, w, iv, nI l, trayF_0 hL h h0 (d + 1) l fu (by omega) (by omega), ?_, h, Or.inl ⟨fun l' a b q hq _ e => ?_, rfl, rfl, rfl⟩⟩
      · rw [C3_emptyTray_L2]
        simp (disch := omega) only [lit32, neg1, nI_add, nI_mul, bS, pt_n, ix_n, rd_n, ws_n, rdo_n, wso_n, setR_1, setL_w, setL_iv, up_setR, up_setL_w, up_setL_iv, nz_0, nz_1, h8w, i2]
        rw [if_neg (nI_ge (by omega) (by omega)), if_pos (nI_le (by omega) (by omega))]
      · have := cnt_pos (p := stC (sC w) 2) hq (decide_eq_true e); omega
    · obtain ⟨fu, rfl⟩ : ∃ m, fu = m + 1 := ⟨fu - 1, by omega⟩
      obtain ⟨fu2, rfl⟩ : ∃ m, fu2 = m + 1 := ⟨fu2 - 1, by omega⟩
      have hl6 : l < 6 := by omega
      obtain ⟨x, x1, x2, x3⟩ := next_ok (r := r) hL h (l := l) (by omega)
      obtain ⟨v1, w1, iv1, z1, y2, z2, j1, j2, j3, j4⟩ := tray_in (r := r) hL (l := l) (by omega) (cnt cm (stC (sC w) 2)) FUEL FUEL 0 v w iv x h rfl (by omega) (by show _ < 10000; omega) (by show _ < 10000; omega) (by
        rcases x3 with q | ⟨q, q1, q2, -⟩
        · exact Or.inl q
        · exact Or.inr ⟨q, q1, q2⟩)
      obtain ⟨v2, w2, iv2, y3, i1, i2', i3, i4⟩ := ih (l + 1) fu fu2 v1 w1 iv1 (by omega) (by omega) (by omega) j3
      refine ⟨v2, w2, iv2, y3, ?_, ?_, i3, ?_⟩
      · rw [F8_clearsTray_L2]
        simp (disch := omega) only [lit32, neg1, nI_add, nI_mul, bS, pt_n, ix_n, rd_n, ws_n, rdo_n, wso_n, setR_1, setL_w, setL_iv, up_setR, up_setL_w, up_setL_iv, nz_0, nz_1, h8v]
        rw [if_neg (nI_ge (by omega) (by omega)), x1, bS, j1, bS]
        exact i1
      · rw [C3_emptyTray_L2]
        simp (disch := omega) only [lit32, neg1, nI_add, nI_mul, bS, pt_n, ix_n, rd_n, ws_n, rdo_n, wso_n, setR_1, setL_w, setL_iv, up_setR, up_setL_w, up_setL_iv, nz_0, nz_1, h8w, i2]
        rw [if_neg (nI_ge (by omega) (by omega)), if_neg (nI_ge (by omega) (by omega)), x2, bS, j2, bS]
        exact i2'
      · rcases j4 with ⟨j4, rfl, rfl, rfl⟩ | ⟨⟨q, q1, rfl, q3⟩, j5⟩
        · have hTl : TQ c g L cm w1 iv1 l := fun q hq e => j4 q hq (Option.some.inj (x2.symm.trans e))
          rcases i4 with ⟨i4, rfl, rfl, rfl⟩ | ⟨i4, i5⟩ | ⟨i4, i5⟩
          · refine Or.inl ⟨fun l' a b => ?_, rfl, rfl, rfl⟩
            by_cases e : l' = l
            · rw [e]; exact hTl
            · exact i4 l' (by omega) b
          · exact Or.inr (Or.inl ⟨fun q => i4 fun l' a b => q l' (by omega) b, i5⟩)
          · exact Or.inr (Or.inr ⟨i4, i5⟩)
        · refine Or.inr (Or.inl ⟨fun p => p l (by omega) (by omega) q q1 x2 q3, ?_⟩)
          rcases i4 with ⟨-, -, rfl, -⟩ | ⟨-, i5⟩ | ⟨-, i5⟩
          · exact j5
          · exact i5
          · exact i5
noncomputable def TN (c : RS) (g : CG) (L lm cm : Nat) (w iv : Nat → Int32) : Prop := ∀ l', 0 ≤ l' → l' < lm → TQ c g L cm w iv l'
theorem tray_ok {r c : RS} {g : CG} {L sm lm cm B U : Nat} {v w iv : Nat → Int32} (hL : L < 12) (h : QX c g L v w iv sm lm cm B U) :
    ∃ v' w' iv', F8_clearsTray (setR r v) = some (setR r v') ∧ C3_emptyTray g (setL c L w iv) L = some (setL c L w' iv') ∧ QX c g L v' w' iv' sm lm cm B U ∧ ((TN c g L lm cm w iv ∧ v' = v ∧ w' = w ∧ iv' = iv) ∨ (¬ TN c g L lm cm w iv ∧ w' 1060 = nI 1) ∨ (w 1060 = nI 1 ∧ w' 1060 = nI 1)) := by
  have hlm := h.a.lm6
  obtain ⟨v', w', iv', y2, k1, k2, k3, k4⟩ := tray_out (r := r) hL lm 0 FUEL FUEL v w iv (by omega) (by show lm < 10000; omega) (by show lm < 10000; omega) h
  refine ⟨v', w', iv', ?_, ?_, k3, k4⟩
  · unfold F8_clearsTray
    simp only [lit32]
    rw [k1, bS]
  · unfold C3_emptyTray
    simp only [lit32]
    rw [k2, bS]
