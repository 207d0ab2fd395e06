theorem hasReady_w {c : RS} {g : CG} {L s n : Nat} {w iv : Nat → Int32} {x : Int32} (h2 : w (17 + 16 * s + 2) = x) (h3 : w (17 + 16 * s + 3) = nI n) (hn : n < 2 ^ 31) : C6_hasReadyCard g (setL c L w iv) L s = some (if x = m1 ∨ n ≠ 0 then nI 0 else nI 1) := by
  unfold C6_hasReadyCard
  simp (disch := omega) only [lit32, neg1, nI_add, nI_mul, bS, pt_n, ix_n, rd_n, ws_n, rdo_n, wso_n, setR_1, setL_w, setL_iv, up_setR, up_setL_w, up_setL_iv, nz_0, nz_1, h2, h3]
  by_cases e : x = m1
  · rw [if_pos e, if_pos (Or.inl e)]; rfl
  · rw [if_neg e]
    by_cases e2 : n = 0
    · subst e2; rw [if_pos (show nI 0 = nI 0 from rfl), if_neg (show ¬ (x = m1 ∨ 0 ≠ 0) by rintro (q | q); exact e q; exact q rfl)]; rfl
    · rw [if_neg (nI_ne e2 hn (by omega)), if_pos (Or.inr e2)]; rfl
theorem isReady_v {r : RS} {v : Nat → Int32} {s n : Nat} {x : Int32} (hs : s < 6) (h2 : v (17 + 16 * s + 2) = x) (h3 : v (17 + 16 * s + 3) = nI n) (hn : n < 2 ^ 31) : F8_isReady (setR r v) (nI s) = some (if x = m1 ∨ n ≠ 0 then nI 0 else nI 1) := by
  unfold F8_isReady
  simp (disch := omega) only [lit32, neg1, nI_add, nI_mul, bS, pt_n, ix_n, rd_n, ws_n, rdo_n, wso_n, setR_1, setL_w, setL_iv, up_setR, up_setL_w, up_setL_iv, nz_0, nz_1, F8_of_v, h2, h3]
  by_cases e : x = m1
  · rw [if_pos e, if_pos (Or.inl e)]; rfl
  · rw [if_neg e]
    by_cases e2 : n = 0
    · subst e2; rw [if_pos (show nI 0 = nI 0 from rfl), if_neg (show ¬ (x = m1 ∨ 0 ≠ 0) by rintro (q | q); exact e q; exact q rfl)]; rfl
    · rw [if_neg (nI_ne e2 hn (by omega)), if_pos (Or.inr e2)]; rfl
noncomputable def rdyC (g : CG) (L : Nat) (u : RS) (s : Nat) (y : Int32) : Option RS := (C6_hasReadyCard g u L s).bind fun x30 => if x30 = 0 then ((C6_hasReadyCard g u L s).bind fun x33 => if x33 = 0 then (some u) else ((ix 6 (y + 1)).bind fun n36 => if (u (10 + L) (17 + 16 * n36 + 2)) = (-1) then ((C3_goOn g u L s ((y + 1))).bind fun u39 => some u39) else (some u))) else (if y = ((u (10 + L) 7) - 1) then ((C3_comeOut g u L s).bind fun u50 => some u50) else ((C6_hasReadyCard g u L s).bind fun x42 => if x42 = 0 then (some u) else ((ix 6 (y + 1)).bind fun n45 => if (u (10 + L) (17 + 16 * n45 + 2)) = (-1) then ((C3_goOn g u L s ((y + 1))).bind fun u48 => some u48) else (some u))))
noncomputable def rdyF (u : RS) (y : Int32) : Option RS := (F8_isReady u y).bind fun x7 => (if x7 = 0 then (some u) else ((F8_goesOn u y).bind fun u13 => some u13) : Option (RS)).bind fun t10 => some t10
theorem bSome {α : Type} {x : Option α} : (x.bind fun u => some u) = x := by cases x <;> rfl
noncomputable def RG (w : Nat → Int32) (sm s : Nat) : Prop := sS w s 2 ≠ m1 ∧ sS w s 3 = nI 0 ∧ (s + 1 = sm ∨ sS w (s + 1) 2 = m1)
theorem rdy_ok {r c : RS} {g : CG} {L sm lm cm B U s : Nat} {v w iv : Nat → Int32} (hL : L < 12) (hg : g.nt < 2 ^ 31) (h : QX c g L v w iv sm lm cm B U) (hs : s < sm) :
    ∃ v' w' iv', rdyF (setR r v) (nI s) = some (setR r v') ∧ rdyC g L (setL c L w iv) s (nI s) = some (setL c L w' iv') ∧ QX c g L v' w' iv' sm lm cm B U ∧ (∀ s', s' < s → sS w' s' 4 = sS w s' 4) ∧ ((¬ RG w sm s ∧ v' = v ∧ w' = w ∧ iv' = iv) ∨ (RG w sm s ∧ w' 1060 = nI 1)) := by
  have hsm := h.a.sm6; have hcm := h.a.cm30
  have hs6 : s < 6 := by omega
  obtain ⟨n, hn, en⟩ := h.s.need s hs
  have enw : w (17 + 16 * s + 3) = nI n := by rw [sS_r (v := w) (by omega) (by omega)]; exact en
  have env : v (17 + 16 * s + 3) = nI n := by rw [h.rs hs (by omega) (by omega)]; exact enw
  have hx2 : v (17 + 16 * s + 2) = w (17 + 16 * s + 2) := h.rs hs (by omega) (by omega)
  have s2 : w (17 + 16 * s + 2) = sS w s 2 := sS_r (v := w) (by omega) (by omega)
  have h7 : w 7 = nI sm := by rw [sA_r (v := w) (by omega)]; exact h.a.w7
  unfold rdyF rdyC
  rw [isReady_v hs6 hx2 env (by omega), hasReady_w rfl enw (by omega)]
  rcases h.s.hold s hs with e | ⟨q, q1, q2, q3, q4⟩
  · have e' : w (17 + 16 * s + 2) = m1 := s2.trans e
    rw [if_pos (Or.inl e')]
    refine ⟨v, w, iv, rfl, rfl, h, fun s' _ => rfl, Or.inl ⟨fun f => f.1 e, rfl, rfl, rfl⟩⟩
  · have e' : w (17 + 16 * s + 2) = nI q := s2.trans q2
    have ne : ¬ w (17 + 16 * s + 2) = m1 := by rw [e']; exact m1_ne (by omega)
    by_cases hn0 : n = 0
    · subst hn0
      rw [if_neg (by rintro (f | f); exact ne f; exact f rfl)]
      have hF : ∀ u, ((some (nI 1)).bind fun x7 => (if x7 = 0 then (some (setR r v)) else ((F8_goesOn (setR r v) (nI s)).bind fun u13 => some u13) : Option (RS)).bind fun t10 => some t10) = some u ↔ F8_goesOn (setR r v) (nI s) = some u := fun u => by
        rw [bS, if_neg (show ¬ nI 1 = 0 by decide), bSome, bSome]
      simp (disch := omega) only [lit32, neg1, nI_add, nI_mul, bS, pt_n, ix_n, rd_n, ws_n, rdo_n, wso_n, setR_1, setL_w, setL_iv, up_setR, up_setL_w, up_setL_iv, nz_0, nz_1]
      simp only [show ¬ nI 1 = nI 0 from nI_ne (by omega) (by omega) (by omega), if_false, bSome, h7]
      rw [nI_sub (by omega)]
      by_cases hl : s + 1 = sm
      · rw [if_pos (by congr 1; omega)]
        obtain ⟨v', w', iv', k1, k2, k3, k4, k5, k6⟩ := comeOut_ok (r := r) hL h hl q1 q2 q3
        exact ⟨v', w', iv', k1, k2, k3, fun s' hs' => k4 s' 4 (by omega), Or.inr ⟨⟨by rw [q2]; exact m1_ne (by omega), en, Or.inl hl⟩, k5⟩⟩
      · rw [if_neg (nI_ne (by omega) (by omega) (by omega))]
        simp (disch := omega) only [lit32, neg1, nI_add, nI_mul, bS, pt_n, ix_n, rd_n, ws_n, rdo_n, wso_n, setR_1, setL_w, setL_iv, up_setR, up_setL_w, up_setL_iv, nz_0, nz_1]
        have s3 : w (17 + 16 * (s + 1) + 2) = sS w (s + 1) 2 := sS_r (v := w) (by omega) (by omega)
        by_cases hf : w (17 + 16 * (s + 1) + 2) = m1
        · rw [if_pos hf]
          obtain ⟨v', w', iv', k1, k2, k3, k4, k5, k6⟩ := goOn_ok (r := r) hL hg h (by omega) q1 q2 q3 (s3.symm.trans hf)
          exact ⟨v', w', iv', k1, k2, k3, fun s' hs' => k4 s' 4 (by omega) (by omega), Or.inr ⟨⟨by rw [q2]; exact m1_ne (by omega), en, Or.inr (s3.symm.trans hf)⟩, k5⟩⟩
        · rw [if_neg hf]
          refine ⟨v, w, iv, ?_, rfl, h, fun s' _ => rfl, Or.inl ⟨fun f => ?_, rfl, rfl, rfl⟩⟩
          · unfold F8_goesOn
            have h7v : v 7 = nI sm := by rw [h.ra (by omega) (by omega) (by omega)]; exact h7
            have hfv : ¬ v (17 + 16 * (s + 1) + 2) = m1 := by rw [h.rs (by omega) (by omega) (by omega)]; exact hf
            simp (disch := omega) only [lit32, neg1, nI_add, nI_mul, bS, pt_n, ix_n, rd_n, ws_n, rdo_n, wso_n, setR_1, setL_w, setL_iv, up_setR, up_setL_w, up_setL_iv, nz_0, nz_1, F8_of_v, h7v]
            rw [nI_sub (by omega), if_neg (nI_ne (by omega) (by omega) (by omega))]
            simp (disch := omega) only [lit32, neg1, nI_add, nI_mul, bS, pt_n, ix_n, rd_n, ws_n, rdo_n, wso_n, setR_1, setL_w, setL_iv, up_setR, up_setL_w, up_setL_iv, nz_0, nz_1, F8_of_v]
            rw [if_pos trivial]
            try simp (disch := omega) only [lit32, neg1, nI_add, nI_mul, bS, pt_n, ix_n, rd_n, ws_n, rdo_n, wso_n, setR_1, setL_w, setL_iv, up_setR, up_setL_w, up_setL_iv, nz_0, nz_1, F8_of_v]
            rw [if_neg hfv]
          · rcases f.2.2 with f | f
            · omega
            · exact hf (s3.trans f)
    · rw [if_pos (Or.inr hn0)]
      refine ⟨v, w, iv, rfl, rfl, h, fun s' _ => rfl, Or.inl ⟨fun f => ?_, rfl, rfl, rfl⟩⟩
      exact hn0 ((nI_eq (by omega) (by omega)).mp (en.symm.trans f.2.1))
