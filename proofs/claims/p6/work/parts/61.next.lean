theorem isFin_w {c : RS} {g : CG} {L q a : Nat} {w iv : Nat → Int32} (ha : a < 5) (e : w (137 + 25 * q + 3) = nI a) : C1_isFinished g (setL c L w iv) L q = some (if a = 3 ∨ a = 4 then nI 1 else nI 0) := by
  unfold C1_isFinished
  simp (disch := omega) only [lit32, neg1, nI_add, nI_mul, bS, pt_n, ix_n, rd_n, ws_n, rdo_n, wso_n, setR_1, setL_w, setL_iv, up_setR, up_setL_w, up_setL_iv, nz_0, nz_1, e]
  by_cases h3 : a = 3
  · subst h3; rfl
  · rw [if_neg (nI_ne h3 (by omega) (by omega))]
    by_cases h4 : a = 4
    · subst h4; rfl
    · rw [if_neg (nI_ne h4 (by omega) (by omega)), if_neg (by omega)]; rfl
theorem findNext_L {c : RS} {g : CG} {L l z cm : Nat} {iv : Nat → Int32} (hL : L < 12) (hl : l < 6) (hz : z ≤ 30) (hcm : cm ≤ 30) : ∀ (d q fu : Nat) (w : Nat → Int32), q + d = z → d < fu → w (113 + 4 * l + 1) = nI z → w (1100 + 8 * l + 0) = nI q → (∀ p, p < z → ∃ k, k < cm ∧ c (100 + 6 * L + l) p = nI k) → (∀ k, k < cm → ∃ a, a < 5 ∧ w (137 + 25 * k + 3) = nI a) →
    ∃ q2, q ≤ q2 ∧ q2 ≤ z ∧ C3_findNextCard_L0 L l g fu (setL c L w iv) = some (setL c L (upd w (1100 + 8 * l + 0) (nI q2)) iv) ∧ (∀ p k, q ≤ p → p < q2 → k < cm → c (100 + 6 * L + l) p = nI k → fin (sC w) k) ∧ (∀ k, q2 < z → k < cm → c (100 + 6 * L + l) q2 = nI k → ¬ fin (sC w) k) := by
  have fi : ∀ (w : Nat → Int32) k, k < cm → (fin (sC w) k ↔ w (137 + 25 * k + 3) = nI 3 ∨ w (137 + 25 * k + 3) = nI 4) := fun w k hk => by
    unfold fin; rw [← sC_r (v := w) (by omega) (by omega)]
  intro d
  induction d with
  | zero =>
    intro q fu w hq hfu h1 h0 hb hs
    obtain ⟨fu, rfl⟩ : ∃ m, fu = m + 1 := ⟨fu - 1, by omega⟩
    refine ⟨q, Nat.le_refl _, by omega, ?_, fun p k h1 h2 => by omega, fun k h => by omega⟩
    unfold C3_findNextCard_L0
    simp (disch := omega) only [lit32, neg1, nI_add, nI_mul, bS, pt_n, ix_n, rd_n, ws_n, rdo_n, wso_n, setR_1, setL_w, setL_iv, up_setR, up_setL_w, up_setL_iv, nz_0, nz_1, h1, h0]
    rw [if_pos (nI_le (by omega) (by omega)), ← h0, upd_s]
  | succ d ih =>
    intro q fu w hq hfu h1 h0 hb hs
    obtain ⟨fu, rfl⟩ : ∃ m, fu = m + 1 := ⟨fu - 1, by omega⟩
    obtain ⟨k, hk, ek⟩ := hb q (by omega)
    obtain ⟨a, ha, ea⟩ := hs k hk
    have hk30 : k < 30 := by omega
    unfold C3_findNextCard_L0
    simp (disch := omega) only [lit32, neg1, nI_add, nI_mul, bS, pt_n, ix_n, rd_n, ws_n, rdo_n, wso_n, setR_1, setL_w, setL_iv, up_setR, up_setL_w, up_setL_iv, nz_0, nz_1, h1, h0]
    rw [if_neg (nI_ge (by omega) (by omega)), setL_o (by omega) (by omega), ek]
    simp (disch := omega) only [lit32, neg1, nI_add, nI_mul, bS, pt_n, ix_n, rd_n, ws_n, rdo_n, wso_n, setR_1, setL_w, setL_iv, up_setR, up_setL_w, up_setL_iv, nz_0, nz_1, isFin_w ha ea]
    by_cases hf : a = 3 ∨ a = 4
    · rw [if_pos hf, if_neg (nI_ne (by omega) (by omega) (by omega))]
      obtain ⟨q2, g1, g2, g3, g4, g5⟩ := ih (q + 1) fu (upd w (1100 + 8 * l + 0) (nI (q + 1))) (by omega) (by omega) (by rw [upd_n (by omega)]; exact h1) upd_e hb (fun k hk => by rw [upd_n (by omega)]; exact hs k hk)
      have fe : ∀ k, k < cm → (fin (sC (upd w (1100 + 8 * l + 0) (nI (q + 1)))) k ↔ fin (sC w) k) := fun k hk => by rw [fi _ k hk, fi _ k hk, upd_n (by omega)]
      refine ⟨q2, by omega, g2, by rw [g3, upd_u], fun p k2 h2 h3 h4 h5 => ?_, fun k2 h2 h3 h4 => ?_⟩
      · by_cases e : p = q
        · subst e
          have : k2 = k := (nI_eq (by omega) (by omega)).mp (h5.symm.trans ek)
          subst this
          rw [fi w k2 hk, ea]
          rcases hf with rfl | rfl
          · exact Or.inl rfl
          · exact Or.inr rfl
        · exact (fe k2 h4).mp (g4 p k2 (by omega) h3 h4 h5)
      · exact fun f => g5 k2 h2 h3 h4 ((fe k2 h3).mpr f)
    · rw [if_neg hf, if_pos rfl]
      refine ⟨q, Nat.le_refl _, by omega, by rw [← h0, upd_s], fun p k h1 h2 => by omega, fun k2 h2 h3 h4 => ?_⟩
      have : k2 = k := (nI_eq (by omega) (by omega)).mp (h4.symm.trans ek)
      subst this
      rw [fi w k2 hk, ea]
      rintro (f | f)
      · exact hf (Or.inl ((nI_eq (by omega) (by omega)).mp f))
      · exact hf (Or.inr ((nI_eq (by omega) (by omega)).mp f))
theorem findNext_w {c : RS} {g : CG} {L l z q cm : Nat} {w iv : Nat → Int32} (hL : L < 12) (hl : l < 6) (hz : z ≤ 30) (hcm : cm ≤ 30) (hq : q ≤ z) (h1 : w (113 + 4 * l + 1) = nI z) (h0 : w (1100 + 8 * l + 0) = nI q) (hb : ∀ p, p < z → ∃ k, k < cm ∧ c (100 + 6 * L + l) p = nI k) (hs : ∀ k, k < cm → ∃ a, a < 5 ∧ w (137 + 25 * k + 3) = nI a) :
    ∃ q2, q ≤ q2 ∧ q2 ≤ z ∧ C3_findNextCard g (setL c L w iv) L l = some (setL c L (upd w (1100 + 8 * l + 0) (nI q2)) iv) ∧ (∀ p k, q ≤ p → p < q2 → k < cm → c (100 + 6 * L + l) p = nI k → fin (sC w) k) ∧ (∀ k, q2 < z → k < cm → c (100 + 6 * L + l) q2 = nI k → ¬ fin (sC w) k) := by
  obtain ⟨q2, g1, g2, g3, g4, g5⟩ := findNext_L (g := g) (iv := iv) hL hl hz hcm (z - q) q FUEL w (by omega) (by show z - q < 10000; omega) h1 h0 hb hs
  refine ⟨q2, g1, g2, ?_, g4, g5⟩
  unfold C3_findNextCard
  rw [g3]; rfl
