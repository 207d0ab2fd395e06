theorem up_or {u : RS} {k i r : Nat} {v : Int32} (h : ¬ r = k) : up u k i v r = u r := by unfold up; exact if_neg h
theorem cpR_or {u : RS} {r b sp n R : Nat} {f : Nat → Int32} (h : ¬ R = r) : cpR u r b f sp n R = u R := by unfold cpR; exact rw_ne h
theorem cpR_at {u : RS} {r b sp n R j : Nat} {f : Nat → Int32} : cpR u r b f sp n R j = if R = r ∧ b ≤ j ∧ j < b + n then f (sp + (j - b)) else u R j := by
  by_cases h : R = r
  · subst h
    show rw_ u R (fun i => if b ≤ i ∧ i < b + n then f (sp + (i - b)) else u R i) R j = _
    rw [rw_eq]
    by_cases e : b ≤ j ∧ j < b + n
    · rw [if_pos (c := R = R ∧ b ≤ j ∧ j < b + n) ⟨rfl, e⟩]; exact if_pos e
    · rw [if_neg (c := R = R ∧ b ≤ j ∧ j < b + n) (fun q => e q.2)]; exact if_neg e
  · rw [cpR_or h, if_neg (fun q => h q.1)]
theorem cpo_n {n0 n1 n : Nat} {f : Nat → Int32} (h0 : n ≤ n0) (h1 : n ≤ n1) (hn : n < 2 ^ 31) : cpo n0 n1 f false (nI 0) (nI 0) (nI n) = some n := by
  unfold cpo
  rw [nI_toInt (by omega), nI_toInt hn, nI_clamp (by omega), nI_clamp hn, if_pos ⟨by omega, fun q => absurd q (by decide)⟩]
theorem cl0 : (nI 0).toNatClampNeg = 0 := nI_clamp (by omega)
theorem C6_copy {g : CG} {u : RS} {L L2 i : Nat} (hne : ¬ L = L2) (hz : nz (u (10 + L2) (17 + 16 * i + 7)) = some (u (10 + L2) (17 + 16 * i + 7))) : C6_copyFrom g u L i L2 i = some (fun R j => if R = 10 + L ∧ 17 + 16 * i ≤ j ∧ j < 17 + 16 * i + 15 then u (10 + L2) j else u R j) := by
  unfold C6_copyFrom
  simp (disch := omega) only [pt_n, bS, up_or, hz]
  congr 1
  funext R j
  simp only [up_at]
  by_cases h : R = 10 + L ∧ 17 + 16 * i ≤ j ∧ j < 17 + 16 * i + 15
  · rw [if_pos h]
    obtain ⟨rfl, h1, h2⟩ := h
    obtain ⟨k, hk, rfl⟩ : ∃ k, k < 15 ∧ j = 17 + 16 * i + k := ⟨j - (17 + 16 * i), by omega, by omega⟩
    rcases (show k = 0 ∨ k = 1 ∨ k = 2 ∨ k = 3 ∨ k = 4 ∨ k = 5 ∨ k = 6 ∨ k = 7 ∨ k = 8 ∨ k = 9 ∨ k = 10 ∨ k = 11 ∨ k = 12 ∨ k = 13 ∨ k = 14 by omega) with rfl | rfl | rfl | rfl | rfl | rfl | rfl | rfl | rfl | rfl | rfl | rfl | rfl | rfl | rfl
    all_goals
      repeat (first | rw [if_pos (by omega)] | rw [if_neg (by omega)])
  · rw [if_neg h]
    repeat rw [if_neg (by omega)]
theorem C1_copy {g : CG} {u : RS} {L L2 i : Nat} (hne : ¬ L = L2) (hz : nz (u (10 + L2) (137 + 25 * i + 8)) = some (u (10 + L2) (137 + 25 * i + 8))) : C1_copyFrom g u L i L2 i = some (fun R j => if R = 10 + L ∧ 137 + 25 * i ≤ j ∧ j < 137 + 25 * i + 9 then u (10 + L2) j else u R j) := by
  unfold C1_copyFrom
  simp (disch := omega) only [pt_n, bS, up_or, hz]
  congr 1
  funext R j
  simp only [up_at]
  by_cases h : R = 10 + L ∧ 137 + 25 * i ≤ j ∧ j < 137 + 25 * i + 9
  · rw [if_pos h]
    obtain ⟨rfl, h1, h2⟩ := h
    obtain ⟨k, hk, rfl⟩ : ∃ k, k < 9 ∧ j = 137 + 25 * i + k := ⟨j - (137 + 25 * i), by omega, by omega⟩
    rcases (show k = 0 ∨ k = 1 ∨ k = 2 ∨ k = 3 ∨ k = 4 ∨ k = 5 ∨ k = 6 ∨ k = 7 ∨ k = 8 by omega) with rfl | rfl | rfl | rfl | rfl | rfl | rfl | rfl | rfl
    all_goals
      repeat (first | rw [if_pos (by omega)] | rw [if_neg (by omega)])
  · rw [if_neg h]
    repeat rw [if_neg (by omega)]
theorem C4_copy {g : CG} {u : RS} {L L2 i : Nat} (hL : L < 12) (hL2 : L2 < 12) (hi : i < 6) (hne : ¬ L = L2) : C4_copyFrom g u L i L2 i = some (fun R j => if R = 10 + L ∧ ((113 + 4 * i ≤ j ∧ j < 113 + 4 * i + 4) ∨ (1100 + 8 * i ≤ j ∧ j < 1100 + 8 * i + 5)) then u (10 + L2) j else if R = 100 + 6 * L + i ∧ j < 30 then u (100 + 6 * L2 + i) j else if R = 200 + 6 * L + i ∧ j < 10 then u (200 + 6 * L2 + i) j else if R = 300 + 6 * L + i ∧ j < 10 then u (300 + 6 * L2 + i) j else u R j) := by
  unfold C4_copyFrom
  simp (disch := omega) only [lit32, pt_n, bS, up_or, cpo_n, cl0, cpR_or]
  congr 1
  funext R j
  simp only [cpR_at, up_at]
  by_cases h : R = 10 + L ∧ ((113 + 4 * i ≤ j ∧ j < 113 + 4 * i + 4) ∨ (1100 + 8 * i ≤ j ∧ j < 1100 + 8 * i + 5))
  · rw [if_pos h]
    obtain ⟨rfl, h | h⟩ := h
    · obtain ⟨k, hk, rfl⟩ : ∃ k, k < 4 ∧ j = 113 + 4 * i + k := ⟨j - (113 + 4 * i), by omega, by omega⟩
      rcases (show k = 0 ∨ k = 1 ∨ k = 2 ∨ k = 3 by omega) with rfl | rfl | rfl | rfl
      all_goals
        repeat (first | rw [if_pos (by omega)] | rw [if_neg (by omega)])
    · obtain ⟨k, hk, rfl⟩ : ∃ k, k < 5 ∧ j = 1100 + 8 * i + k := ⟨j - (1100 + 8 * i), by omega, by omega⟩
      rcases (show k = 0 ∨ k = 1 ∨ k = 2 ∨ k = 3 ∨ k = 4 by omega) with rfl | rfl | rfl | rfl | rfl
      all_goals
        repeat (first | rw [if_pos (by omega)] | rw [if_neg (by omega)])
  · rw [if_neg h]
    by_cases h1 : R = 100 + 6 * L + i ∧ j < 30
    · rw [if_pos h1]
      repeat (first | rw [if_pos (by omega)] | rw [if_neg (by omega)])
      exact congrArg (u (100 + 6 * L2 + i)) (by omega)
    · rw [if_neg h1]
      by_cases h2 : R = 200 + 6 * L + i ∧ j < 10
      · rw [if_pos h2]
        repeat (first | rw [if_pos (by omega)] | rw [if_neg (by omega)])
        exact congrArg (u (200 + 6 * L2 + i)) (by omega)
      · rw [if_neg h2]
        by_cases h3 : R = 300 + 6 * L + i ∧ j < 10
        · rw [if_pos h3]
          repeat (first | rw [if_pos (by omega)] | rw [if_neg (by omega)])
          exact congrArg (u (300 + 6 * L2 + i)) (by omega)
        · rw [if_neg h3]
          repeat rw [if_neg (by omega)]
noncomputable def CPp (ys yl yc j : Nat) : Prop := j < 10 ∨ (17 ≤ j ∧ j < 17 + 16 * ys ∧ (j - 17) % 16 < 15) ∨ (113 ≤ j ∧ j < 113 + 4 * yl) ∨ (1100 ≤ j ∧ j < 1100 + 8 * yl ∧ (j - 1100) % 8 < 5) ∨ (137 ≤ j ∧ j < 137 + 25 * yc ∧ (j - 137) % 25 < 9)
noncomputable def CPd (ys yl yc j : Nat) : Decidable (CPp ys yl yc j) := by unfold CPp; infer_instance
noncomputable def cpl (u : RS) (L L2 ys yl yc : Nat) : RS := fun R j => if R = 10 + L then (@ite _ (CPp ys yl yc j) (CPd ys yl yc j) (u (10 + L2) j) (u (10 + L) j)) else if 100 + 6 * L ≤ R ∧ R < 100 + 6 * L + yl ∧ j < 30 then u (R - 6 * L + 6 * L2) j else if 200 + 6 * L ≤ R ∧ R < 200 + 6 * L + yl ∧ j < 10 then u (R - 6 * L + 6 * L2) j else if 300 + 6 * L ≤ R ∧ R < 300 + 6 * L + yl ∧ j < 10 then u (R - 6 * L + 6 * L2) j else u R j
theorem cpl_2 {u : RS} {L L2 ys yl yc : Nat} (hL2 : L2 < 12) (hne : ¬ L = L2) : cpl u L L2 ys yl yc (10 + L2) = u (10 + L2) := by
  funext j; unfold cpl; rw [if_neg (by omega), if_neg (by omega), if_neg (by omega), if_neg (by omega)]
theorem cpl_lo {u : RS} {L L2 ys yl yc j : Nat} (h : CPp ys yl yc j) : cpl u L L2 ys yl yc (10 + L) j = u (10 + L2) j := by
  unfold cpl; rw [if_pos rfl]; exact if_pos h
theorem cpl_s {u : RS} {L L2 y : Nat} (hL : L < 12) (hL2 : L2 < 12) (hne : ¬ L = L2) (hy : y < 6) : (fun R j => if R = 10 + L ∧ 17 + 16 * y ≤ j ∧ j < 17 + 16 * y + 15 then cpl u L L2 y 0 0 (10 + L2) j else cpl u L L2 y 0 0 R j) = cpl u L L2 (y + 1) 0 0 := by
  funext R j
  rw [cpl_2 hL2 hne]
  by_cases h : R = 10 + L
  · subst h
    by_cases h2 : 17 + 16 * y ≤ j ∧ j < 17 + 16 * y + 15
    · rw [if_pos ⟨rfl, h2⟩, cpl_lo (by unfold CPp; omega)]
    · rw [if_neg (fun q => h2 q.2)]
      unfold cpl
      rw [if_pos rfl, if_pos rfl]
      by_cases h3 : CPp y 0 0 j
      · rw [if_pos h3, if_pos (by unfold CPp at h3 ⊢; omega)]
      · rw [if_neg h3, if_neg (by unfold CPp at h3 ⊢; omega)]
  · rw [if_neg (fun q => h q.1)]
    unfold cpl
    rw [if_neg h, if_neg h]
theorem cpl_c {u : RS} {L L2 y sm lm : Nat} (hL : L < 12) (hL2 : L2 < 12) (hne : ¬ L = L2) (hy : y < 30) (hlm : lm ≤ 6) (hsm : sm ≤ 6) : (fun R j => if R = 10 + L ∧ 137 + 25 * y ≤ j ∧ j < 137 + 25 * y + 9 then cpl u L L2 sm lm y (10 + L2) j else cpl u L L2 sm lm y R j) = cpl u L L2 sm lm (y + 1) := by
  funext R j
  rw [cpl_2 hL2 hne]
  by_cases h : R = 10 + L
  · subst h
    by_cases h2 : 137 + 25 * y ≤ j ∧ j < 137 + 25 * y + 9
    · rw [if_pos ⟨rfl, h2⟩, cpl_lo (by unfold CPp; omega)]
    · rw [if_neg (fun q => h2 q.2)]
      unfold cpl
      rw [if_pos rfl, if_pos rfl]
      by_cases h3 : CPp sm lm y j
      · rw [if_pos h3, if_pos (by unfold CPp at h3 ⊢; omega)]
      · have h4 : ¬ CPp sm lm (y + 1) j := by
          unfold CPp at h3 ⊢
          by_cases hj : 137 + 25 * y ≤ j ∧ j < 137 + 25 * y + 25
          · obtain ⟨k, hk, rfl⟩ : ∃ k, k < 25 ∧ j = 137 + 25 * y + k := ⟨j - (137 + 25 * y), by omega, by omega⟩
            have e : (137 + 25 * y + k - 137) % 25 = k := by
              rw [show 137 + 25 * y + k - 137 = k + 25 * y by omega, Nat.add_mul_mod_self_left, Nat.mod_eq_of_lt hk]
            rintro (q | q | q | q | q)
            · omega
            · omega
            · omega
            · omega
            · rw [e] at q; omega
          · rintro (q | q | q | q | q)
            · exact h3 (Or.inl q)
            · exact h3 (Or.inr (Or.inl q))
            · exact h3 (Or.inr (Or.inr (Or.inl q)))
            · exact h3 (Or.inr (Or.inr (Or.inr (Or.inl q))))
            · exact h3 (Or.inr (Or.inr (Or.inr (Or.inr ⟨q.1, by omega, q.2.2⟩))))
        rw [if_neg h3, if_neg h4]
  · rw [if_neg (fun q => h q.1)]
    unfold cpl
    rw [if_neg h, if_neg h]
theorem cpl_r {u : RS} {L L2 ys yl yc b l : Nat} (hL : L < 12) (hL2 : L2 < 12) (hne : ¬ L = L2) (hl : l < 6) (hyl : yl ≤ 6) (hb : b = 100 ∨ b = 200 ∨ b = 300) : cpl u L L2 ys yl yc (b + 6 * L2 + l) = u (b + 6 * L2 + l) := by
  funext j; unfold cpl
  rw [if_neg (by omega), if_neg (by omega), if_neg (by omega), if_neg (by omega)]
theorem cpl_l {u : RS} {L L2 y sm : Nat} (hL : L < 12) (hL2 : L2 < 12) (hne : ¬ L = L2) (hy : y < 6) (hsm : sm ≤ 6) : (fun R j => if R = 10 + L ∧ ((113 + 4 * y ≤ j ∧ j < 113 + 4 * y + 4) ∨ (1100 + 8 * y ≤ j ∧ j < 1100 + 8 * y + 5)) then cpl u L L2 sm y 0 (10 + L2) j else if R = 100 + 6 * L + y ∧ j < 30 then cpl u L L2 sm y 0 (100 + 6 * L2 + y) j else if R = 200 + 6 * L + y ∧ j < 10 then cpl u L L2 sm y 0 (200 + 6 * L2 + y) j else if R = 300 + 6 * L + y ∧ j < 10 then cpl u L L2 sm y 0 (300 + 6 * L2 + y) j else cpl u L L2 sm y 0 R j) = cpl u L L2 sm (y + 1) 0 := by
  funext R j
  rw [cpl_2 hL2 hne, cpl_r hL hL2 hne hy (by omega) (by omega), cpl_r hL hL2 hne hy (by omega) (by omega), cpl_r hL hL2 hne hy (by omega) (by omega)]
  by_cases h : R = 10 + L
  · subst h
    by_cases h2 : (113 + 4 * y ≤ j ∧ j < 113 + 4 * y + 4) ∨ (1100 + 8 * y ≤ j ∧ j < 1100 + 8 * y + 5)
    · rw [if_pos ⟨rfl, h2⟩, cpl_lo (by unfold CPp; omega)]
    · rw [if_neg (fun q => h2 q.2), if_neg (by omega), if_neg (by omega), if_neg (by omega)]
      unfold cpl
      rw [if_pos rfl, if_pos rfl]
      by_cases h3 : CPp sm y 0 j
      · rw [if_pos h3, if_pos (by unfold CPp at h3 ⊢; omega)]
      · rw [if_neg h3, if_neg (by unfold CPp at h3 ⊢; omega)]
  · rw [if_neg (fun q => h q.1)]
    unfold cpl
    rw [if_neg h, if_neg h]
    by_cases a1 : R = 100 + 6 * L + y ∧ j < 30
    · rw [if_pos a1, if_pos (by omega), show R - 6 * L + 6 * L2 = 100 + 6 * L2 + y by omega]
    · rw [if_neg a1]
      by_cases a2 : R = 200 + 6 * L + y ∧ j < 10
      · rw [if_pos a2, if_neg (c := 100 + 6 * L ≤ R ∧ R < 100 + 6 * L + (y + 1) ∧ j < 30) (by omega), if_pos (by omega), show R - 6 * L + 6 * L2 = 200 + 6 * L2 + y by omega]
      · rw [if_neg a2]
        by_cases a3 : R = 300 + 6 * L + y ∧ j < 10
        · rw [if_pos a3, if_neg (c := 100 + 6 * L ≤ R ∧ R < 100 + 6 * L + (y + 1) ∧ j < 30) (by omega), if_neg (c := 200 + 6 * L ≤ R ∧ R < 200 + 6 * L + (y + 1) ∧ j < 10) (by omega), if_pos (by omega), show R - 6 * L + 6 * L2 = 300 + 6 * L2 + y by omega]
        · rw [if_neg a3]
          by_cases b1 : 100 + 6 * L ≤ R ∧ R < 100 + 6 * L + y ∧ j < 30
          · rw [if_pos b1, if_pos (by omega)]
          · rw [if_neg b1, if_neg (c := 100 + 6 * L ≤ R ∧ R < 100 + 6 * L + (y + 1) ∧ j < 30) (by omega)]
            by_cases b2 : 200 + 6 * L ≤ R ∧ R < 200 + 6 * L + y ∧ j < 10
            · rw [if_pos b2, if_pos (by omega)]
            · rw [if_neg b2, if_neg (c := 200 + 6 * L ≤ R ∧ R < 200 + 6 * L + (y + 1) ∧ j < 10) (by omega)]
              by_cases b3 : 300 + 6 * L ≤ R ∧ R < 300 + 6 * L + y ∧ j < 10
              · rw [if_pos b3, if_pos (by omega)]
              · rw [if_neg b3, if_neg (by omega)]
theorem cfrom_S {g : CG} {u : RS} {L L2 sm : Nat} (hL : L < 12) (hL2 : L2 < 12) (hne : ¬ L = L2) (hsm : sm ≤ 6) (h7 : u (10 + L2) 7 = nI sm) (hz : ∀ s, s < sm → nz (u (10 + L2) (17 + 16 * s + 7)) = some (u (10 + L2) (17 + 16 * s + 7))) : ∀ (d y fu : Nat), y + d = sm → d < fu → C3_copyFrom_L82 L L2 g fu (nI y) (cpl u L L2 y 0 0) = some (nI sm, cpl u L L2 sm 0 0) := by
  intro d
  induction d with
  | zero =>
    intro y fu hy hfu
    obtain ⟨fu, rfl⟩ : ∃ m, fu = m + 1 := ⟨fu - 1, by omega⟩
    obtain rfl : y = sm := by omega
    rw [C3_copyFrom_L82, cpl_lo (by unfold CPp; omega), h7, if_pos (nI_le (by omega) (by omega))]
  | succ d ih =>
    intro y fu hy hfu
    obtain ⟨fu, rfl⟩ : ∃ m, fu = m + 1 := ⟨fu - 1, by omega⟩
    rw [C3_copyFrom_L82, cpl_lo (by unfold CPp; omega), h7, if_neg (nI_ge (by omega) (by omega)), ix_n (by omega) (by omega), bS, bS, C6_copy hne (by rw [cpl_2 hL2 hne]; exact hz y (by omega)), bS, cpl_s hL hL2 hne (by omega), nI_1]
    exact ih (y + 1) fu (by omega) (by omega)
theorem cfrom_L {g : CG} {u : RS} {L L2 sm lm : Nat} (hL : L < 12) (hL2 : L2 < 12) (hne : ¬ L = L2) (hsm : sm ≤ 6) (hlm : lm ≤ 6) (h8 : u (10 + L2) 8 = nI lm) : ∀ (d y fu : Nat), y + d = lm → d < fu → C3_copyFrom_L113 L L2 g fu (nI y) (cpl u L L2 sm y 0) = some (nI lm, cpl u L L2 sm lm 0) := by
  intro d
  induction d with
  | zero =>
    intro y fu hy hfu
    obtain ⟨fu, rfl⟩ : ∃ m, fu = m + 1 := ⟨fu - 1, by omega⟩
    obtain rfl : y = lm := by omega
    rw [C3_copyFrom_L113, cpl_lo (by unfold CPp; omega), h8, if_pos (nI_le (by omega) (by omega))]
  | succ d ih =>
    intro y fu hy hfu
    obtain ⟨fu, rfl⟩ : ∃ m, fu = m + 1 := ⟨fu - 1, by omega⟩
    rw [C3_copyFrom_L113, cpl_lo (by unfold CPp; omega), h8, if_neg (nI_ge (by omega) (by omega)), ix_n (by omega) (by omega), bS, bS, C4_copy hL hL2 (by omega) hne, bS, cpl_l hL hL2 hne (by omega) hsm, nI_1]
    exact ih (y + 1) fu (by omega) (by omega)
theorem cfrom_C {g : CG} {u : RS} {L L2 sm lm cm : Nat} (hL : L < 12) (hL2 : L2 < 12) (hne : ¬ L = L2) (hsm : sm ≤ 6) (hlm : lm ≤ 6) (hcm : cm ≤ 30) (h9 : u (10 + L2) 9 = nI cm) (hz : ∀ s, s < cm → nz (u (10 + L2) (137 + 25 * s + 8)) = some (u (10 + L2) (137 + 25 * s + 8))) : ∀ (d y fu : Nat), y + d = cm → d < fu → C3_copyFrom_L144 L L2 g fu (nI y) (cpl u L L2 sm lm y) = some (nI cm, cpl u L L2 sm lm cm) := by
  intro d
  induction d with
  | zero =>
    intro y fu hy hfu
    obtain ⟨fu, rfl⟩ : ∃ m, fu = m + 1 := ⟨fu - 1, by omega⟩
    obtain rfl : y = cm := by omega
    rw [C3_copyFrom_L144, cpl_lo (by unfold CPp; omega), h9, if_pos (nI_le (by omega) (by omega))]
  | succ d ih =>
    intro y fu hy hfu
    obtain ⟨fu, rfl⟩ : ∃ m, fu = m + 1 := ⟨fu - 1, by omega⟩
    rw [C3_copyFrom_L144, cpl_lo (by unfold CPp; omega), h9, if_neg (nI_ge (by omega) (by omega)), ix_n (by omega) (by omega), bS, bS, C1_copy hne (by rw [cpl_2 hL2 hne]; exact hz y (by omega)), bS, cpl_c hL hL2 hne (by omega) hlm hsm, nI_1]
    exact ih (y + 1) fu (by omega) (by omega)
noncomputable def OWN (L R : Nat) : Prop := R = 10 + L ∨ R = 400 + L ∨ (100 + 6 * L ≤ R ∧ R < 106 + 6 * L) ∨ (200 + 6 * L ≤ R ∧ R < 206 + 6 * L) ∨ (300 + 6 * L ≤ R ∧ R < 306 + 6 * L)
theorem cfrom {g : CG} {u : RS} {L L2 sm lm cm : Nat} (hL : L < 12) (hL2 : L2 < 12) (hne : ¬ L = L2) (hsm : sm ≤ 6) (hlm : lm ≤ 6) (hcm : cm ≤ 30) (h7 : u (10 + L2) 7 = nI sm) (h8 : u (10 + L2) 8 = nI lm) (h9 : u (10 + L2) 9 = nI cm) (hz : ∀ s, s < sm → nz (u (10 + L2) (17 + 16 * s + 7)) = some (u (10 + L2) (17 + 16 * s + 7))) (hzc : ∀ s, s < cm → nz (u (10 + L2) (137 + 25 * s + 8)) = some (u (10 + L2) (137 + 25 * s + 8))) :
    ∃ u2, C3_copyFrom g u L L2 = some u2 ∧ (∀ R, ¬ OWN L R → u2 R = u R) ∧ (∀ j, (CPp sm lm cm j ∨ (887 ≤ j ∧ j < 917) ∨ (12 ≤ j ∧ j < 17)) → u2 (10 + L) j = u (10 + L2) j) ∧ (∀ j, ¬ (CPp sm lm cm j ∨ (887 ≤ j ∧ j < 917) ∨ (12 ≤ j ∧ j < 17)) → u2 (10 + L) j = u (10 + L) j) ∧ (∀ a, a < 5 → u2 (400 + L) a = u (400 + L2) a) ∧ (∀ l j, l < lm → j < 30 → u2 (100 + 6 * L + l) j = u (100 + 6 * L2 + l) j) ∧ (∀ l j, l < lm → j < 10 → u2 (200 + 6 * L + l) j = u (200 + 6 * L2 + l) j) ∧ (∀ l j, l < lm → j < 10 → u2 (300 + 6 * L + l) j = u (300 + 6 * L2 + l) j) := by
  have h0 : up (up (up (up (up (up (up (up (up (up u (10 + L) 0 (u (10 + L2) 0)) (10 + L) 1 (u (10 + L2) 1)) (10 + L) 2 (u (10 + L2) 2)) (10 + L) 3 (u (10 + L2) 3)) (10 + L) 4 (u (10 + L2) 4)) (10 + L) 5 (u (10 + L2) 5)) (10 + L) 6 (u (10 + L2) 6)) (10 + L) 7 (u (10 + L2) 7)) (10 + L) 8 (u (10 + L2) 8)) (10 + L) 9 (u (10 + L2) 9) = cpl u L L2 0 0 0 := by
    funext R j
    simp only [up_at]
    by_cases h : R = 10 + L ∧ j < 10
    · obtain ⟨rfl, h⟩ := h
      rw [cpl_lo (Or.inl h)]
      rcases (show j = 0 ∨ j = 1 ∨ j = 2 ∨ j = 3 ∨ j = 4 ∨ j = 5 ∨ j = 6 ∨ j = 7 ∨ j = 8 ∨ j = 9 by omega) with rfl | rfl | rfl | rfl | rfl | rfl | rfl | rfl | rfl | rfl
      all_goals
        repeat (first | rw [if_pos (by omega)] | rw [if_neg (by omega)])
    · have e : cpl u L L2 0 0 0 R j = u R j := by
        unfold cpl
        by_cases h2 : R = 10 + L
        · rw [if_pos h2, if_neg (by unfold CPp; omega), h2]
        · rw [if_neg h2, if_neg (by omega), if_neg (by omega), if_neg (by omega)]
      rw [e]
      repeat rw [if_neg (by omega)]
  have k1 := cfrom_S (g := g) hL hL2 hne hsm h7 hz sm 0 FUEL (by omega) (by show sm < 10000; omega)
  have k2 := cfrom_L (g := g) (sm := sm) hL hL2 hne hsm hlm h8 lm 0 FUEL (by omega) (by show lm < 10000; omega)
  have k3 := cfrom_C (g := g) (sm := sm) (lm := lm) hL hL2 hne hsm hlm hcm h9 hzc cm 0 FUEL (by omega) (by show cm < 10000; omega)
  have e4 : cpl u L L2 sm lm cm (400 + L2) = u (400 + L2) := by
    funext j; unfold cpl; rw [if_neg (by omega), if_neg (by omega), if_neg (by omega), if_neg (by omega)]
  generalize hW : cpl u L L2 sm lm cm = W at k3 e4
  have e2 : W (10 + L2) = u (10 + L2) := by rw [← hW]; exact cpl_2 hL2 hne
  refine ⟨cpR (cpR (cpR W (400 + L) 0 (u (400 + L2)) 0 5) (10 + L) 887 (fun j => if j < 30 then u (10 + L2) (887 + j) else nI 0) 0 30) (10 + L) 12 (fun j => if j < 5 then u (10 + L2) (12 + j) else nI 0) 0 5, ?_, fun R hR => ?_, fun j hj => ?_, fun j hj => ?_, fun a ha => ?_, fun l j hl hj => ?_, fun l j hl hj => ?_, fun l j hl hj => ?_⟩
  · unfold C3_copyFrom
    simp (disch := omega) only [lit32, pt_n, bS, up_or, h0, k1, k2, k3, cpo_n, cl0, cpR_or, e4, e2]
  · unfold OWN at hR
    rw [cpR_or (by omega), cpR_or (by omega), cpR_or (by omega), ← hW]
    funext j; unfold cpl; rw [if_neg (by omega), if_neg (by omega), if_neg (by omega), if_neg (by omega)]
  · rw [cpR_at, cpR_at, cpR_at]
    by_cases a : 12 ≤ j ∧ j < 17
    · rw [if_pos (by omega), if_pos (by omega)]; exact congrArg (u (10 + L2)) (by omega)
    · rw [if_neg (by omega)]
      by_cases b : 887 ≤ j ∧ j < 917
      · rw [if_pos (by omega), if_pos (by omega)]; exact congrArg (u (10 + L2)) (by omega)
      · rw [if_neg (by omega), if_neg (by omega), ← hW]
        exact cpl_lo (by rcases hj with q | q | q <;> first | exact q | (exfalso; omega))
  · have n1 : ¬ (12 ≤ j ∧ j < 17) := fun q => hj (Or.inr (Or.inr q))
    have n2 : ¬ (887 ≤ j ∧ j < 917) := fun q => hj (Or.inr (Or.inl q))
    have n3 : ¬ CPp sm lm cm j := fun q => hj (Or.inl q)
    rw [cpR_at, cpR_at, cpR_at, if_neg (by omega), if_neg (by omega), if_neg (by omega), ← hW]
    unfold cpl
    rw [if_pos rfl, if_neg n3]
  · rw [cpR_at, cpR_at, cpR_at, if_neg (by omega), if_neg (by omega), if_pos (by omega)]
    exact congrArg (u (400 + L2)) (by omega)
  · rw [cpR_or (by omega), cpR_or (by omega), cpR_or (by omega), ← hW]
    unfold cpl
    rw [if_neg (by omega), if_pos (by omega), show 100 + 6 * L + l - 6 * L + 6 * L2 = 100 + 6 * L2 + l by omega]
  · rw [cpR_or (by omega), cpR_or (by omega), cpR_or (by omega), ← hW]
    unfold cpl
    rw [if_neg (by omega), if_neg (by omega), if_pos (by omega), show 200 + 6 * L + l - 6 * L + 6 * L2 = 200 + 6 * L2 + l by omega]
  · rw [cpR_or (by omega), cpR_or (by omega), cpR_or (by omega), ← hW]
    unfold cpl
    rw [if_neg (by omega), if_neg (by omega), if_neg (by omega), if_pos (by omega), show 300 + 6 * L + l - 6 * L + 6 * L2 = 300 + 6 * L2 + l by omega]
