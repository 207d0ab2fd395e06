noncomputable def cpy (u : RS) (A i B k y : Nat) : RS := fun R j => if R = B ∧ 1037 * k ≤ j ∧ j < 1037 * k + y then u A (1037 * i + (j - 1037 * k)) else u R j
theorem cpy_A {u : RS} {A i B k y j : Nat} (h : A ≠ B) : cpy u A i B k y A j = u A j := if_neg fun q => h q.1
theorem cpy_step {u : RS} {A i B k y : Nat} : up (cpy u A i B k y) B (1037 * k + y) (u A (1037 * i + y)) = cpy u A i B k (y + 1) := by
  funext R j
  rw [up_at]
  unfold cpy
  by_cases h1 : R = B ∧ j = 1037 * k + y
  · rw [if_pos h1, if_pos (by omega)]; congr 1; omega
  · rw [if_neg h1]
    by_cases h2 : R = B ∧ 1037 * k ≤ j ∧ j < 1037 * k + y
    · rw [if_pos h2, if_pos (by omega)]
    · rw [if_neg h2, if_neg (by omega)]
theorem cpy_0 {u : RS} {A i B k : Nat} : cpy u A i B k 0 = u := by
  funext R j; exact if_neg (by omega)
noncomputable def cpA (u : RS) (A i B k : Nat) : RS := cpy u A i B k 1037
theorem cpA_o {u : RS} {A i B k R : Nat} (h : R ≠ B) : cpA u A i B k R = u R := by
  funext j; exact if_neg fun q => h q.1
theorem cpA_n {u : RS} {A i B k j : Nat} (h : j < 1037) : cpA u A i B k B (1037 * k + j) = u A (1037 * i + j) := by
  unfold cpA cpy
  rw [if_pos (by omega)]; congr 1; omega
theorem cpA_s {u : RS} {A i B k j : Nat} (h : ¬ (1037 * k ≤ j ∧ j < 1037 * k + 1037)) : cpA u A i B k B j = u B j := by
  unfold cpA cpy
  rw [if_neg (by omega)]
theorem cpL_1_2 {u : RS} {i k : Nat} (hi : i < 1) (hk : k < 1) : ∀ (d y fu : Nat), y + d = 1037 → d < fu → F8_copies_1_2_L3 (nI i) (nI k) fu (nI y) (cpy u 1 i 2 k y) = some (nI 1037, cpy u 1 i 2 k 1037) := by
  intro d
  induction d with
  | zero =>
    intro y fu hy hfu
    obtain ⟨fu, rfl⟩ : ∃ m, fu = m + 1 := ⟨fu - 1, by omega⟩
    obtain rfl : y = 1037 := by omega
    rw [F8_copies_1_2_L3]
    simp only [lit32]
    rw [if_pos (nI_le (by omega) (by omega))]
  | succ d ih =>
    intro y fu hy hfu
    obtain ⟨fu, rfl⟩ : ∃ m, fu = m + 1 := ⟨fu - 1, by omega⟩
    rw [F8_copies_1_2_L3]
    simp only [lit32, nI_add, nI_mul]
    rw [if_neg (nI_ge (by omega) (by omega)), rd_n (by omega) (by omega), bS, ws_n (by omega) (by omega), bS, cpy_A (by decide), cpy_step]
    exact ih (y + 1) fu (by omega) (by omega)
theorem cp_1_2 {u : RS} {i k : Nat} (hi : i < 1) (hk : k < 1) : F8_copies_1_2 u (nI i) (nI k) = some (cpA u 1 i 2 k) := by
  have h := cpL_1_2 (u := u) hi hk 1037 0 FUEL (by omega) (by show 1037 < 10000; omega)
  rw [cpy_0] at h
  unfold F8_copies_1_2
  simp only [lit32]
  rw [h]; rfl
theorem cpL_2_1 {u : RS} {i k : Nat} (hi : i < 1) (hk : k < 1) : ∀ (d y fu : Nat), y + d = 1037 → d < fu → F8_copies_2_1_L3 (nI i) (nI k) fu (nI y) (cpy u 2 i 1 k y) = some (nI 1037, cpy u 2 i 1 k 1037) := by
  intro d
  induction d with
  | zero =>
    intro y fu hy hfu
    obtain ⟨fu, rfl⟩ : ∃ m, fu = m + 1 := ⟨fu - 1, by omega⟩
    obtain rfl : y = 1037 := by omega
    rw [F8_copies_2_1_L3]
    simp only [lit32]
    rw [if_pos (nI_le (by omega) (by omega))]
  | succ d ih =>
    intro y fu hy hfu
    obtain ⟨fu, rfl⟩ : ∃ m, fu = m + 1 := ⟨fu - 1, by omega⟩
    rw [F8_copies_2_1_L3]
    simp only [lit32, nI_add, nI_mul]
    rw [if_neg (nI_ge (by omega) (by omega)), rd_n (by omega) (by omega), bS, ws_n (by omega) (by omega), bS, cpy_A (by decide), cpy_step]
    exact ih (y + 1) fu (by omega) (by omega)
theorem cp_2_1 {u : RS} {i k : Nat} (hi : i < 1) (hk : k < 1) : F8_copies_2_1 u (nI i) (nI k) = some (cpA u 2 i 1 k) := by
  have h := cpL_2_1 (u := u) hi hk 1037 0 FUEL (by omega) (by show 1037 < 10000; omega)
  rw [cpy_0] at h
  unfold F8_copies_2_1
  simp only [lit32]
  rw [h]; rfl
theorem cpL_1_3 {u : RS} {i k : Nat} (hi : i < 1) (hk : k < 8) : ∀ (d y fu : Nat), y + d = 1037 → d < fu → F8_copies_1_3_L3 (nI i) (nI k) fu (nI y) (cpy u 1 i 3 k y) = some (nI 1037, cpy u 1 i 3 k 1037) := by
  intro d
  induction d with
  | zero =>
    intro y fu hy hfu
    obtain ⟨fu, rfl⟩ : ∃ m, fu = m + 1 := ⟨fu - 1, by omega⟩
    obtain rfl : y = 1037 := by omega
    rw [F8_copies_1_3_L3]
    simp only [lit32]
    rw [if_pos (nI_le (by omega) (by omega))]
  | succ d ih =>
    intro y fu hy hfu
    obtain ⟨fu, rfl⟩ : ∃ m, fu = m + 1 := ⟨fu - 1, by omega⟩
    rw [F8_copies_1_3_L3]
    simp only [lit32, nI_add, nI_mul]
    rw [if_neg (nI_ge (by omega) (by omega)), rd_n (by omega) (by omega), bS, ws_n (by omega) (by omega), bS, cpy_A (by decide), cpy_step]
    exact ih (y + 1) fu (by omega) (by omega)
theorem cp_1_3 {u : RS} {i k : Nat} (hi : i < 1) (hk : k < 8) : F8_copies_1_3 u (nI i) (nI k) = some (cpA u 1 i 3 k) := by
  have h := cpL_1_3 (u := u) hi hk 1037 0 FUEL (by omega) (by show 1037 < 10000; omega)
  rw [cpy_0] at h
  unfold F8_copies_1_3
  simp only [lit32]
  rw [h]; rfl
theorem cpL_3_1 {u : RS} {i k : Nat} (hi : i < 8) (hk : k < 1) : ∀ (d y fu : Nat), y + d = 1037 → d < fu → F8_copies_3_1_L3 (nI i) (nI k) fu (nI y) (cpy u 3 i 1 k y) = some (nI 1037, cpy u 3 i 1 k 1037) := by
  intro d
  induction d with
  | zero =>
    intro y fu hy hfu
    obtain ⟨fu, rfl⟩ : ∃ m, fu = m + 1 := ⟨fu - 1, by omega⟩
    obtain rfl : y = 1037 := by omega
    rw [F8_copies_3_1_L3]
    simp only [lit32]
    rw [if_pos (nI_le (by omega) (by omega))]
  | succ d ih =>
    intro y fu hy hfu
    obtain ⟨fu, rfl⟩ : ∃ m, fu = m + 1 := ⟨fu - 1, by omega⟩
    rw [F8_copies_3_1_L3]
    simp only [lit32, nI_add, nI_mul]
    rw [if_neg (nI_ge (by omega) (by omega)), rd_n (by omega) (by omega), bS, ws_n (by omega) (by omega), bS, cpy_A (by decide), cpy_step]
    exact ih (y + 1) fu (by omega) (by omega)
theorem cp_3_1 {u : RS} {i k : Nat} (hi : i < 8) (hk : k < 1) : F8_copies_3_1 u (nI i) (nI k) = some (cpA u 3 i 1 k) := by
  have h := cpL_3_1 (u := u) hi hk 1037 0 FUEL (by omega) (by show 1037 < 10000; omega)
  rw [cpy_0] at h
  unfold F8_copies_3_1
  simp only [lit32]
  rw [h]; rfl
theorem cpL_1_4 {u : RS} {i k : Nat} (hi : i < 1) (hk : k < 2) : ∀ (d y fu : Nat), y + d = 1037 → d < fu → F8_copies_1_4_L3 (nI i) (nI k) fu (nI y) (cpy u 1 i 4 k y) = some (nI 1037, cpy u 1 i 4 k 1037) := by
  intro d
  induction d with
  | zero =>
    intro y fu hy hfu
    obtain ⟨fu, rfl⟩ : ∃ m, fu = m + 1 := ⟨fu - 1, by omega⟩
    obtain rfl : y = 1037 := by omega
    rw [F8_copies_1_4_L3]
    simp only [lit32]
    rw [if_pos (nI_le (by omega) (by omega))]
  | succ d ih =>
    intro y fu hy hfu
    obtain ⟨fu, rfl⟩ : ∃ m, fu = m + 1 := ⟨fu - 1, by omega⟩
    rw [F8_copies_1_4_L3]
    simp only [lit32, nI_add, nI_mul]
    rw [if_neg (nI_ge (by omega) (by omega)), rd_n (by omega) (by omega), bS, ws_n (by omega) (by omega), bS, cpy_A (by decide), cpy_step]
    exact ih (y + 1) fu (by omega) (by omega)
theorem cp_1_4 {u : RS} {i k : Nat} (hi : i < 1) (hk : k < 2) : F8_copies_1_4 u (nI i) (nI k) = some (cpA u 1 i 4 k) := by
  have h := cpL_1_4 (u := u) hi hk 1037 0 FUEL (by omega) (by show 1037 < 10000; omega)
  rw [cpy_0] at h
  unfold F8_copies_1_4
  simp only [lit32]
  rw [h]; rfl
theorem cpL_4_1 {u : RS} {i k : Nat} (hi : i < 2) (hk : k < 1) : ∀ (d y fu : Nat), y + d = 1037 → d < fu → F8_copies_4_1_L3 (nI i) (nI k) fu (nI y) (cpy u 4 i 1 k y) = some (nI 1037, cpy u 4 i 1 k 1037) := by
  intro d
  induction d with
  | zero =>
    intro y fu hy hfu
    obtain ⟨fu, rfl⟩ : ∃ m, fu = m + 1 := ⟨fu - 1, by omega⟩
    obtain rfl : y = 1037 := by omega
    rw [F8_copies_4_1_L3]
    simp only [lit32]
    rw [if_pos (nI_le (by omega) (by omega))]
  | succ d ih =>
    intro y fu hy hfu
    obtain ⟨fu, rfl⟩ : ∃ m, fu = m + 1 := ⟨fu - 1, by omega⟩
    rw [F8_copies_4_1_L3]
    simp only [lit32, nI_add, nI_mul]
    rw [if_neg (nI_ge (by omega) (by omega)), rd_n (by omega) (by omega), bS, ws_n (by omega) (by omega), bS, cpy_A (by decide), cpy_step]
    exact ih (y + 1) fu (by omega) (by omega)
theorem cp_4_1 {u : RS} {i k : Nat} (hi : i < 2) (hk : k < 1) : F8_copies_4_1 u (nI i) (nI k) = some (cpA u 4 i 1 k) := by
  have h := cpL_4_1 (u := u) hi hk 1037 0 FUEL (by omega) (by show 1037 < 10000; omega)
  rw [cpy_0] at h
  unfold F8_copies_4_1
  simp only [lit32]
  rw [h]; rfl
