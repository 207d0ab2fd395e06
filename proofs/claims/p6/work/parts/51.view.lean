noncomputable def up2 (f : Nat → Nat → Int32) (i j : Nat) (x : Int32) : Nat → Nat → Int32 := fun a b => if a = i ∧ b = j then x else f a b
theorem upd_at {f : Nat → Int32} {i j : Nat} {x : Int32} : upd f i x j = if j = i then x else f j := rfl
theorem up2_at {f : Nat → Nat → Int32} {i j a b : Nat} {x : Int32} : up2 f i j x a b = if a = i ∧ b = j then x else f a b := rfl
noncomputable def sA (v : Nat → Int32) (i : Nat) : Int32 := if i < 17 then v (i) else 0
theorem sA_r {v : Nat → Int32} {i : Nat} (h0 : i < 17) : v (i) = sA v i := (if_pos h0).symm
noncomputable def sS (v : Nat → Int32) (i j : Nat) : Int32 := if i < 6 ∧ j < 16 then v (17 + 16 * i + j) else 0
theorem sS_r {v : Nat → Int32} {i j : Nat} (h0 : i < 6) (h1 : j < 16) : v (17 + 16 * i + j) = sS v i j := (if_pos ⟨h0, h1⟩).symm
noncomputable def sL (v : Nat → Int32) (i j : Nat) : Int32 := if i < 6 ∧ j < 4 then v (113 + 4 * i + j) else 0
theorem sL_r {v : Nat → Int32} {i j : Nat} (h0 : i < 6) (h1 : j < 4) : v (113 + 4 * i + j) = sL v i j := (if_pos ⟨h0, h1⟩).symm
noncomputable def sC (v : Nat → Int32) (i j : Nat) : Int32 := if i < 30 ∧ j < 25 then v (137 + 25 * i + j) else 0
theorem sC_r {v : Nat → Int32} {i j : Nat} (h0 : i < 30) (h1 : j < 25) : v (137 + 25 * i + j) = sC v i j := (if_pos ⟨h0, h1⟩).symm
noncomputable def sF (v : Nat → Int32) (i : Nat) : Int32 := if i < 30 then v (887 + i) else 0
theorem sF_r {v : Nat → Int32} {i : Nat} (h0 : i < 30) : v (887 + i) = sF v i := (if_pos h0).symm
noncomputable def sP (v : Nat → Int32) (i : Nat) : Int32 := if i < 120 then v (917 + i) else 0
theorem sP_r {v : Nat → Int32} {i : Nat} (h0 : i < 120) : v (917 + i) = sP v i := (if_pos h0).symm
noncomputable def sE (v : Nat → Int32) (i j : Nat) : Int32 := if i < 6 ∧ j < 8 then v (1100 + 8 * i + j) else 0
theorem sE_r {v : Nat → Int32} {i j : Nat} (h0 : i < 6) (h1 : j < 8) : v (1100 + 8 * i + j) = sE v i j := (if_pos ⟨h0, h1⟩).symm
theorem sA_A {v : Nat → Int32} {i : Nat} {x : Int32} (h0 : i < 17) : sA (upd v (i) x) = upd (sA v) i x := by
  funext a
  unfold sA upd
  by_cases h : a < 17
  · rw [if_pos h]
    by_cases e : a = i
    · rw [if_pos (show a = i by omega), if_pos e]
    · rw [if_neg (show ¬ a = i by omega), if_neg e]; exact (if_pos h).symm
  · rw [if_neg h, if_neg (show ¬ (a = i) by omega)]; exact (if_neg h).symm
theorem sS_A {v : Nat → Int32} {i : Nat} {x : Int32} (h0 : i < 17) : sS (upd v (i) x) = sS v := by
  funext a b
  unfold sS upd
  by_cases h : a < 6 ∧ b < 16
  · rw [if_pos h, if_pos h, if_neg (show ¬ 17 + 16 * a + b = i by omega)]
  · rw [if_neg h, if_neg h]
theorem sL_A {v : Nat → Int32} {i : Nat} {x : Int32} (h0 : i < 17) : sL (upd v (i) x) = sL v := by
  funext a b
  unfold sL upd
  by_cases h : a < 6 ∧ b < 4
  · rw [if_pos h, if_pos h, if_neg (show ¬ 113 + 4 * a + b = i by omega)]
  · rw [if_neg h, if_neg h]
theorem sC_A {v : Nat → Int32} {i : Nat} {x : Int32} (h0 : i < 17) : sC (upd v (i) x) = sC v := by
  funext a b
  unfold sC upd
  by_cases h : a < 30 ∧ b < 25
  · rw [if_pos h, if_pos h, if_neg (show ¬ 137 + 25 * a + b = i by omega)]
  · rw [if_neg h, if_neg h]
theorem sF_A {v : Nat → Int32} {i : Nat} {x : Int32} (h0 : i < 17) : sF (upd v (i) x) = sF v := by
  funext a
  unfold sF upd
  by_cases h : a < 30
  · rw [if_pos h, if_pos h, if_neg (show ¬ 887 + a = i by omega)]
  · rw [if_neg h, if_neg h]
theorem sP_A {v : Nat → Int32} {i : Nat} {x : Int32} (h0 : i < 17) : sP (upd v (i) x) = sP v := by
  funext a
  unfold sP upd
  by_cases h : a < 120
  · rw [if_pos h, if_pos h, if_neg (show ¬ 917 + a = i by omega)]
  · rw [if_neg h, if_neg h]
theorem sE_A {v : Nat → Int32} {i : Nat} {x : Int32} (h0 : i < 17) : sE (upd v (i) x) = sE v := by
  funext a b
  unfold sE upd
  by_cases h : a < 6 ∧ b < 8
  · rw [if_pos h, if_pos h, if_neg (show ¬ 1100 + 8 * a + b = i by omega)]
  · rw [if_neg h, if_neg h]
theorem sA_S {v : Nat → Int32} {i j : Nat} {x : Int32} (h0 : i < 6) (h1 : j < 16) : sA (upd v (17 + 16 * i + j) x) = sA v := by
  funext a
  unfold sA upd
  by_cases h : a < 17
  · rw [if_pos h, if_pos h, if_neg (show ¬ a = 17 + 16 * i + j by omega)]
  · rw [if_neg h, if_neg h]
theorem sS_S {v : Nat → Int32} {i j : Nat} {x : Int32} (h0 : i < 6) (h1 : j < 16) : sS (upd v (17 + 16 * i + j) x) = up2 (sS v) i j x := by
  funext a b
  unfold sS upd up2
  by_cases h : a < 6 ∧ b < 16
  · rw [if_pos h]
    by_cases e : a = i ∧ b = j
    · rw [if_pos (show 17 + 16 * a + b = 17 + 16 * i + j by omega), if_pos e]
    · rw [if_neg (show ¬ 17 + 16 * a + b = 17 + 16 * i + j by omega), if_neg e]; exact (if_pos h).symm
  · rw [if_neg h, if_neg (show ¬ (a = i ∧ b = j) by omega)]; exact (if_neg h).symm
theorem sL_S {v : Nat → Int32} {i j : Nat} {x : Int32} (h0 : i < 6) (h1 : j < 16) : sL (upd v (17 + 16 * i + j) x) = sL v := by
  funext a b
  unfold sL upd
  by_cases h : a < 6 ∧ b < 4
  · rw [if_pos h, if_pos h, if_neg (show ¬ 113 + 4 * a + b = 17 + 16 * i + j by omega)]
  · rw [if_neg h, if_neg h]
theorem sC_S {v : Nat → Int32} {i j : Nat} {x : Int32} (h0 : i < 6) (h1 : j < 16) : sC (upd v (17 + 16 * i + j) x) = sC v := by
  funext a b
  unfold sC upd
  by_cases h : a < 30 ∧ b < 25
  · rw [if_pos h, if_pos h, if_neg (show ¬ 137 + 25 * a + b = 17 + 16 * i + j by omega)]
  · rw [if_neg h, if_neg h]
theorem sF_S {v : Nat → Int32} {i j : Nat} {x : Int32} (h0 : i < 6) (h1 : j < 16) : sF (upd v (17 + 16 * i + j) x) = sF v := by
  funext a
  unfold sF upd
  by_cases h : a < 30
  · rw [if_pos h, if_pos h, if_neg (show ¬ 887 + a = 17 + 16 * i + j by omega)]
  · rw [if_neg h, if_neg h]
theorem sP_S {v : Nat → Int32} {i j : Nat} {x : Int32} (h0 : i < 6) (h1 : j < 16) : sP (upd v (17 + 16 * i + j) x) = sP v := by
  funext a
  unfold sP upd
  by_cases h : a < 120
  · rw [if_pos h, if_pos h, if_neg (show ¬ 917 + a = 17 + 16 * i + j by omega)]
  · rw [if_neg h, if_neg h]
theorem sE_S {v : Nat → Int32} {i j : Nat} {x : Int32} (h0 : i < 6) (h1 : j < 16) : sE (upd v (17 + 16 * i + j) x) = sE v := by
  funext a b
  unfold sE upd
  by_cases h : a < 6 ∧ b < 8
  · rw [if_pos h, if_pos h, if_neg (show ¬ 1100 + 8 * a + b = 17 + 16 * i + j by omega)]
  · rw [if_neg h, if_neg h]
theorem sA_L {v : Nat → Int32} {i j : Nat} {x : Int32} (h0 : i < 6) (h1 : j < 4) : sA (upd v (113 + 4 * i + j) x) = sA v := by
  funext a
  unfold sA upd
  by_cases h : a < 17
  · rw [if_pos h, if_pos h, if_neg (show ¬ a = 113 + 4 * i + j by omega)]
  · rw [if_neg h, if_neg h]
theorem sS_L {v : Nat → Int32} {i j : Nat} {x : Int32} (h0 : i < 6) (h1 : j < 4) : sS (upd v (113 + 4 * i + j) x) = sS v := by
  funext a b
  unfold sS upd
  by_cases h : a < 6 ∧ b < 16
  · rw [if_pos h, if_pos h, if_neg (show ¬ 17 + 16 * a + b = 113 + 4 * i + j by omega)]
  · rw [if_neg h, if_neg h]
theorem sL_L {v : Nat → Int32} {i j : Nat} {x : Int32} (h0 : i < 6) (h1 : j < 4) : sL (upd v (113 + 4 * i + j) x) = up2 (sL v) i j x := by
  funext a b
  unfold sL upd up2
  by_cases h : a < 6 ∧ b < 4
  · rw [if_pos h]
    by_cases e : a = i ∧ b = j
    · rw [if_pos (show 113 + 4 * a + b = 113 + 4 * i + j by omega), if_pos e]
    · rw [if_neg (show ¬ 113 + 4 * a + b = 113 + 4 * i + j by omega), if_neg e]; exact (if_pos h).symm
  · rw [if_neg h, if_neg (show ¬ (a = i ∧ b = j) by omega)]; exact (if_neg h).symm
theorem sC_L {v : Nat → Int32} {i j : Nat} {x : Int32} (h0 : i < 6) (h1 : j < 4) : sC (upd v (113 + 4 * i + j) x) = sC v := by
  funext a b
  unfold sC upd
  by_cases h : a < 30 ∧ b < 25
  · rw [if_pos h, if_pos h, if_neg (show ¬ 137 + 25 * a + b = 113 + 4 * i + j by omega)]
  · rw [if_neg h, if_neg h]
theorem sF_L {v : Nat → Int32} {i j : Nat} {x : Int32} (h0 : i < 6) (h1 : j < 4) : sF (upd v (113 + 4 * i + j) x) = sF v := by
  funext a
  unfold sF upd
  by_cases h : a < 30
  · rw [if_pos h, if_pos h, if_neg (show ¬ 887 + a = 113 + 4 * i + j by omega)]
  · rw [if_neg h, if_neg h]
theorem sP_L {v : Nat → Int32} {i j : Nat} {x : Int32} (h0 : i < 6) (h1 : j < 4) : sP (upd v (113 + 4 * i + j) x) = sP v := by
  funext a
  unfold sP upd
  by_cases h : a < 120
  · rw [if_pos h, if_pos h, if_neg (show ¬ 917 + a = 113 + 4 * i + j by omega)]
  · rw [if_neg h, if_neg h]
theorem sE_L {v : Nat → Int32} {i j : Nat} {x : Int32} (h0 : i < 6) (h1 : j < 4) : sE (upd v (113 + 4 * i + j) x) = sE v := by
  funext a b
  unfold sE upd
  by_cases h : a < 6 ∧ b < 8
  · rw [if_pos h, if_pos h, if_neg (show ¬ 1100 + 8 * a + b = 113 + 4 * i + j by omega)]
  · rw [if_neg h, if_neg h]
theorem sA_C {v : Nat → Int32} {i j : Nat} {x : Int32} (h0 : i < 30) (h1 : j < 25) : sA (upd v (137 + 25 * i + j) x) = sA v := by
  funext a
  unfold sA upd
  by_cases h : a < 17
  · rw [if_pos h, if_pos h, if_neg (show ¬ a = 137 + 25 * i + j by omega)]
  · rw [if_neg h, if_neg h]
theorem sS_C {v : Nat → Int32} {i j : Nat} {x : Int32} (h0 : i < 30) (h1 : j < 25) : sS (upd v (137 + 25 * i + j) x) = sS v := by
  funext a b
  unfold sS upd
  by_cases h : a < 6 ∧ b < 16
  · rw [if_pos h, if_pos h, if_neg (show ¬ 17 + 16 * a + b = 137 + 25 * i + j by omega)]
  · rw [if_neg h, if_neg h]
theorem sL_C {v : Nat → Int32} {i j : Nat} {x : Int32} (h0 : i < 30) (h1 : j < 25) : sL (upd v (137 + 25 * i + j) x) = sL v := by
  funext a b
  unfold sL upd
  by_cases h : a < 6 ∧ b < 4
  · rw [if_pos h, if_pos h, if_neg (show ¬ 113 + 4 * a + b = 137 + 25 * i + j by omega)]
  · rw [if_neg h, if_neg h]
theorem sC_C {v : Nat → Int32} {i j : Nat} {x : Int32} (h0 : i < 30) (h1 : j < 25) : sC (upd v (137 + 25 * i + j) x) = up2 (sC v) i j x := by
  funext a b
  unfold sC upd up2
  by_cases h : a < 30 ∧ b < 25
  · rw [if_pos h]
    by_cases e : a = i ∧ b = j
    · rw [if_pos (show 137 + 25 * a + b = 137 + 25 * i + j by omega), if_pos e]
    · rw [if_neg (show ¬ 137 + 25 * a + b = 137 + 25 * i + j by omega), if_neg e]; exact (if_pos h).symm
  · rw [if_neg h, if_neg (show ¬ (a = i ∧ b = j) by omega)]; exact (if_neg h).symm
theorem sF_C {v : Nat → Int32} {i j : Nat} {x : Int32} (h0 : i < 30) (h1 : j < 25) : sF (upd v (137 + 25 * i + j) x) = sF v := by
  funext a
  unfold sF upd
  by_cases h : a < 30
  · rw [if_pos h, if_pos h, if_neg (show ¬ 887 + a = 137 + 25 * i + j by omega)]
  · rw [if_neg h, if_neg h]
theorem sP_C {v : Nat → Int32} {i j : Nat} {x : Int32} (h0 : i < 30) (h1 : j < 25) : sP (upd v (137 + 25 * i + j) x) = sP v := by
  funext a
  unfold sP upd
  by_cases h : a < 120
  · rw [if_pos h, if_pos h, if_neg (show ¬ 917 + a = 137 + 25 * i + j by omega)]
  · rw [if_neg h, if_neg h]
theorem sE_C {v : Nat → Int32} {i j : Nat} {x : Int32} (h0 : i < 30) (h1 : j < 25) : sE (upd v (137 + 25 * i + j) x) = sE v := by
  funext a b
  unfold sE upd
  by_cases h : a < 6 ∧ b < 8
  · rw [if_pos h, if_pos h, if_neg (show ¬ 1100 + 8 * a + b = 137 + 25 * i + j by omega)]
  · rw [if_neg h, if_neg h]
theorem sA_F {v : Nat → Int32} {i : Nat} {x : Int32} (h0 : i < 30) : sA (upd v (887 + i) x) = sA v := by
  funext a
  unfold sA upd
  by_cases h : a < 17
  · rw [if_pos h, if_pos h, if_neg (show ¬ a = 887 + i by omega)]
  · rw [if_neg h, if_neg h]
theorem sS_F {v : Nat → Int32} {i : Nat} {x : Int32} (h0 : i < 30) : sS (upd v (887 + i) x) = sS v := by
  funext a b
  unfold sS upd
  by_cases h : a < 6 ∧ b < 16
  · rw [if_pos h, if_pos h, if_neg (show ¬ 17 + 16 * a + b = 887 + i by omega)]
  · rw [if_neg h, if_neg h]
theorem sL_F {v : Nat → Int32} {i : Nat} {x : Int32} (h0 : i < 30) : sL (upd v (887 + i) x) = sL v := by
  funext a b
  unfold sL upd
  by_cases h : a < 6 ∧ b < 4
  · rw [if_pos h, if_pos h, if_neg (show ¬ 113 + 4 * a + b = 887 + i by omega)]
  · rw [if_neg h, if_neg h]
theorem sC_F {v : Nat → Int32} {i : Nat} {x : Int32} (h0 : i < 30) : sC (upd v (887 + i) x) = sC v := by
  funext a b
  unfold sC upd
  by_cases h : a < 30 ∧ b < 25
  · rw [if_pos h, if_pos h, if_neg (show ¬ 137 + 25 * a + b = 887 + i by omega)]
  · rw [if_neg h, if_neg h]
theorem sF_F {v : Nat → Int32} {i : Nat} {x : Int32} (h0 : i < 30) : sF (upd v (887 + i) x) = upd (sF v) i x := by
  funext a
  unfold sF upd
  by_cases h : a < 30
  · rw [if_pos h]
    by_cases e : a = i
    · rw [if_pos (show 887 + a = 887 + i by omega), if_pos e]
    · rw [if_neg (show ¬ 887 + a = 887 + i by omega), if_neg e]; exact (if_pos h).symm
  · rw [if_neg h, if_neg (show ¬ (a = i) by omega)]; exact (if_neg h).symm
theorem sP_F {v : Nat → Int32} {i : Nat} {x : Int32} (h0 : i < 30) : sP (upd v (887 + i) x) = sP v := by
  funext a
  unfold sP upd
  by_cases h : a < 120
  · rw [if_pos h, if_pos h, if_neg (show ¬ 917 + a = 887 + i by omega)]
  · rw [if_neg h, if_neg h]
theorem sE_F {v : Nat → Int32} {i : Nat} {x : Int32} (h0 : i < 30) : sE (upd v (887 + i) x) = sE v := by
  funext a b
  unfold sE upd
  by_cases h : a < 6 ∧ b < 8
  · rw [if_pos h, if_pos h, if_neg (show ¬ 1100 + 8 * a + b = 887 + i by omega)]
  · rw [if_neg h, if_neg h]
theorem sA_P {v : Nat → Int32} {i : Nat} {x : Int32} (h0 : i < 120) : sA (upd v (917 + i) x) = sA v := by
  funext a
  unfold sA upd
  by_cases h : a < 17
  · rw [if_pos h, if_pos h, if_neg (show ¬ a = 917 + i by omega)]
  · rw [if_neg h, if_neg h]
theorem sS_P {v : Nat → Int32} {i : Nat} {x : Int32} (h0 : i < 120) : sS (upd v (917 + i) x) = sS v := by
  funext a b
  unfold sS upd
  by_cases h : a < 6 ∧ b < 16
  · rw [if_pos h, if_pos h, if_neg (show ¬ 17 + 16 * a + b = 917 + i by omega)]
  · rw [if_neg h, if_neg h]
theorem sL_P {v : Nat → Int32} {i : Nat} {x : Int32} (h0 : i < 120) : sL (upd v (917 + i) x) = sL v := by
  funext a b
  unfold sL upd
  by_cases h : a < 6 ∧ b < 4
  · rw [if_pos h, if_pos h, if_neg (show ¬ 113 + 4 * a + b = 917 + i by omega)]
  · rw [if_neg h, if_neg h]
theorem sC_P {v : Nat → Int32} {i : Nat} {x : Int32} (h0 : i < 120) : sC (upd v (917 + i) x) = sC v := by
  funext a b
  unfold sC upd
  by_cases h : a < 30 ∧ b < 25
  · rw [if_pos h, if_pos h, if_neg (show ¬ 137 + 25 * a + b = 917 + i by omega)]
  · rw [if_neg h, if_neg h]
theorem sF_P {v : Nat → Int32} {i : Nat} {x : Int32} (h0 : i < 120) : sF (upd v (917 + i) x) = sF v := by
  funext a
  unfold sF upd
  by_cases h : a < 30
  · rw [if_pos h, if_pos h, if_neg (show ¬ 887 + a = 917 + i by omega)]
  · rw [if_neg h, if_neg h]
theorem sP_P {v : Nat → Int32} {i : Nat} {x : Int32} (h0 : i < 120) : sP (upd v (917 + i) x) = upd (sP v) i x := by
  funext a
  unfold sP upd
  by_cases h : a < 120
  · rw [if_pos h]
    by_cases e : a = i
    · rw [if_pos (show 917 + a = 917 + i by omega), if_pos e]
    · rw [if_neg (show ¬ 917 + a = 917 + i by omega), if_neg e]; exact (if_pos h).symm
  · rw [if_neg h, if_neg (show ¬ (a = i) by omega)]; exact (if_neg h).symm
theorem sE_P {v : Nat → Int32} {i : Nat} {x : Int32} (h0 : i < 120) : sE (upd v (917 + i) x) = sE v := by
  funext a b
  unfold sE upd
  by_cases h : a < 6 ∧ b < 8
  · rw [if_pos h, if_pos h, if_neg (show ¬ 1100 + 8 * a + b = 917 + i by omega)]
  · rw [if_neg h, if_neg h]
theorem sA_E {v : Nat → Int32} {i j : Nat} {x : Int32} (h0 : i < 6) (h1 : j < 8) : sA (upd v (1100 + 8 * i + j) x) = sA v := by
  funext a
  unfold sA upd
  by_cases h : a < 17
  · rw [if_pos h, if_pos h, if_neg (show ¬ a = 1100 + 8 * i + j by omega)]
  · rw [if_neg h, if_neg h]
theorem sS_E {v : Nat → Int32} {i j : Nat} {x : Int32} (h0 : i < 6) (h1 : j < 8) : sS (upd v (1100 + 8 * i + j) x) = sS v := by
  funext a b
  unfold sS upd
  by_cases h : a < 6 ∧ b < 16
  · rw [if_pos h, if_pos h, if_neg (show ¬ 17 + 16 * a + b = 1100 + 8 * i + j by omega)]
  · rw [if_neg h, if_neg h]
theorem sL_E {v : Nat → Int32} {i j : Nat} {x : Int32} (h0 : i < 6) (h1 : j < 8) : sL (upd v (1100 + 8 * i + j) x) = sL v := by
  funext a b
  unfold sL upd
  by_cases h : a < 6 ∧ b < 4
  · rw [if_pos h, if_pos h, if_neg (show ¬ 113 + 4 * a + b = 1100 + 8 * i + j by omega)]
  · rw [if_neg h, if_neg h]
theorem sC_E {v : Nat → Int32} {i j : Nat} {x : Int32} (h0 : i < 6) (h1 : j < 8) : sC (upd v (1100 + 8 * i + j) x) = sC v := by
  funext a b
  unfold sC upd
  by_cases h : a < 30 ∧ b < 25
  · rw [if_pos h, if_pos h, if_neg (show ¬ 137 + 25 * a + b = 1100 + 8 * i + j by omega)]
  · rw [if_neg h, if_neg h]
theorem sF_E {v : Nat → Int32} {i j : Nat} {x : Int32} (h0 : i < 6) (h1 : j < 8) : sF (upd v (1100 + 8 * i + j) x) = sF v := by
  funext a
  unfold sF upd
  by_cases h : a < 30
  · rw [if_pos h, if_pos h, if_neg (show ¬ 887 + a = 1100 + 8 * i + j by omega)]
  · rw [if_neg h, if_neg h]
theorem sP_E {v : Nat → Int32} {i j : Nat} {x : Int32} (h0 : i < 6) (h1 : j < 8) : sP (upd v (1100 + 8 * i + j) x) = sP v := by
  funext a
  unfold sP upd
  by_cases h : a < 120
  · rw [if_pos h, if_pos h, if_neg (show ¬ 917 + a = 1100 + 8 * i + j by omega)]
  · rw [if_neg h, if_neg h]
theorem sE_E {v : Nat → Int32} {i j : Nat} {x : Int32} (h0 : i < 6) (h1 : j < 8) : sE (upd v (1100 + 8 * i + j) x) = up2 (sE v) i j x := by
  funext a b
  unfold sE upd up2
  by_cases h : a < 6 ∧ b < 8
  · rw [if_pos h]
    by_cases e : a = i ∧ b = j
    · rw [if_pos (show 1100 + 8 * a + b = 1100 + 8 * i + j by omega), if_pos e]
    · rw [if_neg (show ¬ 1100 + 8 * a + b = 1100 + 8 * i + j by omega), if_neg e]; exact (if_pos h).symm
  · rw [if_neg h, if_neg (show ¬ (a = i ∧ b = j) by omega)]; exact (if_neg h).symm
theorem sA_M {v : Nat → Int32} {x : Int32} : sA (upd v 1060 x) = sA v := by
  funext a
  unfold sA upd
  by_cases h : a < 17
  · rw [if_pos h, if_pos h, if_neg (show ¬ a = 1060 by omega)]
  · rw [if_neg h, if_neg h]
theorem sS_M {v : Nat → Int32} {x : Int32} : sS (upd v 1060 x) = sS v := by
  funext a b
  unfold sS upd
  by_cases h : a < 6 ∧ b < 16
  · rw [if_pos h, if_pos h, if_neg (show ¬ 17 + 16 * a + b = 1060 by omega)]
  · rw [if_neg h, if_neg h]
theorem sL_M {v : Nat → Int32} {x : Int32} : sL (upd v 1060 x) = sL v := by
  funext a b
  unfold sL upd
  by_cases h : a < 6 ∧ b < 4
  · rw [if_pos h, if_pos h, if_neg (show ¬ 113 + 4 * a + b = 1060 by omega)]
  · rw [if_neg h, if_neg h]
theorem sC_M {v : Nat → Int32} {x : Int32} : sC (upd v 1060 x) = sC v := by
  funext a b
  unfold sC upd
  by_cases h : a < 30 ∧ b < 25
  · rw [if_pos h, if_pos h, if_neg (show ¬ 137 + 25 * a + b = 1060 by omega)]
  · rw [if_neg h, if_neg h]
theorem sF_M {v : Nat → Int32} {x : Int32} : sF (upd v 1060 x) = sF v := by
  funext a
  unfold sF upd
  by_cases h : a < 30
  · rw [if_pos h, if_pos h, if_neg (show ¬ 887 + a = 1060 by omega)]
  · rw [if_neg h, if_neg h]
theorem sP_M {v : Nat → Int32} {x : Int32} : sP (upd v 1060 x) = sP v := by
  funext a
  unfold sP upd
  by_cases h : a < 120
  · rw [if_pos h, if_pos h, if_neg (show ¬ 917 + a = 1060 by omega)]
  · rw [if_neg h, if_neg h]
theorem sE_M {v : Nat → Int32} {x : Int32} : sE (upd v 1060 x) = sE v := by
  funext a b
  unfold sE upd
  by_cases h : a < 6 ∧ b < 8
  · rw [if_pos h, if_pos h, if_neg (show ¬ 1100 + 8 * a + b = 1060 by omega)]
  · rw [if_neg h, if_neg h]
