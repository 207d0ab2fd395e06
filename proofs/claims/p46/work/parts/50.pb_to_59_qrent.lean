section
noncomputable def m1 : Int32 := -1
theorem lit32 (n : Nat) : (@OfNat.ofNat Int32 n Int32.instOfNat) = nI (OfNat.ofNat n) := by cases n <;> exact rfl
theorem neg1 : -(nI 1) = m1 := Int32.toInt_inj.mp rfl
theorem nI_mul (a b : Nat) : nI a * nI b = nI (a * b) := (Int32.ofNat_mul a b).symm
theorem nI_sub {a b : Nat} (h : b ≤ a) : nI a - nI b = nI (a - b) := by
  have e : nI a = nI (a - b) + nI b := by rw [nI_add]; congr 1; omega
  rw [e]; exact Int32.add_sub_cancel _ _
theorem m1_ne {a : Nat} (h : a < 2 ^ 31) : ¬ nI a = m1 := by
  rw [← Int32.toInt_inj, nI_toInt h, show m1.toInt = -1 from rfl]; omega
theorem m1_neq {a : Nat} (h : a < 2 ^ 31) : ¬ m1 = nI a := fun e => m1_ne h e.symm
theorem rd_n {u : RS} {k n j : Nat} (h : j < n) (hn : n ≤ 2 ^ 31) : rd u k n (nI j) = some (u k j) := by
  unfold rd
  rw [nI_toInt (by omega), nI_clamp (by omega), if_pos (by omega)]
theorem ws_n {u : RS} {k n j : Nat} {v : Int32} (h : j < n) (hn : n ≤ 2 ^ 31) : ws u k n (nI j) v = some (up u k j v) := by
  unfold ws
  rw [nI_toInt (by omega), nI_clamp (by omega), if_pos (by omega)]
theorem ix_n {n j : Nat} (h : j < n) (hn : n ≤ 2 ^ 31) : ix n (nI j) = some j := by
  unfold ix
  rw [nI_toInt (by omega), nI_clamp (by omega), if_pos (by omega)]
theorem rdo_n {u : RS} {k o n j : Nat} (h : j < n) (hn : n ≤ 2 ^ 31) : rdo u k o n (nI j) = some (u k (o + j)) := by
  unfold rdo
  rw [nI_toInt (by omega), nI_clamp (by omega), if_pos (by omega)]
theorem wso_n {u : RS} {k o n j : Nat} {v : Int32} (h : j < n) (hn : n ≤ 2 ^ 31) : wso u k o n (nI j) v = some (up u k (o + j) v) := by
  unfold wso
  rw [nI_toInt (by omega), nI_clamp (by omega), if_pos (by omega)]
theorem pt_n {u : RS} {k i : Nat} {v : Int32} : pt u k i v = some (up u k i v) := Eq.trans rfl rfl
theorem up_at {u : RS} {k i r j : Nat} {v : Int32} : up u k i v r j = if r = k ∧ j = i then v else u r j := by
  unfold up upd
  by_cases e : r = k
  · subst e; by_cases e2 : j = i
    · subst e2; simp
    · simp [e2]
  · simp [e]
theorem tln_n {g : CG} {u : RS} {t n : Nat} (h1 : 1 ≤ t) (h2 : t ≤ g.nt) (ht : t < 2 ^ 31) (hl : u (500 + t) 0 = nI n) (hn : n < 2 ^ 31) : tln g u (nI t) = some (nI n) := by
  unfold tln
  rw [nI_clamp ht, hl, nI_toInt hn, if_pos ⟨⟨h1, h2⟩, by omega⟩]
theorem tbt_n {g : CG} {u : RS} {t n k : Nat} (h1 : 1 ≤ t) (h2 : t ≤ g.nt) (ht : t < 2 ^ 31) (hl : u (500 + t) 0 = nI n) (hn : n < 2 ^ 31) (hk : k < n) : tbt g u (nI t) (nI k) = some (u (500 + t) (1 + k)) := by
  unfold tbt
  rw [nI_clamp ht, hl, nI_clamp hn, nI_toInt (by omega), nI_clamp (by omega), if_pos ⟨⟨h1, h2⟩, by omega⟩]
theorem nz_0 : nz (nI 0) = some (nI 0) := Eq.trans rfl rfl
theorem nz_1 : nz (nI 1) = some (nI 1) := Eq.trans rfl rfl
theorem F8_of_n {u : RS} {s k : Nat} (hs : s < 6) (hk : k < 16) : F8_of u (nI s) (nI k) = some (u 1 (17 + 16 * s + k)) := by
  unfold F8_of; simp only [lit32, nI_mul, nI_add]; rw [rd_n (by omega) (by omega)]; rfl
theorem F8_ofLot_n {u : RS} {s k : Nat} (hs : s < 6) (hk : k < 4) : F8_ofLot u (nI s) (nI k) = some (u 1 (113 + 4 * s + k)) := by
  unfold F8_ofLot; simp only [lit32, nI_mul, nI_add]; rw [rd_n (by omega) (by omega)]; rfl
theorem F8_ofCard_n {u : RS} {s k : Nat} (hs : s < 30) (hk : k < 25) : F8_ofCard u (nI s) (nI k) = some (u 1 (137 + 25 * s + k)) := by
  unfold F8_ofCard; simp only [lit32, nI_mul, nI_add]; rw [rd_n (by omega) (by omega)]; rfl
theorem F8_sets_n {u : RS} {s k : Nat} {v : Int32} (hs : s < 6) (hk : k < 16) : F8_sets u (nI s) (nI k) v = some (up u 1 (17 + 16 * s + k) v) := by
  unfold F8_sets; simp only [lit32, nI_mul, nI_add]; rw [ws_n (by omega) (by omega)]; rfl
theorem F8_grows_n {u : RS} {s k : Nat} {v : Int32} (hs : s < 6) (hk : k < 16) : F8_grows u (nI s) (nI k) v = some (up u 1 (17 + 16 * s + k) (u 1 (17 + 16 * s + k) + v)) := by
  unfold F8_grows; simp only [lit32, nI_mul, nI_add]; rw [rd_n (by omega) (by omega), Option.bind_some, ws_n (by omega) (by omega)]; rfl
theorem F8_setsCard_n {u : RS} {s k : Nat} {v : Int32} (hs : s < 30) (hk : k < 25) : F8_setsCard u (nI s) (nI k) v = some (up u 1 (137 + 25 * s + k) v) := by
  unfold F8_setsCard; simp only [lit32, nI_mul, nI_add]; rw [ws_n (by omega) (by omega)]; rfl
end
section
noncomputable def up2 (f : Nat → Nat → Int32) (i j : Nat) (x : Int32) : Nat → Nat → Int32 := fun a b => if a = i ∧ b = j then x else f a b
theorem upd_at {f : Nat → Int32} {i j : Nat} {x : Int32} : upd f i x j = if j = i then x else f j := rfl
theorem up2_at {f : Nat → Nat → Int32} {i j a b : Nat} {x : Int32} : up2 f i j x a b = if a = i ∧ b = j then x else f a b := rfl
noncomputable def sA (v : Nat → Int32) (i : Nat) : Int32 := if i < 17 then v (i) else 0
theorem sA_r {v : Nat → Int32} {i : Nat} (h0 : i < 17) : v (i) = sA v i := (if_pos h0).symm
noncomputable def sS (v : Nat → Int32) (i j : Nat) : Int32 := if i < 6 ∧ j < 16 then v (17 + 16 * i + j) else 0
theorem sS_r {v : Nat → Int32} {i j : Nat} (h0 : i < 6) (h1 : j < 16) : v (17 + 16 * i + j) = sS v i j := (if_pos ⟨h0, h1⟩).symm
noncomputable def sL (v : Nat → Int32) (i j : Nat) : Int32 := if i < 6 ∧ j < 4 then v (113 + 4 * i + j) else 0
theorem sL_r {v : Nat → Int32} {i j : Nat} (h0 : i < 6) (h1 : j < 4) : v (113 + 4 * i + j) = sL v i j := (if_pos ⟨h0, h1⟩).symm
noncomputable def sC (v : Nat → Int32) (i j : Nat) : Int32 := if i < 30 ∧ j < 25 then v (137 + 25 * i + j) else 0
theorem sC_r {v : Nat → Int32} {i j : Nat} (h0 : i < 30) (h1 : j < 25) : v (137 + 25 * i + j) = sC v i j := (if_pos ⟨h0, h1⟩).symm
noncomputable def sF (v : Nat → Int32) (i : Nat) : Int32 := if i < 30 then v (887 + i) else 0
theorem sF_r {v : Nat → Int32} {i : Nat} (h0 : i < 30) : v (887 + i) = sF v i := (if_pos h0).symm
noncomputable def sP (v : Nat → Int32) (i : Nat) : Int32 := if i < 120 then v (917 + i) else 0
theorem sP_r {v : Nat → Int32} {i : Nat} (h0 : i < 120) : v (917 + i) = sP v i := (if_pos h0).symm
noncomputable def sE (v : Nat → Int32) (i j : Nat) : Int32 := if i < 6 ∧ j < 8 then v (1100 + 8 * i + j) else 0
theorem sE_r {v : Nat → Int32} {i j : Nat} (h0 : i < 6) (h1 : j < 8) : v (1100 + 8 * i + j) = sE v i j := (if_pos ⟨h0, h1⟩).symm
theorem sA_A {v : Nat → Int32} {i : Nat} {x : Int32} (h0 : i < 17) : sA (upd v (i) x) = upd (sA v) i x := by
  funext a
  unfold sA upd
  by_cases h : a < 17
  · rw [if_pos h]
    by_cases e : a = i
    · rw [if_pos (show a = i by omega), if_pos e]
    · rw [if_neg (show ¬ a = i by omega), if_neg e]; exact (if_pos h).symm
  · rw [if_neg h, if_neg (show ¬ (a = i) by omega)]; exact (if_neg h).symm
theorem sS_A {v : Nat → Int32} {i : Nat} {x : Int32} (h0 : i < 17) : sS (upd v (i) x) = sS v := by
  funext a b
  unfold sS upd
  by_cases h : a < 6 ∧ b < 16
  · rw [if_pos h, if_pos h, if_neg (show ¬ 17 + 16 * a + b = i by omega)]
  · rw [if_neg h, if_neg h]
theorem sL_A {v : Nat → Int32} {i : Nat} {x : Int32} (h0 : i < 17) : sL (upd v (i) x) = sL v := by
  funext a b
  unfold sL upd
  by_cases h : a < 6 ∧ b < 4
  · rw [if_pos h, if_pos h, if_neg (show ¬ 113 + 4 * a + b = i by omega)]
  · rw [if_neg h, if_neg h]
theorem sC_A {v : Nat → Int32} {i : Nat} {x : Int32} (h0 : i < 17) : sC (upd v (i) x) = sC v := by
  funext a b
  unfold sC upd
  by_cases h : a < 30 ∧ b < 25
  · rw [if_pos h, if_pos h, if_neg (show ¬ 137 + 25 * a + b = i by omega)]
  · rw [if_neg h, if_neg h]
theorem sF_A {v : Nat → Int32} {i : Nat} {x : Int32} (h0 : i < 17) : sF (upd v (i) x) = sF v := by
  funext a
  unfold sF upd
  by_cases h : a < 30
  · rw [if_pos h, if_pos h, if_neg (show ¬ 887 + a = i by omega)]
  · rw [if_neg h, if_neg h]
theorem sP_A {v : Nat → Int32} {i : Nat} {x : Int32} (h0 : i < 17) : sP (upd v (i) x) = sP v := by
  funext a
  unfold sP upd
  by_cases h : a < 120
  · rw [if_pos h, if_pos h, if_neg (show ¬ 917 + a = i by omega)]
  · rw [if_neg h, if_neg h]
theorem sE_A {v : Nat → Int32} {i : Nat} {x : Int32} (h0 : i < 17) : sE (upd v (i) x) = sE v := by
  funext a b
  unfold sE upd
  by_cases h : a < 6 ∧ b < 8
  · rw [if_pos h, if_pos h, if_neg (show ¬ 1100 + 8 * a + b = i by omega)]
  · rw [if_neg h, if_neg h]
theorem sA_S {v : Nat → Int32} {i j : Nat} {x : Int32} (h0 : i < 6) (h1 : j < 16) : sA (upd v (17 + 16 * i + j) x) = sA v := by
  funext a
  unfold sA upd
  by_cases h : a < 17
  · rw [if_pos h, if_pos h, if_neg (show ¬ a = 17 + 16 * i + j by omega)]
  · rw [if_neg h, if_neg h]
theorem sS_S {v : Nat → Int32} {i j : Nat} {x : Int32} (h0 : i < 6) (h1 : j < 16) : sS (upd v (17 + 16 * i + j) x) = up2 (sS v) i j x := by
  funext a b
  unfold sS upd up2
  by_cases h : a < 6 ∧ b < 16
  · rw [if_pos h]
    by_cases e : a = i ∧ b = j
    · rw [if_pos (show 17 + 16 * a + b = 17 + 16 * i + j by omega), if_pos e]
    · rw [if_neg (show ¬ 17 + 16 * a + b = 17 + 16 * i + j by omega), if_neg e]; exact (if_pos h).symm
  · rw [if_neg h, if_neg (show ¬ (a = i ∧ b = j) by omega)]; exact (if_neg h).symm
theorem sL_S {v : Nat → Int32} {i j : Nat} {x : Int32} (h0 : i < 6) (h1 : j < 16) : sL (upd v (17 + 16 * i + j) x) = sL v := by
  funext a b
  unfold sL upd
  by_cases h : a < 6 ∧ b < 4
  · rw [if_pos h, if_pos h, if_neg (show ¬ 113 + 4 * a + b = 17 + 16 * i + j by omega)]
  · rw [if_neg h, if_neg h]
theorem sC_S {v : Nat → Int32} {i j : Nat} {x : Int32} (h0 : i < 6) (h1 : j < 16) : sC (upd v (17 + 16 * i + j) x) = sC v := by
  funext a b
  unfold sC upd
  by_cases h : a < 30 ∧ b < 25
  · rw [if_pos h, if_pos h, if_neg (show ¬ 137 + 25 * a + b = 17 + 16 * i + j by omega)]
  · rw [if_neg h, if_neg h]
theorem sF_S {v : Nat → Int32} {i j : Nat} {x : Int32} (h0 : i < 6) (h1 : j < 16) : sF (upd v (17 + 16 * i + j) x) = sF v := by
  funext a
  unfold sF upd
  by_cases h : a < 30
  · rw [if_pos h, if_pos h, if_neg (show ¬ 887 + a = 17 + 16 * i + j by omega)]
  · rw [if_neg h, if_neg h]
theorem sP_S {v : Nat → Int32} {i j : Nat} {x : Int32} (h0 : i < 6) (h1 : j < 16) : sP (upd v (17 + 16 * i + j) x) = sP v := by
  funext a
  unfold sP upd
  by_cases h : a < 120
  · rw [if_pos h, if_pos h, if_neg (show ¬ 917 + a = 17 + 16 * i + j by omega)]
  · rw [if_neg h, if_neg h]
theorem sE_S {v : Nat → Int32} {i j : Nat} {x : Int32} (h0 : i < 6) (h1 : j < 16) : sE (upd v (17 + 16 * i + j) x) = sE v := by
  funext a b
  unfold sE upd
  by_cases h : a < 6 ∧ b < 8
  · rw [if_pos h, if_pos h, if_neg (show ¬ 1100 + 8 * a + b = 17 + 16 * i + j by omega)]
  · rw [if_neg h, if_neg h]
theorem sA_L {v : Nat → Int32} {i j : Nat} {x : Int32} (h0 : i < 6) (h1 : j < 4) : sA (upd v (113 + 4 * i + j) x) = sA v := by
  funext a
  unfold sA upd
  by_cases h : a < 17
  · rw [if_pos h, if_pos h, if_neg (show ¬ a = 113 + 4 * i + j by omega)]
  · rw [if_neg h, if_neg h]
theorem sS_L {v : Nat → Int32} {i j : Nat} {x : Int32} (h0 : i < 6) (h1 : j < 4) : sS (upd v (113 + 4 * i + j) x) = sS v := by
  funext a b
  unfold sS upd
  by_cases h : a < 6 ∧ b < 16
  · rw [if_pos h, if_pos h, if_neg (show ¬ 17 + 16 * a + b = 113 + 4 * i + j by omega)]
  · rw [if_neg h, if_neg h]
theorem sL_L {v : Nat → Int32} {i j : Nat} {x : Int32} (h0 : i < 6) (h1 : j < 4) : sL (upd v (113 + 4 * i + j) x) = up2 (sL v) i j x := by
  funext a b
  unfold sL upd up2
  by_cases h : a < 6 ∧ b < 4
  · rw [if_pos h]
    by_cases e : a = i ∧ b = j
    · rw [if_pos (show 113 + 4 * a + b = 113 + 4 * i + j by omega), if_pos e]
    · rw [if_neg (show ¬ 113 + 4 * a + b = 113 + 4 * i + j by omega), if_neg e]; exact (if_pos h).symm
  · rw [if_neg h, if_neg (show ¬ (a = i ∧ b = j) by omega)]; exact (if_neg h).symm
theorem sC_L {v : Nat → Int32} {i j : Nat} {x : Int32} (h0 : i < 6) (h1 : j < 4) : sC (upd v (113 + 4 * i + j) x) = sC v := by
  funext a b
  unfold sC upd
  by_cases h : a < 30 ∧ b < 25
  · rw [if_pos h, if_pos h, if_neg (show ¬ 137 + 25 * a + b = 113 + 4 * i + j by omega)]
  · rw [if_neg h, if_neg h]
theorem sF_L {v : Nat → Int32} {i j : Nat} {x : Int32} (h0 : i < 6) (h1 : j < 4) : sF (upd v (113 + 4 * i + j) x) = sF v := by
  funext a
  unfold sF upd
  by_cases h : a < 30
  · rw [if_pos h, if_pos h, if_neg (show ¬ 887 + a = 113 + 4 * i + j by omega)]
  · rw [if_neg h, if_neg h]
theorem sP_L {v : Nat → Int32} {i j : Nat} {x : Int32} (h0 : i < 6) (h1 : j < 4) : sP (upd v (113 + 4 * i + j) x) = sP v := by
  funext a
  unfold sP upd
  by_cases h : a < 120
  · rw [if_pos h, if_pos h, if_neg (show ¬ 917 + a = 113 + 4 * i + j by omega)]
  · rw [if_neg h, if_neg h]
theorem sE_L {v : Nat → Int32} {i j : Nat} {x : Int32} (h0 : i < 6) (h1 : j < 4) : sE (upd v (113 + 4 * i + j) x) = sE v := by
  funext a b
  unfold sE upd
  by_cases h : a < 6 ∧ b < 8
  · rw [if_pos h, if_pos h, if_neg (show ¬ 1100 + 8 * a + b = 113 + 4 * i + j by omega)]
  · rw [if_neg h, if_neg h]
theorem sA_C {v : Nat → Int32} {i j : Nat} {x : Int32} (h0 : i < 30) (h1 : j < 25) : sA (upd v (137 + 25 * i + j) x) = sA v := by
  funext a
  unfold sA upd
  by_cases h : a < 17
  · rw [if_pos h, if_pos h, if_neg (show ¬ a = 137 + 25 * i + j by omega)]
  · rw [if_neg h, if_neg h]
theorem sS_C {v : Nat → Int32} {i j : Nat} {x : Int32} (h0 : i < 30) (h1 : j < 25) : sS (upd v (137 + 25 * i + j) x) = sS v := by
  funext a b
  unfold sS upd
  by_cases h : a < 6 ∧ b < 16
  · rw [if_pos h, if_pos h, if_neg (show ¬ 17 + 16 * a + b = 137 + 25 * i + j by omega)]
  · rw [if_neg h, if_neg h]
theorem sL_C {v : Nat → Int32} {i j : Nat} {x : Int32} (h0 : i < 30) (h1 : j < 25) : sL (upd v (137 + 25 * i + j) x) = sL v := by
  funext a b
  unfold sL upd
  by_cases h : a < 6 ∧ b < 4
  · rw [if_pos h, if_pos h, if_neg (show ¬ 113 + 4 * a + b = 137 + 25 * i + j by omega)]
  · rw [if_neg h, if_neg h]
theorem sC_C {v : Nat → Int32} {i j : Nat} {x : Int32} (h0 : i < 30) (h1 : j < 25) : sC (upd v (137 + 25 * i + j) x) = up2 (sC v) i j x := by
  funext a b
  unfold sC upd up2
  by_cases h : a < 30 ∧ b < 25
  · rw [if_pos h]
    by_cases e : a = i ∧ b = j
    · rw [if_pos (show 137 + 25 * a + b = 137 + 25 * i + j by omega), if_pos e]
    · rw [if_neg (show ¬ 137 + 25 * a + b = 137 + 25 * i + j by omega), if_neg e]; exact (if_pos h).symm
  · rw [if_neg h, if_neg (show ¬ (a = i ∧ b = j) by omega)]; exact (if_neg h).symm
theorem sF_C {v : Nat → Int32} {i j : Nat} {x : Int32} (h0 : i < 30) (h1 : j < 25) : sF (upd v (137 + 25 * i + j) x) = sF v := by
  funext a
  unfold sF upd
  by_cases h : a < 30
  · rw [if_pos h, if_pos h, if_neg (show ¬ 887 + a = 137 + 25 * i + j by omega)]
  · rw [if_neg h, if_neg h]
theorem sP_C {v : Nat → Int32} {i j : Nat} {x : Int32} (h0 : i < 30) (h1 : j < 25) : sP (upd v (137 + 25 * i + j) x) = sP v := by
  funext a
  unfold sP upd
  by_cases h : a < 120
  · rw [if_pos h, if_pos h, if_neg (show ¬ 917 + a = 137 + 25 * i + j by omega)]
  · rw [if_neg h, if_neg h]
theorem sE_C {v : Nat → Int32} {i j : Nat} {x : Int32} (h0 : i < 30) (h1 : j < 25) : sE (upd v (137 + 25 * i + j) x) = sE v := by
  funext a b
  unfold sE upd
  by_cases h : a < 6 ∧ b < 8
  · rw [if_pos h, if_pos h, if_neg (show ¬ 1100 + 8 * a + b = 137 + 25 * i + j by omega)]
  · rw [if_neg h, if_neg h]
theorem sA_F {v : Nat → Int32} {i : Nat} {x : Int32} (h0 : i < 30) : sA (upd v (887 + i) x) = sA v := by
  funext a
  unfold sA upd
  by_cases h : a < 17
  · rw [if_pos h, if_pos h, if_neg (show ¬ a = 887 + i by omega)]
  · rw [if_neg h, if_neg h]
theorem sS_F {v : Nat → Int32} {i : Nat} {x : Int32} (h0 : i < 30) : sS (upd v (887 + i) x) = sS v := by
  funext a b
  unfold sS upd
  by_cases h : a < 6 ∧ b < 16
  · rw [if_pos h, if_pos h, if_neg (show ¬ 17 + 16 * a + b = 887 + i by omega)]
  · rw [if_neg h, if_neg h]
theorem sL_F {v : Nat → Int32} {i : Nat} {x : Int32} (h0 : i < 30) : sL (upd v (887 + i) x) = sL v := by
  funext a b
  unfold sL upd
  by_cases h : a < 6 ∧ b < 4
  · rw [if_pos h, if_pos h, if_neg (show ¬ 113 + 4 * a + b = 887 + i by omega)]
  · rw [if_neg h, if_neg h]
theorem sC_F {v : Nat → Int32} {i : Nat} {x : Int32} (h0 : i < 30) : sC (upd v (887 + i) x) = sC v := by
  funext a b
  unfold sC upd
  by_cases h : a < 30 ∧ b < 25
  · rw [if_pos h, if_pos h, if_neg (show ¬ 137 + 25 * a + b = 887 + i by omega)]
  · rw [if_neg h, if_neg h]
theorem sF_F {v : Nat → Int32} {i : Nat} {x : Int32} (h0 : i < 30) : sF (upd v (887 + i) x) = upd (sF v) i x := by
  funext a
  unfold sF upd
  by_cases h : a < 30
  · rw [if_pos h]
    by_cases e : a = i
    · rw [if_pos (show 887 + a = 887 + i by omega), if_pos e]
    · rw [if_neg (show ¬ 887 + a = 887 + i by omega), if_neg e]; exact (if_pos h).symm
  · rw [if_neg h, if_neg (show ¬ (a = i) by omega)]; exact (if_neg h).symm
theorem sP_F {v : Nat → Int32} {i : Nat} {x : Int32} (h0 : i < 30) : sP (upd v (887 + i) x) = sP v := by
  funext a
  unfold sP upd
  by_cases h : a < 120
  · rw [if_pos h, if_pos h, if_neg (show ¬ 917 + a = 887 + i by omega)]
  · rw [if_neg h, if_neg h]
theorem sE_F {v : Nat → Int32} {i : Nat} {x : Int32} (h0 : i < 30) : sE (upd v (887 + i) x) = sE v := by
  funext a b
  unfold sE upd
  by_cases h : a < 6 ∧ b < 8
  · rw [if_pos h, if_pos h, if_neg (show ¬ 1100 + 8 * a + b = 887 + i by omega)]
  · rw [if_neg h, if_neg h]
theorem sA_P {v : Nat → Int32} {i : Nat} {x : Int32} (h0 : i < 120) : sA (upd v (917 + i) x) = sA v := by
  funext a
  unfold sA upd
  by_cases h : a < 17
  · rw [if_pos h, if_pos h, if_neg (show ¬ a = 917 + i by omega)]
  · rw [if_neg h, if_neg h]
theorem sS_P {v : Nat → Int32} {i : Nat} {x : Int32} (h0 : i < 120) : sS (upd v (917 + i) x) = sS v := by
  funext a b
  unfold sS upd
  by_cases h : a < 6 ∧ b < 16
  · rw [if_pos h, if_pos h, if_neg (show ¬ 17 + 16 * a + b = 917 + i by omega)]
  · rw [if_neg h, if_neg h]
theorem sL_P {v : Nat → Int32} {i : Nat} {x : Int32} (h0 : i < 120) : sL (upd v (917 + i) x) = sL v := by
  funext a b
  unfold sL upd
  by_cases h : a < 6 ∧ b < 4
  · rw [if_pos h, if_pos h, if_neg (show ¬ 113 + 4 * a + b = 917 + i by omega)]
  · rw [if_neg h, if_neg h]
theorem sC_P {v : Nat → Int32} {i : Nat} {x : Int32} (h0 : i < 120) : sC (upd v (917 + i) x) = sC v := by
  funext a b
  unfold sC upd
  by_cases h : a < 30 ∧ b < 25
  · rw [if_pos h, if_pos h, if_neg (show ¬ 137 + 25 * a + b = 917 + i by omega)]
  · rw [if_neg h, if_neg h]
theorem sF_P {v : Nat → Int32} {i : Nat} {x : Int32} (h0 : i < 120) : sF (upd v (917 + i) x) = sF v := by
  funext a
  unfold sF upd
  by_cases h : a < 30
  · rw [if_pos h, if_pos h, if_neg (show ¬ 887 + a = 917 + i by omega)]
  · rw [if_neg h, if_neg h]
theorem sP_P {v : Nat → Int32} {i : Nat} {x : Int32} (h0 : i < 120) : sP (upd v (917 + i) x) = upd (sP v) i x := by
  funext a
  unfold sP upd
  by_cases h : a < 120
  · rw [if_pos h]
    by_cases e : a = i
    · rw [if_pos (show 917 + a = 917 + i by omega), if_pos e]
    · rw [if_neg (show ¬ 917 + a = 917 + i by omega), if_neg e]; exact (if_pos h).symm
  · rw [if_neg h, if_neg (show ¬ (a = i) by omega)]; exact (if_neg h).symm
theorem sE_P {v : Nat → Int32} {i : Nat} {x : Int32} (h0 : i < 120) : sE (upd v (917 + i) x) = sE v := by
  funext a b
  unfold sE upd
  by_cases h : a < 6 ∧ b < 8
  · rw [if_pos h, if_pos h, if_neg (show ¬ 1100 + 8 * a + b = 917 + i by omega)]
  · rw [if_neg h, if_neg h]
theorem sA_E {v : Nat → Int32} {i j : Nat} {x : Int32} (h0 : i < 6) (h1 : j < 8) : sA (upd v (1100 + 8 * i + j) x) = sA v := by
  funext a
  unfold sA upd
  by_cases h : a < 17
  · rw [if_pos h, if_pos h, if_neg (show ¬ a = 1100 + 8 * i + j by omega)]
  · rw [if_neg h, if_neg h]
theorem sS_E {v : Nat → Int32} {i j : Nat} {x : Int32} (h0 : i < 6) (h1 : j < 8) : sS (upd v (1100 + 8 * i + j) x) = sS v := by
  funext a b
  unfold sS upd
  by_cases h : a < 6 ∧ b < 16
  · rw [if_pos h, if_pos h, if_neg (show ¬ 17 + 16 * a + b = 1100 + 8 * i + j by omega)]
  · rw [if_neg h, if_neg h]
theorem sL_E {v : Nat → Int32} {i j : Nat} {x : Int32} (h0 : i < 6) (h1 : j < 8) : sL (upd v (1100 + 8 * i + j) x) = sL v := by
  funext a b
  unfold sL upd
  by_cases h : a < 6 ∧ b < 4
  · rw [if_pos h, if_pos h, if_neg (show ¬ 113 + 4 * a + b = 1100 + 8 * i + j by omega)]
  · rw [if_neg h, if_neg h]
theorem sC_E {v : Nat → Int32} {i j : Nat} {x : Int32} (h0 : i < 6) (h1 : j < 8) : sC (upd v (1100 + 8 * i + j) x) = sC v := by
  funext a b
  unfold sC upd
  by_cases h : a < 30 ∧ b < 25
  · rw [if_pos h, if_pos h, if_neg (show ¬ 137 + 25 * a + b = 1100 + 8 * i + j by omega)]
  · rw [if_neg h, if_neg h]
theorem sF_E {v : Nat → Int32} {i j : Nat} {x : Int32} (h0 : i < 6) (h1 : j < 8) : sF (upd v (1100 + 8 * i + j) x) = sF v := by
  funext a
  unfold sF upd
  by_cases h : a < 30
  · rw [if_pos h, if_pos h, if_neg (show ¬ 887 + a = 1100 + 8 * i + j by omega)]
  · rw [if_neg h, if_neg h]
theorem sP_E {v : Nat → Int32} {i j : Nat} {x : Int32} (h0 : i < 6) (h1 : j < 8) : sP (upd v (1100 + 8 * i + j) x) = sP v := by
  funext a
  unfold sP upd
  by_cases h : a < 120
  · rw [if_pos h, if_pos h, if_neg (show ¬ 917 + a = 1100 + 8 * i + j by omega)]
  · rw [if_neg h, if_neg h]
theorem sE_E {v : Nat → Int32} {i j : Nat} {x : Int32} (h0 : i < 6) (h1 : j < 8) : sE (upd v (1100 + 8 * i + j) x) = up2 (sE v) i j x := by
  funext a b
  unfold sE upd up2
  by_cases h : a < 6 ∧ b < 8
  · rw [if_pos h]
    by_cases e : a = i ∧ b = j
    · rw [if_pos (show 1100 + 8 * a + b = 1100 + 8 * i + j by omega), if_pos e]
    · rw [if_neg (show ¬ 1100 + 8 * a + b = 1100 + 8 * i + j by omega), if_neg e]; exact (if_pos h).symm
  · rw [if_neg h, if_neg (show ¬ (a = i ∧ b = j) by omega)]; exact (if_neg h).symm
theorem sA_M {v : Nat → Int32} {x : Int32} : sA (upd v 1060 x) = sA v := by
  funext a
  unfold sA upd
  by_cases h : a < 17
  · rw [if_pos h, if_pos h, if_neg (show ¬ a = 1060 by omega)]
  · rw [if_neg h, if_neg h]
theorem sS_M {v : Nat → Int32} {x : Int32} : sS (upd v 1060 x) = sS v := by
  funext a b
  unfold sS upd
  by_cases h : a < 6 ∧ b < 16
  · rw [if_pos h, if_pos h, if_neg (show ¬ 17 + 16 * a + b = 1060 by omega)]
  · rw [if_neg h, if_neg h]
theorem sL_M {v : Nat → Int32} {x : Int32} : sL (upd v 1060 x) = sL v := by
  funext a b
  unfold sL upd
  by_cases h : a < 6 ∧ b < 4
  · rw [if_pos h, if_pos h, if_neg (show ¬ 113 + 4 * a + b = 1060 by omega)]
  · rw [if_neg h, if_neg h]
theorem sC_M {v : Nat → Int32} {x : Int32} : sC (upd v 1060 x) = sC v := by
  funext a b
  unfold sC upd
  by_cases h : a < 30 ∧ b < 25
  · rw [if_pos h, if_pos h, if_neg (show ¬ 137 + 25 * a + b = 1060 by omega)]
  · rw [if_neg h, if_neg h]
theorem sF_M {v : Nat → Int32} {x : Int32} : sF (upd v 1060 x) = sF v := by
  funext a
  unfold sF upd
  by_cases h : a < 30
  · rw [if_pos h, if_pos h, if_neg (show ¬ 887 + a = 1060 by omega)]
  · rw [if_neg h, if_neg h]
theorem sP_M {v : Nat → Int32} {x : Int32} : sP (upd v 1060 x) = sP v := by
  funext a
  unfold sP upd
  by_cases h : a < 120
  · rw [if_pos h, if_pos h, if_neg (show ¬ 917 + a = 1060 by omega)]
  · rw [if_neg h, if_neg h]
theorem sE_M {v : Nat → Int32} {x : Int32} : sE (upd v 1060 x) = sE v := by
  funext a b
  unfold sE upd
  by_cases h : a < 6 ∧ b < 8
  · rw [if_pos h, if_pos h, if_neg (show ¬ 1100 + 8 * a + b = 1060 by omega)]
  · rw [if_neg h, if_neg h]
end
section
noncomputable def cnt : Nat → (Nat → Bool) → Nat
  | 0, _ => 0
  | n + 1, p => cnt n p + if p n then 1 else 0
noncomputable def sumI : Nat → (Nat → Int32) → Int32
  | 0, _ => 0
  | n + 1, f => sumI n f + f n
noncomputable abbrev QA (va wa : Nat → Int32) (sm lm cm B : Nat) : Prop := (sm ≤ 6) ∧ (lm ≤ 6) ∧ (cm ≤ 30) ∧ (B < 2000000000) ∧ (wa 7 = nI sm) ∧ (wa 8 = nI lm) ∧ (wa 9 = nI cm) ∧ (∀ i, i < 17 → i ≠ 10 → i ≠ 11 → va i = wa i) ∧ (∃ d, 1 ≤ d ∧ d ≤ 2000 ∧ wa 0 = nI d) ∧ (∃ t, t ≤ B ∧ wa 6 = nI t)
theorem QA.sm6 {va wa : Nat → Int32} {sm lm cm B : Nat} (h : QA va wa sm lm cm B) : sm ≤ 6 := h.1
theorem QA.lm6 {va wa : Nat → Int32} {sm lm cm B : Nat} (h : QA va wa sm lm cm B) : lm ≤ 6 := h.2.1
theorem QA.cm30 {va wa : Nat → Int32} {sm lm cm B : Nat} (h : QA va wa sm lm cm B) : cm ≤ 30 := h.2.2.1
theorem QA.bb {va wa : Nat → Int32} {sm lm cm B : Nat} (h : QA va wa sm lm cm B) : B < 2000000000 := h.2.2.2.1
theorem QA.w7 {va wa : Nat → Int32} {sm lm cm B : Nat} (h : QA va wa sm lm cm B) : wa 7 = nI sm := h.2.2.2.2.1
theorem QA.w8 {va wa : Nat → Int32} {sm lm cm B : Nat} (h : QA va wa sm lm cm B) : wa 8 = nI lm := h.2.2.2.2.2.1
theorem QA.w9 {va wa : Nat → Int32} {sm lm cm B : Nat} (h : QA va wa sm lm cm B) : wa 9 = nI cm := h.2.2.2.2.2.2.1
theorem QA.eqa {va wa : Nat → Int32} {sm lm cm B : Nat} (h : QA va wa sm lm cm B) : ∀ i, i < 17 → i ≠ 10 → i ≠ 11 → va i = wa i := h.2.2.2.2.2.2.2.1
theorem QA.day {va wa : Nat → Int32} {sm lm cm B : Nat} (h : QA va wa sm lm cm B) : ∃ d, 1 ≤ d ∧ d ≤ 2000 ∧ wa 0 = nI d := h.2.2.2.2.2.2.2.2.1
theorem QA.time {va wa : Nat → Int32} {sm lm cm B : Nat} (h : QA va wa sm lm cm B) : ∃ t, t ≤ B ∧ wa 6 = nI t := h.2.2.2.2.2.2.2.2.2
noncomputable abbrev QS (vs ws wc : Nat → Nat → Int32) (tx : Nat → Nat → Int32) (nt sm cm U : Nat) : Prop := (∀ s k, s < sm → k < 14 → k ≠ 8 → vs s k = ws s k) ∧ (∀ s, s < sm → ws s 0 = nI 3 → vs s 8 = ws s 8 ∧ ∃ a, a < 26 ∧ ws s 8 = nI a) ∧ (∀ s, s < sm → ws s 0 ≠ nI 3 → vs s 8 = m1) ∧ (∀ s, s < sm → ∃ p, 1 ≤ p ∧ p ≤ 99 ∧ ws s 1 = nI p) ∧ (∀ s, s < sm → ws s 2 = m1 ∨ ∃ c, c < cm ∧ ws s 2 = nI c ∧ wc c 3 = nI 1 ∧ wc c 4 = nI s) ∧ (∀ s, s < sm → ∃ n, n ≤ 1000 ∧ ws s 3 = nI n) ∧ (∀ s, s < sm → ∃ n, n ≤ U ∧ ws s 4 = nI n) ∧ (∀ s, s < sm → ws s 7 = nI 0 ∨ ws s 7 = nI 1) ∧ (∀ s, s < sm → ∃ t n, 1 ≤ t ∧ t ≤ nt ∧ ws s 14 = nI t ∧ tx t 0 = nI n ∧ 1 ≤ n ∧ n ≤ 12 ∧ vs s 14 = nI n ∧ ∀ k, k < n → (tx t (1 + k) = nI 49 ↔ (vs s 15 >>> nI k) &&& nI 1 = nI 1)) ∧ (∀ s, s < 6 → (ws s 14).toNatClampNeg ≤ nt)
theorem QS.eqs {vs ws wc : Nat → Nat → Int32} {tx : Nat → Nat → Int32} {nt sm cm U : Nat} (h : QS vs ws wc tx nt sm cm U) : ∀ s k, s < sm → k < 14 → k ≠ 8 → vs s k = ws s k := h.1
theorem QS.letter {vs ws wc : Nat → Nat → Int32} {tx : Nat → Nat → Int32} {nt sm cm U : Nat} (h : QS vs ws wc tx nt sm cm U) : ∀ s, s < sm → ws s 0 = nI 3 → vs s 8 = ws s 8 ∧ ∃ a, a < 26 ∧ ws s 8 = nI a := h.2.1
theorem QS.nolet {vs ws wc : Nat → Nat → Int32} {tx : Nat → Nat → Int32} {nt sm cm U : Nat} (h : QS vs ws wc tx nt sm cm U) : ∀ s, s < sm → ws s 0 ≠ nI 3 → vs s 8 = m1 := h.2.2.1
theorem QS.pace {vs ws wc : Nat → Nat → Int32} {tx : Nat → Nat → Int32} {nt sm cm U : Nat} (h : QS vs ws wc tx nt sm cm U) : ∀ s, s < sm → ∃ p, 1 ≤ p ∧ p ≤ 99 ∧ ws s 1 = nI p := h.2.2.2.1
theorem QS.hold {vs ws wc : Nat → Nat → Int32} {tx : Nat → Nat → Int32} {nt sm cm U : Nat} (h : QS vs ws wc tx nt sm cm U) : ∀ s, s < sm → ws s 2 = m1 ∨ ∃ c, c < cm ∧ ws s 2 = nI c ∧ wc c 3 = nI 1 ∧ wc c 4 = nI s := h.2.2.2.2.1
theorem QS.need {vs ws wc : Nat → Nat → Int32} {tx : Nat → Nat → Int32} {nt sm cm U : Nat} (h : QS vs ws wc tx nt sm cm U) : ∀ s, s < sm → ∃ n, n ≤ 1000 ∧ ws s 3 = nI n := h.2.2.2.2.2.1
theorem QS.used {vs ws wc : Nat → Nat → Int32} {tx : Nat → Nat → Int32} {nt sm cm U : Nat} (h : QS vs ws wc tx nt sm cm U) : ∀ s, s < sm → ∃ n, n ≤ U ∧ ws s 4 = nI n := h.2.2.2.2.2.2.1
theorem QS.stop {vs ws wc : Nat → Nat → Int32} {tx : Nat → Nat → Int32} {nt sm cm U : Nat} (h : QS vs ws wc tx nt sm cm U) : ∀ s, s < sm → ws s 7 = nI 0 ∨ ws s 7 = nI 1 := h.2.2.2.2.2.2.2.1
theorem QS.script {vs ws wc : Nat → Nat → Int32} {tx : Nat → Nat → Int32} {nt sm cm U : Nat} (h : QS vs ws wc tx nt sm cm U) : ∀ s, s < sm → ∃ t n, 1 ≤ t ∧ t ≤ nt ∧ ws s 14 = nI t ∧ tx t 0 = nI n ∧ 1 ≤ n ∧ n ≤ 12 ∧ vs s 14 = nI n ∧ ∀ k, k < n → (tx t (1 + k) = nI 49 ↔ (vs s 15 >>> nI k) &&& nI 1 = nI 1) := h.2.2.2.2.2.2.2.2.1
theorem QS.ti {vs ws wc : Nat → Nat → Int32} {tx : Nat → Nat → Int32} {nt sm cm U : Nat} (h : QS vs ws wc tx nt sm cm U) : ∀ s, s < 6 → (ws s 14).toNatClampNeg ≤ nt := h.2.2.2.2.2.2.2.2.2
noncomputable abbrev QC (vc wc : Nat → Nat → Int32) (tx : Nat → Nat → Int32) (nt lm cm : Nat) : Prop := (∀ c k, c < cm → k < 9 → k ≠ 2 → vc c k = wc c k) ∧ (∀ c, c < cm → ∃ l, l < lm ∧ wc c 0 = nI l) ∧ (∀ c, c < cm → ∃ a, a < 5 ∧ wc c 3 = nI a) ∧ (∀ c, c < cm → wc c 8 = nI 0 ∨ (wc c 8 = nI 1 ∧ wc c 3 = nI 0)) ∧ (∀ c, c < cm → ∃ t n, 1 ≤ t ∧ t ≤ nt ∧ wc c 2 = nI t ∧ tx t 0 = nI n ∧ 1 ≤ n ∧ n ≤ 16 ∧ vc c 2 = nI n ∧ ∀ k, k < n → vc c (9 + k) = tx t (1 + k) ∧ ∃ a, a < 26 ∧ tx t (1 + k) = nI a) ∧ (∀ c, c < 30 → (wc c 2).toNatClampNeg ≤ nt)
theorem QC.eqc {vc wc : Nat → Nat → Int32} {tx : Nat → Nat → Int32} {nt lm cm : Nat} (h : QC vc wc tx nt lm cm) : ∀ c k, c < cm → k < 9 → k ≠ 2 → vc c k = wc c k := h.1
theorem QC.lot {vc wc : Nat → Nat → Int32} {tx : Nat → Nat → Int32} {nt lm cm : Nat} (h : QC vc wc tx nt lm cm) : ∀ c, c < cm → ∃ l, l < lm ∧ wc c 0 = nI l := h.2.1
theorem QC.state {vc wc : Nat → Nat → Int32} {tx : Nat → Nat → Int32} {nt lm cm : Nat} (h : QC vc wc tx nt lm cm) : ∀ c, c < cm → ∃ a, a < 5 ∧ wc c 3 = nI a := h.2.2.1
theorem QC.rush {vc wc : Nat → Nat → Int32} {tx : Nat → Nat → Int32} {nt lm cm : Nat} (h : QC vc wc tx nt lm cm) : ∀ c, c < cm → wc c 8 = nI 0 ∨ (wc c 8 = nI 1 ∧ wc c 3 = nI 0) := h.2.2.2.1
theorem QC.text {vc wc : Nat → Nat → Int32} {tx : Nat → Nat → Int32} {nt lm cm : Nat} (h : QC vc wc tx nt lm cm) : ∀ c, c < cm → ∃ t n, 1 ≤ t ∧ t ≤ nt ∧ wc c 2 = nI t ∧ tx t 0 = nI n ∧ 1 ≤ n ∧ n ≤ 16 ∧ vc c 2 = nI n ∧ ∀ k, k < n → vc c (9 + k) = tx t (1 + k) ∧ ∃ a, a < 26 ∧ tx t (1 + k) = nI a := h.2.2.2.2.1
theorem QC.ti {vc wc : Nat → Nat → Int32} {tx : Nat → Nat → Int32} {nt lm cm : Nat} (h : QC vc wc tx nt lm cm) : ∀ c, c < 30 → (wc c 2).toNatClampNeg ≤ nt := h.2.2.2.2.2
noncomputable def stC (wc : Nat → Nat → Int32) (a : Nat) : Nat → Bool := fun c => decide (wc c 3 = nI a)
noncomputable def loC (wc : Nat → Nat → Int32) (l : Nat) : Nat → Bool := fun c => decide (wc c 0 = nI l)
noncomputable def lsC (wc : Nat → Nat → Int32) (l a : Nat) : Nat → Bool := fun c => decide (wc c 0 = nI l ∧ wc c 3 = nI a)
noncomputable def suC (wc : Nat → Nat → Int32) (l k : Nat) : Nat → Int32 := fun c => if wc c 0 = nI l then wc c k else nI 0
noncomputable abbrev QN (va vf wf : Nat → Int32) (wc : Nat → Nat → Int32) (iv : Nat → Int32) (cm : Nat) : Prop := (∀ a, a < 5 → iv a = nI (cnt cm (stC wc a))) ∧ (va 10 = iv 3) ∧ (∀ i, i < cnt cm (stC wc 3) → vf i = wf i)
theorem QN.ins {va vf wf : Nat → Int32} {wc : Nat → Nat → Int32} {iv : Nat → Int32} {cm : Nat} (h : QN va vf wf wc iv cm) : ∀ a, a < 5 → iv a = nI (cnt cm (stC wc a)) := h.1
theorem QN.nl {va vf wf : Nat → Int32} {wc : Nat → Nat → Int32} {iv : Nat → Int32} {cm : Nat} (h : QN va vf wf wc iv cm) : va 10 = iv 3 := h.2.1
theorem QN.left {va vf wf : Nat → Int32} {wc : Nat → Nat → Int32} {iv : Nat → Int32} {cm : Nat} (h : QN va vf wf wc iv cm) : ∀ i, i < cnt cm (stC wc 3) → vf i = wf i := h.2.2
noncomputable def fin (wc : Nat → Nat → Int32) (c : Nat) : Prop := wc c 3 = nI 3 ∨ wc c 3 = nI 4
noncomputable abbrev QL (vl wl we wc : Nat → Nat → Int32) (bp : Nat → Nat → Int32) (lm cm : Nat) : Prop := (∀ l k, l < lm → k < 4 → vl l k = wl l k) ∧ (∀ l, l < lm → ∃ p, p ≤ 9 ∧ wl l 0 = nI p) ∧ (∀ l, l < lm → we l 1 = nI (cnt cm (lsC wc l 3))) ∧ (∀ l, l < lm → we l 2 = nI (cnt cm (lsC wc l 4))) ∧ (∀ l, l < lm → we l 3 = sumI cm (suC wc l 5)) ∧ (∀ l, l < lm → we l 4 = sumI cm (suC wc l 6)) ∧ (∀ l, l < lm → wl l 1 = nI (cnt cm (loC wc l))) ∧ (∀ l, l < lm → ∀ p, p < cnt cm (loC wc l) → ∃ c, c < cm ∧ bp l p = nI c ∧ wc c 0 = nI l ∧ wc c 1 = nI p) ∧ (∀ l c, l < lm → c < cm → wc c 0 = nI l → ∃ p, p < cnt cm (loC wc l) ∧ wc c 1 = nI p ∧ bp l p = nI c) ∧ (∀ l, l < lm → ∃ q, q ≤ cnt cm (loC wc l) ∧ we l 0 = nI q ∧ (∀ p c, p < q → c < cm → bp l p = nI c → fin wc c) ∧ (∀ c, q < cnt cm (loC wc l) → c < cm → bp l q = nI c → ¬ fin wc c))
theorem QL.eql {vl wl we wc : Nat → Nat → Int32} {bp : Nat → Nat → Int32} {lm cm : Nat} (h : QL vl wl we wc bp lm cm) : ∀ l k, l < lm → k < 4 → vl l k = wl l k := h.1
theorem QL.rank {vl wl we wc : Nat → Nat → Int32} {bp : Nat → Nat → Int32} {lm cm : Nat} (h : QL vl wl we wc bp lm cm) : ∀ l, l < lm → ∃ p, p ≤ 9 ∧ wl l 0 = nI p := h.2.1
theorem QL.left {vl wl we wc : Nat → Nat → Int32} {bp : Nat → Nat → Int32} {lm cm : Nat} (h : QL vl wl we wc bp lm cm) : ∀ l, l < lm → we l 1 = nI (cnt cm (lsC wc l 3)) := h.2.2.1
theorem QL.gave {vl wl we wc : Nat → Nat → Int32} {bp : Nat → Nat → Int32} {lm cm : Nat} (h : QL vl wl we wc bp lm cm) : ∀ l, l < lm → we l 2 = nI (cnt cm (lsC wc l 4)) := h.2.2.2.1
theorem QL.fails {vl wl we wc : Nat → Nat → Int32} {bp : Nat → Nat → Int32} {lm cm : Nat} (h : QL vl wl we wc bp lm cm) : ∀ l, l < lm → we l 3 = sumI cm (suC wc l 5) := h.2.2.2.2.1
theorem QL.scraps {vl wl we wc : Nat → Nat → Int32} {bp : Nat → Nat → Int32} {lm cm : Nat} (h : QL vl wl we wc bp lm cm) : ∀ l, l < lm → we l 4 = sumI cm (suC wc l 6) := h.2.2.2.2.2.1
theorem QL.size {vl wl we wc : Nat → Nat → Int32} {bp : Nat → Nat → Int32} {lm cm : Nat} (h : QL vl wl we wc bp lm cm) : ∀ l, l < lm → wl l 1 = nI (cnt cm (loC wc l)) := h.2.2.2.2.2.2.1
theorem QL.byp {vl wl we wc : Nat → Nat → Int32} {bp : Nat → Nat → Int32} {lm cm : Nat} (h : QL vl wl we wc bp lm cm) : ∀ l, l < lm → ∀ p, p < cnt cm (loC wc l) → ∃ c, c < cm ∧ bp l p = nI c ∧ wc c 0 = nI l ∧ wc c 1 = nI p := h.2.2.2.2.2.2.2.1
theorem QL.place {vl wl we wc : Nat → Nat → Int32} {bp : Nat → Nat → Int32} {lm cm : Nat} (h : QL vl wl we wc bp lm cm) : ∀ l c, l < lm → c < cm → wc c 0 = nI l → ∃ p, p < cnt cm (loC wc l) ∧ wc c 1 = nI p ∧ bp l p = nI c := h.2.2.2.2.2.2.2.2.1
theorem QL.next {vl wl we wc : Nat → Nat → Int32} {bp : Nat → Nat → Int32} {lm cm : Nat} (h : QL vl wl we wc bp lm cm) : ∀ l, l < lm → ∃ q, q ≤ cnt cm (loC wc l) ∧ we l 0 = nI q ∧ (∀ p c, p < q → c < cm → bp l p = nI c → fin wc c) ∧ (∀ c, q < cnt cm (loC wc l) → c < cm → bp l q = nI c → ¬ fin wc c) := h.2.2.2.2.2.2.2.2.2
noncomputable def QW (wc : Nat → Nat → Int32) (cm : Nat) : Prop := ∀ c, c < cm → wc c 3 = nI 1 ∨ wc c 4 = m1
noncomputable abbrev QD (va vp wa : Nat → Int32) (dl df : Nat → Nat → Int32) (lm : Nat) : Prop := (∀ d t, d < 2 ^ 31 → t < 2 ^ 31 → wa 0 = nI d → wa 6 = nI t → va 11 = nI (min 10 (t / d))) ∧ (∀ d t l i, d < 2 ^ 31 → t < 2 ^ 31 → wa 0 = nI d → wa 6 = nI t → l < lm → i < min 10 (t / d) → vp (12 * i + 2 * l) = dl l ((t / d - 1 - i) % 10) ∧ vp (12 * i + 2 * l + 1) = df l ((t / d - 1 - i) % 10))
theorem QD.many {va vp wa : Nat → Int32} {dl df : Nat → Nat → Int32} {lm : Nat} (h : QD va vp wa dl df lm) : ∀ d t, d < 2 ^ 31 → t < 2 ^ 31 → wa 0 = nI d → wa 6 = nI t → va 11 = nI (min 10 (t / d)) := h.1
theorem QD.ring {va vp wa : Nat → Int32} {dl df : Nat → Nat → Int32} {lm : Nat} (h : QD va vp wa dl df lm) : ∀ d t l i, d < 2 ^ 31 → t < 2 ^ 31 → wa 0 = nI d → wa 6 = nI t → l < lm → i < min 10 (t / d) → vp (12 * i + 2 * l) = dl l ((t / d - 1 - i) % 10) ∧ vp (12 * i + 2 * l + 1) = df l ((t / d - 1 - i) % 10) := h.2
noncomputable abbrev QR (v w iv : Nat → Int32) (bp dl df tx : Nat → Nat → Int32) (nt sm lm cm B U : Nat) : Prop := (QA (sA v) (sA w) sm lm cm B) ∧ (QS (sS v) (sS w) (sC w) tx nt sm cm U) ∧ (QC (sC v) (sC w) tx nt lm cm) ∧ (QN (sA v) (sF v) (sF w) (sC w) iv cm) ∧ (QL (sL v) (sL w) (sE w) (sC w) bp lm cm) ∧ (QD (sA v) (sP v) (sA w) dl df lm) ∧ (QW (sC w) cm)
theorem QR.a {v w iv : Nat → Int32} {bp dl df tx : Nat → Nat → Int32} {nt sm lm cm B U : Nat} (h : QR v w iv bp dl df tx nt sm lm cm B U) : QA (sA v) (sA w) sm lm cm B := h.1
theorem QR.s {v w iv : Nat → Int32} {bp dl df tx : Nat → Nat → Int32} {nt sm lm cm B U : Nat} (h : QR v w iv bp dl df tx nt sm lm cm B U) : QS (sS v) (sS w) (sC w) tx nt sm cm U := h.2.1
theorem QR.c {v w iv : Nat → Int32} {bp dl df tx : Nat → Nat → Int32} {nt sm lm cm B U : Nat} (h : QR v w iv bp dl df tx nt sm lm cm B U) : QC (sC v) (sC w) tx nt lm cm := h.2.2.1
theorem QR.n {v w iv : Nat → Int32} {bp dl df tx : Nat → Nat → Int32} {nt sm lm cm B U : Nat} (h : QR v w iv bp dl df tx nt sm lm cm B U) : QN (sA v) (sF v) (sF w) (sC w) iv cm := h.2.2.2.1
theorem QR.l {v w iv : Nat → Int32} {bp dl df tx : Nat → Nat → Int32} {nt sm lm cm B U : Nat} (h : QR v w iv bp dl df tx nt sm lm cm B U) : QL (sL v) (sL w) (sE w) (sC w) bp lm cm := h.2.2.2.2.1
theorem QR.d {v w iv : Nat → Int32} {bp dl df tx : Nat → Nat → Int32} {nt sm lm cm B U : Nat} (h : QR v w iv bp dl df tx nt sm lm cm B U) : QD (sA v) (sP v) (sA w) dl df lm := h.2.2.2.2.2.1
theorem QR.wh {v w iv : Nat → Int32} {bp dl df tx : Nat → Nat → Int32} {nt sm lm cm B U : Nat} (h : QR v w iv bp dl df tx nt sm lm cm B U) : QW (sC w) cm := h.2.2.2.2.2.2
end
section
theorem up2_ne {f : Nat → Nat → Int32} {i j a b : Nat} {x : Int32} (h : ¬ b = j) : up2 f i j x a b = f a b := if_neg fun q => h q.2
theorem up2_ne1 {f : Nat → Nat → Int32} {i j a b : Nat} {x : Int32} (h : ¬ a = i) : up2 f i j x a b = f a b := if_neg fun q => h q.1
theorem up2_eq {f : Nat → Nat → Int32} {i j : Nat} {x : Int32} : up2 f i j x i j = x := if_pos ⟨rfl, rfl⟩
theorem cnt_congr {n : Nat} {p q : Nat → Bool} (h : ∀ i, i < n → p i = q i) : cnt n p = cnt n q := by
  induction n with
  | zero => rfl
  | succ n ih => unfold cnt; rw [ih fun i hi => h i (by omega), h n (by omega)]
theorem cnt_le {n : Nat} {p : Nat → Bool} : cnt n p ≤ n := by
  induction n with
  | zero => exact Nat.le_refl _
  | succ n ih => unfold cnt; split <;> omega
theorem cnt_set {n c : Nat} {p q : Nat → Bool} (hc : c < n) (h : ∀ i, i < n → i ≠ c → q i = p i) : cnt n q + (if p c then 1 else 0) = cnt n p + (if q c then 1 else 0) := by
  induction n with
  | zero => omega
  | succ n ih =>
    unfold cnt
    by_cases e : c = n
    · subst e; rw [cnt_congr fun i hi => h i (by omega) (by omega)]; omega
    · rw [h n (by omega) (by omega)]
      have := ih (by omega) fun i hi => h i (by omega)
      omega
theorem cnt_inc {n c : Nat} {p q : Nat → Bool} (hc : c < n) (h : ∀ i, i < n → i ≠ c → q i = p i) (h1 : p c = false) (h2 : q c = true) : cnt n q = cnt n p + 1 := by
  have := cnt_set hc h; simp only [h1, h2] at this; simpa using this
theorem cnt_dec {n c : Nat} {p q : Nat → Bool} (hc : c < n) (h : ∀ i, i < n → i ≠ c → q i = p i) (h1 : p c = true) (h2 : q c = false) : cnt n q + 1 = cnt n p := by
  have := cnt_set hc h; simp only [h1, h2] at this; simpa using this
theorem cnt_eq {n c : Nat} {p q : Nat → Bool} (h : ∀ i, i < n → i ≠ c → q i = p i) (h1 : q c = p c) : cnt n q = cnt n p := cnt_congr fun i hi => by
  by_cases e : i = c
  · rw [e]; exact h1
  · exact h i hi e
theorem cnt_pos {n c : Nat} {p : Nat → Bool} (hc : c < n) (h : p c = true) : 0 < cnt n p := by
  induction n with
  | zero => omega
  | succ n ih =>
    unfold cnt
    by_cases e : c = n
    · subst e; rw [h]; simp
    · have := ih (by omega); omega
theorem cnt_lt {n c : Nat} {p : Nat → Bool} (hc : c < n) (h : p c = false) : cnt n p < n := by
  induction n with
  | zero => omega
  | succ n ih =>
    unfold cnt
    by_cases e : c = n
    · subst e; rw [h]; have := cnt_le (n := c) (p := p); simp; omega
    · have := ih (by omega); split <;> omega
theorem sumI_congr {n : Nat} {p q : Nat → Int32} (h : ∀ i, i < n → p i = q i) : sumI n p = sumI n q := by
  induction n with
  | zero => rfl
  | succ n ih => unfold sumI; rw [ih fun i hi => h i (by omega), h n (by omega)]
theorem sumI_set {n c : Nat} {p q : Nat → Int32} {d : Int32} (hc : c < n) (h : ∀ i, i < n → i ≠ c → q i = p i) (hd : q c = p c + d) : sumI n q = sumI n p + d := by
  induction n with
  | zero => omega
  | succ n ih =>
    unfold sumI
    by_cases e : c = n
    · subst e; rw [sumI_congr fun i hi => h i (by omega) (by omega), hd, Int32.add_assoc]
    · rw [h n (by omega) (by omega), ih (by omega) fun i hi => h i (by omega)]
      rw [Int32.add_assoc, Int32.add_comm d, Int32.add_assoc]
theorem QS.free {vs ws wc tx : Nat → Nat → Int32} {nt sm cm U s : Nat} {x : Int32} (k : Nat) (hk : k = 5 ∨ k = 6 ∨ k = 9 ∨ k = 10 ∨ k = 11 ∨ k = 12 ∨ k = 13) (h : QS vs ws wc tx nt sm cm U) : QS (up2 vs s k x) (up2 ws s k x) wc tx nt sm cm U := by
  obtain ⟨b1, b2, b3, b4, b5, b6, b7, b8, b9, b10⟩ := h
  have e : ∀ (f : Nat → Nat → Int32) a b, b ≠ k → up2 f s k x a b = f a b := fun f a b h => up2_ne h
  refine ⟨fun s' k' h1 h2 h3 => ?_, ?_, ?_, ?_, ?_, ?_, ?_, ?_, ?_, ?_⟩
  · rw [up2_at, up2_at]; split
    · rfl
    · exact b1 s' k' h1 h2 h3
  all_goals
    intro s' h1
    first
    | rw [e _ _ 0 (by omega), e _ _ 8 (by omega), e _ _ 8 (by omega)]; exact b2 s' h1
    | rw [e _ _ 0 (by omega), e _ _ 8 (by omega)]; exact b3 s' h1
    | rw [e _ _ 14 (by omega), e _ _ 14 (by omega), e _ _ 15 (by omega)]; exact b9 s' h1
    | rw [e _ _ 1 (by omega)]; exact b4 s' h1
    | rw [e _ _ 2 (by omega)]; exact b5 s' h1
    | rw [e _ _ 3 (by omega)]; exact b6 s' h1
    | rw [e _ _ 4 (by omega)]; exact b7 s' h1
    | rw [e _ _ 7 (by omega)]; exact b8 s' h1
    | rw [e _ _ 14 (by omega)]; exact b10 s' h1
theorem QS.uNeed {vs ws wc tx : Nat → Nat → Int32} {nt sm cm U s n : Nat} (hn : n ≤ 1000) (h : QS vs ws wc tx nt sm cm U) : QS (up2 vs s 3 (nI n)) (up2 ws s 3 (nI n)) wc tx nt sm cm U := by
  obtain ⟨b1, b2, b3, b4, b5, b6, b7, b8, b9, b10⟩ := h
  refine ⟨fun s' k' h1 h2 h3 => ?_, fun s' h1 => ?_, fun s' h1 => ?_, fun s' h1 => ?_, fun s' h1 => ?_, fun s' h1 => ?_, fun s' h1 => ?_, fun s' h1 => ?_, fun s' h1 => ?_, fun s' h1 => ?_⟩
  · rw [up2_at, up2_at]; split
    · rfl
    · exact b1 s' k' h1 h2 h3
  · simpa [up2_at] using b2 s' h1
  · simpa [up2_at] using b3 s' h1
  · simpa [up2_at] using b4 s' h1
  · simpa [up2_at] using b5 s' h1
  · rw [up2_at]; split
    · exact ⟨n, hn, rfl⟩
    · exact b6 s' h1
  · simpa [up2_at] using b7 s' h1
  · simpa [up2_at] using b8 s' h1
  · simpa [up2_at] using b9 s' h1
  · simpa [up2_at] using b10 s' h1
theorem QS.uUsed {vs ws wc tx : Nat → Nat → Int32} {nt sm cm U s n : Nat} (hn : n ≤ U) (h : QS vs ws wc tx nt sm cm U) : QS (up2 vs s 4 (nI n)) (up2 ws s 4 (nI n)) wc tx nt sm cm U := by
  obtain ⟨b1, b2, b3, b4, b5, b6, b7, b8, b9, b10⟩ := h
  refine ⟨fun s' k' h1 h2 h3 => ?_, fun s' h1 => ?_, fun s' h1 => ?_, fun s' h1 => ?_, fun s' h1 => ?_, fun s' h1 => ?_, fun s' h1 => ?_, fun s' h1 => ?_, fun s' h1 => ?_, fun s' h1 => ?_⟩
  · rw [up2_at, up2_at]; split
    · rfl
    · exact b1 s' k' h1 h2 h3
  · simpa [up2_at] using b2 s' h1
  · simpa [up2_at] using b3 s' h1
  · simpa [up2_at] using b4 s' h1
  · simpa [up2_at] using b5 s' h1
  · simpa [up2_at] using b6 s' h1
  · rw [up2_at]; split
    · exact ⟨n, hn, rfl⟩
    · exact b7 s' h1
  · simpa [up2_at] using b8 s' h1
  · simpa [up2_at] using b9 s' h1
  · simpa [up2_at] using b10 s' h1
theorem QS.uHold {vs ws wc tx : Nat → Nat → Int32} {nt sm cm U s : Nat} {x : Int32} (hx : x = m1 ∨ ∃ c, c < cm ∧ x = nI c ∧ wc c 3 = nI 1 ∧ wc c 4 = nI s) (h : QS vs ws wc tx nt sm cm U) : QS (up2 vs s 2 x) (up2 ws s 2 x) wc tx nt sm cm U := by
  obtain ⟨b1, b2, b3, b4, b5, b6, b7, b8, b9, b10⟩ := h
  refine ⟨fun s' k' h1 h2 h3 => ?_, fun s' h1 => ?_, fun s' h1 => ?_, fun s' h1 => ?_, fun s' h1 => ?_, fun s' h1 => ?_, fun s' h1 => ?_, fun s' h1 => ?_, fun s' h1 => ?_, fun s' h1 => ?_⟩
  · rw [up2_at, up2_at]; split
    · rfl
    · exact b1 s' k' h1 h2 h3
  · simpa [up2_at] using b2 s' h1
  · simpa [up2_at] using b3 s' h1
  · simpa [up2_at] using b4 s' h1
  · rw [up2_at]; split
    · rename_i e; rw [e.1]; exact hx
    · exact b5 s' h1
  · simpa [up2_at] using b6 s' h1
  · simpa [up2_at] using b7 s' h1
  · simpa [up2_at] using b8 s' h1
  · simpa [up2_at] using b9 s' h1
  · simpa [up2_at] using b10 s' h1
theorem QS.lett {vs ws wc tx : Nat → Nat → Int32} {nt sm cm U s a : Nat} (h0 : ws s 0 = nI 3) (ha : a < 26) (h : QS vs ws wc tx nt sm cm U) : QS (up2 vs s 8 (nI a)) (up2 ws s 8 (nI a)) wc tx nt sm cm U := by
  obtain ⟨b1, b2, b3, b4, b5, b6, b7, b8, b9, b10⟩ := h
  refine ⟨fun s' k' h1 h2 h3 => ?_, fun s' h1 => ?_, fun s' h1 => ?_, fun s' h1 => ?_, fun s' h1 => ?_, fun s' h1 => ?_, fun s' h1 => ?_, fun s' h1 => ?_, fun s' h1 => ?_, fun s' h1 => ?_⟩
  · rw [up2_ne h3, up2_ne h3]; exact b1 s' k' h1 h2 h3
  · rw [up2_ne (by decide)]; intro h2
    rw [up2_at, up2_at]; split
    · exact ⟨rfl, a, ha, rfl⟩
    · exact b2 s' h1 h2
  · rw [up2_ne (by decide)]; intro h2
    rw [up2_at]; split
    · rename_i e; rw [e.1] at h2; exact absurd h0 h2
    · exact b3 s' h1 h2
  · simpa [up2_at] using b4 s' h1
  · simpa [up2_at] using b5 s' h1
  · simpa [up2_at] using b6 s' h1
  · simpa [up2_at] using b7 s' h1
  · simpa [up2_at] using b8 s' h1
  · simpa [up2_at] using b9 s' h1
  · simpa [up2_at] using b10 s' h1
noncomputable def NH (ws : Nat → Nat → Int32) (sm c : Nat) : Prop := ∀ s, s < sm → ws s 2 ≠ nI c
theorem QS.card {vs ws wc tx : Nat → Nat → Int32} {nt sm cm U c k : Nat} {x : Int32} (hc : c < cm) (hcm : cm ≤ 30) (hn : NH ws sm c) (h : QS vs ws wc tx nt sm cm U) : QS vs ws (up2 wc c k x) tx nt sm cm U := by
  obtain ⟨b1, b2, b3, b4, b5, b6, b7, b8, b9, b10⟩ := h
  refine ⟨b1, b2, b3, b4, fun s h1 => ?_, b6, b7, b8, b9, b10⟩
  rcases b5 s h1 with e | ⟨c', g1, g2, g3, g4⟩
  · exact Or.inl e
  · refine Or.inr ⟨c', g1, g2, ?_, ?_⟩
    · rw [up2_ne1]; exact g3
      rintro rfl; exact hn s h1 g2
    · rw [up2_ne1]; exact g4
      rintro rfl; exact hn s h1 g2
theorem QS.cardk {vs ws wc tx : Nat → Nat → Int32} {nt sm cm U c k : Nat} {x : Int32} (hk : k ≠ 3) (hk4 : k ≠ 4) (h : QS vs ws wc tx nt sm cm U) : QS vs ws (up2 wc c k x) tx nt sm cm U := by
  obtain ⟨b1, b2, b3, b4, b5, b6, b7, b8, b9, b10⟩ := h
  refine ⟨b1, b2, b3, b4, fun s h1 => ?_, b6, b7, b8, b9, b10⟩
  rcases b5 s h1 with e | ⟨c', g1, g2, g3, g4⟩
  · exact Or.inl e
  · refine Or.inr ⟨c', g1, g2, ?_, ?_⟩
    · rw [up2_ne (Ne.symm hk)]; exact g3
    · rw [up2_ne (Ne.symm hk4)]; exact g4
theorem QS.nh {vs ws wc tx : Nat → Nat → Int32} {nt sm cm U s c : Nat} (hsm : sm ≤ 6) (hcm : cm ≤ 30) (hs : s < sm) (hc : c < 30) (e : ws s 2 = nI c) (h : QS vs ws wc tx nt sm cm U) : NH (up2 ws s 2 m1) sm c := by
  intro s' h1
  rw [up2_at]; split
  · exact m1_neq (by omega)
  · rename_i hne
    intro e2
    rcases h.hold s hs with q | ⟨c1, g1, g2, g3, g4⟩
    · rw [e] at q; exact m1_ne (by omega) q
    · have i1 : c1 = c := ((nI_eq (by omega) (by omega)).mp (g2.symm.trans e))
      subst i1
      rcases h.hold s' h1 with q | ⟨c2, k1, k2, k3, k4⟩
      · rw [e2] at q; exact m1_ne (by omega) q
      · have i2 : c2 = c1 := ((nI_eq (by omega) (by omega)).mp (k2.symm.trans e2))
        subst i2
        have : s = s' := (nI_eq (by omega) (by omega)).mp (g4.symm.trans k4)
        exact hne ⟨this.symm, rfl⟩
theorem QS.nh1 {vs ws wc tx : Nat → Nat → Int32} {nt sm cm U c : Nat} (hcm : cm ≤ 30) (hc : c < cm) (e : wc c 3 ≠ nI 1) (h : QS vs ws wc tx nt sm cm U) : NH ws sm c := by
  intro s h1 e2
  rcases h.hold s h1 with q | ⟨c1, g1, g2, g3, g4⟩
  · rw [e2] at q; exact m1_ne (by omega) q
  · have i1 : c1 = c := ((nI_eq (by omega) (by omega)).mp (g2.symm.trans e2))
    subst i1; exact e g3
theorem NH.up {ws : Nat → Nat → Int32} {sm c s k : Nat} {x : Int32} (hk : k ≠ 2) (h : NH ws sm c) : NH (up2 ws s k x) sm c := fun s' h1 => by
  rw [up2_ne (Ne.symm hk)]; exact h s' h1
theorem QC.set {vc wc tx : Nat → Nat → Int32} {nt lm cm c k : Nat} {x : Int32} (hk : k = 1 ∨ k = 4 ∨ k = 5 ∨ k = 6 ∨ k = 7) (h : QC vc wc tx nt lm cm) : QC (up2 vc c k x) (up2 wc c k x) tx nt lm cm := by
  obtain ⟨b1, b2, b3, b4, b5, b6⟩ := h
  have e : ∀ (f : Nat → Nat → Int32) a b, b ≠ k → up2 f c k x a b = f a b := fun f a b h => up2_ne h
  refine ⟨fun c' k' h1 h2 h3 => ?_, fun c' h1 => ?_, fun c' h1 => ?_, fun c' h1 => ?_, fun c' h1 => ?_, fun c' h1 => ?_⟩
  · rw [up2_at, up2_at]; split
    · rfl
    · exact b1 c' k' h1 h2 h3
  · rw [e _ _ 0 (by omega)]; exact b2 c' h1
  · rw [e _ _ 3 (by omega)]; exact b3 c' h1
  · rw [e _ _ 8 (by omega), e _ _ 3 (by omega)]; exact b4 c' h1
  · obtain ⟨t, n, g1, g2, g3, g4, g5, g6, g7, g8⟩ := b5 c' h1
    refine ⟨t, n, g1, g2, ?_, g4, g5, g6, ?_, fun k2 hk2 => ⟨?_, (g8 k2 hk2).2⟩⟩
    · rw [e _ _ 2 (by omega)]; exact g3
    · rw [e _ _ 2 (by omega)]; exact g7
    · rw [e _ _ (9 + k2) (by omega)]; exact (g8 k2 hk2).1
  · rw [e _ _ 2 (by omega)]; exact b6 c' h1
theorem QC.uState {vc wc tx : Nat → Nat → Int32} {nt lm cm c a : Nat} (ha : a < 5) (hr : a = 0 ∨ wc c 8 = nI 0) (h : QC vc wc tx nt lm cm) : QC (up2 vc c 3 (nI a)) (up2 wc c 3 (nI a)) tx nt lm cm := by
  obtain ⟨b1, b2, b3, b4, b5, b6⟩ := h
  refine ⟨fun c' k' h1 h2 h3 => ?_, fun c' h1 => ?_, fun c' h1 => ?_, fun c' h1 => ?_, fun c' h1 => ?_, fun c' h1 => ?_⟩
  · rw [up2_at, up2_at]; split
    · rfl
    · exact b1 c' k' h1 h2 h3
  · simpa [up2_at] using b2 c' h1
  · rw [up2_at]; split
    · exact ⟨a, ha, rfl⟩
    · exact b3 c' h1
  · rw [up2_ne (by decide), up2_at]; split
    · rename_i e
      rcases hr with rfl | hr
      · rcases b4 c' h1 with q | q
        · exact Or.inl q
        · exact Or.inr ⟨q.1, rfl⟩
      · rw [e.1]; exact Or.inl hr
    · exact b4 c' h1
  · obtain ⟨t, n, g1, g2, g3, g4, g5, g6, g7, g8⟩ := b5 c' h1
    refine ⟨t, n, g1, g2, ?_, g4, g5, g6, ?_, fun k2 hk2 => ⟨?_, (g8 k2 hk2).2⟩⟩
    · rw [up2_ne (by decide)]; exact g3
    · rw [up2_ne (by decide)]; exact g7
    · rw [up2_ne (by omega)]; exact (g8 k2 hk2).1
  · rw [up2_ne (by decide)]; exact b6 c' h1
theorem QC.rushed {vc wc tx : Nat → Nat → Int32} {nt lm cm c : Nat} {x : Int32} (hr : x = nI 0 ∨ (x = nI 1 ∧ wc c 3 = nI 0)) (h : QC vc wc tx nt lm cm) : QC (up2 vc c 8 x) (up2 wc c 8 x) tx nt lm cm := by
  obtain ⟨b1, b2, b3, b4, b5, b6⟩ := h
  refine ⟨fun c' k' h1 h2 h3 => ?_, fun c' h1 => ?_, fun c' h1 => ?_, fun c' h1 => ?_, fun c' h1 => ?_, fun c' h1 => ?_⟩
  · rw [up2_at, up2_at]; split
    · rfl
    · exact b1 c' k' h1 h2 h3
  · simpa [up2_at] using b2 c' h1
  · simpa [up2_at] using b3 c' h1
  · rw [up2_ne (b := 3) (by decide), up2_at]; split
    · rename_i e; rw [e.1]; exact hr
    · exact b4 c' h1
  · obtain ⟨t, n, g1, g2, g3, g4, g5, g6, g7, g8⟩ := b5 c' h1
    refine ⟨t, n, g1, g2, ?_, g4, g5, g6, ?_, fun k2 hk2 => ⟨?_, (g8 k2 hk2).2⟩⟩
    · rw [up2_ne (by decide)]; exact g3
    · rw [up2_ne (by decide)]; exact g7
    · rw [up2_ne (by omega)]; exact (g8 k2 hk2).1
  · rw [up2_ne (by decide)]; exact b6 c' h1
theorem QW.up {wc : Nat → Nat → Int32} {cm c k : Nat} {x : Int32} (hk : k ≠ 3) (hk4 : k ≠ 4) (h : QW wc cm) : QW (up2 wc c k x) cm := fun q hq => by
  rw [up2_ne (Ne.symm hk), up2_ne (Ne.symm hk4)]; exact h q hq
theorem QW.at4 {wc : Nat → Nat → Int32} {cm c : Nat} (h : QW wc cm) : QW (up2 wc c 4 m1) cm := fun q hq => by
  rw [up2_ne (by decide), up2_at]
  split
  · exact Or.inr rfl
  · exact h q hq
theorem QW.st {wc : Nat → Nat → Int32} {cm c : Nat} {x : Int32} (h : QW wc cm) : QW (up2 (up2 wc c 3 x) c 4 m1) cm := fun q hq => by
  by_cases e : q = c
  · rw [e]; exact Or.inr up2_eq
  · rw [up2_ne1 e, up2_ne1 e, up2_ne1 e, up2_ne1 e]; exact h q hq
theorem QW.on {wc : Nat → Nat → Int32} {cm c : Nat} {x : Int32} (h : QW wc cm) : QW (up2 (up2 wc c 3 (nI 1)) c 4 x) cm := fun q hq => by
  by_cases e : q = c
  · rw [e, up2_ne (by decide)]; exact Or.inl up2_eq
  · rw [up2_ne1 e, up2_ne1 e, up2_ne1 e, up2_ne1 e]; exact h q hq
end
section
theorem nI_dec {a : Nat} (h : 0 < a) : nI a - nI 1 = nI (a - 1) := nI_sub h
theorem stC_at {wc : Nat → Nat → Int32} {c k i a : Nat} {x : Int32} (h : k ≠ 3 ∨ i ≠ c) : stC (up2 wc c k x) a i = stC wc a i := by
  unfold stC; rw [up2_at, if_neg]
  rintro ⟨rfl, h2⟩; rcases h with h | h
  · exact h h2.symm
  · exact h rfl
theorem loC_at {wc : Nat → Nat → Int32} {c k a : Nat} {x : Int32} (h : k ≠ 0) : loC (up2 wc c k x) a = loC wc a := by
  funext i; unfold loC; rw [up2_ne (Ne.symm h)]
theorem lsC_at {wc : Nat → Nat → Int32} {c k i l a : Nat} {x : Int32} (hk : k ≠ 0) (h : k ≠ 3 ∨ i ≠ c) : lsC (up2 wc c k x) l a i = lsC wc l a i := by
  unfold lsC; rw [up2_ne (Ne.symm hk), up2_at, if_neg]
  rintro ⟨rfl, h2⟩; rcases h with h | h
  · exact h h2.symm
  · exact h rfl
theorem suC_at {wc : Nat → Nat → Int32} {c k l j : Nat} {x : Int32} (hk : k ≠ 0) (h : k ≠ j) : suC (up2 wc c k x) l j = suC wc l j := by
  funext i; unfold suC; rw [up2_ne (Ne.symm hk), up2_ne (Ne.symm h)]
theorem fin_at {wc : Nat → Nat → Int32} {c k i : Nat} {x : Int32} (h : k ≠ 3 ∨ i ≠ c) : fin (up2 wc c k x) i ↔ fin wc i := by
  unfold fin; rw [up2_at, if_neg]
  rintro ⟨rfl, h2⟩; rcases h with h | h
  · exact h h2.symm
  · exact h rfl
theorem nI_ne {a b : Nat} (h : a ≠ b) (ha : a < 2 ^ 31) (hb : b < 2 ^ 31) : nI a ≠ nI b := fun e => h ((nI_eq ha hb).mp e)
theorem QN.cardk {va vf wf iv : Nat → Int32} {wc : Nat → Nat → Int32} {cm c k : Nat} {x : Int32} (hk : k ≠ 3) (h : QN va vf wf wc iv cm) : QN va vf wf (up2 wc c k x) iv cm := by
  have e : ∀ a, stC (up2 wc c k x) a = stC wc a := fun a => funext fun i => stC_at (Or.inl hk)
  exact ⟨fun a ha => by rw [e]; exact h.ins a ha, h.nl, fun i hi => h.left i (by rwa [e] at hi)⟩
theorem QN.va {va vf wf iv : Nat → Int32} {wc : Nat → Nat → Int32} {cm i : Nat} {x : Int32} (hi : i ≠ 10) (h : QN va vf wf wc iv cm) : QN (upd va i x) vf wf wc iv cm :=
  ⟨h.ins, by rw [upd_at, if_neg (Ne.symm hi)]; exact h.nl, h.left⟩
noncomputable def ivM (iv : Nat → Int32) (a b : Nat) : Nat → Int32 := upd (upd iv a (iv a - nI 1)) b (upd iv a (iv a - nI 1) b + nI 1)
theorem ivM_ins {iv : Nat → Int32} {wc : Nat → Nat → Int32} {cm c a b : Nat} (hcm : cm ≤ 30) (hc : c < cm) (ha : a < 5) (hb : b < 5) (hab : a ≠ b) (e : wc c 3 = nI a) (h : ∀ a, a < 5 → iv a = nI (cnt cm (stC wc a))) : ∀ x, x < 5 → ivM iv a b x = nI (cnt cm (stC (up2 wc c 3 (nI b)) x)) := by
  intro x hx
  unfold ivM
  have hne : ∀ y i, i < cm → i ≠ c → stC (up2 wc c 3 (nI b)) y i = stC wc y i := fun y i _ hi => stC_at (Or.inr hi)
  have hc1 : ∀ y, y < 5 → stC wc y c = decide (a = y) := fun y hy => by
    unfold stC; rw [e]; exact decide_eq_decide.mpr (nI_eq (by omega) (by omega))
  have hc2 : ∀ y, y < 5 → stC (up2 wc c 3 (nI b)) y c = decide (b = y) := fun y hy => by
    unfold stC; rw [up2_eq]; exact decide_eq_decide.mpr (nI_eq (by omega) (by omega))
  rw [upd_at, upd_at, upd_at]
  by_cases e1 : x = b
  · subst e1
    rw [if_pos rfl, if_neg (Ne.symm hab), h _ hb, nI_add]
    congr 1
    exact (cnt_inc hc (hne _) (by rw [hc1 _ hb]; simpa using hab) (by rw [hc2 _ hb]; simp)).symm
  · rw [if_neg e1]
    by_cases e2 : x = a
    · subst e2
      rw [if_pos rfl, h _ ha]
      have := cnt_dec hc (hne x) (by rw [hc1 _ ha]; simp) (by rw [hc2 _ ha]; simpa using Ne.symm hab)
      rw [nI_dec (by omega)]
      congr 1; omega
    · rw [if_neg e2, h _ hx]
      congr 1
      exact (cnt_eq (hne x) (by rw [hc1 _ hx, hc2 _ hx]; simp [Ne.symm e1, Ne.symm e2])).symm
theorem QN.move {va vf wf iv : Nat → Int32} {wc : Nat → Nat → Int32} {cm c a b : Nat} (hcm : cm ≤ 30) (hc : c < cm) (ha : a < 5) (hb : b < 5) (hab : a ≠ b) (ha3 : a ≠ 3) (hb3 : b ≠ 3) (e : wc c 3 = nI a) (h : QN va vf wf wc iv cm) : QN va vf wf (up2 wc c 3 (nI b)) (ivM iv a b) cm := by
  have hi := ivM_ins hcm hc ha hb hab e h.ins
  have h3 : cnt cm (stC (up2 wc c 3 (nI b)) 3) = cnt cm (stC wc 3) := by
    refine cnt_eq (c := c) (fun i _ hi => stC_at (Or.inr hi)) ?_
    unfold stC; rw [up2_eq, e]
    exact decide_eq_decide.mpr ⟨fun q => absurd q (nI_ne hb3 (by omega) (by omega)), fun q => absurd q (nI_ne ha3 (by omega) (by omega))⟩
  refine ⟨hi, ?_, fun i hi => h.left i (by rwa [h3] at hi)⟩
  rw [h.nl, h.ins 3 (by omega), hi 3 (by omega), h3]
theorem QN.leave {va vf wf iv : Nat → Int32} {wc : Nat → Nat → Int32} {cm c a : Nat} (hcm : cm ≤ 30) (hc : c < cm) (ha : a < 5) (ha3 : a ≠ 3) (e : wc c 3 = nI a) (h : QN va vf wf wc iv cm) : QN (upd va 10 (va 10 + nI 1)) (upd vf (cnt cm (stC wc 3)) (nI c)) (upd wf (cnt cm (stC wc 3)) (nI c)) (up2 wc c 3 (nI 3)) (ivM iv a 3) cm ∧ cnt cm (stC wc 3) < cm := by
  have hi := ivM_ins hcm hc ha (by omega : 3 < 5) ha3 e h.ins
  have f0 : stC wc 3 c = false := by unfold stC; rw [e]; exact decide_eq_false (nI_ne ha3 (by omega) (by omega))
  have h3 : cnt cm (stC (up2 wc c 3 (nI 3)) 3) = cnt cm (stC wc 3) + 1 := by
    refine cnt_inc hc (fun i _ hi => stC_at (Or.inr hi)) f0 ?_
    unfold stC; rw [up2_eq]; simp
  refine ⟨⟨hi, ?_, fun i hi => ?_⟩, cnt_lt hc f0⟩
  · rw [upd_at, if_pos rfl, hi 3 (by omega), h.nl, h.ins 3 (by omega), h3, nI_add]
  · rw [h3] at hi
    rw [upd_at, upd_at]; split
    · rfl
    · exact h.left i (by omega)
theorem QL.cardk {vl wl we wc bp : Nat → Nat → Int32} {lm cm c k : Nat} {x : Int32} (hk : k = 4 ∨ k = 7 ∨ k = 8) (h : QL vl wl we wc bp lm cm) : QL vl wl we (up2 wc c k x) bp lm cm := by
  have k0 : k ≠ 0 := by omega
  have e1 : ∀ l a, lsC (up2 wc c k x) l a = lsC wc l a := fun l a => funext fun i => lsC_at k0 (Or.inl (by omega))
  have e2 : ∀ a, loC (up2 wc c k x) a = loC wc a := fun a => loC_at k0
  have e3 : ∀ i, fin (up2 wc c k x) i ↔ fin wc i := fun i => fin_at (Or.inl (by omega))
  have e4 : ∀ i j, j ≠ k → up2 wc c k x i j = wc i j := fun i j hj => up2_ne hj
  refine ⟨h.eql, h.rank, fun l hl => by rw [e1]; exact h.left l hl, fun l hl => by rw [e1]; exact h.gave l hl, fun l hl => by rw [suC_at k0 (by omega)]; exact h.fails l hl, fun l hl => by rw [suC_at k0 (by omega)]; exact h.scraps l hl, fun l hl => by rw [e2]; exact h.size l hl, fun l hl p hp => ?_, fun l c' hl hc' => ?_, fun l hl => ?_⟩
  · rw [e2] at hp
    obtain ⟨c2, g1, g2, g3, g4⟩ := h.byp l hl p hp
    exact ⟨c2, g1, g2, by rw [e4 _ _ (by omega)]; exact g3, by rw [e4 _ _ (by omega)]; exact g4⟩
  · rw [e4 _ _ (by omega), e4 _ _ (by omega), e2]; exact h.place l c' hl hc'
  · obtain ⟨q, g1, g2, g3, g4⟩ := h.next l hl
    rw [e2]
    exact ⟨q, g1, g2, fun p c2 hp hc2 e => (e3 c2).mpr (g3 p c2 hp hc2 e), fun c2 hq hc2 e f => g4 c2 hq hc2 e ((e3 c2).mp f)⟩
theorem QL.free {vl wl we wc bp : Nat → Nat → Int32} {lm cm l k : Nat} {x : Int32} (hk : k = 2 ∨ k = 3) (h : QL vl wl we wc bp lm cm) : QL (up2 vl l k x) (up2 wl l k x) we wc bp lm cm := by
  refine ⟨fun l' k' hl hk' => ?_, fun l' hl => by rw [up2_ne (by omega)]; exact h.rank l' hl, h.left, h.gave, h.fails, h.scraps, fun l' hl => ?_, h.byp, h.place, h.next⟩
  · rw [up2_at, up2_at]; split
    · rfl
    · exact h.eql l' k' hl hk'
  · rw [up2_ne (by omega)]; exact h.size l' hl
theorem QL.state {vl wl we wc bp : Nat → Nat → Int32} {lm cm c b : Nat} (h1 : ¬ fin wc c) (hb : b < 3) (h : QL vl wl we wc bp lm cm) : QL vl wl we (up2 wc c 3 (nI b)) bp lm cm := by
  have hf : ¬ fin (up2 wc c 3 (nI b)) c := by
    unfold fin; rw [up2_eq]
    rintro (q | q)
    · exact nI_ne (by omega) (by omega) (by omega) q
    · exact nI_ne (by omega) (by omega) (by omega) q
  have e1 : ∀ l a, a = 3 ∨ a = 4 → lsC (up2 wc c 3 (nI b)) l a = lsC wc l a := fun l a ha => funext fun i => by
    by_cases hi : i = c
    · subst hi
      unfold lsC
      rw [up2_eq, up2_ne (by decide)]
      refine decide_eq_decide.mpr ⟨fun q => absurd q.2 (nI_ne (by omega) (by omega) (by omega)), fun q => absurd ?_ h1⟩
      rcases ha with rfl | rfl
      · exact Or.inl q.2
      · exact Or.inr q.2
    · exact lsC_at (by decide) (Or.inr hi)
  have e2 : ∀ a, loC (up2 wc c 3 (nI b)) a = loC wc a := fun a => loC_at (by decide)
  have e3 : ∀ i, fin (up2 wc c 3 (nI b)) i ↔ fin wc i := fun i => by
    by_cases hi : i = c
    · subst hi; exact ⟨fun q => absurd q hf, fun q => absurd q h1⟩
    · exact fin_at (Or.inr hi)
  refine ⟨h.eql, h.rank, fun l hl => by rw [e1 _ _ (Or.inl rfl)]; exact h.left l hl, fun l hl => by rw [e1 _ _ (Or.inr rfl)]; exact h.gave l hl, fun l hl => by rw [suC_at (by decide) (by decide)]; exact h.fails l hl, fun l hl => by rw [suC_at (by decide) (by decide)]; exact h.scraps l hl, fun l hl => by rw [e2]; exact h.size l hl, fun l hl p hp => ?_, fun l c' hl hc' => ?_, fun l hl => ?_⟩
  · rw [e2] at hp
    obtain ⟨c2, g1, g2, g3, g4⟩ := h.byp l hl p hp
    exact ⟨c2, g1, g2, by rw [up2_ne (by decide)]; exact g3, by rw [up2_ne (by decide)]; exact g4⟩
  · rw [up2_ne (by decide), up2_ne (by decide), e2]; exact h.place l c' hl hc'
  · obtain ⟨q, g1, g2, g3, g4⟩ := h.next l hl
    rw [e2]
    exact ⟨q, g1, g2, fun p c2 hp hc2 e => (e3 c2).mpr (g3 p c2 hp hc2 e), fun c2 hq hc2 e f => g4 c2 hq hc2 e ((e3 c2).mp f)⟩
theorem QL.finish {vl wl we wc bp : Nat → Nat → Int32} {lm cm c l b q2 : Nat} (hcm : cm ≤ 30) (hlm : lm ≤ 6) (hc : c < cm) (hl : l < lm) (el : wc c 0 = nI l) (h1 : ¬ fin wc c) (hb : b = 3 ∨ b = 4)
    (hq : q2 ≤ cnt cm (loC wc l)) (hq1 : ∀ p c', p < q2 → c' < cm → bp l p = nI c' → fin (up2 wc c 3 (nI b)) c') (hq2 : ∀ c', q2 < cnt cm (loC wc l) → c' < cm → bp l q2 = nI c' → ¬ fin (up2 wc c 3 (nI b)) c') (h : QL vl wl we wc bp lm cm) : QL vl wl (up2 (up2 we l (b - 2) (we l (b - 2) + nI 1)) l 0 (nI q2)) (up2 wc c 3 (nI b)) bp lm cm := by
  have hb5 : b < 5 := by omega
  have lsn : ∀ l' a, l' < lm → a = 3 ∨ a = 4 → (l' ≠ l ∨ a ≠ b) → lsC (up2 wc c 3 (nI b)) l' a = lsC wc l' a := fun l' a hl' ha hne => funext fun i => by
    by_cases hi : i = c
    · subst hi
      unfold lsC
      rw [up2_eq, up2_ne (by decide)]
      refine decide_eq_decide.mpr ⟨fun q => ?_, fun q => ?_⟩
      · rcases hne with hne | hne
        · exact absurd ((nI_eq (by omega) (by omega)).mp (q.1.symm.trans el)) hne
        · exact absurd ((nI_eq (by omega) (by omega)).mp q.2.symm) hne
      · refine absurd ?_ h1
        rcases ha with rfl | rfl
        · exact Or.inl q.2
        · exact Or.inr q.2
    · exact lsC_at (by decide) (Or.inr hi)
  have lsi : cnt cm (lsC (up2 wc c 3 (nI b)) l b) = cnt cm (lsC wc l b) + 1 := by
    refine cnt_inc hc (fun i _ hi => lsC_at (by decide) (Or.inr hi)) ?_ ?_
    · unfold lsC
      refine decide_eq_false fun q => h1 ?_
      rcases hb with rfl | rfl
      · exact Or.inl q.2
      · exact Or.inr q.2
    · unfold lsC; rw [up2_eq, up2_ne (by decide)]; exact decide_eq_true ⟨el, rfl⟩
  have e2 : ∀ a, loC (up2 wc c 3 (nI b)) a = loC wc a := fun a => loC_at (by decide)
  have ew : ∀ l' k', k' ≠ 0 → (l' ≠ l ∨ k' ≠ b - 2) → up2 (up2 we l (b - 2) (we l (b - 2) + nI 1)) l 0 (nI q2) l' k' = we l' k' := fun l' k' hk hne => by
    rw [up2_ne hk, up2_at, if_neg]
    rintro ⟨rfl, rfl⟩
    rcases hne with hne | hne <;> exact hne rfl
  have ew1 : up2 (up2 we l (b - 2) (we l (b - 2) + nI 1)) l 0 (nI q2) l (b - 2) = we l (b - 2) + nI 1 := by
    rw [up2_ne (by omega), up2_eq]
  refine ⟨h.eql, h.rank, fun l' hl' => ?_, fun l' hl' => ?_, fun l' hl' => ?_, fun l' hl' => ?_, fun l' hl' => by rw [e2]; exact h.size l' hl', fun l' hl' p hp => ?_, fun l' c' hl' hc' => ?_, fun l' hl' => ?_⟩
  · by_cases e : l' = l ∧ b = 3
    · obtain ⟨rfl, rfl⟩ := e
      have := ew1
      simp only [show 3 - 2 = 1 from rfl] at this
      rw [this, lsi, h.left l' hl', nI_add]
    · rw [ew l' 1 (by decide) (by omega), lsn l' 3 hl' (Or.inl rfl) (by omega)]; exact h.left l' hl'
  · by_cases e : l' = l ∧ b = 4
    · obtain ⟨rfl, rfl⟩ := e
      have := ew1
      simp only [show 4 - 2 = 2 from rfl] at this
      rw [this, lsi, h.gave l' hl', nI_add]
    · rw [ew l' 2 (by decide) (by omega), lsn l' 4 hl' (Or.inr rfl) (by omega)]; exact h.gave l' hl'
  · rw [ew l' 3 (by decide) (by omega), suC_at (by decide) (by decide)]; exact h.fails l' hl'
  · rw [ew l' 4 (by decide) (by omega), suC_at (by decide) (by decide)]; exact h.scraps l' hl'
  · rw [e2] at hp
    obtain ⟨c2, g1, g2, g3, g4⟩ := h.byp l' hl' p hp
    exact ⟨c2, g1, g2, by rw [up2_ne (by decide)]; exact g3, by rw [up2_ne (by decide)]; exact g4⟩
  · rw [up2_ne (by decide), up2_ne (by decide), e2]; exact h.place l' c' hl' hc'
  · rw [e2]
    by_cases e : l' = l
    · subst e
      exact ⟨q2, hq, up2_eq, hq1, hq2⟩
    · obtain ⟨q, g1, g2, g3, g4⟩ := h.next l' hl'
      have hno : ∀ p c', p < cnt cm (loC wc l') → c' < cm → bp l' p = nI c' → c' ≠ c := by
        intro p c' hp hc' e3 e4
        subst e4
        obtain ⟨c2, k1, k2, k3, k4⟩ := h.byp l' hl' p hp
        have : c2 = c' := (nI_eq (by omega) (by omega)).mp (k2.symm.trans e3)
        subst this
        exact e ((nI_eq (by omega) (by omega)).mp (k3.symm.trans el))
      refine ⟨q, g1, by rw [up2_ne1 e, up2_ne1 e]; exact g2, fun p c' hp hc' e3 => ?_, fun c' hp hc' e3 => ?_⟩
      · exact (fin_at (Or.inr (hno p c' (by omega) hc' e3))).mpr (g3 p c' hp hc' e3)
      · exact fun f => g4 c' hp hc' e3 ((fin_at (Or.inr (hno q c' hp hc' e3))).mp f)
theorem QL.more {vl wl we wc bp : Nat → Nat → Int32} {lm cm c l k : Nat} (hcm : cm ≤ 30) (hlm : lm ≤ 6) (hc : c < cm) (hl : l < lm) (el : wc c 0 = nI l) (hk : k = 5 ∨ k = 6) (h : QL vl wl we wc bp lm cm) : QL vl wl (up2 we l (k - 2) (we l (k - 2) + nI 1)) (up2 wc c k (wc c k + nI 1)) bp lm cm := by
  have k0 : k ≠ 0 := by omega
  have e1 : ∀ l a, lsC (up2 wc c k (wc c k + nI 1)) l a = lsC wc l a := fun l a => funext fun i => lsC_at k0 (Or.inl (by omega))
  have e2 : ∀ a, loC (up2 wc c k (wc c k + nI 1)) a = loC wc a := fun a => loC_at k0
  have e3 : ∀ i, fin (up2 wc c k (wc c k + nI 1)) i ↔ fin wc i := fun i => fin_at (Or.inl (by omega))
  have e4 : ∀ i j, j ≠ k → up2 wc c k (wc c k + nI 1) i j = wc i j := fun i j hj => up2_ne hj
  have es : ∀ l' j, l' < lm → j = 5 ∨ j = 6 → sumI cm (suC (up2 wc c k (wc c k + nI 1)) l' j) = if l' = l ∧ j = k then sumI cm (suC wc l' j) + nI 1 else sumI cm (suC wc l' j) := by
    intro l' j hl' hj
    split
    · rename_i e
      obtain ⟨rfl, rfl⟩ := e
      refine sumI_set hc (fun i _ hi => ?_) ?_
      · unfold suC; rw [e4 _ _ (by omega), up2_ne1 hi]
      · unfold suC; rw [e4 _ _ (by omega), if_pos el, if_pos el, up2_eq]
    · rename_i e
      refine sumI_congr fun i _ => ?_
      unfold suC; rw [e4 _ _ (by omega), up2_at]
      by_cases h0 : wc i 0 = nI l'
      · rw [if_pos h0, if_pos h0, if_neg]
        rintro ⟨rfl, rfl⟩
        exact e ⟨(nI_eq (by omega) (by omega)).mp (h0.symm.trans el), rfl⟩
      · rw [if_neg h0, if_neg h0]
  refine ⟨h.eql, h.rank, fun l' hl' => ?_, fun l' hl' => ?_, fun l' hl' => ?_, fun l' hl' => ?_, fun l' hl' => by rw [e2]; exact h.size l' hl', fun l' hl' p hp => ?_, fun l' c' hl' hc' => ?_, fun l' hl' => ?_⟩
  · rw [up2_ne (by omega), e1]; exact h.left l' hl'
  · rw [up2_ne (by omega), e1]; exact h.gave l' hl'
  · rw [es l' 5 hl' (Or.inl rfl), up2_at]
    by_cases e : l' = l ∧ 5 = k
    · obtain ⟨rfl, rfl⟩ := e
      rw [if_pos ⟨rfl, rfl⟩, if_pos ⟨rfl, rfl⟩]; exact congrArg (· + nI 1) (h.fails l' hl')
    · rw [if_neg e, if_neg (by omega)]; exact h.fails l' hl'
  · rw [es l' 6 hl' (Or.inr rfl), up2_at]
    by_cases e : l' = l ∧ 6 = k
    · obtain ⟨rfl, rfl⟩ := e
      rw [if_pos ⟨rfl, rfl⟩, if_pos ⟨rfl, rfl⟩]; exact congrArg (· + nI 1) (h.scraps l' hl')
    · rw [if_neg e, if_neg (by omega)]; exact h.scraps l' hl'
  · rw [e2] at hp
    obtain ⟨c2, g1, g2, g3, g4⟩ := h.byp l' hl' p hp
    exact ⟨c2, g1, g2, by rw [e4 _ _ (by omega)]; exact g3, by rw [e4 _ _ (by omega)]; exact g4⟩
  · rw [e4 _ _ (by omega), e4 _ _ (by omega), e2]; exact h.place l' c' hl' hc'
  · obtain ⟨q, g1, g2, g3, g4⟩ := h.next l' hl'
    rw [e2, up2_ne (by omega)]
    exact ⟨q, g1, g2, fun p c2 hp hc2 e => (e3 c2).mpr (g3 p c2 hp hc2 e), fun c2 hq hc2 e f => g4 c2 hq hc2 e ((e3 c2).mp f)⟩
theorem QA.free {va wa : Nat → Int32} {sm lm cm B i : Nat} {x : Int32} (hi : i ≠ 0 ∧ i ≠ 6 ∧ i ≠ 7 ∧ i ≠ 8 ∧ i ≠ 9) (h : QA va wa sm lm cm B) : QA (upd va i x) (upd wa i x) sm lm cm B := by
  obtain ⟨b1, b2, b3, b4, b5, b6, b7, b8, b9, b10⟩ := h
  have e : ∀ (f : Nat → Int32) j, j ≠ i → upd f i x j = f j := fun f j h => if_neg h
  refine ⟨b1, b2, b3, b4, ?_, ?_, ?_, fun j hj h1 h2 => ?_, ?_, ?_⟩
  · rw [e _ 7 (by omega)]; exact b5
  · rw [e _ 8 (by omega)]; exact b6
  · rw [e _ 9 (by omega)]; exact b7
  · rw [upd_at, upd_at]; split
    · rfl
    · exact b8 j hj h1 h2
  · rw [e _ 0 (by omega)]; exact b9
  · rw [e _ 6 (by omega)]; exact b10
theorem QA.v {va wa : Nat → Int32} {sm lm cm B i : Nat} {x : Int32} (hi : i = 10 ∨ i = 11) (h : QA va wa sm lm cm B) : QA (upd va i x) wa sm lm cm B := by
  obtain ⟨b1, b2, b3, b4, b5, b6, b7, b8, b9, b10⟩ := h
  exact ⟨b1, b2, b3, b4, b5, b6, b7, fun j hj h1 h2 => by rw [upd_at, if_neg (by omega)]; exact b8 j hj h1 h2, b9, b10⟩
theorem QD.free {va vp wa : Nat → Int32} {dl df : Nat → Nat → Int32} {lm i : Nat} {x y : Int32} (hi : i ≠ 0 ∧ i ≠ 6 ∧ i ≠ 11) (h : QD va vp wa dl df lm) : QD (upd va i x) vp (upd wa i y) dl df lm := by
  have e : ∀ (f : Nat → Int32) z j, j ≠ i → upd f i z j = f j := fun f z j h => if_neg h
  refine ⟨fun d t hd ht h0 h6 => ?_, fun d t l j hd ht h0 h6 => ?_⟩
  · rw [e _ _ 0 (by omega)] at h0; rw [e _ _ 6 (by omega)] at h6; rw [e _ _ 11 (by omega)]; exact h.many d t hd ht h0 h6
  · rw [e _ _ 0 (by omega)] at h0; rw [e _ _ 6 (by omega)] at h6; exact h.ring d t l j hd ht h0 h6
theorem QD.v {va vp wa : Nat → Int32} {dl df : Nat → Nat → Int32} {lm i : Nat} {x : Int32} (hi : i ≠ 11) (h : QD va vp wa dl df lm) : QD (upd va i x) vp wa dl df lm :=
  ⟨fun d t hd ht h0 h6 => by rw [upd_at, if_neg (Ne.symm hi)]; exact h.many d t hd ht h0 h6, h.ring⟩
end
section
noncomputable def setR (r : RS) (v : Nat → Int32) : RS := fun R => if R = 1 then v else r R
noncomputable def setL (c : RS) (L : Nat) (w iv : Nat → Int32) : RS := fun R => if R = 10 + L then w else if R = 400 + L then iv else c R
theorem setR_self {r : RS} : r = setR r (r 1) := by
  funext R; unfold setR; split
  · rename_i e; rw [e]
  · rfl
theorem setL_self {c : RS} {L : Nat} : c = setL c L (c (10 + L)) (c (400 + L)) := by
  funext R; unfold setL; split
  · rename_i e; rw [e]
  · split
    · rename_i e; rw [e]
    · rfl
theorem setR_1 {r : RS} {v : Nat → Int32} : setR r v 1 = v := if_pos rfl
theorem setR_o {r : RS} {v : Nat → Int32} {R : Nat} (h : ¬ R = 1) : setR r v R = r R := if_neg h
theorem setL_w {c : RS} {L : Nat} {w iv : Nat → Int32} : setL c L w iv (10 + L) = w := if_pos rfl
theorem setL_iv {c : RS} {L : Nat} {w iv : Nat → Int32} : setL c L w iv (400 + L) = iv := by
  unfold setL; rw [if_neg (by omega), if_pos rfl]
theorem setL_o {c : RS} {L R : Nat} {w iv : Nat → Int32} (h : ¬ R = 10 + L) (h2 : ¬ R = 400 + L) : setL c L w iv R = c R := by
  unfold setL; rw [if_neg h, if_neg h2]
theorem up_setR {r : RS} {v : Nat → Int32} {i : Nat} {x : Int32} : up (setR r v) 1 i x = setR r (upd v i x) := by
  funext R; unfold up; split
  · rename_i e; rw [e, setR_1, setR_1]
  · rename_i e; rw [setR_o e, setR_o e]
theorem up_setL_w {c : RS} {L i : Nat} {w iv : Nat → Int32} {x : Int32} : up (setL c L w iv) (10 + L) i x = setL c L (upd w i x) iv := by
  funext R; unfold up; split
  · rename_i e; rw [e, setL_w, setL_w]
  · rename_i e; unfold setL; rw [if_neg e, if_neg e]
theorem up_setL_iv {c : RS} {L i : Nat} {w iv : Nat → Int32} {x : Int32} : up (setL c L w iv) (400 + L) i x = setL c L w (upd iv i x) := by
  funext R; unfold up; split
  · rename_i e; rw [e, setL_iv, setL_iv]
  · rename_i e
    unfold setL; split
    · rfl
    · rfl
theorem bS {α β : Type} {a : α} {f : α → Option β} : (some a).bind f = f a := Eq.trans rfl rfl
theorem i1 {k : Nat} (h : 0 < k) : nI k - nI 1 = nI (k - 1) := nI_sub h
theorem im1 {k : Nat} (h : 0 < k) : nI k + m1 = nI (k - 1) := by
  rw [← nI_sub h, Int32.sub_eq_add_neg]; rfl
theorem F8_sets_s {r : RS} {v : Nat → Int32} {s k : Nat} {x : Int32} (hs : s < 6) (hk : k < 16) : F8_sets (setR r v) (nI s) (nI k) x = some (setR r (upd v (17 + 16 * s + k) x)) := by
  rw [F8_sets_n hs hk, up_setR]
theorem F8_setsCard_s {r : RS} {v : Nat → Int32} {s k : Nat} {x : Int32} (hs : s < 30) (hk : k < 25) : F8_setsCard (setR r v) (nI s) (nI k) x = some (setR r (upd v (137 + 25 * s + k) x)) := by
  rw [F8_setsCard_n hs hk, up_setR]
end
section
noncomputable def trn (a b : Nat) : Nat := if (if a ≤ b then b - a else a - b) ≤ 26 - (if a ≤ b then b - a else a - b) then (if a ≤ b then b - a else a - b) else 26 - (if a ≤ b then b - a else a - b)
noncomputable def stpN (f : Nat → Nat) : Nat → Nat → Nat → Nat
  | 0, _, _ => 0
  | n + 1, k, a => trn a (f k) + stpN f n (k + 1) (f k)
theorem trn_le {a b : Nat} (ha : a < 26) (hb : b < 26) : trn a b ≤ 13 := by
  unfold trn
  generalize hD : (if a ≤ b then b - a else a - b) = D
  have hD26 : D ≤ 25 := by rw [← hD]; split <;> omega
  split <;> omega
theorem sub_toInt {a b : Nat} (ha : a < 1000000) (hb : b < 1000000) : (nI a - nI b).toInt = (a : Int) - b := by
  rw [Int32.toInt_sub, nI_toInt (by omega), nI_toInt (by omega)]
  exact Int.bmod_eq_of_le (by omega) (by omega)
theorem stpN_le {f : Nat → Nat} {n : Nat} : ∀ {k a : Nat}, (∀ j, j < k + n → f j < 26) → a < 26 → stpN f n k a ≤ 13 * n := by
  induction n with
  | zero => intro k a _ _; exact Nat.le_refl _
  | succ n ih =>
    intro k a hf ha
    have h1 := trn_le ha (hf k (by omega))
    have h2 := ih (k := k + 1) (a := f k) (fun j hj => hf j (by omega)) (hf k (by omega))
    show trn a (f k) + stpN f n (k + 1) (f k) ≤ _
    omega
theorem F8_turn_n {a b : Nat} (ha : a < 26) (hb : b < 26) : F8_turn (nI a) (nI b) = some (nI (trn a b)) := by
  unfold F8_turn trn
  simp only [lit32]
  have k3 : (nI a - nI b).toInt = (a : Int) - b := sub_toInt (by omega) (by omega)
  by_cases h : b ≤ a
  · have h0 : nI 0 ≤ nI a - nI b := by rw [Int32.le_iff_toInt_le, k3, show (nI 0).toInt = 0 from rfl]; omega
    simp only [if_pos h0]
    have hD : (if a ≤ b then b - a else a - b) = a - b := by split <;> omega
    rw [hD, nI_sub h, nI_sub (by omega)]
    by_cases h2 : a - b ≤ 26 - (a - b)
    · rw [if_pos h2, if_neg (nI_nlt h2 (by omega))]
    · rw [if_neg h2, if_pos (nI_lt (by omega) (by omega))]
  · have h0 : ¬ nI 0 ≤ nI a - nI b := by rw [Int32.le_iff_toInt_le, k3, show (nI 0).toInt = 0 from rfl]; omega
    simp only [if_neg h0]
    have hD : (if a ≤ b then b - a else a - b) = b - a := by split <;> omega
    have e : nI 0 - (nI a - nI b) = nI (b - a) := by
      apply Int32.toInt_inj.mp
      rw [Int32.toInt_sub, k3, nI_toInt (n := 0) (by omega), nI_toInt (by omega), Int.bmod_eq_of_le (by omega) (by omega)]
      omega
    rw [hD, e, nI_sub (by omega)]
    by_cases h2 : b - a ≤ 26 - (b - a)
    · rw [if_pos h2, if_neg (nI_nlt h2 (by omega))]
    · rw [if_neg h2, if_pos (nI_lt (by omega) (by omega))]
theorem F8_steps_L {r : RS} {q n : Nat} {f : Nat → Nat} {a2 : Int32} (hq : q < 30) (hn : n ≤ 16) (h2 : sC (r 1) q 2 = nI n) (hf : ∀ k, k < n → sC (r 1) q (9 + k) = nI (f k) ∧ f k < 26) : ∀ (z k fu a s : Nat), k + z = n → z < fu → a < 26 → F8_stepsOf_L8 (nI q) a2 r fu (nI k) (nI s) (nI a) = some (nI n, nI (s + stpN f z k a), nI (if z = 0 then a else f (n - 1))) := by
  intro z
  induction z with
  | zero =>
    intro k fu a s hk hfu ha
    obtain ⟨fu, rfl⟩ : ∃ m, fu = m + 1 := ⟨fu - 1, by omega⟩
    simp (disch := omega) only [F8_stepsOf_L8, lit32, F8_ofCard_n, bS]
    rw [sC_r (v := r 1) hq (by omega), h2, if_pos (nI_le (by omega) (by omega))]
    have : k = n := by omega
    subst this; rfl
  | succ z ih =>
    intro k fu a s hk hfu ha
    obtain ⟨fu, rfl⟩ : ∃ m, fu = m + 1 := ⟨fu - 1, by omega⟩
    obtain ⟨g1, g2⟩ := hf k (by omega)
    simp (disch := omega) only [F8_stepsOf_L8, lit32, nI_add, F8_ofCard_n, bS]
    rw [sC_r (v := r 1) hq (by omega), sC_r (v := r 1) hq (by omega), h2, if_neg (nI_ge (by omega) (by omega)), g1, F8_turn_n ha g2, bS, nI_add, ih (k + 1) fu (f k) (s + trn a (f k)) (by omega) (by omega) g2]
    show some (nI n, nI (s + trn a (f k) + stpN f z (k + 1) (f k)), _) = some (nI n, nI (s + (trn a (f k) + stpN f z (k + 1) (f k))), _)
    rw [Nat.add_assoc, if_neg (show ¬ z + 1 = 0 by omega)]
    congr 4
    split
    · congr 1; omega
    · rfl
theorem F8_stepsOf_s {r : RS} {q n a : Nat} {f : Nat → Nat} (hq : q < 30) (hn : n ≤ 16) (h2 : sC (r 1) q 2 = nI n) (hf : ∀ k, k < n → sC (r 1) q (9 + k) = nI (f k) ∧ f k < 26) (ha : a < 26) : F8_stepsOf r (nI q) (nI a) = some (nI (stpN f n 0 a)) := by
  unfold F8_stepsOf
  simp only [lit32]
  rw [F8_steps_L hq hn h2 hf n 0 FUEL a 0 (by omega) (by show n < 10000; omega) ha, bS]
  simp only [Nat.zero_add]
theorem C7_steps_L {c : RS} {g : CG} {t n : Nat} {f : Nat → Nat} {a2 : Int32} (h1 : 1 ≤ t) (hg : t ≤ g.nt) (ht : t < 2 ^ 31) (hn : n ≤ 16) (h0 : c (500 + t) 0 = nI n) (hf : ∀ k, k < n → c (500 + t) (1 + k) = nI (f k) ∧ f k < 26) : ∀ (z k fu a s : Nat), k + z = n → z < fu → a < 26 → C7_stepsOf_L7 (nI t) a2 g c fu (nI k) (nI a) (nI s) = some (nI n, nI (if z = 0 then a else f (n - 1)), nI (s + stpN f z k a)) := by
  intro z
  induction z with
  | zero =>
    intro k fu a s hk hfu ha
    obtain ⟨fu, rfl⟩ : ∃ m, fu = m + 1 := ⟨fu - 1, by omega⟩
    simp only [C7_stepsOf_L7, tln_n h1 hg ht h0 (by omega), bS]
    rw [if_pos (nI_le (by omega) (by omega))]
    have : k = n := by omega
    subst this; rfl
  | succ z ih =>
    intro k fu a s hk hfu ha
    obtain ⟨fu, rfl⟩ : ∃ m, fu = m + 1 := ⟨fu - 1, by omega⟩
    obtain ⟨g1, g2⟩ := hf k (by omega)
    simp (disch := omega) only [C7_stepsOf_L7, tln_n h1 hg ht h0 (show n < 2 ^ 31 by omega), tbt_n h1 hg ht h0 (show n < 2 ^ 31 by omega) (show k < n by omega), bS, lit32, nI_add, g1]
    rw [if_neg (nI_ge (by omega) (by omega))]
    have hd : ((if nI a ≤ nI (f k) then some (nI (f k) - nI a) else some (nI a - nI (f k))) : Option Int32) = some (nI (if a ≤ f k then f k - a else a - f k)) := by
      by_cases h : a ≤ f k
      · rw [if_pos (nI_le h (by omega)), if_pos h, nI_sub h]
      · rw [if_neg (nI_ge (by omega) (by omega)), if_neg h, nI_sub (by omega)]
    rw [hd, bS]
    generalize hD : (if a ≤ f k then f k - a else a - f k) = D
    have hD26 : D ≤ 25 := by rw [← hD]; split <;> omega
    have htr : trn a (f k) = if D ≤ 26 - D then D else 26 - D := by unfold trn; rw [hD]
    have ht2 : ∀ (G : Int32 → Option (Int32 × Int32 × Int32)), ((if nI D ≤ nI 26 - nI D then some (nI D) else some (nI 26 - nI D)) : Option Int32).bind G = G (nI (trn a (f k))) := by
      intro G
      rw [htr, nI_sub (by omega)]
      by_cases h : D ≤ 26 - D
      · rw [if_pos h, if_pos (nI_le h (by omega))]; rfl
      · rw [if_neg h, if_neg (nI_ge (by omega) (by omega))]; rfl
    refine (ht2 _).trans ?_
    rw [nI_add, ih (k + 1) fu (f k) (s + trn a (f k)) (by omega) (by omega) g2]
    show some (nI n, _, nI (s + trn a (f k) + stpN f z (k + 1) (f k))) = some (nI n, _, nI (s + (trn a (f k) + stpN f z (k + 1) (f k))))
    rw [Nat.add_assoc, if_neg (show ¬ z + 1 = 0 by omega)]
    congr 3
    split
    · congr 2; omega
    · rfl
theorem C7_stepsOf_s {c : RS} {g : CG} {t n a : Nat} {f : Nat → Nat} (h1 : 1 ≤ t) (hg : t ≤ g.nt) (ht : t < 2 ^ 31) (hn : n ≤ 16) (h0 : c (500 + t) 0 = nI n) (hf : ∀ k, k < n → c (500 + t) (1 + k) = nI (f k) ∧ f k < 26) (ha : a < 26) : C7_stepsOf g c (nI t) (nI a) = some (nI (stpN f n 0 a)) := by
  unfold C7_stepsOf
  simp only [lit32]
  rw [C7_steps_L h1 hg ht hn h0 hf n 0 FUEL a 0 (by omega) (by show n < 10000; omega) ha, bS]
  simp only [Nat.zero_add]
end
section
theorem upd_e {f : Nat → Int32} {i : Nat} {x : Int32} : upd f i x i = x := if_pos rfl
theorem upd_n {f : Nat → Int32} {i j : Nat} {x : Int32} (h : ¬ j = i) : upd f i x j = f j := if_neg h
theorem upd_s {f : Nat → Int32} {i : Nat} : upd f i (f i) = f := by
  funext j; unfold upd; split
  · rename_i e; rw [e]
  · rfl
theorem upd_c {f : Nat → Int32} {i j : Nat} {x y : Int32} (h : ¬ i = j) : upd (upd f i x) j y = upd (upd f j y) i x := by
  funext k; simp only [upd_at]; split
  · rename_i e; rw [if_neg (fun q => h (q.symm.trans e))]
  · rfl
theorem upd_u {f : Nat → Int32} {i : Nat} {x y : Int32} : upd (upd f i x) i y = upd f i y := by
  funext k; simp only [upd_at]; split <;> rfl
theorem nI_z {x : Int32} : x + nI 0 = x := Int32.add_zero x
theorem F8_of_v {r : RS} {v : Nat → Int32} {s k : Nat} (hs : s < 6) (hk : k < 16) : F8_of (setR r v) (nI s) (nI k) = some (v (17 + 16 * s + k)) := by
  rw [F8_of_n hs hk, setR_1]
theorem F8_ofLot_v {r : RS} {v : Nat → Int32} {s k : Nat} (hs : s < 6) (hk : k < 4) : F8_ofLot (setR r v) (nI s) (nI k) = some (v (113 + 4 * s + k)) := by
  rw [F8_ofLot_n hs hk, setR_1]
theorem F8_ofCard_v {r : RS} {v : Nat → Int32} {s k : Nat} (hs : s < 30) (hk : k < 25) : F8_ofCard (setR r v) (nI s) (nI k) = some (v (137 + 25 * s + k)) := by
  rw [F8_ofCard_n hs hk, setR_1]
theorem F8_grows_v {r : RS} {v : Nat → Int32} {s k : Nat} {x : Int32} (hs : s < 6) (hk : k < 16) : F8_grows (setR r v) (nI s) (nI k) x = some (setR r (upd v (17 + 16 * s + k) (v (17 + 16 * s + k) + x))) := by
  rw [F8_grows_n hs hk, up_setR, setR_1]
noncomputable abbrev TXv (v : Nat → Int32) (q n : Nat) (f : Nat → Nat) : Prop := (q < 30) ∧ (1 ≤ n) ∧ (n ≤ 16) ∧ (v (137 + 25 * q + 2) = nI n) ∧ (∀ k, k < n → v (137 + 25 * q + (9 + k)) = nI (f k) ∧ f k < 26)
theorem TXv.q30 {v : Nat → Int32} {q n : Nat} {f : Nat → Nat} (h : TXv v q n f) : q < 30 := h.1
theorem TXv.n1 {v : Nat → Int32} {q n : Nat} {f : Nat → Nat} (h : TXv v q n f) : 1 ≤ n := h.2.1
theorem TXv.n16 {v : Nat → Int32} {q n : Nat} {f : Nat → Nat} (h : TXv v q n f) : n ≤ 16 := h.2.2.1
theorem TXv.len {v : Nat → Int32} {q n : Nat} {f : Nat → Nat} (h : TXv v q n f) : v (137 + 25 * q + 2) = nI n := h.2.2.2.1
theorem TXv.lets {v : Nat → Int32} {q n : Nat} {f : Nat → Nat} (h : TXv v q n f) : ∀ k, k < n → v (137 + 25 * q + (9 + k)) = nI (f k) ∧ f k < 26 := h.2.2.2.2
noncomputable abbrev TXc (c : RS) (g : CG) (t n : Nat) (f : Nat → Nat) : Prop := (1 ≤ t) ∧ (t ≤ g.nt) ∧ (t < 2 ^ 31) ∧ (1 ≤ n) ∧ (n ≤ 16) ∧ (c (500 + t) 0 = nI n) ∧ (∀ k, k < n → c (500 + t) (1 + k) = nI (f k) ∧ f k < 26)
theorem TXc.t1 {c : RS} {g : CG} {t n : Nat} {f : Nat → Nat} (h : TXc c g t n f) : 1 ≤ t := h.1
theorem TXc.tg {c : RS} {g : CG} {t n : Nat} {f : Nat → Nat} (h : TXc c g t n f) : t ≤ g.nt := h.2.1
theorem TXc.t31 {c : RS} {g : CG} {t n : Nat} {f : Nat → Nat} (h : TXc c g t n f) : t < 2 ^ 31 := h.2.2.1
theorem TXc.n1 {c : RS} {g : CG} {t n : Nat} {f : Nat → Nat} (h : TXc c g t n f) : 1 ≤ n := h.2.2.2.1
theorem TXc.n16 {c : RS} {g : CG} {t n : Nat} {f : Nat → Nat} (h : TXc c g t n f) : n ≤ 16 := h.2.2.2.2.1
theorem TXc.len {c : RS} {g : CG} {t n : Nat} {f : Nat → Nat} (h : TXc c g t n f) : c (500 + t) 0 = nI n := h.2.2.2.2.2.1
theorem TXc.lets {c : RS} {g : CG} {t n : Nat} {f : Nat → Nat} (h : TXc c g t n f) : ∀ k, k < n → c (500 + t) (1 + k) = nI (f k) ∧ f k < 26 := h.2.2.2.2.2.2
theorem TXv.steps {r : RS} {v : Nat → Int32} {q n a : Nat} {f : Nat → Nat} (h : TXv v q n f) (ha : a < 26) : F8_stepsOf (setR r v) (nI q) (nI a) = some (nI (stpN f n 0 a)) := by
  refine F8_stepsOf_s h.q30 h.n16 ?_ (fun k hk => ?_) ha
  · rw [setR_1, ← sC_r (v := v) h.q30 (by omega)]; exact h.len
  · have := h.n16
    rw [setR_1, ← sC_r (v := v) h.q30 (by omega)]; exact h.lets k hk
theorem TXc.steps {c : RS} {g : CG} {t n a : Nat} {f : Nat → Nat} (h : TXc c g t n f) (ha : a < 26) : C7_stepsOf g c (nI t) (nI a) = some (nI (stpN f n 0 a)) := C7_stepsOf_s h.t1 h.tg h.t31 h.n16 h.len h.lets ha
theorem TXc.tln {c : RS} {g : CG} {t n : Nat} {f : Nat → Nat} (h : TXc c g t n f) : tln g c (nI t) = some (nI n) := by have := h.n16; exact tln_n h.t1 h.tg h.t31 h.len (by omega)
theorem TXc.tbt {c : RS} {g : CG} {t n k : Nat} {f : Nat → Nat} (h : TXc c g t n f) (hk : k < n) : tbt g c (nI t) (nI k) = some (nI (f k)) := by have := h.n16; rw [tbt_n h.t1 h.tg h.t31 h.len (by omega) hk, (h.lets k hk).1]
theorem TXc.set {c : RS} {g : CG} {L t n : Nat} {f : Nat → Nat} {w iv : Nat → Int32} (hL : L < 12) (h : TXc c g t n f) : TXc (setL c L w iv) g t n f :=
  ⟨h.t1, h.tg, h.t31, h.n1, h.n16, by rw [setL_o (by omega) (by omega)]; exact h.len, fun k hk => by rw [setL_o (by omega) (by omega)]; exact h.lets k hk⟩
noncomputable def trnN (wh : Bool) (a n : Nat) (f : Nat → Nat) : Nat := if wh then stpN f n 0 a else 0
noncomputable def tckN (wh : Bool) (p a n : Nat) (f : Nat → Nat) : Nat := if wh then n + (stpN f n 0 a + p - 1) / p else p
theorem tckN_le {wh : Bool} {p a n : Nat} {f : Nat → Nat} (hp : 1 ≤ p) (hp2 : p ≤ 99) (hn : n ≤ 16) (ha : wh = true → a < 26) (hf : ∀ k, k < n → f k < 26) : tckN wh p a n f ≤ 1000 := by
  unfold tckN
  cases wh with
  | false => simp; omega
  | true =>
    have h1 := stpN_le (f := f) (n := n) (k := 0) (a := a) (fun j hj => hf j (by omega)) (ha rfl)
    have h2 : (stpN f n 0 a + p - 1) / p ≤ stpN f n 0 a + p - 1 := Nat.div_le_self _ _
    simp only [if_true]; omega
theorem F8_ticks_v {r : RS} {v : Nat → Int32} {s q p a n : Nat} {f : Nat → Nat} {wh : Bool} (hs : s < 6) (ht : TXv v q n f) (h0 : wh = true ↔ v (17 + 16 * s + 0) = nI 3) (h1 : v (17 + 16 * s + 1) = nI p) (hp : 1 ≤ p) (hp2 : p ≤ 99) (h8 : wh = true → v (17 + 16 * s + 8) = nI a ∧ a < 26) : F8_ticksOf (setR r v) (nI s) (nI q) = some (nI (tckN wh p a n f)) := by
  have hq := ht.q30; have hn := ht.n16
  unfold F8_ticksOf tckN
  simp (disch := omega) only [lit32, neg1, nI_add, nI_mul, bS, pt_n, ix_n, rd_n, ws_n, rdo_n, wso_n, setR_1, setL_w, setL_iv, up_setR, up_setL_w, up_setL_iv, nz_0, nz_1, F8_of_v, F8_ofCard_v, h1]
  by_cases e : v (17 + 16 * s + 0) = nI 3
  · have e2 := h0.mpr e
    obtain ⟨g1, g2⟩ := h8 e2
    have h3 := stpN_le (f := f) (n := n) (k := 0) (a := a) (fun j hj => (ht.lets j (by omega)).2) g2
    rw [if_pos e, if_pos e2, ht.len, g1, ht.steps g2, bS, nI_add, nI_sub (by omega)]
    unfold dv
    rw [if_neg (show ¬ nI p = 0 from nI_ne0 (by omega) (by omega)), pk_div (by omega) (by omega) (by omega), bS, nI_add]
  · have e2 : ¬ wh = true := fun q => e (h0.mp q)
    rw [if_neg e, if_neg e2]
theorem C6_turns_w {c : RS} {g : CG} {L s t a n : Nat} {f : Nat → Nat} {wh : Bool} (ht : TXc c g t n f) (h0 : wh = true ↔ c (10 + L) (17 + 16 * s + 0) = nI 3) (h8 : wh = true → c (10 + L) (17 + 16 * s + 8) = nI a ∧ a < 26) : C6_turnsOf g c L s (nI t) = some (nI (trnN wh a n f)) := by
  unfold C6_turnsOf trnN
  simp (disch := omega) only [lit32, neg1, nI_add, nI_mul, bS, pt_n, ix_n, rd_n, ws_n, rdo_n, wso_n, setR_1, setL_w, setL_iv, up_setR, up_setL_w, up_setL_iv, nz_0, nz_1]
  by_cases e : c (10 + L) (17 + 16 * s + 0) = nI 3
  · have e2 := h0.mpr e
    obtain ⟨g1, g2⟩ := h8 e2
    rw [if_pos e, if_pos e2, g1, ht.steps g2]; rfl
  · have e2 : ¬ wh = true := fun q => e (h0.mp q)
    rw [if_neg e, if_neg e2]; rfl
theorem C6_ticks_w {c : RS} {g : CG} {L s t p a n : Nat} {f : Nat → Nat} {wh : Bool} (ht : TXc c g t n f) (h0 : wh = true ↔ c (10 + L) (17 + 16 * s + 0) = nI 3) (h1 : c (10 + L) (17 + 16 * s + 1) = nI p) (hp : 1 ≤ p) (hp2 : p ≤ 99) (ha : wh = true → a < 26) : C6_ticksWith g c L s (nI t) (nI (trnN wh a n f)) = some (nI (tckN wh p a n f)) := by
  have hn := ht.n16
  unfold C6_ticksWith trnN tckN
  simp (disch := omega) only [lit32, neg1, nI_add, nI_mul, bS, pt_n, ix_n, rd_n, ws_n, rdo_n, wso_n, setR_1, setL_w, setL_iv, up_setR, up_setL_w, up_setL_iv, nz_0, nz_1, h1]
  by_cases e : c (10 + L) (17 + 16 * s + 0) = nI 3
  · have e2 := h0.mpr e
    have h3 := stpN_le (f := f) (n := n) (k := 0) (a := a) (fun j hj => (ht.lets j (by omega)).2) (ha e2)
    rw [if_pos e, if_pos (nI_le hp (by omega)), if_pos e2, if_pos e2, ht.tln, bS, nI_sub (by omega)]
    unfold dv
    rw [if_neg (show ¬ nI p = 0 from nI_ne0 (by omega) (by omega)), pk_div (by omega) (by omega) (by omega), bS, nI_add]
  · have e2 : ¬ wh = true := fun q => e (h0.mp q)
    rw [if_neg e, if_neg e2]
noncomputable def entS (v : Nat → Int32) (s q tk tr la : Nat) (wh : Bool) : Nat → Int32 := upd (upd (upd (upd (upd (if wh then upd v (17 + 16 * s + 8) (nI la) else v) 15 (v 15 + nI tr)) (17 + 16 * s + 2) (nI q)) (17 + 16 * s + 3) (nI tk)) (137 + 25 * q + 3) (nI 1)) (137 + 25 * q + 4) (nI s)
theorem F8_enters_v {r : RS} {v : Nat → Int32} {s q p a n : Nat} {f : Nat → Nat} {wh : Bool} (hs : s < 6) (ht : TXv v q n f) (h0 : wh = true ↔ v (17 + 16 * s + 0) = nI 3) (h1 : v (17 + 16 * s + 1) = nI p) (hp : 1 ≤ p) (hp2 : p ≤ 99) (h8 : wh = true → v (17 + 16 * s + 8) = nI a ∧ a < 26) : F8_enters (setR r v) (nI s) (nI q) = some (setR r (entS v s q (tckN wh p a n f) (trnN wh a n f) (f (n - 1)) wh)) := by
  have hq := ht.q30; have hn := ht.n16; have hn1 := ht.n1
  unfold F8_enters entS
  rw [F8_ticks_v hs ht h0 h1 hp hp2 h8]
  simp (disch := omega) only [lit32, neg1, nI_add, nI_mul, bS, pt_n, ix_n, rd_n, ws_n, rdo_n, wso_n, setR_1, setL_w, setL_iv, up_setR, up_setL_w, up_setL_iv, nz_0, nz_1, F8_of_v]
  by_cases e : v (17 + 16 * s + 0) = nI 3
  · have e2 := h0.mpr e
    obtain ⟨g1, g2⟩ := h8 e2
    have g3 := ht.lets (n - 1) (by omega)
    unfold trnN
    rw [if_pos e, if_pos e2, if_pos e2, g1, ht.steps g2]
    simp (disch := omega) only [lit32, neg1, nI_add, nI_mul, bS, pt_n, ix_n, rd_n, ws_n, rdo_n, wso_n, setR_1, setL_w, setL_iv, up_setR, up_setL_w, up_setL_iv, nz_0, nz_1, F8_ofCard_v, upd_n, ht.len]
    rw [nI_sub (by omega), show 9 + n - 1 = 9 + (n - 1) by omega]
    simp (disch := omega) only [lit32, neg1, nI_add, nI_mul, bS, pt_n, ix_n, rd_n, ws_n, rdo_n, wso_n, setR_1, setL_w, setL_iv, up_setR, up_setL_w, up_setL_iv, nz_0, nz_1, F8_ofCard_v, upd_n, g3.1, F8_sets_s, F8_setsCard_s]
    rw [upd_c (show ¬ 15 = 17 + 16 * s + 8 by omega)]
  · have e2 : ¬ wh = true := fun q => e (h0.mp q)
    unfold trnN
    rw [if_neg e, if_neg e2, if_neg e2, nI_z, upd_s]
    simp (disch := omega) only [lit32, neg1, nI_add, nI_mul, bS, pt_n, ix_n, rd_n, ws_n, rdo_n, wso_n, setR_1, setL_w, setL_iv, up_setR, up_setL_w, up_setL_iv, nz_0, nz_1, F8_sets_s, F8_setsCard_s]
end
section
theorem change_w {c : RS} {g : CG} {L q a b : Nat} {w iv : Nat → Int32} (ha : a < 5) (hb : b < 5) (e : w (137 + 25 * q + 3) = nI a) : C3_changeState g (setL c L w iv) L q (nI b) = some (setL c L (upd (upd w (137 + 25 * q + 3) (nI b)) (137 + 25 * q + 4) m1) (ivM iv a b)) := by
  unfold C3_changeState ivM
  simp (disch := omega) only [lit32, neg1, nI_add, nI_mul, bS, pt_n, ix_n, rd_n, ws_n, rdo_n, wso_n, setR_1, setL_w, setL_iv, up_setR, up_setL_w, up_setL_iv, nz_0, nz_1, e]
theorem C6_takeIn_w {c : RS} {g : CG} {L s q t p a n : Nat} {f : Nat → Nat} {wh : Bool} {w iv : Nat → Int32} (hL : L < 12) (hs : s < 6) (ht : TXc c g t n f) (h0 : wh = true ↔ w (17 + 16 * s + 0) = nI 3) (h1 : w (17 + 16 * s + 1) = nI p) (hp : 1 ≤ p) (hp2 : p ≤ 99) (ha : wh = true → a < 26) : C6_takeIn g (setL c L w iv) L s (nI q) (nI t) (nI (trnN wh a n f)) = some (setL c L (upd (if wh then upd (upd w (17 + 16 * s + 3) (nI (tckN wh p a n f))) (17 + 16 * s + 8) (nI (f (n - 1))) else upd w (17 + 16 * s + 3) (nI (tckN wh p a n f))) (17 + 16 * s + 2) (nI q)) iv) := by
  have hn := ht.n16; have hn1 := ht.n1
  have ht2 : ∀ w iv, TXc (setL c L w iv) g t n f := fun w iv => ht.set hL
  unfold C6_takeIn
  rw [C6_ticks_w (wh := wh) (p := p) (a := a) (ht2 w iv) (by rw [setL_w]; exact h0) (by rw [setL_w]; exact h1) hp hp2 ha]
  simp (disch := omega) only [lit32, neg1, nI_add, nI_mul, bS, pt_n, ix_n, rd_n, ws_n, rdo_n, wso_n, setR_1, setL_w, setL_iv, up_setR, up_setL_w, up_setL_iv, nz_0, nz_1, upd_n]
  by_cases e : w (17 + 16 * s + 0) = nI 3
  · have e2 := h0.mpr e
    rw [if_pos e, if_pos e2, (ht2 _ _).tln]
    simp (disch := omega) only [lit32, neg1, nI_add, nI_mul, bS, pt_n, ix_n, rd_n, ws_n, rdo_n, wso_n, setR_1, setL_w, setL_iv, up_setR, up_setL_w, up_setL_iv, nz_0, nz_1]
    rw [if_neg (nI_ge (a := 0) (by omega) (by omega)), i1 (by omega), (ht2 _ _).tbt (by omega)]
    simp (disch := omega) only [lit32, neg1, nI_add, nI_mul, bS, pt_n, ix_n, rd_n, ws_n, rdo_n, wso_n, setR_1, setL_w, setL_iv, up_setR, up_setL_w, up_setL_iv, nz_0, nz_1]
  · have e2 : ¬ wh = true := fun q => e (h0.mp q)
    rw [if_neg e, if_neg e2]
    simp (disch := omega) only [lit32, neg1, nI_add, nI_mul, bS, pt_n, ix_n, rd_n, ws_n, rdo_n, wso_n, setR_1, setL_w, setL_iv, up_setR, up_setL_w, up_setL_iv, nz_0, nz_1]
theorem C3_enter_w {c : RS} {g : CG} {L s q t p a n st0 : Nat} {f : Nat → Nat} {wh : Bool} {w iv : Nat → Int32} (hL : L < 12) (hs : s < 6) (hq : q < 30) (ht : TXc c g t n f) (h2 : w (137 + 25 * q + 2) = nI t) (h0 : wh = true ↔ w (17 + 16 * s + 0) = nI 3) (h1 : w (17 + 16 * s + 1) = nI p) (hp : 1 ≤ p) (hp2 : p ≤ 99) (h8 : wh = true → w (17 + 16 * s + 8) = nI a ∧ a < 26) (h3 : w (137 + 25 * q + 3) = nI st0) (hst : st0 < 5) : C3_enter g (setL c L w iv) L (nI q) (nI s) = some (setL c L (entS w s q (tckN wh p a n f) (trnN wh a n f) (f (n - 1)) wh) (ivM iv st0 1)) := by
  have ht2 : ∀ w iv, TXc (setL c L w iv) g t n f := fun w iv => ht.set hL
  unfold C3_enter
  simp (disch := omega) only [lit32, neg1, nI_add, nI_mul, bS, pt_n, ix_n, rd_n, ws_n, rdo_n, wso_n, setR_1, setL_w, setL_iv, up_setR, up_setL_w, up_setL_iv, nz_0, nz_1, h2]
  rw [C6_turns_w (wh := wh) (a := a) (ht2 w iv) (by rw [setL_w]; exact h0) (by rw [setL_w]; exact h8)]
  simp (disch := omega) only [lit32, neg1, nI_add, nI_mul, bS, pt_n, ix_n, rd_n, ws_n, rdo_n, wso_n, setR_1, setL_w, setL_iv, up_setR, up_setL_w, up_setL_iv, nz_0, nz_1, upd_n, h2]
  rw [C6_takeIn_w (a := a) (p := p) hL hs ht (by rw [upd_n (by omega)]; exact h0) (by rw [upd_n (by omega)]; exact h1) hp hp2 (fun e => (h8 e).2)]
  simp (disch := omega) only [lit32, neg1, nI_add, nI_mul, bS, pt_n, ix_n, rd_n, ws_n, rdo_n, wso_n, setR_1, setL_w, setL_iv, up_setR, up_setL_w, up_setL_iv, nz_0, nz_1]
  rw [change_w (a := st0) (b := 1) hst (by omega) (by split <;> (simp (disch := omega) only [upd_n]; exact h3))]
  simp (disch := omega) only [lit32, neg1, nI_add, nI_mul, bS, pt_n, ix_n, rd_n, ws_n, rdo_n, wso_n, setR_1, setL_w, setL_iv, up_setR, up_setL_w, up_setL_iv, nz_0, nz_1, upd_u]
  congr 2
  unfold entS
  simp only [show 12 + 3 = 15 from rfl]
  congr 2
  cases wh with
  | true =>
    simp only [if_true]
    rw [upd_c (i := 17 + 16 * s + 3) (j := 17 + 16 * s + 8) (by omega), upd_c (i := 17 + 16 * s + 3) (j := 17 + 16 * s + 2) (by omega), upd_c (i := 15) (j := 17 + 16 * s + 8) (by omega)]
  | false =>
    simp only [Bool.false_eq_true, if_false]
    rw [upd_c (i := 17 + 16 * s + 3) (j := 17 + 16 * s + 2) (by omega)]
end
section
theorem ivM_same {iv : Nat → Int32} {a : Nat} : ivM iv a a = iv := by
  unfold ivM
  rw [upd_u, upd_e, Int32.sub_add_cancel, upd_s]
theorem QN.st1 {va vf wf iv : Nat → Int32} {wc : Nat → Nat → Int32} {cm c a : Nat} (hcm : cm ≤ 30) (hc : c < cm) (ha : a = 0 ∨ a = 1) (e : wc c 3 = nI a) (h : QN va vf wf wc iv cm) : QN va vf wf (up2 wc c 3 (nI 1)) (ivM iv a 1) cm := by
  rcases ha with rfl | rfl
  · exact QN.move hcm hc (by omega) (by omega) (by omega) (by omega) (by omega) e h
  · rw [ivM_same]
    have : up2 wc c 3 (nI 1) = wc := by
      funext i j; rw [up2_at]; split
      · rename_i q; rw [q.1, q.2, e]
      · rfl
    rw [this]; exact h
theorem not_fin {wc : Nat → Nat → Int32} {c a : Nat} (ha : a < 3) (e : wc c 3 = nI a) : ¬ fin wc c := by
  unfold fin; rw [e]
  rintro (q | q)
  · exact nI_ne (by omega) (by omega) (by omega) q
  · exact nI_ne (by omega) (by omega) (by omega) q
theorem QR.ent {v w iv : Nat → Int32} {bp dl df tx : Nat → Nat → Int32} {nt sm lm cm B U s q tk tr la a : Nat} {wh : Bool} (h : QR v w iv bp dl df tx nt sm lm cm B U) (hs : s < sm) (hq : q < cm) (nh : NH (sS w) sm q) (ha : a = 0 ∨ a = 1) (e3 : sC w q 3 = nI a) (e8 : sC w q 8 = nI 0) (htk : tk ≤ 1000) (hwh : wh = true → sS w s 0 = nI 3) (hla : wh = true → la < 26) : QR (entS v s q tk tr la wh) (entS w s q tk tr la wh) (ivM iv a 1) bp dl df tx nt sm lm cm B U := by
  have hsm := h.a.sm6; have hcm := h.a.cm30
  have hs6 : s < 6 := by omega
  have hq30 : q < 30 := by omega
  have h15 : v 15 = w 15 := by
    have := h.a.eqa 15 (by omega) (by omega) (by omega)
    rwa [← sA_r (v := v) (by omega), ← sA_r (v := w) (by omega)] at this
  have hS1 : QS (if wh then up2 (sS v) s 8 (nI la) else sS v) (if wh then up2 (sS w) s 8 (nI la) else sS w) (sC w) tx nt sm cm U ∧ NH (if wh then up2 (sS w) s 8 (nI la) else sS w) sm q := by
    cases wh with
    | true => exact ⟨h.s.lett (hwh rfl) (hla rfl), nh.up (by decide)⟩
    | false => exact ⟨h.s, nh⟩
  have vS : ∀ f : Nat → Int32, sS (entS f s q tk tr la wh) = up2 (up2 (if wh then up2 (sS f) s 8 (nI la) else sS f) s 2 (nI q)) s 3 (nI tk) := fun f => by
    unfold entS; cases wh <;> (simp only [if_true, Bool.false_eq_true, if_false]; simp (disch := omega) only [sA_A, sA_S, sA_L, sA_C, sA_F, sA_P, sA_E, sA_M, sS_A, sS_S, sS_L, sS_C, sS_F, sS_P, sS_E, sS_M, sL_A, sL_S, sL_L, sL_C, sL_F, sL_P, sL_E, sL_M, sC_A, sC_S, sC_L, sC_C, sC_F, sC_P, sC_E, sC_M, sF_A, sF_S, sF_L, sF_C, sF_F, sF_P, sF_E, sF_M, sP_A, sP_S, sP_L, sP_C, sP_F, sP_P, sP_E, sP_M, sE_A, sE_S, sE_L, sE_C, sE_F, sE_P, sE_E, sE_M])
  have vC : ∀ f : Nat → Int32, sC (entS f s q tk tr la wh) = up2 (up2 (sC f) q 3 (nI 1)) q 4 (nI s) := fun f => by
    unfold entS; cases wh <;> (simp only [if_true, Bool.false_eq_true, if_false]; simp (disch := omega) only [sA_A, sA_S, sA_L, sA_C, sA_F, sA_P, sA_E, sA_M, sS_A, sS_S, sS_L, sS_C, sS_F, sS_P, sS_E, sS_M, sL_A, sL_S, sL_L, sL_C, sL_F, sL_P, sL_E, sL_M, sC_A, sC_S, sC_L, sC_C, sC_F, sC_P, sC_E, sC_M, sF_A, sF_S, sF_L, sF_C, sF_F, sF_P, sF_E, sF_M, sP_A, sP_S, sP_L, sP_C, sP_F, sP_P, sP_E, sP_M, sE_A, sE_S, sE_L, sE_C, sE_F, sE_P, sE_E, sE_M])
  have vA : ∀ f : Nat → Int32, sA (entS f s q tk tr la wh) = upd (sA f) 15 (f 15 + nI tr) := fun f => by
    unfold entS; cases wh <;> (simp only [if_true, Bool.false_eq_true, if_false]; simp (disch := omega) only [sA_A, sA_S, sA_L, sA_C, sA_F, sA_P, sA_E, sA_M, sS_A, sS_S, sS_L, sS_C, sS_F, sS_P, sS_E, sS_M, sL_A, sL_S, sL_L, sL_C, sL_F, sL_P, sL_E, sL_M, sC_A, sC_S, sC_L, sC_C, sC_F, sC_P, sC_E, sC_M, sF_A, sF_S, sF_L, sF_C, sF_F, sF_P, sF_E, sF_M, sP_A, sP_S, sP_L, sP_C, sP_F, sP_P, sP_E, sP_M, sE_A, sE_S, sE_L, sE_C, sE_F, sE_P, sE_E, sE_M])
  have vF : ∀ f : Nat → Int32, sF (entS f s q tk tr la wh) = sF f := fun f => by
    unfold entS; cases wh <;> (simp only [if_true, Bool.false_eq_true, if_false]; simp (disch := omega) only [sA_A, sA_S, sA_L, sA_C, sA_F, sA_P, sA_E, sA_M, sS_A, sS_S, sS_L, sS_C, sS_F, sS_P, sS_E, sS_M, sL_A, sL_S, sL_L, sL_C, sL_F, sL_P, sL_E, sL_M, sC_A, sC_S, sC_L, sC_C, sC_F, sC_P, sC_E, sC_M, sF_A, sF_S, sF_L, sF_C, sF_F, sF_P, sF_E, sF_M, sP_A, sP_S, sP_L, sP_C, sP_F, sP_P, sP_E, sP_M, sE_A, sE_S, sE_L, sE_C, sE_F, sE_P, sE_E, sE_M])
  have vL : ∀ f : Nat → Int32, sL (entS f s q tk tr la wh) = sL f := fun f => by
    unfold entS; cases wh <;> (simp only [if_true, Bool.false_eq_true, if_false]; simp (disch := omega) only [sA_A, sA_S, sA_L, sA_C, sA_F, sA_P, sA_E, sA_M, sS_A, sS_S, sS_L, sS_C, sS_F, sS_P, sS_E, sS_M, sL_A, sL_S, sL_L, sL_C, sL_F, sL_P, sL_E, sL_M, sC_A, sC_S, sC_L, sC_C, sC_F, sC_P, sC_E, sC_M, sF_A, sF_S, sF_L, sF_C, sF_F, sF_P, sF_E, sF_M, sP_A, sP_S, sP_L, sP_C, sP_F, sP_P, sP_E, sP_M, sE_A, sE_S, sE_L, sE_C, sE_F, sE_P, sE_E, sE_M])
  have vE : ∀ f : Nat → Int32, sE (entS f s q tk tr la wh) = sE f := fun f => by
    unfold entS; cases wh <;> (simp only [if_true, Bool.false_eq_true, if_false]; simp (disch := omega) only [sA_A, sA_S, sA_L, sA_C, sA_F, sA_P, sA_E, sA_M, sS_A, sS_S, sS_L, sS_C, sS_F, sS_P, sS_E, sS_M, sL_A, sL_S, sL_L, sL_C, sL_F, sL_P, sL_E, sL_M, sC_A, sC_S, sC_L, sC_C, sC_F, sC_P, sC_E, sC_M, sF_A, sF_S, sF_L, sF_C, sF_F, sF_P, sF_E, sF_M, sP_A, sP_S, sP_L, sP_C, sP_F, sP_P, sP_E, sP_M, sE_A, sE_S, sE_L, sE_C, sE_F, sE_P, sE_E, sE_M])
  have vP : ∀ f : Nat → Int32, sP (entS f s q tk tr la wh) = sP f := fun f => by
    unfold entS; cases wh <;> (simp only [if_true, Bool.false_eq_true, if_false]; simp (disch := omega) only [sA_A, sA_S, sA_L, sA_C, sA_F, sA_P, sA_E, sA_M, sS_A, sS_S, sS_L, sS_C, sS_F, sS_P, sS_E, sS_M, sL_A, sL_S, sL_L, sL_C, sL_F, sL_P, sL_E, sL_M, sC_A, sC_S, sC_L, sC_C, sC_F, sC_P, sC_E, sC_M, sF_A, sF_S, sF_L, sF_C, sF_F, sF_P, sF_E, sF_M, sP_A, sP_S, sP_L, sP_C, sP_F, sP_P, sP_E, sP_M, sE_A, sE_S, sE_L, sE_C, sE_F, sE_P, sE_E, sE_M])
  refine ⟨?_, ?_, ?_, ?_, ?_, ?_, ?_⟩
  · rw [vA, vA, h15]; exact h.a.free (by omega)
  · rw [vS, vS, vC]
    refine QS.uNeed htk (QS.uHold (Or.inr ⟨q, hq, rfl, ?_, up2_eq⟩) ((hS1.1.card hq hcm hS1.2).card hq hcm hS1.2))
    rw [up2_ne (by decide)]; exact up2_eq
  · rw [vC, vC]
    exact QC.set (by omega) (QC.uState (by omega) (Or.inr e8) h.c)
  · rw [vA, vF, vF, vC]
    exact QN.va (by omega) (QN.cardk (by decide) (QN.st1 hcm hq ha e3 h.n))
  · rw [vL, vL, vE, vC]
    exact QL.cardk (by omega) (QL.state (not_fin (a := a) (by omega) e3) (by omega) h.l)
  · rw [vA, vA, vP]; exact h.d.free (by omega)
  · rw [vC]; exact h.wh.on
end
