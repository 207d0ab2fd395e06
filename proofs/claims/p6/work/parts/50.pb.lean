noncomputable def m1 : Int32 := -1
theorem lit32 (n : Nat) : (@OfNat.ofNat Int32 n Int32.instOfNat) = nI (OfNat.ofNat n) := by cases n <;> exact rfl
theorem neg1 : -(nI 1) = m1 := Int32.toInt_inj.mp rfl
theorem nI_mul (a b : Nat) : nI a * nI b = nI (a * b) := (Int32.ofNat_mul a b).symm
theorem nI_sub {a b : Nat} (h : b ≤ a) : nI a - nI b = nI (a - b) := by
  have e : nI a = nI (a - b) + nI b := by rw [nI_add]; congr 1; omega
  rw [e]; exact Int32.add_sub_cancel _ _
theorem m1_ne {a : Nat} (h : a < 2 ^ 31) : ¬ nI a = m1 := by
  rw [← Int32.toInt_inj, nI_toInt h, show m1.toInt = -1 from rfl]; omega
theorem m1_neq {a : Nat} (h : a < 2 ^ 31) : ¬ m1 = nI a := fun e => m1_ne h e.symm
theorem rd_n {u : RS} {k n j : Nat} (h : j < n) (hn : n ≤ 2 ^ 31) : rd u k n (nI j) = some (u k j) := by
  unfold rd
  rw [nI_toInt (by omega), nI_clamp (by omega), if_pos (by omega)]
theorem ws_n {u : RS} {k n j : Nat} {v : Int32} (h : j < n) (hn : n ≤ 2 ^ 31) : ws u k n (nI j) v = some (up u k j v) := by
  unfold ws
  rw [nI_toInt (by omega), nI_clamp (by omega), if_pos (by omega)]
theorem ix_n {n j : Nat} (h : j < n) (hn : n ≤ 2 ^ 31) : ix n (nI j) = some j := by
  unfold ix
  rw [nI_toInt (by omega), nI_clamp (by omega), if_pos (by omega)]
theorem rdo_n {u : RS} {k o n j : Nat} (h : j < n) (hn : n ≤ 2 ^ 31) : rdo u k o n (nI j) = some (u k (o + j)) := by
  unfold rdo
  rw [nI_toInt (by omega), nI_clamp (by omega), if_pos (by omega)]
theorem wso_n {u : RS} {k o n j : Nat} {v : Int32} (h : j < n) (hn : n ≤ 2 ^ 31) : wso u k o n (nI j) v = some (up u k (o + j) v) := by
  unfold wso
  rw [nI_toInt (by omega), nI_clamp (by omega), if_pos (by omega)]
theorem pt_n {u : RS} {k i : Nat} {v : Int32} : pt u k i v = some (up u k i v) := Eq.trans rfl rfl
theorem up_at {u : RS} {k i r j : Nat} {v : Int32} : up u k i v r j = if r = k ∧ j = i then v else u r j := by
  unfold up upd
  by_cases e : r = k
  · subst e; by_cases e2 : j = i
    · subst e2; simp
    · simp [e2]
  · simp [e]
theorem tln_n {g : CG} {u : RS} {t n : Nat} (h1 : 1 ≤ t) (h2 : t ≤ g.nt) (ht : t < 2 ^ 31) (hl : u (500 + t) 0 = nI n) (hn : n < 2 ^ 31) : tln g u (nI t) = some (nI n) := by
  unfold tln
  rw [nI_clamp ht, hl, nI_toInt hn, if_pos ⟨⟨h1, h2⟩, by omega⟩]
theorem tbt_n {g : CG} {u : RS} {t n k : Nat} (h1 : 1 ≤ t) (h2 : t ≤ g.nt) (ht : t < 2 ^ 31) (hl : u (500 + t) 0 = nI n) (hn : n < 2 ^ 31) (hk : k < n) : tbt g u (nI t) (nI k) = some (u (500 + t) (1 + k)) := by
  unfold tbt
  rw [nI_clamp ht, hl, nI_clamp hn, nI_toInt (by omega), nI_clamp (by omega), if_pos ⟨⟨h1, h2⟩, by omega⟩]
theorem nz_0 : nz (nI 0) = some (nI 0) := Eq.trans rfl rfl
theorem nz_1 : nz (nI 1) = some (nI 1) := Eq.trans rfl rfl
theorem F8_of_n {u : RS} {s k : Nat} (hs : s < 6) (hk : k < 16) : F8_of u (nI s) (nI k) = some (u 1 (17 + 16 * s + k)) := by
  unfold F8_of; simp only [lit32, nI_mul, nI_add]; rw [rd_n (by omega) (by omega)]; rfl
theorem F8_ofLot_n {u : RS} {s k : Nat} (hs : s < 6) (hk : k < 4) : F8_ofLot u (nI s) (nI k) = some (u 1 (113 + 4 * s + k)) := by
  unfold F8_ofLot; simp only [lit32, nI_mul, nI_add]; rw [rd_n (by omega) (by omega)]; rfl
theorem F8_ofCard_n {u : RS} {s k : Nat} (hs : s < 30) (hk : k < 25) : F8_ofCard u (nI s) (nI k) = some (u 1 (137 + 25 * s + k)) := by
  unfold F8_ofCard; simp only [lit32, nI_mul, nI_add]; rw [rd_n (by omega) (by omega)]; rfl
theorem F8_sets_n {u : RS} {s k : Nat} {v : Int32} (hs : s < 6) (hk : k < 16) : F8_sets u (nI s) (nI k) v = some (up u 1 (17 + 16 * s + k) v) := by
  unfold F8_sets; simp only [lit32, nI_mul, nI_add]; rw [ws_n (by omega) (by omega)]; rfl
theorem F8_grows_n {u : RS} {s k : Nat} {v : Int32} (hs : s < 6) (hk : k < 16) : F8_grows u (nI s) (nI k) v = some (up u 1 (17 + 16 * s + k) (u 1 (17 + 16 * s + k) + v)) := by
  unfold F8_grows; simp only [lit32, nI_mul, nI_add]; rw [rd_n (by omega) (by omega), Option.bind_some, ws_n (by omega) (by omega)]; rfl
theorem F8_setsCard_n {u : RS} {s k : Nat} {v : Int32} (hs : s < 30) (hk : k < 25) : F8_setsCard u (nI s) (nI k) v = some (up u 1 (137 + 25 * s + k) v) := by
  unfold F8_setsCard; simp only [lit32, nI_mul, nI_add]; rw [ws_n (by omega) (by omega)]; rfl
