noncomputable def trn (a b : Nat) : Nat := if (if a ≤ b then b - a else a - b) ≤ 26 - (if a ≤ b then b - a else a - b) then (if a ≤ b then b - a else a - b) else 26 - (if a ≤ b then b - a else a - b)
noncomputable def stpN (f : Nat → Nat) : Nat → Nat → Nat → Nat
  | 0, _, _ => 0
  | n + 1, k, a => trn a (f k) + stpN f n (k + 1) (f k)
theorem trn_le {a b : Nat} (ha : a < 26) (hb : b < 26) : trn a b ≤ 13 := by
  unfold trn
  generalize hD : (if a ≤ b then b - a else a - b) = D
  have hD26 : D ≤ 25 := by rw [← hD]; split <;> omega
  split <;> omega
theorem sub_toInt {a b : Nat} (ha : a < 1000000) (hb : b < 1000000) : (nI a - nI b).toInt = (a : Int) - b := by
  rw [Int32.toInt_sub, nI_toInt (by omega), nI_toInt (by omega)]
  exact Int.bmod_eq_of_le (by omega) (by omega)
theorem stpN_le {f : Nat → Nat} {n : Nat} : ∀ {k a : Nat}, (∀ j, j < k + n → f j < 26) → a < 26 → stpN f n k a ≤ 13 * n := by
  induction n with
  | zero => intro k a _ _; exact Nat.le_refl _
  | succ n ih =>
    intro k a hf ha
    have h1 := trn_le ha (hf k (by omega))
    have h2 := ih (k := k + 1) (a := f k) (fun j hj => hf j (by omega)) (hf k (by omega))
    show trn a (f k) + stpN f n (k + 1) (f k) ≤ _
    omega
theorem F8_turn_n {a b : Nat} (ha : a < 26) (hb : b < 26) : F8_turn (nI a) (nI b) = some (nI (trn a b)) := by
  unfold F8_turn trn
  simp only [lit32]
  have k3 : (nI a - nI b).toInt = (a : Int) - b := sub_toInt (by omega) (by omega)
  by_cases h : b ≤ a
  · have h0 : nI 0 ≤ nI a - nI b := by rw [Int32.le_iff_toInt_le, k3, show (nI 0).toInt = 0 from rfl]; omega
    simp only [if_pos h0]
    have hD : (if a ≤ b then b - a else a - b) = a - b := by split <;> omega
    rw [hD, nI_sub h, nI_sub (by omega)]
    by_cases h2 : a - b ≤ 26 - (a - b)
    · rw [if_pos h2, if_neg (nI_nlt h2 (by omega))]
    · rw [if_neg h2, if_pos (nI_lt (by omega) (by omega))]
  · have h0 : ¬ nI 0 ≤ nI a - nI b := by rw [Int32.le_iff_toInt_le, k3, show (nI 0).toInt = 0 from rfl]; omega
    simp only [if_neg h0]
    have hD : (if a ≤ b then b - a else a - b) = b - a := by split <;> omega
    have e : nI 0 - (nI a - nI b) = nI (b - a) := by
      apply Int32.toInt_inj.mp
      rw [Int32.toInt_sub, k3, nI_toInt (n := 0) (by omega), nI_toInt (by omega), Int.bmod_eq_of_le (by omega) (by omega)]
      omega
    rw [hD, e, nI_sub (by omega)]
    by_cases h2 : b - a ≤ 26 - (b - a)
    · rw [if_pos h2, if_neg (nI_nlt h2 (by omega))]
    · rw [if_neg h2, if_pos (nI_lt (by omega) (by omega))]
theorem F8_steps_L {r : RS} {q n : Nat} {f : Nat → Nat} {a2 : Int32} (hq : q < 30) (hn : n ≤ 16) (h2 : sC (r 1) q 2 = nI n) (hf : ∀ k, k < n → sC (r 1) q (9 + k) = nI (f k) ∧ f k < 26) : ∀ (z k fu a s : Nat), k + z = n → z < fu → a < 26 → F8_stepsOf_L8 (nI q) a2 r fu (nI k) (nI s) (nI a) = some (nI n, nI (s + stpN f z k a), nI (if z = 0 then a else f (n - 1))) := by
  intro z
  induction z with
  | zero =>
    intro k fu a s hk hfu ha
    obtain ⟨fu, rfl⟩ : ∃ m, fu = m + 1 := ⟨fu - 1, by omega⟩
    simp (disch := omega) only [F8_stepsOf_L8, lit32, F8_ofCard_n, bS]
    rw [sC_r (v := r 1) hq (by omega), h2, if_pos (nI_le (by omega) (by omega))]
    have : k = n := by omega
    subst this; rfl
  | succ z ih =>
    intro k fu a s hk hfu ha
    obtain ⟨fu, rfl⟩ : ∃ m, fu = m + 1 := ⟨fu - 1, by omega⟩
    obtain ⟨g1, g2⟩ := hf k (by omega)
    simp (disch := omega) only [F8_stepsOf_L8, lit32, nI_add, F8_ofCard_n, bS]
    rw [sC_r (v := r 1) hq (by omega), sC_r (v := r 1) hq (by omega), h2, if_neg (nI_ge (by omega) (by omega)), g1, F8_turn_n ha g2, bS, nI_add, ih (k + 1) fu (f k) (s + trn a (f k)) (by omega) (by omega) g2]
    show some (nI n, nI (s + trn a (f k) + stpN f z (k + 1) (f k)), _) = some (nI n, nI (s + (trn a (f k) + stpN f z (k + 1) (f k))), _)
    rw [Nat.add_assoc, if_neg (show ¬ z + 1 = 0 by omega)]
    congr 4
    split
    · congr 1; omega
    · rfl
theorem F8_stepsOf_s {r : RS} {q n a : Nat} {f : Nat → Nat} (hq : q < 30) (hn : n ≤ 16) (h2 : sC (r 1) q 2 = nI n) (hf : ∀ k, k < n → sC (r 1) q (9 + k) = nI (f k) ∧ f k < 26) (ha : a < 26) : F8_stepsOf r (nI q) (nI a) = some (nI (stpN f n 0 a)) := by
  unfold F8_stepsOf
  simp only [lit32]
  rw [F8_steps_L hq hn h2 hf n 0 FUEL a 0 (by omega) (by show n < 10000; omega) ha, bS]
  simp only [Nat.zero_add]
theorem C7_steps_L {c : RS} {g : CG} {t n : Nat} {f : Nat → Nat} {a2 : Int32} (h1 : 1 ≤ t) (hg : t ≤ g.nt) (ht : t < 2 ^ 31) (hn : n ≤ 16) (h0 : c (500 + t) 0 = nI n) (hf : ∀ k, k < n → c (500 + t) (1 + k) = nI (f k) ∧ f k < 26) : ∀ (z k fu a s : Nat), k + z = n → z < fu → a < 26 → C7_stepsOf_L7 (nI t) a2 g c fu (nI k) (nI a) (nI s) = some (nI n, nI (if z = 0 then a else f (n - 1)), nI (s + stpN f z k a)) := by
  intro z
  induction z with
  | zero =>
    intro k fu a s hk hfu ha
    obtain ⟨fu, rfl⟩ : ∃ m, fu = m + 1 := ⟨fu - 1, by omega⟩
    simp only [C7_stepsOf_L7, tln_n h1 hg ht h0 (by omega), bS]
    rw [if_pos (nI_le (by omega) (by omega))]
    have : k = n := by omega
    subst this; rfl
  | succ z ih =>
    intro k fu a s hk hfu ha
    obtain ⟨fu, rfl⟩ : ∃ m, fu = m + 1 := ⟨fu - 1, by omega⟩
    obtain ⟨g1, g2⟩ := hf k (by omega)
    simp (disch := omega) only [C7_stepsOf_L7, tln_n h1 hg ht h0 (show n < 2 ^ 31 by omega), tbt_n h1 hg ht h0 (show n < 2 ^ 31 by omega) (show k < n by omega), bS, lit32, nI_add, g1]
    rw [if_neg (nI_ge (by omega) (by omega))]
    have hd : ((if nI a ≤ nI (f k) then some (nI (f k) - nI a) else some (nI a - nI (f k))) : Option Int32) = some (nI (if a ≤ f k then f k - a else a - f k)) := by
      by_cases h : a ≤ f k
      · rw [if_pos (nI_le h (by omega)), if_pos h, nI_sub h]
      · rw [if_neg (nI_ge (by omega) (by omega)), if_neg h, nI_sub (by omega)]
    rw [hd, bS]
    generalize hD : (if a ≤ f k then f k - a else a - f k) = D
    have hD26 : D ≤ 25 := by rw [← hD]; split <;> omega
    have htr : trn a (f k) = if D ≤ 26 - D then D else 26 - D := by unfold trn; rw [hD]
    have ht2 : ∀ (G : Int32 → Option (Int32 × Int32 × Int32)), ((if nI D ≤ nI 26 - nI D then some (nI D) else some (nI 26 - nI D)) : Option Int32).bind G = G (nI (trn a (f k))) := by
      intro G
      rw [htr, nI_sub (by omega)]
      by_cases h : D ≤ 26 - D
      · rw [if_pos h, if_pos (nI_le h (by omega))]; rfl
      · rw [if_neg h, if_neg (nI_ge (by omega) (by omega))]; rfl
    refine (ht2 _).trans ?_
    rw [nI_add, ih (k + 1) fu (f k) (s + trn a (f k)) (by omega) (by omega) g2]
    show some (nI n, _, nI (s + trn a (f k) + stpN f z (k + 1) (f k))) = some (nI n, _, nI (s + (trn a (f k) + stpN f z (k + 1) (f k))))
    rw [Nat.add_assoc, if_neg (show ¬ z + 1 = 0 by omega)]
    congr 3
    split
    · congr 2; omega
    · rfl
theorem C7_stepsOf_s {c : RS} {g : CG} {t n a : Nat} {f : Nat → Nat} (h1 : 1 ≤ t) (hg : t ≤ g.nt) (ht : t < 2 ^ 31) (hn : n ≤ 16) (h0 : c (500 + t) 0 = nI n) (hf : ∀ k, k < n → c (500 + t) (1 + k) = nI (f k) ∧ f k < 26) (ha : a < 26) : C7_stepsOf g c (nI t) (nI a) = some (nI (stpN f n 0 a)) := by
  unfold C7_stepsOf
  simp only [lit32]
  rw [C7_steps_L h1 hg ht hn h0 hf n 0 FUEL a 0 (by omega) (by show n < 10000; omega) ha, bS]
  simp only [Nat.zero_add]
