theorem sub1_toInt {n : Nat} (hn : n < 2 ^ 31) : (nI n - nI 1).toInt = (n : Int) - 1 := by
  by_cases h : n = 0
  · subst h; rfl
  · rw [nI_sub (by omega), nI_toInt (by omega)]; omega
theorem inB_i {a : Int32} {lo hi : Int64} {p q : Int} (h1 : lo.toInt = p) (h2 : hi.toInt = q) : inB a.toInt64 lo hi = if p ≤ a.toInt ∧ a.toInt ≤ q then nI 1 else nI 0 := by
  unfold inB
  have e : a.toInt64.toInt = a.toInt := Int32.toInt_toInt64 a
  by_cases c : p ≤ a.toInt ∧ a.toInt ≤ q
  · rw [if_pos c, if_pos ⟨by rw [Int64.le_iff_toInt_le, h1, e]; exact c.1, by rw [Int64.le_iff_toInt_le, h2, e]; exact c.2⟩]; rfl
  · rw [if_neg c, if_neg (fun h => c ⟨by have := Int64.le_iff_toInt_le.mp h.1; rw [h1, e] at this; exact this, by have := Int64.le_iff_toInt_le.mp h.2; rw [h2, e] at this; exact this⟩)]; exact nI_0.symm
theorem nI_ofInt {a : Int32} (h : 0 ≤ a.toInt) : a = nI a.toInt.toNat ∧ a.toInt.toNat < 2 ^ 31 := by
  have h2 : a.toInt < 2 ^ 31 := Int32.toInt_lt a
  have h3 : a.toInt.toNat < 2 ^ 31 := by omega
  refine ⟨Int32.toInt_inj.mp ?_, h3⟩
  rw [nI_toInt h3]; omega
theorem below {a : Int32} {n : Nat} (hn : n < 2 ^ 31) : (∃ k, k < n ∧ a = nI k) ∨ (a.toInt < 0 ∨ (n : Int) ≤ a.toInt) := by
  by_cases h : 0 ≤ a.toInt
  · by_cases h2 : a.toInt < n
    · obtain ⟨e, -⟩ := nI_ofInt h
      exact Or.inl ⟨a.toInt.toNat, by omega, e⟩
    · exact Or.inr (Or.inr (by omega))
  · exact Or.inr (Or.inl (by omega))
theorem lt0 {a : Int32} : a < nI 0 ↔ a.toInt < 0 := by rw [Int32.lt_iff_toInt_lt, nI_toInt (by omega)]; rfl
theorem ltn {a : Int32} {n : Nat} (hn : n < 2 ^ 31) : a < nI n ↔ a.toInt < n := by rw [Int32.lt_iff_toInt_lt, nI_toInt hn]
theorem len {a : Int32} {n : Nat} (hn : n < 2 ^ 31) : a ≤ nI n ↔ a.toInt ≤ n := by rw [Int32.le_iff_toInt_le, nI_toInt hn]
theorem gen {a : Int32} {n : Nat} (hn : n < 2 ^ 31) : nI n ≤ a ↔ (n : Int) ≤ a.toInt := by rw [Int32.le_iff_toInt_le, nI_toInt hn]
noncomputable def th (r : RS) (k : Nat) : RS := up r 0 6 (nI k)
theorem th_o {r : RS} {k R : Nat} (h : R ≠ 0) : th r k R = r R := up_or h
theorem th_0 {r : RS} {k i : Nat} (h : i ≠ 6) : th r k 0 i = r 0 i := by unfold th; exact up_ne (fun q => h q.2)
theorem th_6 {r : RS} {k : Nat} : th r k 0 6 = nI k := up_eq
theorem th_th {r : RS} {k j : Nat} : th (th r k) j = th r j := by
  unfold th
  funext R i
  simp only [up_at]
  by_cases h : R = 0 ∧ i = 6
  · rw [if_pos h, if_pos h]
  · rw [if_neg h, if_neg h, if_neg h]
theorem isThrown_1 {r : RS} {n : Int32} : F8_isThrown r (nI 1) n = some (nI 0, th r 0) := by
  unfold F8_isThrown th
  simp only [lit32]
  rw [if_neg (nI_ne (by omega) (by omega) (by omega)), bS, pt_n, bS, if_neg (nI_ne (by omega) (by omega) (by omega)), bS, nz_0, bS]
theorem isThrown_0 {r : RS} {n : Nat} : F8_isThrown r (nI 0) (nI n) = some (nI 1, th r n) := by
  unfold F8_isThrown th
  simp only [lit32]
  rw [if_pos trivial, bS, pt_n, bS, if_pos trivial, bS, nz_1, bS]
theorem argF {u : RS} {a : Int32} {n : Nat} (hn : n < 2 ^ 31) : (nz (inB a.toInt64 (0 : Int64) ((nI n - nI 1).toInt64))).bind (fun x1 => some x1) = some (if 0 ≤ a.toInt ∧ a.toInt < n then nI 1 else nI 0) := by
  rw [inB_i (p := 0) (q := (n : Int) - 1) (by decide) (by rw [Int32.toInt_toInt64, sub1_toInt hn])]
  by_cases h : 0 ≤ a.toInt ∧ a.toInt < n
  · rw [if_pos (by omega), if_pos h, nz_1, bS]
  · rw [if_neg (by omega), if_neg h, nz_0, bS]
theorem argC {c : RS} {a : Int32} {n : Nat} (hn : n < 2 ^ 31) : (if a < nI 0 then (some (.inl (nI 1))) else (if a < nI n then (some (.inr ())) else (some (.inl (nI 1)))) : Option (Sum Int32 Unit)) = some (if 0 ≤ a.toInt ∧ a.toInt < n then .inr () else .inl (nI 1)) := by
  by_cases h0 : a < nI 0
  · rw [if_pos h0, if_neg (by have := lt0.mp h0; omega)]
  · rw [if_neg h0]
    have h0' : ¬ a.toInt < 0 := fun q => h0 (lt0.mpr q)
    by_cases h : a < nI n
    · rw [if_pos h, if_pos ⟨by omega, (ltn hn).mp h⟩]
    · rw [if_neg h, if_neg (fun q => h ((ltn hn).mpr q.2))]
theorem argSt {r c : RS} {g : CG} {a : Int32} {n : Nat} (hn : n < 2 ^ 31) (hr : r 1 7 = nI n) (hc : c 10 7 = nI n) : (∃ k, k < n ∧ a = nI k ∧ F8_isStation r a = some (nI 1) ∧ C7_needStation g c a = some (.inr ())) ∨ (F8_isStation r a = some (nI 0) ∧ C7_needStation g c a = some (.inl (nI 1))) := by
  have eF : F8_isStation r a = some (if 0 ≤ a.toInt ∧ a.toInt < n then nI 1 else nI 0) := by
    unfold F8_isStation; simp only [lit32]; rw [hr]; exact argF (u := r) hn
  have eC : C7_needStation g c a = some (if 0 ≤ a.toInt ∧ a.toInt < n then .inr () else .inl (nI 1)) := by
    unfold C7_needStation; simp only [lit32, Nat.add_zero]; rw [hc]; exact argC (c := c) hn
  rcases below (a := a) hn with ⟨k, hk, e⟩ | h
  · rw [if_pos (by rw [e, nI_toInt (by omega)]; omega)] at eF eC
    exact Or.inl ⟨k, hk, e, eF, eC⟩
  · rw [if_neg (by omega)] at eF eC
    exact Or.inr ⟨eF, eC⟩
theorem argLo {r c : RS} {g : CG} {a : Int32} {n : Nat} (hn : n < 2 ^ 31) (hr : r 1 8 = nI n) (hc : c 10 8 = nI n) : (∃ k, k < n ∧ a = nI k ∧ F8_isLot r a = some (nI 1) ∧ C7_needLot g c a = some (.inr ())) ∨ (F8_isLot r a = some (nI 0) ∧ C7_needLot g c a = some (.inl (nI 1))) := by
  have eF : F8_isLot r a = some (if 0 ≤ a.toInt ∧ a.toInt < n then nI 1 else nI 0) := by
    unfold F8_isLot; simp only [lit32]; rw [hr]; exact argF (u := r) hn
  have eC : C7_needLot g c a = some (if 0 ≤ a.toInt ∧ a.toInt < n then .inr () else .inl (nI 1)) := by
    unfold C7_needLot; simp only [lit32, Nat.add_zero]; rw [hc]; exact argC (c := c) hn
  rcases below (a := a) hn with ⟨k, hk, e⟩ | h
  · rw [if_pos (by rw [e, nI_toInt (by omega)]; omega)] at eF eC
    exact Or.inl ⟨k, hk, e, eF, eC⟩
  · rw [if_neg (by omega)] at eF eC
    exact Or.inr ⟨eF, eC⟩
theorem argCd {r c : RS} {g : CG} {a : Int32} {n : Nat} (hn : n < 2 ^ 31) (hr : r 1 9 = nI n) (hc : c 10 9 = nI n) : (∃ k, k < n ∧ a = nI k ∧ F8_isCard r a = some (nI 1) ∧ C7_needCard g c a = some (.inr ())) ∨ (F8_isCard r a = some (nI 0) ∧ C7_needCard g c a = some (.inl (nI 1))) := by
  have eF : F8_isCard r a = some (if 0 ≤ a.toInt ∧ a.toInt < n then nI 1 else nI 0) := by
    unfold F8_isCard; simp only [lit32]; rw [hr]; exact argF (u := r) hn
  have eC : C7_needCard g c a = some (if 0 ≤ a.toInt ∧ a.toInt < n then .inr () else .inl (nI 1)) := by
    unfold C7_needCard; simp only [lit32, Nat.add_zero]; rw [hc]; exact argC (c := c) hn
  rcases below (a := a) hn with ⟨k, hk, e⟩ | h
  · rw [if_pos (by rw [e, nI_toInt (by omega)]; omega)] at eF eC
    exact Or.inl ⟨k, hk, e, eF, eC⟩
  · rw [if_neg (by omega)] at eF eC
    exact Or.inr ⟨eF, eC⟩
theorem argR {a : Int32} {lo hi : Nat} (hhi : hi < 2 ^ 31) (hlo : lo ≤ hi) {l h : Int64} (h1 : l.toInt = lo) (h2 : h.toInt = hi) : (∃ k, lo ≤ k ∧ k ≤ hi ∧ a = nI k ∧ inB a.toInt64 l h = nI 1 ∧ C7_needRange a (nI lo) (nI hi) = some (.inr ())) ∨ (inB a.toInt64 l h = nI 0 ∧ C7_needRange a (nI lo) (nI hi) = some (.inl (nI 2)) ∧ (a.toInt < lo ∨ (hi : Int) < a.toInt)) := by
  have eF := inB_i (a := a) h1 h2
  by_cases c : (lo : Int) ≤ a.toInt ∧ a.toInt ≤ hi
  · obtain ⟨e, -⟩ := nI_ofInt (a := a) (by omega)
    rw [if_pos c] at eF
    refine Or.inl ⟨a.toInt.toNat, by omega, by omega, e, eF, ?_⟩
    unfold C7_needRange
    rw [if_neg (fun q => by rw [Int32.lt_iff_toInt_lt, nI_toInt (by omega)] at q; omega), if_pos (by rw [Int32.le_iff_toInt_le, nI_toInt hhi]; omega)]
  · rw [if_neg c] at eF
    refine Or.inr ⟨eF, ?_, by omega⟩
    unfold C7_needRange
    simp only [lit32]
    by_cases q : a < nI lo
    · rw [if_pos q]
    · rw [if_neg q, if_neg (fun q2 => by
        rw [Int32.lt_iff_toInt_lt, nI_toInt (by omega)] at q
        rw [Int32.le_iff_toInt_le, nI_toInt hhi] at q2
        omega)]
theorem trL {α β : Type} {x : Int32} {f : α → Option (Sum Int32 β)} : tr (.inl x) f = some (.inl x) := rfl
theorem trR {α β : Type} {a : α} {f : α → Option (Sum Int32 β)} : tr (.inr a) f = f a := rfl
theorem ifn {α : Type} {a b : Nat} {x y : α} (h : a ≠ b) (ha : a < 2 ^ 31) (hb : b < 2 ^ 31) : (if nI a = nI b then x else y) = y := if_neg (nI_ne h ha hb)
theorem ifo {α : Type} {a : Int32} {n k : Nat} {x y : α} (h : a.toInt < 0 ∨ (n : Int) ≤ a.toInt) (hk : k < n) (hn : n < 2 ^ 31) : (if a = nI k then x else y) = y := if_neg fun e => by rw [e, nI_toInt (by omega)] at h; omega
