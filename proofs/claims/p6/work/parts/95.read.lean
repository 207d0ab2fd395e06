theorem nI_inj {a b : Nat} (ha : a < 2 ^ 31) (hb : b < 2 ^ 31) (h : nI a = nI b) : a = b := by
  have := congrArg Int32.toInt h
  rw [nI_toInt ha, nI_toInt hb] at this
  omega
noncomputable def cd (b : Int32) : Nat := (b &&& 255).toNatClampNeg
theorem cd_p : ∀ k : Nat, k < 128 → nI k &&& 255 = nI k := by decide +kernel
theorem cd_q : ∀ k : Nat, k < 128 → Int32.ofInt ((k : Int) - 128) &&& 255 = nI (k + 128) := by decide +kernel
theorem cd_spec {b : Int32} (h : BYT b) : b &&& 255 = nI (cd b) ∧ cd b < 256 ∧ ((cd b < 128 ∧ b = nI (cd b)) ∨ (128 ≤ cd b ∧ b.toInt < 0)) := by
  obtain ⟨h1, h2⟩ := h
  by_cases h0 : 0 ≤ b.toInt
  · obtain ⟨e, -⟩ := nI_ofInt h0
    have hk : b.toInt.toNat < 128 := by omega
    generalize b.toInt.toNat = k at e hk
    subst e
    have e2 : cd (nI k) = k := by unfold cd; rw [cd_p k hk, nI_clamp (by omega)]
    rw [e2]
    exact ⟨cd_p k hk, by omega, Or.inl ⟨hk, rfl⟩⟩
  · have e : b = Int32.ofInt (((b.toInt + 128).toNat : Int) - 128) := by
      apply Int32.toInt_inj.mp
      rw [Int32.toInt_ofInt_of_le (by omega) (by omega)]
      omega
    have hk : (b.toInt + 128).toNat < 128 := by omega
    have hn : b.toInt < 0 := by omega
    generalize (b.toInt + 128).toNat = k at e hk
    have e2 : cd b = k + 128 := by unfold cd; rw [e, cd_q k hk, nI_clamp (by omega)]
    rw [e2]
    exact ⟨by rw [e]; exact cd_q k hk, by omega, Or.inr ⟨by omega, hn⟩⟩
theorem b_eq {b : Int32} (h : BYT b) {c : Nat} (hc : c < 128) : b = nI c ↔ cd b = c := by
  obtain ⟨-, h2, h3⟩ := cd_spec h
  rcases h3 with ⟨h3, h4⟩ | ⟨h3, h4⟩
  · constructor
    · intro e
      rw [h4] at e
      exact nI_inj (by omega) (by omega) e
    · intro e; rw [h4, e]
  · constructor
    · intro e; rw [e, nI_toInt (by omega)] at h4; omega
    · intro e; omega
theorem dig_C {b : Int32} (h : BYT b) : C5_isDigit b = some (if 48 ≤ cd b ∧ cd b ≤ 57 then nI 1 else nI 0) := by
  obtain ⟨-, h2, h3⟩ := cd_spec h
  unfold C5_isDigit
  simp only [lit32]
  rcases h3 with ⟨h3, h4⟩ | ⟨h3, h4⟩
  · by_cases c1 : cd b < 48
    · rw [if_pos (by rw [h4]; exact nI_lt c1 (by omega)), bS, nz_0, bS, if_neg (by omega)]
    · rw [if_neg (by rw [h4]; exact nI_nlt (by omega) (by omega))]
      by_cases c2 : 57 < cd b
      · rw [if_pos (by rw [h4]; exact nI_lt c2 (by omega)), bS, nz_0, bS, if_neg (by omega)]
      · rw [if_neg (by rw [h4]; exact nI_nlt (by omega) (by omega)), bS, nz_1, bS, if_pos (by omega)]
  · rw [if_pos (by rw [Int32.lt_iff_toInt_lt, nI_toInt (by omega)]; omega), bS, nz_0, bS, if_neg (by omega)]
theorem let_C {b : Int32} (h : BYT b) : C5_isLetter b = some (if 97 ≤ cd b ∧ cd b ≤ 122 then nI 1 else nI 0) := by
  obtain ⟨-, h2, h3⟩ := cd_spec h
  unfold C5_isLetter
  simp only [lit32]
  rcases h3 with ⟨h3, h4⟩ | ⟨h3, h4⟩
  · by_cases c1 : cd b < 97
    · rw [if_pos (by rw [h4]; exact nI_lt c1 (by omega)), bS, nz_0, bS, if_neg (by omega)]
    · rw [if_neg (by rw [h4]; exact nI_nlt (by omega) (by omega))]
      by_cases c2 : 122 < cd b
      · rw [if_pos (by rw [h4]; exact nI_lt c2 (by omega)), bS, nz_0, bS, if_neg (by omega)]
      · rw [if_neg (by rw [h4]; exact nI_nlt (by omega) (by omega)), bS, nz_1, bS, if_pos (by omega)]
  · rw [if_pos (by rw [Int32.lt_iff_toInt_lt, nI_toInt (by omega)]; omega), bS, nz_0, bS, if_neg (by omega)]
noncomputable def ch (b : Nat → Int32) (n i : Nat) : Nat := if i < n then cd (b i) else 256
noncomputable def hv (x : Nat) : Int32 := if x = 256 then m1 else nI x
noncomputable def BB (b : Nat → Int32) (n : Nat) : Prop := n ≤ 600 ∧ ∀ k, k < n → BYT (b k)
theorem ch_i {b : Nat → Int32} {n i : Nat} (h : i < n) : ch b n i = cd (b i) := if_pos h
theorem ch_n {b : Nat → Int32} {n i : Nat} (h : n ≤ i) : ch b n i = 256 := if_neg (by omega)
theorem ch_le {b : Nat → Int32} {n i : Nat} (h : BB b n) : ch b n i ≤ 256 := by
  unfold ch; split
  · rename_i q; have := (cd_spec (h.2 i q)).2.1; omega
  · omega
theorem ch_lt {b : Nat → Int32} {n i : Nat} (h : ch b n i < 256) : i < n := by
  unfold ch at h; split at h
  · assumption
  · omega
theorem hv_eq {x c : Nat} (hx : x ≤ 256) (hc : c < 256) : hv x = nI c ↔ x = c := by
  unfold hv; split
  · rename_i q; subst q
    exact ⟨fun e => absurd e (m1_neq (by omega)), fun e => by omega⟩
  · exact ⟨fun e => nI_inj (by omega) (by omega) e, fun e => by rw [e]⟩
theorem inB_hv {x : Nat} {lo hi : Int64} {p q : Nat} (hx : x ≤ 256) (h1 : lo.toInt = p) (h2 : hi.toInt = q) (hp : 0 < p) (hq : q < 256) : inB (hv x).toInt64 lo hi = if p ≤ x ∧ x ≤ q then nI 1 else nI 0 := by
  rw [inB_i h1 h2]
  unfold hv; split
  · rename_i e; rw [if_neg (by rw [show m1.toInt = -1 from rfl]; omega), if_neg (by omega)]
  · rename_i e
    rw [nI_toInt (by omega)]
    by_cases c : p ≤ x ∧ x ≤ q
    · rw [if_pos (by omega), if_pos c]
    · rw [if_neg (by omega), if_neg c]
noncomputable def TC (b : Nat → Int32) (n : Nat) (u : RS) : Prop := u 0 5 = nI n ∧ ∀ k, k < n → u 3 k = b k
noncomputable def TW (b : Nat → Int32) (n : Nat) (w : RS) : Prop := w 0 8 = nI n ∧ ∀ k, k < n → w 6 k = b k
noncomputable def FC (u' u : RS) : Prop := (∀ R, R ≠ 0 → u' R = u R) ∧ ∀ i, i ≠ 6 → i ≠ 7 → i ≠ 8 → u' 0 i = u 0 i
noncomputable def FW (w' w : RS) : Prop := (∀ R, R ≠ 0 → w' R = w R) ∧ ∀ i, i ≠ 9 → i ≠ 10 → i ≠ 11 → i ≠ 12 → w' 0 i = w 0 i
theorem FC.rfl {u : RS} : FC u u := ⟨fun _ _ => Eq.refl _, fun _ _ _ _ => Eq.refl _⟩
theorem FW.rfl {u : RS} : FW u u := ⟨fun _ _ => Eq.refl _, fun _ _ _ _ _ => Eq.refl _⟩
theorem FC.trans {a b c : RS} (h : FC a b) (h2 : FC b c) : FC a c := ⟨fun R q => (h.1 R q).trans (h2.1 R q), fun i p q r => (h.2 i p q r).trans (h2.2 i p q r)⟩
theorem FW.trans {a b c : RS} (h : FW a b) (h2 : FW b c) : FW a c := ⟨fun R q => (h.1 R q).trans (h2.1 R q), fun i o p q r => (h.2 i o p q r).trans (h2.2 i o p q r)⟩
theorem FC.up {u : RS} {i : Nat} {x : Int32} (hi : i = 6 ∨ i = 7 ∨ i = 8) : FC (up u 0 i x) u := ⟨fun R q => up_or q, fun j a b c => up_ne (by omega)⟩
theorem FW.up {u : RS} {i : Nat} {x : Int32} (hi : i = 9 ∨ i = 10 ∨ i = 11 ∨ i = 12) : FW (up u 0 i x) u := ⟨fun R q => up_or q, fun j a b c d => up_ne (by omega)⟩
theorem TC.fr {b : Nat → Int32} {n : Nat} {u u' : RS} (h : TC b n u) (f : FC u' u) : TC b n u' := ⟨(f.2 5 (by decide) (by decide) (by decide)).trans h.1, fun k q => by rw [f.1 3 (by decide)]; exact h.2 k q⟩
theorem TW.fr {b : Nat → Int32} {n : Nat} {u u' : RS} (h : TW b n u) (f : FW u' u) : TW b n u' := ⟨(f.2 8 (by decide) (by decide) (by decide) (by decide)).trans h.1, fun k q => by rw [f.1 6 (by decide)]; exact h.2 k q⟩
theorem up_up {u : RS} {k i : Nat} {x y : Int32} : up (up u k i x) k i y = up u k i y := by
  funext R j
  simp only [up_at]
  split <;> rfl
theorem up_id {u : RS} {k i : Nat} {x : Int32} (h : u k i = x) : up u k i x = u := by
  funext R j
  rw [up_at]
  split
  · rename_i q; rw [q.1, q.2, h]
  · rfl
theorem here_ok {b : Nat → Int32} {n i : Nat} {w : RS} (hb : BB b n) (ht : TW b n w) (h9 : w 0 9 = nI i) (hi : i ≤ n) : F8_here w = some (hv (ch b n i)) := by
  have hn := hb.1
  unfold F8_here
  rw [ht.1, h9]
  by_cases c : i < n
  · have e := cd_spec (hb.2 i c)
    rw [if_neg (nI_ge c (by omega)), rd_n (by omega) (by omega), bS, bS, ht.2 i c, ch_i c]
    rw [e.1]
    unfold hv
    rw [if_neg (by omega)]
  · rw [if_pos (nI_le (by omega) (by omega)), bS, ch_n (by omega)]; rfl
noncomputable def sk (b : Nat → Int32) : Nat → Nat → Nat
  | 0, i => i
  | d + 1, i => if cd (b i) = 32 then sk b d (i + 1) else i
theorem sk_le {b : Nat → Int32} : ∀ d i, i ≤ sk b d i ∧ sk b d i ≤ i + d
  | 0, i => ⟨Nat.le_refl _, Nat.le_refl _⟩
  | d + 1, i => by
    have := sk_le (b := b) d (i + 1)
    unfold sk; split <;> omega
theorem sk_nb {b : Nat → Int32} : ∀ d i, sk b d i < i + d → cd (b (sk b d i)) ≠ 32
  | 0, i => fun h => by unfold sk at h; omega
  | d + 1, i => by
    have := sk_nb (b := b) d (i + 1)
    unfold sk; split
    · intro h; exact this (by omega)
    · rename_i q; exact fun _ => q
noncomputable def SK (b : Nat → Int32) (n i : Nat) : Nat := sk b (n - i) i
theorem SK_le {b : Nat → Int32} {n i : Nat} (h : i ≤ n) : i ≤ SK b n i ∧ SK b n i ≤ n := by
  have := sk_le (b := b) (n - i) i
  unfold SK; omega
theorem SK_nb {b : Nat → Int32} {n i : Nat} (h : i ≤ n) : ch b n (SK b n i) ≠ 32 := by
  have h1 := SK_le (b := b) h
  by_cases c : SK b n i < n
  · rw [ch_i c]; exact sk_nb (n - i) i (by unfold SK at c; omega)
  · rw [ch_n (by omega)]; decide
theorem SK_id {b : Nat → Int32} {n i : Nat} (h : ch b n i ≠ 32) : SK b n i = i := by
  unfold SK
  by_cases c : i < n
  · rw [ch_i c] at h
    obtain ⟨d, hd⟩ : ∃ d, n - i = d + 1 := ⟨n - i - 1, by omega⟩
    rw [hd]; unfold sk; rw [if_neg h]
  · rw [show n - i = 0 by omega]; rfl
theorem skC {b : Nat → Int32} {n : Nat} {g : CG} (hb : BB b n) : ∀ (d i f : Nat) (u : RS), i + d = n → d < f → TC b n u → u 0 6 = nI i → C5_skipSpaces_L0 g f u = some (up u 0 6 (nI (sk b d i)))
  | 0, i, f, u, h1, h2, h3, h4 => by
    have hn := hb.1
    obtain ⟨f, rfl⟩ : ∃ m, f = m + 1 := ⟨f - 1, by omega⟩
    rw [C5_skipSpaces_L0, h3.1, h4, if_pos (nI_le (by omega) (by omega))]
    show some u = some (up u 0 6 (nI i))
    rw [up_id h4]
  | d + 1, i, f, u, h1, h2, h3, h4 => by
    have hn := hb.1
    obtain ⟨f, rfl⟩ : ∃ m, f = m + 1 := ⟨f - 1, by omega⟩
    rw [C5_skipSpaces_L0, h3.1, h4, if_neg (nI_ge (by omega) (by omega)), rd_n (by omega) (by omega), bS, h3.2 i (by omega)]
    have e : b i = (32 : Int32) ↔ cd (b i) = 32 := b_eq (hb.2 i (by omega)) (c := 32) (by omega)
    unfold sk
    by_cases c : cd (b i) = 32
    · rw [if_pos c, if_pos (e.mpr c), pt_n, bS, show nI i + 1 = nI (i + 1) from nI_add _ 1, skC hb d (i + 1) f (up u 0 6 (nI (i + 1))) (by omega) (by omega) (h3.fr (FC.up (by omega))) up_eq, up_up]
    · rw [if_neg c, if_neg (fun q => c (e.mp q)), up_id h4]
theorem skW {b : Nat → Int32} {n : Nat} (hb : BB b n) : ∀ (d i f : Nat) (w : RS), i + d = n → d < f → TW b n w → w 0 9 = nI i → F8_next_L0 f w = some (up w 0 9 (nI (sk b d i)))
  | 0, i, f, w, h1, h2, h3, h4 => by
    have hn := hb.1
    obtain ⟨f, rfl⟩ : ∃ m, f = m + 1 := ⟨f - 1, by omega⟩
    rw [F8_next_L0, here_ok hb h3 h4 (by omega), bS, ch_n (by omega)]
    rw [if_neg (show ¬ hv 256 = 32 from fun q => absurd ((hv_eq (c := 32) (by omega) (by omega)).mp q) (by omega))]
    show some w = some (up w 0 9 (nI i))
    rw [up_id h4]
  | d + 1, i, f, w, h1, h2, h3, h4 => by
    have hn := hb.1
    obtain ⟨f, rfl⟩ : ∃ m, f = m + 1 := ⟨f - 1, by omega⟩
    rw [F8_next_L0, here_ok hb h3 h4 (by omega), bS, h4]
    have e : hv (ch b n i) = (32 : Int32) ↔ ch b n i = 32 := hv_eq (x := ch b n i) (c := 32) (ch_le hb) (by omega)
    rw [ch_i (show i < n by omega)] at e ⊢
    unfold sk
    by_cases c : cd (b i) = 32
    · rw [if_pos c, if_pos (e.mpr c), pt_n, bS, show nI i + 1 = nI (i + 1) from nI_add _ 1, skW hb d (i + 1) f (up w 0 9 (nI (i + 1))) (by omega) (by omega) (h3.fr (FW.up (by omega))) up_eq, up_up]
    · rw [if_neg c, if_neg (fun q => c (e.mp q)), up_id h4]
theorem skipC {b : Nat → Int32} {n i : Nat} {g : CG} {u : RS} (hb : BB b n) (ht : TC b n u) (h6 : u 0 6 = nI i) (hi : i ≤ n) : C5_skipSpaces g u = some (nI (SK b n i), up u 0 6 (nI (SK b n i))) := by
  have hn := hb.1
  unfold C5_skipSpaces
  rw [skC hb (n - i) i FUEL u (by omega) (by show n - i < 10000; omega) ht h6, bS, up_eq]; rfl
theorem nextW {b : Nat → Int32} {n i : Nat} {w : RS} (hb : BB b n) (ht : TW b n w) (h9 : w 0 9 = nI i) (hi : i ≤ n) : F8_next w = some (hv (ch b n (SK b n i)), up (up w 0 9 (nI (SK b n i))) 0 10 (nI (SK b n i))) := by
  have hn := hb.1
  have hs := SK_le (b := b) hi
  unfold F8_next
  rw [skW hb (n - i) i FUEL w (by omega) (by show n - i < 10000; omega) ht h9, bS, pt_n, bS, up_eq]
  rw [here_ok hb (i := SK b n i) ((ht.fr (FW.up (by omega))).fr (FW.up (by omega))) (by rw [up_ne (by omega), up_eq]; rfl) hs.2, bS]; rfl
