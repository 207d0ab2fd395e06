theorem log_le {k n : Nat} (h0 : k ≠ 0) (h : k < 2 ^ n) : k.log2 < n := by
  have := Nat.log2_self_le h0
  by_cases q : k.log2 < n
  · exact q
  · have : 2 ^ n ≤ 2 ^ k.log2 := Nat.pow_le_pow_right (by omega) (by omega)
    omega
theorem near_pos {num den : Nat} (h0 : 0 < den) (h : den ≤ num) : FP.Core.nearest num den ≠ 0 := by
  have := Nat.div_pos h h0
  unfold FP.Core.nearest
  split
  · omega
  · split
    · omega
    · omega
theorem lead_le {k : Nat} : FP.Core.leading k 1 ≤ k.log2 := by
  unfold FP.Core.leading
  simp only
  have e : Nat.log2 1 = 0 := by decide
  rw [e]
  split <;> omega
noncomputable def fnn (p : Nat) (qx : Int) : FP.Core.Datum → Prop
  | .nan => False
  | .inf _ => True
  | .fin _ c q => c < 2 ^ p ∧ q ≤ qx
theorem t_32 : FP.Core.Fmt.tails FP.Core.b32 = 8388608 := by decide
theorem x_32 : FP.Core.Fmt.exps FP.Core.b32 = 256 := by decide
theorem n_32 : FP.Core.Fmt.qmin FP.Core.b32 = -149 := by decide
theorem m_32 : FP.Core.Fmt.qmax FP.Core.b32 = 104 := by decide
theorem p_32 : FP.Core.Fmt.p FP.Core.b32 = 24 := rfl
theorem w_32 : 2 ^ 24 = 16777216 := by decide
theorem bd_32 {s : Bool} {c : Nat} {q : Int} (h : c < 2 ^ 24) : fnn 24 104 (FP.Core.bound FP.Core.b32 s c q) := by
  unfold FP.Core.bound
  split
  · rename_i k; rw [m_32] at k; exact ⟨h, k⟩
  · trivial
theorem rr_32 {s : Bool} {c d : Nat} {q : Int} : fnn 24 104 (FP.Core.roundRatio FP.Core.b32 s c d q) := by
  unfold FP.Core.roundRatio
  split
  · refine ⟨Nat.two_pow_pos _, ?_⟩; rw [n_32]; decide
  · unfold FP.Core.roundAt FP.Core.settle
    rw [p_32]
    split
    · rename_i h; exact bd_32 h
    · refine bd_32 ?_; rw [t_32, w_32]; omega
theorem en_32 {d : FP.Core.Datum} (h : fnn 24 104 d) : ∃ s e t, s ≤ 1 ∧ e < 256 ∧ t < 8388608 ∧ (e = 255 → t = 0) ∧ FP.Core.encode FP.Core.b32 d = (s * 256 + e) * 8388608 + t := by
  cases d with
  | nan => exact absurd h (by simp [fnn])
  | inf s =>
    refine ⟨s.toNat, 255, 0, by cases s <;> decide, by omega, by omega, fun _ => rfl, ?_⟩
    unfold FP.Core.encode FP.Core.assemble
    rw [t_32, x_32]
  | fin s c q =>
    obtain ⟨h1, h2⟩ := h
    rw [w_32] at h1
    unfold FP.Core.encode FP.Core.assemble
    rw [t_32, x_32, n_32]
    dsimp only
    by_cases hc : c < 8388608
    · rw [if_pos hc]
      exact ⟨s.toNat, 0, c, by cases s <;> decide, by omega, hc, fun q => by omega, rfl⟩
    · rw [if_neg hc]
      exact ⟨s.toNat, (q - (-149)).toNat + 1, c - 8388608, by cases s <;> decide, by omega, by omega, fun q => by omega, rfl⟩
theorem fe_32 {s e t : Nat} (he : e < 256) (ht : t < 8388608) : FP.Core.fieldE FP.Core.b32 ((s * 256 + e) * 8388608 + t) = e := by
  unfold FP.Core.fieldE
  rw [t_32, x_32]
  rw [show ((s * 256 + e) * 8388608 + t) / 8388608 = s * 256 + e by omega]
  omega
theorem ft_32 {s e t : Nat} (ht : t < 8388608) : FP.Core.fieldT FP.Core.b32 ((s * 256 + e) * 8388608 + t) = t := by
  unfold FP.Core.fieldT
  rw [t_32]
  omega
theorem de_32 {s e t : Nat} (he : e < 256) (ht : t < 8388608) (h : e = 255 → t = 0) : FP.Core.decode FP.Core.b32 ((s * 256 + e) * 8388608 + t) ≠ .nan := by
  unfold FP.Core.decode
  rw [fe_32 he ht, ft_32 ht, x_32]
  split
  · rename_i q; rw [if_pos (h (by omega))]; exact fun k => by cases k
  · split <;> exact fun k => by cases k
theorem sz_32 {s e t : Nat} (hs : s ≤ 1) (he : e < 256) (ht : t < 8388608) : (s * 256 + e) * 8388608 + t < 4294967296 := by omega
theorem it_32 {a : Int32} : FP.Core.decode FP.Core.b32 (FP.i2f a).toNat ≠ .nan := by
  show FP.Core.decode FP.Core.b32 (UInt32.ofNat (FP.Core.encode FP.Core.b32 (FP.Core.round FP.Core.b32 (FP.Core.ofInt a.toInt)))).toNat ≠ .nan
  have h : fnn 24 104 (FP.Core.round FP.Core.b32 (FP.Core.ofInt a.toInt)) := by unfold FP.Core.ofInt FP.Core.round; exact rr_32
  obtain ⟨s, e, t, h1, h2, h3, h4, h5⟩ := en_32 h
  rw [h5, UInt32.toNat_ofNat_of_lt' (by show _ < 4294967296; exact sz_32 h1 h2 h3)]
  exact de_32 h2 h3 h4
theorem ip_32 {a : Int32} (ha : a ≠ nI 0) : ∃ s c q, FP.Core.decode FP.Core.b32 (FP.i2f a).toNat = .fin s c q ∧ c ≠ 0 := by
  show ∃ s c q, FP.Core.decode FP.Core.b32 (UInt32.ofNat (FP.Core.encode FP.Core.b32 (FP.Core.round FP.Core.b32 (FP.Core.ofInt a.toInt)))).toNat = .fin s c q ∧ c ≠ 0
  have h0 : a.toInt.natAbs ≠ 0 := fun e => ha (Int32.toInt_inj.mp (by rw [nI_toInt (by omega)]; omega))
  have hk : a.toInt.natAbs < 2 ^ 32 := by
    have h1 : a.toInt < 2 ^ 31 := Int32.toInt_lt a
    have h2 : -2 ^ 31 ≤ a.toInt := Int32.le_toInt a
    omega
  have hd : ∃ s c q, FP.Core.round FP.Core.b32 (FP.Core.ofInt a.toInt) = .fin s c q ∧ c ≠ 0 := by
    unfold FP.Core.ofInt FP.Core.round FP.Core.roundRatio
    dsimp only
    generalize a.toInt.natAbs = k at h0 hk
    rw [if_neg (by omega)]
    unfold FP.Core.roundAt
    have hl := log_le h0 hk
    have hl2 := @lead_le k
    have hq : FP.Core.quantum FP.Core.b32 k 1 0 = max (-149) (FP.Core.leading k 1 + 0 - ((24 : Int) - 1)) := by
      unfold FP.Core.quantum; rw [n_32]; rfl
    rw [hq]
    generalize hQ : max (-149 : Int) (FP.Core.leading k 1 + 0 - ((24 : Int) - 1)) = Q
    have hQ1 : Q ≤ 32 := by omega
    have hQ2 : 0 < Q → Q ≤ k.log2 := by omega
    have hN : FP.Core.nearest (FP.Core.unitsNum k 0 Q) (FP.Core.unitsDen 1 0 Q) ≠ 0 := by
      refine near_pos ?_ ?_
      · unfold FP.Core.unitsDen; rw [Nat.one_mul]; exact Nat.two_pow_pos _
      · unfold FP.Core.unitsDen FP.Core.unitsNum
        rw [Nat.one_mul]
        by_cases c : 0 < Q
        · have : 2 ^ (Q - 0).toNat ≤ 2 ^ k.log2 := Nat.pow_le_pow_right (by omega) (by have := hQ2 c; omega)
          have h2 := Nat.log2_self_le h0
          have h3 : (0 - Q).toNat = 0 := by omega
          rw [h3]; omega
        · have h3 : (Q - 0).toNat = 0 := by omega
          rw [h3]
          have := Nat.two_pow_pos (0 - Q).toNat
          exact Nat.mul_pos (by omega) this
    generalize FP.Core.nearest (FP.Core.unitsNum k 0 Q) (FP.Core.unitsDen 1 0 Q) = N at hN
    unfold FP.Core.settle
    split
    · unfold FP.Core.bound
      rw [if_pos (by rw [m_32]; omega)]
      exact ⟨_, _, _, rfl, hN⟩
    · unfold FP.Core.bound
      rw [if_pos (by rw [m_32]; omega)]
      exact ⟨_, _, _, rfl, by rw [t_32]; omega⟩
  obtain ⟨s, c, q, e1, e2⟩ := hd
  have h : fnn 24 104 (FP.Core.round FP.Core.b32 (FP.Core.ofInt a.toInt)) := by unfold FP.Core.ofInt FP.Core.round; exact rr_32
  rw [e1] at h
  rw [e1]
  obtain ⟨h1, h2⟩ := h
  rw [w_32] at h1
  unfold FP.Core.encode FP.Core.assemble
  rw [t_32, x_32, n_32]
  dsimp only
  have hs : s.toNat ≤ 1 := by cases s <;> decide
  by_cases hc : c < 8388608
  · rw [if_pos hc, UInt32.toNat_ofNat_of_lt' (by show _ < 4294967296; exact sz_32 hs (by omega) hc)]
    unfold FP.Core.decode
    rw [fe_32 (by omega) hc, ft_32 hc, x_32, if_neg (by omega), if_pos rfl]
    exact ⟨_, _, _, rfl, e2⟩
  · rw [if_neg hc, UInt32.toNat_ofNat_of_lt' (by show _ < 4294967296; exact sz_32 hs (by omega) (by omega))]
    unfold FP.Core.decode
    rw [fe_32 (by omega) (by omega), ft_32 (by omega), x_32, if_neg (by omega), if_neg (by omega), t_32]
    exact ⟨_, _, _, rfl, by omega⟩
theorem qn_32 {x y : FP.Core.Datum} (hx : x ≠ .nan) {s : Bool} {c : Nat} {q : Int} (hy : y = .fin s c q) (hc : c ≠ 0) : fnn 24 104 (FP.Core.quotient FP.Core.b32 x y) := by
  subst hy
  cases x with
  | nan => exact absurd rfl hx
  | inf t => trivial
  | fin t d r =>
    unfold FP.Core.quotient
    simp only
    rw [if_neg hc]
    exact rr_32
theorem and_32 {n : Nat} (hn : n < 4294967296) (h : n % 2147483648 ≤ 2139095040) : UInt32.ofNat n &&& 2147483647 ≤ 2139095040 := by
  rw [UInt32.le_iff_toNat_le, UInt32.toNat_and, UInt32.toNat_ofNat_of_lt' (by show _ < 4294967296; exact hn)]
  show n &&& (2 ^ 31 - 1) ≤ 2139095040
  rw [Nat.and_two_pow_sub_one_eq_mod]
  exact h
theorem fd_nz {a b : Int32} (h0 : b ≠ nI 0) : fd (FP.i2f a) (FP.i2f b) = some (FP.fdiv (FP.i2f a) (FP.i2f b)) := by
  unfold fd
  refine if_pos ?_
  obtain ⟨s, c, q, e1, e2⟩ := ip_32 h0
  have h := qn_32 (it_32 (a := a)) e1 e2
  obtain ⟨s, e, t, h1, h2, h3, h4, h5⟩ := en_32 h
  have hz := sz_32 h1 h2 h3
  show UInt32.ofNat (FP.Core.encode FP.Core.b32 (FP.Core.quotient FP.Core.b32 (FP.Core.decode FP.Core.b32 (FP.i2f a).toNat) (FP.Core.decode FP.Core.b32 (FP.i2f b).toNat))) &&& 2147483647 ≤ 2139095040
  rw [h5]
  exact and_32 hz (by omega)
theorem fd_ok {a : Int32} {k : Nat} (h0 : k ≠ 0) (hk : k < 2 ^ 31) : fd (FP.i2f a) (FP.i2f (nI k)) = some (FP.fdiv (FP.i2f a) (FP.i2f (nI k))) := fd_nz (nI_ne h0 hk (by omega))
theorem t_64 : FP.Core.Fmt.tails FP.Core.b64 = 4503599627370496 := by decide
theorem x_64 : FP.Core.Fmt.exps FP.Core.b64 = 2048 := by decide
theorem n_64 : FP.Core.Fmt.qmin FP.Core.b64 = -1074 := by decide
theorem m_64 : FP.Core.Fmt.qmax FP.Core.b64 = 971 := by decide
theorem p_64 : FP.Core.Fmt.p FP.Core.b64 = 53 := rfl
theorem w_64 : 2 ^ 53 = 9007199254740992 := by decide
theorem bd_64 {s : Bool} {c : Nat} {q : Int} (h : c < 2 ^ 53) : fnn 53 971 (FP.Core.bound FP.Core.b64 s c q) := by
  unfold FP.Core.bound
  split
  · rename_i k; rw [m_64] at k; exact ⟨h, k⟩
  · trivial
theorem rr_64 {s : Bool} {c d : Nat} {q : Int} : fnn 53 971 (FP.Core.roundRatio FP.Core.b64 s c d q) := by
  unfold FP.Core.roundRatio
  split
  · refine ⟨Nat.two_pow_pos _, ?_⟩; rw [n_64]; decide
  · unfold FP.Core.roundAt FP.Core.settle
    rw [p_64]
    split
    · rename_i h; exact bd_64 h
    · refine bd_64 ?_; rw [t_64, w_64]; omega
theorem en_64 {d : FP.Core.Datum} (h : fnn 53 971 d) : ∃ s e t, s ≤ 1 ∧ e < 2048 ∧ t < 4503599627370496 ∧ (e = 2047 → t = 0) ∧ FP.Core.encode FP.Core.b64 d = (s * 2048 + e) * 4503599627370496 + t := by
  cases d with
  | nan => exact absurd h (by simp [fnn])
  | inf s =>
    refine ⟨s.toNat, 2047, 0, by cases s <;> decide, by omega, by omega, fun _ => rfl, ?_⟩
    unfold FP.Core.encode FP.Core.assemble
    rw [t_64, x_64]
  | fin s c q =>
    obtain ⟨h1, h2⟩ := h
    rw [w_64] at h1
    unfold FP.Core.encode FP.Core.assemble
    rw [t_64, x_64, n_64]
    dsimp only
    by_cases hc : c < 4503599627370496
    · rw [if_pos hc]
      exact ⟨s.toNat, 0, c, by cases s <;> decide, by omega, hc, fun q => by omega, rfl⟩
    · rw [if_neg hc]
      exact ⟨s.toNat, (q - (-1074)).toNat + 1, c - 4503599627370496, by cases s <;> decide, by omega, by omega, fun q => by omega, rfl⟩
theorem fe_64 {s e t : Nat} (he : e < 2048) (ht : t < 4503599627370496) : FP.Core.fieldE FP.Core.b64 ((s * 2048 + e) * 4503599627370496 + t) = e := by
  unfold FP.Core.fieldE
  rw [t_64, x_64]
  rw [show ((s * 2048 + e) * 4503599627370496 + t) / 4503599627370496 = s * 2048 + e by omega]
  omega
theorem ft_64 {s e t : Nat} (ht : t < 4503599627370496) : FP.Core.fieldT FP.Core.b64 ((s * 2048 + e) * 4503599627370496 + t) = t := by
  unfold FP.Core.fieldT
  rw [t_64]
  omega
theorem de_64 {s e t : Nat} (he : e < 2048) (ht : t < 4503599627370496) (h : e = 2047 → t = 0) : FP.Core.decode FP.Core.b64 ((s * 2048 + e) * 4503599627370496 + t) ≠ .nan := by
  unfold FP.Core.decode
  rw [fe_64 he ht, ft_64 ht, x_64]
  split
  · rename_i q; rw [if_pos (h (by omega))]; exact fun k => by cases k
  · split <;> exact fun k => by cases k
theorem sz_64 {s e t : Nat} (hs : s ≤ 1) (he : e < 2048) (ht : t < 4503599627370496) : (s * 2048 + e) * 4503599627370496 + t < 18446744073709551616 := by omega
theorem it_64 {a : Int32} : FP.Core.decode FP.Core.b64 (FP.i2d a).toNat ≠ .nan := by
  show FP.Core.decode FP.Core.b64 (UInt64.ofNat (FP.Core.encode FP.Core.b64 (FP.Core.round FP.Core.b64 (FP.Core.ofInt a.toInt)))).toNat ≠ .nan
  have h : fnn 53 971 (FP.Core.round FP.Core.b64 (FP.Core.ofInt a.toInt)) := by unfold FP.Core.ofInt FP.Core.round; exact rr_64
  obtain ⟨s, e, t, h1, h2, h3, h4, h5⟩ := en_64 h
  rw [h5, UInt64.toNat_ofNat_of_lt' (by show _ < 18446744073709551616; exact sz_64 h1 h2 h3)]
  exact de_64 h2 h3 h4
theorem ip_64 {a : Int32} (ha : a ≠ nI 0) : ∃ s c q, FP.Core.decode FP.Core.b64 (FP.i2d a).toNat = .fin s c q ∧ c ≠ 0 := by
  show ∃ s c q, FP.Core.decode FP.Core.b64 (UInt64.ofNat (FP.Core.encode FP.Core.b64 (FP.Core.round FP.Core.b64 (FP.Core.ofInt a.toInt)))).toNat = .fin s c q ∧ c ≠ 0
  have h0 : a.toInt.natAbs ≠ 0 := fun e => ha (Int32.toInt_inj.mp (by rw [nI_toInt (by omega)]; omega))
  have hk : a.toInt.natAbs < 2 ^ 32 := by
    have h1 : a.toInt < 2 ^ 31 := Int32.toInt_lt a
    have h2 : -2 ^ 31 ≤ a.toInt := Int32.le_toInt a
    omega
  have hd : ∃ s c q, FP.Core.round FP.Core.b64 (FP.Core.ofInt a.toInt) = .fin s c q ∧ c ≠ 0 := by
    unfold FP.Core.ofInt FP.Core.round FP.Core.roundRatio
    dsimp only
    generalize a.toInt.natAbs = k at h0 hk
    rw [if_neg (by omega)]
    unfold FP.Core.roundAt
    have hl := log_le h0 hk
    have hl2 := @lead_le k
    have hq : FP.Core.quantum FP.Core.b64 k 1 0 = max (-1074) (FP.Core.leading k 1 + 0 - ((53 : Int) - 1)) := by
      unfold FP.Core.quantum; rw [n_64]; rfl
    rw [hq]
    generalize hQ : max (-1074 : Int) (FP.Core.leading k 1 + 0 - ((53 : Int) - 1)) = Q
    have hQ1 : Q ≤ 32 := by omega
    have hQ2 : 0 < Q → Q ≤ k.log2 := by omega
    have hN : FP.Core.nearest (FP.Core.unitsNum k 0 Q) (FP.Core.unitsDen 1 0 Q) ≠ 0 := by
      refine near_pos ?_ ?_
      · unfold FP.Core.unitsDen; rw [Nat.one_mul]; exact Nat.two_pow_pos _
      · unfold FP.Core.unitsDen FP.Core.unitsNum
        rw [Nat.one_mul]
        by_cases c : 0 < Q
        · have : 2 ^ (Q - 0).toNat ≤ 2 ^ k.log2 := Nat.pow_le_pow_right (by omega) (by have := hQ2 c; omega)
          have h2 := Nat.log2_self_le h0
          have h3 : (0 - Q).toNat = 0 := by omega
          rw [h3]; omega
        · have h3 : (Q - 0).toNat = 0 := by omega
          rw [h3]
          have := Nat.two_pow_pos (0 - Q).toNat
          exact Nat.mul_pos (by omega) this
    generalize FP.Core.nearest (FP.Core.unitsNum k 0 Q) (FP.Core.unitsDen 1 0 Q) = N at hN
    unfold FP.Core.settle
    split
    · unfold FP.Core.bound
      rw [if_pos (by rw [m_64]; omega)]
      exact ⟨_, _, _, rfl, hN⟩
    · unfold FP.Core.bound
      rw [if_pos (by rw [m_64]; omega)]
      exact ⟨_, _, _, rfl, by rw [t_64]; omega⟩
  obtain ⟨s, c, q, e1, e2⟩ := hd
  have h : fnn 53 971 (FP.Core.round FP.Core.b64 (FP.Core.ofInt a.toInt)) := by unfold FP.Core.ofInt FP.Core.round; exact rr_64
  rw [e1] at h
  rw [e1]
  obtain ⟨h1, h2⟩ := h
  rw [w_64] at h1
  unfold FP.Core.encode FP.Core.assemble
  rw [t_64, x_64, n_64]
  dsimp only
  have hs : s.toNat ≤ 1 := by cases s <;> decide
  by_cases hc : c < 4503599627370496
  · rw [if_pos hc, UInt64.toNat_ofNat_of_lt' (by show _ < 18446744073709551616; exact sz_64 hs (by omega) hc)]
    unfold FP.Core.decode
    rw [fe_64 (by omega) hc, ft_64 hc, x_64, if_neg (by omega), if_pos rfl]
    exact ⟨_, _, _, rfl, e2⟩
  · rw [if_neg hc, UInt64.toNat_ofNat_of_lt' (by show _ < 18446744073709551616; exact sz_64 hs (by omega) (by omega))]
    unfold FP.Core.decode
    rw [fe_64 (by omega) (by omega), ft_64 (by omega), x_64, if_neg (by omega), if_neg (by omega), t_64]
    exact ⟨_, _, _, rfl, by omega⟩
theorem qn_64 {x y : FP.Core.Datum} (hx : x ≠ .nan) {s : Bool} {c : Nat} {q : Int} (hy : y = .fin s c q) (hc : c ≠ 0) : fnn 53 971 (FP.Core.quotient FP.Core.b64 x y) := by
  subst hy
  cases x with
  | nan => exact absurd rfl hx
  | inf t => trivial
  | fin t d r =>
    unfold FP.Core.quotient
    simp only
    rw [if_neg hc]
    exact rr_64
theorem and_64 {n : Nat} (hn : n < 18446744073709551616) (h : n % 9223372036854775808 ≤ 9218868437227405312) : UInt64.ofNat n &&& 9223372036854775807 ≤ 9218868437227405312 := by
  rw [UInt64.le_iff_toNat_le, UInt64.toNat_and, UInt64.toNat_ofNat_of_lt' (by show _ < 18446744073709551616; exact hn)]
  show n &&& (2 ^ 63 - 1) ≤ 9218868437227405312
  rw [Nat.and_two_pow_sub_one_eq_mod]
  exact h
theorem dd_nz {a b : Int32} (h0 : b ≠ nI 0) : dd (FP.i2d a) (FP.i2d b) = some (FP.ddiv (FP.i2d a) (FP.i2d b)) := by
  unfold dd
  refine if_pos ?_
  obtain ⟨s, c, q, e1, e2⟩ := ip_64 h0
  have h := qn_64 (it_64 (a := a)) e1 e2
  obtain ⟨s, e, t, h1, h2, h3, h4, h5⟩ := en_64 h
  have hz := sz_64 h1 h2 h3
  show UInt64.ofNat (FP.Core.encode FP.Core.b64 (FP.Core.quotient FP.Core.b64 (FP.Core.decode FP.Core.b64 (FP.i2d a).toNat) (FP.Core.decode FP.Core.b64 (FP.i2d b).toNat))) &&& 9223372036854775807 ≤ 9218868437227405312
  rw [h5]
  exact and_64 hz (by omega)
