theorem nn_32 {x : UInt32} (h : x &&& 0x7fffffff ≤ 0x7f800000) : FP.Core.decode FP.Core.b32 x.toNat ≠ .nan := by
  intro e
  rw [UInt32.le_iff_toNat_le, UInt32.toNat_and] at h
  have h3 : x.toNat &&& (2 ^ 31 - 1) ≤ 2139095040 := h
  rw [Nat.and_two_pow_sub_one_eq_mod] at h3
  have hx : x.toNat < 4294967296 := x.toNat_lt
  generalize x.toNat = n at *
  have en : n = (n / 2147483648 * 256 + n / 8388608 % 256) * 8388608 + n % 8388608 := by omega
  rw [en] at e
  exact de_32 (by omega) (by omega) (fun q => by omega) e
theorem ff_num {x : UInt32} (h : x &&& 0x7fffffff ≤ 0x7f800000) : vf_n64 (FP.f2d x) := by
  have hn := nn_32 h
  have e : FP.f2d x = FP.Core.f2d x := by
    unfold FP.f2d
    exact if_neg (fun q => hn (of_decide_eq_true (p := FP.Core.decode FP.Core.b32 x.toNat = .nan) q))
  have hf : fnn 53 971 (FP.Core.round FP.Core.b64 (FP.Core.decode FP.Core.b32 x.toNat)) := by
    generalize FP.Core.decode FP.Core.b32 x.toNat = d at hn ⊢
    cases d with
    | nan => exact absurd rfl hn
    | inf t => trivial
    | fin t c q => exact rr_64
  obtain ⟨s, k, t, h1, h2, h3, h4, h5⟩ := en_64 hf
  have hz := sz_64 h1 h2 h3
  rw [e]
  unfold vf_n64
  show UInt64.ofNat (FP.Core.encode FP.Core.b64 (FP.Core.round FP.Core.b64 (FP.Core.decode FP.Core.b32 x.toNat))) &&& 9223372036854775807 ≤ 9218868437227405312
  rw [h5]
  exact and_64 hz (by omega)
theorem fd_num {x y z : UInt32} (h : fd x y = some z) : vf_n64 (FP.f2d z) := by
  unfold fd at h
  split at h
  · rename_i q
    rw [← Option.some.inj h]
    exact ff_num q
  · cases h
theorem f0_num : vf_n64 (FP.f2d FP.fconst0) := ff_num (by decide)
theorem mean_F {r r2 : RS} {x : UInt32} (h : F8_meanFails r = some (x, r2)) : vf_n64 (FP.f2d x) := by
  unfold F8_meanFails at h
  obtain ⟨u1, -, h⟩ := ob h
  obtain ⟨t4, h1, h⟩ := ob h
  have e : t4 = x := (Prod.mk.inj (Option.some.inj h)).1
  rw [← e]
  split at h1
  · rw [← Option.some.inj h1]; exact f0_num
  · obtain ⟨x7, h2, h1⟩ := ob h1
    rw [← Option.some.inj h1]; exact fd_num h2
theorem mean_C {g : CG} {c : RS} {x : UInt32} (h : C7_meanFails g c = some x) : vf_n64 (FP.f2d x) := by
  unfold C7_meanFails at h
  obtain ⟨t4, h1, h⟩ := ob h
  have e : t4 = x := Option.some.inj h
  rw [← e]
  split at h1
  · rw [← Option.some.inj h1]; exact f0_num
  · obtain ⟨x7, h2, h1⟩ := ob h1
    rw [← Option.some.inj h1]; exact fd_num h2
theorem busy_C {g : CG} {c : RS} {a : Int32} {x : UInt32} (h : C7_busyPart g c a = some (.inr x)) : vf_n64 (FP.f2d x) := by
  unfold C7_busyPart at h
  obtain ⟨t1, -, h⟩ := ob h
  rcases t1 with t1 | t1
  · rw [trL] at h
    cases h
  · rw [trR] at h
    obtain ⟨t4, h1, h⟩ := ob h
    have e : t4 = x := Sum.inr.inj (Option.some.inj h)
    rw [← e]
    split at h1
    · rw [← Option.some.inj h1]; exact f0_num
    · obtain ⟨n8, -, h1⟩ := ob h1
      obtain ⟨x7, h2, h1⟩ := ob h1
      rw [← Option.some.inj h1]; exact fd_num h2
theorem nd_card {g : CG} {u : RS} {a k : Int32} (h : C7_needCard g u a = some (.inl k)) : k = 1 := by
  unfold C7_needCard at h
  split at h
  · exact (Sum.inl.inj (Option.some.inj h)).symm
  · split at h
    · cases h
    · exact (Sum.inl.inj (Option.some.inj h)).symm
theorem nd_lot {g : CG} {u : RS} {a k : Int32} (h : C7_needLot g u a = some (.inl k)) : k = 1 := by
  unfold C7_needLot at h
  split at h
  · exact (Sum.inl.inj (Option.some.inj h)).symm
  · split at h
    · cases h
    · exact (Sum.inl.inj (Option.some.inj h)).symm
theorem nd_station {g : CG} {u : RS} {a k : Int32} (h : C7_needStation g u a = some (.inl k)) : k = 1 := by
  unfold C7_needStation at h
  split at h
  · exact (Sum.inl.inj (Option.some.inj h)).symm
  · split at h
    · cases h
    · exact (Sum.inl.inj (Option.some.inj h)).symm
theorem tr_1 {α β : Type} {x : Option (Sum Int32 α)} {f : α → Option (Sum Int32 β)} {k : Int32} (h : (x.bind fun t => tr t f) = some (.inl k)) (h1 : ∀ z, x = some (.inl z) → z = 1) (h2 : ∀ a, f a = some (.inl k) → k = 1) : k = 1 := by
  obtain ⟨t, e, h⟩ := ob h
  rcases t with z | z
  · have h3 : some (Sum.inl z) = some (Sum.inl k) := h
    rw [← Sum.inl.inj (Option.some.inj h3)]
    exact h1 z e
  · exact h2 z h
