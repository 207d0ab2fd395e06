theorem my_z32 {x : Int32} : x = 0 ↔ x.toBitVec = 0#32 := ⟨fun h => by rw [h]; rfl, fun h => Int32.toBitVec_inj.mp h⟩
theorem my_255 : ∀ i : Nat, i < 32 → (255#64).getLsbD i = decide (i < 8) := by decide +kernel
theorem my_bz (v : BitVec 64) (n : Nat) (hn : n ≤ 56) : ((((v >>> n).signExtend 32).signExtend 8).signExtend 32 = 0#32) ↔ (((v.sshiftRight n) &&& 255#64).signExtend 32 = 0#32) := by
  have key1 : ((((v >>> n).signExtend 32).signExtend 8).signExtend 32 = 0#32) ↔ ∀ i : Nat, i < 8 → v.getLsbD (n + i) = false := by
    constructor
    · intro h i hi
      have e := congrArg (fun x : BitVec 32 => x.getLsbD i) h
      simp only [BitVec.getLsbD_signExtend, BitVec.getLsbD_ushiftRight, BitVec.getLsbD_zero] at e
      simpa [show i < 32 by omega, hi, show i < 64 by omega] using e
    · intro h
      apply BitVec.eq_of_getLsbD_eq
      intro i hi
      have h7 := h 7 (by decide)
      simp only [BitVec.getLsbD_signExtend, BitVec.getLsbD_ushiftRight, BitVec.getLsbD_zero, BitVec.msb_eq_getLsbD_last]
      by_cases h8 : i < 8
      · have := h i h8
        simp [h8, this, hi, show i < 64 by omega, show ¬ 64 ≤ i by omega]
      · simp [h8, h7]
  have key2 : (((v.sshiftRight n) &&& 255#64).signExtend 32 = 0#32) ↔ ∀ i : Nat, i < 8 → v.getLsbD (n + i) = false := by
    constructor
    · intro h i hi
      have e := congrArg (fun x : BitVec 32 => x.getLsbD i) h
      simp only [BitVec.getLsbD_signExtend, BitVec.getLsbD_and, BitVec.getLsbD_sshiftRight, BitVec.getLsbD_zero, my_255 i (by omega)] at e
      simpa [show i < 32 by omega, hi, show i < 64 by omega, show n + i < 64 by omega, show ¬ 64 ≤ i by omega] using e
    · intro h
      apply BitVec.eq_of_getLsbD_eq
      intro i hi
      simp only [BitVec.getLsbD_signExtend, BitVec.getLsbD_and, BitVec.getLsbD_sshiftRight, BitVec.getLsbD_zero, my_255 i hi]
      by_cases h8 : i < 8
      · have := h i h8
        have h9 : v[n + i]'(by omega) = false := by rw [← BitVec.getLsbD_eq_getElem]; exact this
        simp [h8, h9, hi, show n + i < 64 by omega, show i < 64 by omega]
      · simp [h8, hi, show ¬ 64 ≤ i by omega]
  exact key1.trans key2.symm
theorem cB_bM {b : Int64} {k : Nat} (hk : k < 8) : cB b (sh k) = 0 ↔ bM b (nI k) = 0 := by
  rw [my_z32, my_z32]
  rcases (show k = 0 ∨ k = 1 ∨ k = 2 ∨ k = 3 ∨ k = 4 ∨ k = 5 ∨ k = 6 ∨ k = 7 by omega) with rfl | rfl | rfl | rfl | rfl | rfl | rfl | rfl
  · exact my_bz b.toBitVec 56 (by decide)
  · exact my_bz b.toBitVec 48 (by decide)
  · exact my_bz b.toBitVec 40 (by decide)
  · exact my_bz b.toBitVec 32 (by decide)
  · exact my_bz b.toBitVec 24 (by decide)
  · exact my_bz b.toBitVec 16 (by decide)
  · exact my_bz b.toBitVec 8 (by decide)
  · exact my_bz b.toBitVec 0 (by decide)
theorem cn_cm_le (b : Int64) : ∀ k : Nat, k ≤ 8 → cn b k = cm b k
  | 0, _ => rfl
  | k + 1, hk => by
    have e := cn_cm_le b k (by omega)
    have hz := cB_bM (b := b) (k := k) (by omega)
    by_cases h : cB b (sh k) = 0
    · rw [cn_z h, cm_z (hz.mp h), e]
    · rw [cn_s h, cm_s (fun h2 => h (hz.mpr h2)), e]
theorem cn_cm (b : Int64) : cn b 8 = cm b 8 := cn_cm_le b 8 (Nat.le_refl 8)
