theorem start_GI {uz rz : RS} (hF : C3_begin gz0 uP 0 480 0 1 1 = some uz) (hM : F8_begins uM0 = some rz) : GI rz uz gz0 0 0 := by
  obtain ⟨U, k1, k2, k3, k4, k5, k6, k7, k8, k9, k10, k11, k12⟩ := begin_C (g := gz0) (u := uP) (L := 0) (d := 480) (bl := 0) (tr := 1) (ti := 1) (by omega)
  obtain rfl : U = uz := Option.some.inj (k1.symm.trans hF)
  obtain ⟨V, m1, m2, m3, m4, m5, m6⟩ := begins_ok (u := uM0)
  obtain rfl : V = rz := Option.some.inj (m1.symm.trans hM)
  have u0 : ∀ i, i ≠ 2 → U 0 i = nI 0 := fun i h => by
    rw [k2 0 (by omega) (by omega), uP_lo (by omega)]
    unfold uB
    rw [if_pos rfl, if_neg h]; rfl
  have u2 : U 0 2 = -1 := by rw [k2 0 (by omega) (by omega), uP_lo (by omega)]; rfl
  have v0 : ∀ i, i ≠ 16 → V 0 i = nI 0 := fun i h => by
    rw [m2 0 (by omega)]
    unfold uM0
    rw [if_pos rfl, if_neg h]; rfl
  have v2 : V 0 16 = -1 := by rw [m2 0 (by omega)]; rfl
  have n480 : (480 : Int32) = nI 480 := by decide
  have n1 : (1 : Int32) = nI 1 := by decide
  have n0 : (0 : Int32) = nI 0 := by decide
  have hz : ∀ L i, L < 12 → 17 ≤ i → U (10 + L) i = nI 0 := fun L i hL hi => by
    by_cases e : L = 0
    · subst e
      rw [k3 i hi, uP_hi (by omega) (by omega) (by omega)]; rfl
    · rw [k2 (10 + L) (by omega) (by omega), uP_hi (by omega) (by omega) (by omega)]; rfl
  have tn : TIn U 0 := fun L hL => by
    refine ⟨fun s hs => ?_, fun q hq => ?_⟩
    · rw [← sS_r (v := U (10 + L)) hs (by omega), hz L _ hL (by omega)]; decide
    · rw [← sC_r (v := U (10 + L)) hq (by omega), hz L _ hL (by omega)]; decide
  refine ⟨⟨0, 0, 0, ?_⟩, tn, ⟨0, 0, by omega, by omega, u0 3 (by omega), u0 4 (by omega), v0 5 (by omega), fun i hi => absurd hi (by omega)⟩, fun s hs => Or.inl ⟨?_, rfl⟩, ⟨?_, 0, by omega, u0 5 (by omega), v0 8 (by omega), fun k hk => absurd hk (by omega)⟩, ⟨?_, ?_⟩, ⟨0, 0, by omega, by omega, u0 0 (by omega), v0 22 (by omega)⟩, Nat.le_refl _⟩
  · refine QR.fresh (d := 480) (by omega) (by omega) (by omega) (k5.trans n480) (k11 6 (by omega) (by omega)) (k11 7 (by omega) (by omega)) (k11 8 (by omega) (by omega)) (k11 9 (by omega) (by omega)) (fun j p q r => ?_) (m6 10 (by omega) (by omega) (by omega) (by omega)) (m6 11 (by omega) (by omega) (by omega) (by omega)) (fun a ha => k4 a ha) (tn 0 (by omega))
    rcases (show j = 0 ∨ j = 1 ∨ j = 2 ∨ j = 3 ∨ j = 4 ∨ j = 5 ∨ (6 ≤ j ∧ j < 10) ∨ 12 ≤ j by omega) with rfl | rfl | rfl | rfl | rfl | rfl | z | z
    · rw [m3, k5]; exact n480.symm
    · rw [m4, k6]; exact n1.symm
    · rw [m5, k7]; exact n1.symm
    · rw [m6 3 (by omega) (by omega) (by omega) (by omega), k8]; exact n0.symm
    · rw [m6 4 (by omega) (by omega) (by omega) (by omega), k9]
    · rw [m6 5 (by omega) (by omega) (by omega) (by omega), k10]; exact n0.symm
    · rw [m6 j (by omega) (by omega) (by omega) (by omega), k11 j z.1 z.2]
    · rw [m6 j (by omega) (by omega) (by omega) (by omega), k12 j z p]
  · rw [m2 5 (by omega)]; rfl
  · rw [k2 5 (by omega) (by omega), uP_lo (by omega)]; rfl
  · rw [u0 1 (by omega), v0 15 (by omega)]
  · rw [u2, v2]
