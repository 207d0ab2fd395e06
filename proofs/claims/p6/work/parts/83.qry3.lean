noncomputable def QTf (F : Option (UInt32 × RS)) (C : Option (Sum Int32 UInt32)) (r : RS) : Prop := (∃ x, F = some (x, th r 0) ∧ C = some (.inr x)) ∨ (F = some (FP.fconst0, th r 1) ∧ C = some (.inl (nI 1)))
theorem q_yieldPart {r c : RS} {g : CG} {B T : Nat} (h : GI r c g B T) : QP (F8_yieldPart r) (C7_yieldPart g c) r := by
  obtain ⟨sm, lm, cm, h0⟩ := h.l
  have e12 : r 1 12 = c (10 + 0) 12 := QR.ra h0 (by omega) (by omega) (by omega)
  have v10 : r 1 10 = c (400 + 0) 3 := by rw [sA_r (v := r 1) (by omega), h0.n.nl]
  unfold F8_yieldPart C7_yieldPart
  simp only [lit32]
  rw [zth, bS]
  simp only [th1, Nat.add_zero]
  rw [← show r 1 12 = c 10 12 from e12, v10]
  by_cases e : r 1 12 = nI 0
  · rw [e, if_pos rfl, bS, bS]; exact ⟨_, rfl, rfl⟩
  · rw [if_neg e, dd_nz e, bS, bS, bS]; exact ⟨_, rfl, rfl⟩
theorem q_meanFails {r c : RS} {g : CG} {B T : Nat} (h : GI r c g B T) : QP (F8_meanFails r) (C7_meanFails g c) r := by
  obtain ⟨sm, lm, cm, h0⟩ := h.l
  have hcm := h0.a.cm30
  have e13 : r 1 13 = c (10 + 0) (12 + 1) := QR.ra h0 (by omega) (by omega) (by omega)
  unfold F8_meanFails C7_meanFails
  simp only [lit32]
  rw [zth, bS]
  simp only [th1]
  rw [h0.v9, h0.n9, e13]
  by_cases k0 : cm = 0
  · rw [if_pos (congrArg nI k0), bS]
    rw [bS]; exact ⟨_, rfl, rfl⟩
  · rw [if_neg (nI_ne k0 (by omega) (by omega)), fd_ok k0 (by omega), bS, bS]
    rw [bS]; exact ⟨_, rfl, rfl⟩
theorem q_busyPart {r c : RS} {g : CG} {B T : Nat} {a : Int32} (h : GI r c g B T) : QTf (F8_busyPart r a) (C7_busyPart g c a) r := by
  obtain ⟨sm, lm, cm, h0⟩ := h.l
  have hsm := h0.a.sm6; have hbb := h0.a.bb
  obtain ⟨t, t1, t2⟩ := h0.a.time
  have c6 : c (10 + 0) 6 = nI t := by rw [sA_r (v := c (10 + 0)) (by omega)]; exact t2
  have v6 : r 1 6 = nI t := (QR.ra h0 (by omega) (by omega) (by omega)).trans c6
  unfold F8_busyPart C7_busyPart
  simp only [lit32]
  rcases argSt (r := r) (c := c) (g := g) (a := a) (n := sm) (by omega) h0.v7 h0.n7 with ⟨s, s1, rfl, s2, s3⟩ | ⟨s2, s3⟩
  · have hs6 : s < 6 := by omega
    have e : r 1 (17 + 16 * s + 12) = c (10 + 0) (17 + 16 * s + 12) := QR.rs h0 s1 (by omega) (by omega)
    rw [s2, s3, bS, bS, isThrown_1, bS, trR]
    simp only [if_true, th1]
    rw [v6, c6]
    by_cases k0 : t = 0
    · rw [if_pos (congrArg nI k0), bS, if_pos (congrArg nI k0), bS]; exact Or.inl ⟨_, rfl, rfl⟩
    · rw [if_neg (nI_ne k0 (by omega) (by omega)), if_neg (nI_ne k0 (by omega) (by omega)), ix_n hs6 (by omega), bS, fd_ok k0 (by omega), bS, bS]
      rw [thR, F8_of_v hs6 (by omega), bS, e, fd_ok k0 (by omega), bS, bS, ← thR]
      exact Or.inl ⟨_, rfl, rfl⟩
  · rw [s2, s3, bS, bS, isThrown_0, bS, trL]
    refine Or.inr ⟨?_, rfl⟩
    simp only [nz0, if_false]
theorem toCome_L {r c : RS} {g : CG} {sm lm cm B U s : Nat} {v : Nat → Int32} {x7 x8 : Int32} (hg : g.nt < 2 ^ 31) (h : QY c g 0 v sm lm cm B U) (hs : s < sm) : ∀ (d y fu fu2 : Nat) (z : Int32), y + d = cm → d < fu → d < fu2 → ∃ z2, F8_bottleneck_L28 (nI s) x7 x8 (setR r v) fu (nI y) z = some (nI cm, z2) ∧ C3_ticksToCome_L4 0 (nI s) g c fu2 (nI y) z = some (nI cm, z2) := by
  have hcm := h.a.cm30; have hsm := h.a.sm6
  have h9v : v 9 = nI cm := h.v9
  intro d
  induction d with
  | zero =>
    intro y fu fu2 z hy hfu hfu2
    obtain ⟨fu, rfl⟩ : ∃ m, fu = m + 1 := ⟨fu - 1, by omega⟩
    obtain ⟨fu2, rfl⟩ : ∃ m, fu2 = m + 1 := ⟨fu2 - 1, by omega⟩
    obtain rfl : y = cm := by omega
    rw [F8_bottleneck_L28, C3_ticksToCome_L4, setR_1, h9v, h.n9, if_pos (nI_le (by omega) (by omega)), if_pos (nI_le (by omega) (by omega))]
    exact ⟨z, rfl, rfl⟩
  | succ d ih =>
    intro y fu fu2 z hy hfu hfu2
    obtain ⟨fu, rfl⟩ : ∃ m, fu = m + 1 := ⟨fu - 1, by omega⟩
    obtain ⟨fu2, rfl⟩ : ∃ m, fu2 = m + 1 := ⟨fu2 - 1, by omega⟩
    have hy : y < cm := by omega
    obtain ⟨a, a1, a2⟩ := h.c.state y hy
    have e3 : v (137 + 25 * y + 3) = nI a := by rw [QR.rc h hy (by omega) (by omega), sC_r (v := c (10 + 0)) (by omega) (by omega)]; exact a2
    have e3c : c (10 + 0) (137 + 25 * y + 3) = nI a := by rw [sC_r (v := c (10 + 0)) (by omega) (by omega)]; exact a2
    have fC := isFin_w (c := c) (g := g) (L := 0) (iv := c (400 + 0)) (w := c (10 + 0)) a1 e3c
    rw [← cL (L := 0)] at fC
    obtain ⟨n, n1, n2, n3⟩ := ticks_ok (r := r) hg h hs hy
    rw [F8_bottleneck_L28, C3_ticksToCome_L4]
    simp only [lit32]
    rw [setR_1, h9v, h.n9, if_neg (nI_ge (by omega) (by omega)), if_neg (nI_ge (by omega) (by omega)), isFin_v (by omega) a1 e3, bS, ix_n (by omega) (by omega), bS, fC, bS, ix_n (by omega) (by omega), bS, bS, n3, bS, n2, bS, nI_add]
    by_cases ha : a < 3
    · rw [if_pos ha, if_pos rfl, bS, if_neg (c := a = 3 ∨ a = 4) (by omega), if_pos rfl, bS]
      exact ih (y + 1) fu fu2 _ (by omega) (by omega) (by omega)
    · rw [if_neg ha, if_neg nz0, bS, if_pos (c := a = 3 ∨ a = 4) (by omega), if_neg nz0, bS, nI_z]
      exact ih (y + 1) fu fu2 _ (by omega) (by omega) (by omega)
theorem bott_L {r c : RS} {g : CG} {sm lm cm B U : Nat} {v : Nat → Int32} (hg : g.nt < 2 ^ 31) (h : QY c g 0 v sm lm cm B U) : ∀ (d y fu fu2 : Nat) (most best : Int32), y + d = sm → d < fu → d < fu2 → ∃ z2 z3, F8_bottleneck_L11 (setR r v) fu (nI y) most best = some (nI sm, z2, z3) ∧ C7_bottleneck_L6 g c fu2 (nI y) most best = some (nI sm, z2, z3) := by
  have hcm := h.a.cm30; have hsm := h.a.sm6
  have h7v : v 7 = nI sm := h.v7
  intro d
  induction d with
  | zero =>
    intro y fu fu2 m b hy hfu hfu2
    obtain ⟨fu, rfl⟩ : ∃ m, fu = m + 1 := ⟨fu - 1, by omega⟩
    obtain ⟨fu2, rfl⟩ : ∃ m, fu2 = m + 1 := ⟨fu2 - 1, by omega⟩
    obtain rfl : y = sm := by omega
    rw [F8_bottleneck_L11, C7_bottleneck_L6, setR_1, h7v, h.n7, if_pos (nI_le (by omega) (by omega)), if_pos (nI_le (by omega) (by omega))]
    exact ⟨m, b, rfl, rfl⟩
  | succ d ih =>
    intro y fu fu2 m b hy hfu hfu2
    obtain ⟨fu, rfl⟩ : ∃ m, fu = m + 1 := ⟨fu - 1, by omega⟩
    obtain ⟨fu2, rfl⟩ : ∃ m, fu2 = m + 1 := ⟨fu2 - 1, by omega⟩
    obtain ⟨z, k1, k2⟩ := toCome_L (r := r) (x7 := m) (x8 := b) hg h (s := y) (by omega) cm 0 FUEL FUEL (nI 0) (by omega) (by show cm < 10000; omega) (by show cm < 10000; omega)
    have k3 : C3_ticksToCome g c 0 (nI y) = some z := by unfold C3_ticksToCome; simp only [lit32]; rw [k2, bS]
    rw [F8_bottleneck_L11, C7_bottleneck_L6]
    simp only [lit32]
    rw [setR_1, h7v, h.n7, if_neg (nI_ge (by omega) (by omega)), if_neg (nI_ge (by omega) (by omega)), k1, bS, k3, bS, nI_add]
    by_cases hz : z ≤ m
    · have hz2 : ¬ m < z := fun q => by rw [Int32.lt_iff_toInt_lt] at q; rw [Int32.le_iff_toInt_le] at hz; omega
      rw [if_pos hz, if_pos hz, bS, bS]
      simp only [if_neg hz2]
      exact ih (y + 1) fu fu2 m b (by omega) (by omega) (by omega)
    · have hz2 : m < z := by rw [Int32.lt_iff_toInt_lt]; rw [Int32.le_iff_toInt_le] at hz; omega
      rw [if_neg hz, if_neg hz, bS, bS]
      simp only [if_pos hz2]
      exact ih (y + 1) fu fu2 z (nI y) (by omega) (by omega) (by omega)
theorem q_bottleneck {r c : RS} {g : CG} {B T : Nat} (h : GI r c g B T) (hT : T < 2 ^ 31) : QP (F8_bottleneck r) (C7_bottleneck g c) r := by
  obtain ⟨sm, lm, cm, h0⟩ := h.l
  have hsm := h0.a.sm6
  have hg : g.nt < 2 ^ 31 := Nat.lt_of_le_of_lt h.n hT
  obtain ⟨z2, z3, k1, k2⟩ := bott_L (r := th r 0) hg h0 sm 0 FUEL FUEL m1 m1 (by omega) (by show sm < 10000; omega) (by show sm < 10000; omega)
  refine ⟨z3, ?_, ?_⟩
  · unfold F8_bottleneck
    simp only [lit32, neg1]
    rw [zth, bS, thR, k1, bS]
  · unfold C7_bottleneck
    simp only [lit32, neg1]
    rw [k2, bS]
theorem q_outputByte {r c : RS} {g : CG} {B T : Nat} {a : Int32} (h : GI r c g B T) : ∃ x y, F8_outputByte r a = some (x, th r 0) ∧ C7_outputByte g c a = some y := by
  obtain ⟨p, q, p1, q1, p2, q2⟩ := h.o
  have hF : ∃ x, F8_outputByte r a = some (x, th r 0) := by
    unfold F8_outputByte
    simp only [lit32, neg1]
    rw [zth, bS, th_0 (by decide), q2]
    rcases below (a := a) (n := q) (by omega) with ⟨k, hk, rfl⟩ | hb
    · rw [inB_pos (p := 0) (q := (q : Int) - 1) (by decide) (by rw [Int32.toInt_toInt64, sub1_toInt (by omega)]) (by rw [nI_toInt (by omega)]; omega), if_neg nz0, rd_n (by omega) (by omega), bS, bS]
      exact ⟨_, rfl⟩
    · rw [inB_neg (p := 0) (q := (q : Int) - 1) (by decide) (by rw [Int32.toInt_toInt64, sub1_toInt (by omega)]) (by omega), if_pos rfl, bS]
      exact ⟨_, rfl⟩
  have hC : ∃ y, C7_outputByte g c a = some y := by
    unfold C7_outputByte
    simp only [lit32, neg1]
    rw [p2]
    by_cases h0 : a < nI 0
    · rw [if_pos h0, bS]; exact ⟨_, rfl⟩
    · rw [if_neg h0]
      by_cases h1 : nI p ≤ a
      · rw [if_pos h1, bS]; exact ⟨_, rfl⟩
      · rw [if_neg h1]
        have a0 : ¬ a.toInt < 0 := fun q => h0 (lt0.mpr q)
        have a1 : ¬ (p : Int) ≤ a.toInt := fun q => h1 ((gen (by omega)).mpr q)
        obtain ⟨e, -⟩ := nI_ofInt (a := a) (by omega)
        rw [e, rd_n (by omega) (by omega), bS, bS]; exact ⟨_, rfl⟩
  obtain ⟨x, hx⟩ := hF
  obtain ⟨y, hy⟩ := hC
  exact ⟨x, y, hx, hy⟩
