noncomputable def QT (F : Option (Int32 × RS)) (C : Option (Sum Int32 Int32)) (r : RS) (sh : Nat) : Prop := (∃ x, F = some (x, th r 0) ∧ C = some (.inr x)) ∨ (∃ k, 1 ≤ k ∧ k ≤ 2 ∧ F = some (nI 0, th r k) ∧ C = some (.inl (nI (k + sh))))
noncomputable def QP {α : Type} (F : Option (α × RS)) (C : Option α) (r : RS) : Prop := ∃ x, F = some (x, th r 0) ∧ C = some x
theorem thR {r : RS} {k : Nat} : th r k = setR (th r k) (r 1) := by
  have e : (th r k) 1 = r 1 := th_o (by decide)
  rw [← e]; exact setR_self
theorem th1 {r : RS} {k i : Nat} : th r k 1 i = r 1 i := by rw [th_o (by decide)]
theorem zth {r : RS} : pt r 0 6 (nI 0) = some (th r 0) := pt_n
theorem cL {c : RS} {L : Nat} : c = setL c L (c (10 + L)) (c (400 + L)) := setL_self
theorem nz0 : ¬ nI 1 = nI 0 := nI_ne (by omega) (by omega) (by omega)
theorem inB_pos {a : Int32} {lo hi : Int64} {p q : Int} (h1 : lo.toInt = p) (h2 : hi.toInt = q) (h : p ≤ a.toInt ∧ a.toInt ≤ q) : inB a.toInt64 lo hi = nI 1 := by rw [inB_i h1 h2, if_pos h]
theorem inB_neg {a : Int32} {lo hi : Int64} {p q : Int} (h1 : lo.toInt = p) (h2 : hi.toInt = q) (h : ¬ (p ≤ a.toInt ∧ a.toInt ≤ q)) : inB a.toInt64 lo hi = nI 0 := by rw [inB_i h1 h2, if_neg h]
theorem q_count {r c : RS} {g : CG} {B T : Nat} {a : Int32} (h : GI r c g B T) : QT (F8_count r a) (C7_count g c a) r 1 := by
  obtain ⟨sm, lm, cm, h0⟩ := h.l
  obtain ⟨o, n, p1, p2, p3, p4, p5, -⟩ := h.p
  have iS : ∀ k, k < 5 → F8_inState (th r 0) (nI k) = some (c (400 + 0) k) := fun k hk => by rw [thR]; exact inState_ok h0 hk
  have e5 : r 1 5 = c (10 + 0) 5 := QR.ra h0 (by omega) (by omega) (by omega)
  unfold F8_count C7_count
  simp only [lit32, neg1]
  rcases argR (a := a) (lo := 0) (hi := 9) (by omega) (by omega) (l := 0) (h := 9) rfl rfl with ⟨k, k1, k2, rfl, k3, k4⟩ | ⟨k3, k4, k5⟩
  · rw [k3, isThrown_1, bS]
    simp only [if_true]
    rcases (show k = 0 ∨ k = 1 ∨ k = 2 ∨ k = 3 ∨ k = 4 ∨ k = 5 ∨ k = 6 ∨ k = 7 ∨ k = 8 ∨ k = 9 by omega) with rfl | rfl | rfl | rfl | rfl | rfl | rfl | rfl | rfl | rfl
    · refine Or.inl ⟨c (10 + 0) 7, ?_, ?_⟩ <;> simp (disch := omega) only [ifn, if_true, th1, h0.v7, h0.n7]
    · refine Or.inl ⟨c (10 + 0) 8, ?_, ?_⟩ <;> simp (disch := omega) only [ifn, if_true, th1, h0.v8, h0.n8]
    · refine Or.inl ⟨c (10 + 0) 9, ?_, ?_⟩ <;> simp (disch := omega) only [ifn, if_true, th1, h0.v9, h0.n9]
    · refine Or.inl ⟨c (10 + 0) 5, ?_, ?_⟩ <;> simp (disch := omega) only [ifn, if_true, th1, e5]
    · refine Or.inl ⟨c (400 + 0) 0, ?_, ?_⟩
      · simp (disch := omega) only [ifn, if_true, nI_sub, iS, bS]
      · simp (disch := omega) only [ifn, if_true]
    · refine Or.inl ⟨c (400 + 0) 1, ?_, ?_⟩
      · simp (disch := omega) only [ifn, if_true, nI_sub, iS, bS]
      · simp (disch := omega) only [ifn, if_true]
    · refine Or.inl ⟨c (400 + 0) 2, ?_, ?_⟩
      · simp (disch := omega) only [ifn, if_true, nI_sub, iS, bS]
      · simp (disch := omega) only [ifn, if_true]
    · refine Or.inl ⟨c (400 + 0) 3, ?_, ?_⟩
      · simp (disch := omega) only [ifn, if_true, nI_sub, iS, bS]
      · simp (disch := omega) only [ifn, if_true]
    · refine Or.inl ⟨c (400 + 0) 4, ?_, ?_⟩
      · simp (disch := omega) only [ifn, if_true, nI_sub, iS, bS]
      · simp (disch := omega) only [ifn, if_true]
    · refine Or.inl ⟨nI n, ?_, ?_⟩
      · simp (disch := omega) only [ifn, if_true, th_0, p5]
      · simp (disch := omega) only [ifn, if_true, p4]
  · rw [k3, isThrown_0, bS]
    refine Or.inr ⟨1, by omega, by omega, ?_, ?_⟩
    · simp only [nz0, if_false]
    · have e := fun (x : Nat) (hx : x < 10) {α : Type} (p q : α) => ifo (x := p) (y := q) (n := 10) (k := x) (a := a) (by omega) hx (by omega)
      simp (disch := omega) only [e]
theorem q_setting {r c : RS} {g : CG} {B T : Nat} {a : Int32} (h : GI r c g B T) : QT (F8_setting r a) (C7_setting g c a) r 1 := by
  obtain ⟨sm, lm, cm, h0⟩ := h.l
  have e : ∀ k, k < 5 → r 1 k = c (10 + 0) k := fun k hk => QR.ra h0 (by omega) (by omega) (by omega)
  unfold F8_setting C7_setting
  simp only [lit32, neg1]
  rcases argR (a := a) (lo := 0) (hi := 4) (by omega) (by omega) (l := 0) (h := 4) rfl rfl with ⟨k, k1, k2, rfl, k3, k4⟩ | ⟨k3, k4, k5⟩
  · rw [k3, isThrown_1, bS]
    simp only [if_true]
    rw [rd_n (by omega) (by omega), bS, bS, th1, e k (by omega)]
    rcases (show k = 0 ∨ k = 1 ∨ k = 2 ∨ k = 3 ∨ k = 4 by omega) with rfl | rfl | rfl | rfl | rfl
    all_goals
      refine Or.inl ⟨_, rfl, ?_⟩
      simp (disch := omega) only [ifn, if_true]
  · rw [k3, isThrown_0, bS]
    refine Or.inr ⟨1, by omega, by omega, ?_, ?_⟩
    · simp only [nz0, if_false, bS]
    · have e := fun (x : Nat) (hx : x < 5) {α : Type} (p q : α) => ifo (x := p) (y := q) (n := 5) (k := x) (a := a) (by omega) hx (by omega)
      simp (disch := omega) only [e]
theorem q_station {r c : RS} {g : CG} {B T : Nat} {a b : Int32} (h : GI r c g B T) : QT (F8_station r a b) (C7_station g c a b) r 0 := by
  obtain ⟨sm, lm, cm, h0⟩ := h.l
  have hsm := h0.a.sm6
  unfold F8_station C7_station
  simp only [lit32, neg1]
  rcases argSt (r := r) (c := c) (g := g) (a := a) (n := sm) (by omega) h0.v7 h0.n7 with ⟨s, s1, rfl, s2, s3⟩ | ⟨s2, s3⟩
  · have hs6 : s < 6 := by omega
    rw [s2, s3, bS, bS, isThrown_1, bS, trR, ix_n hs6 (by omega), bS]
    simp only [if_true]
    rcases argR (a := b) (lo := 0) (hi := 12) (by omega) (by omega) (l := 0) (h := 12) rfl rfl with ⟨k, k1, k2, rfl, k3, k4⟩ | ⟨k3, k4, k5⟩
    · have e : ∀ k, k < 14 → k ≠ 8 → r 1 (17 + 16 * s + k) = c (10 + 0) (17 + 16 * s + k) := fun k a b => QR.rs h0 s1 a b
      rw [k3, isThrown_1, bS, th_th, thR]
      simp only [if_true]
      rw [F8_of_v hs6 (by omega), bS, ← thR]
      by_cases k8 : k = 8
      · subst k8
        refine Or.inl ⟨_, rfl, ?_⟩
        have e0 : c (10 + 0) (17 + 16 * s + 0) = sS (c (10 + 0)) s 0 := sS_r (v := c (10 + 0)) hs6 (by omega)
        have e8 : r 1 (17 + 16 * s + 8) = sS (r 1) s 8 := sS_r (v := r 1) hs6 (by omega)
        have e8c : c (10 + 0) (17 + 16 * s + 8) = sS (c (10 + 0)) s 8 := sS_r (v := c (10 + 0)) hs6 (by omega)
        simp (disch := omega) only [ifn, if_true]
        by_cases hk : c (10 + 0) (17 + 16 * s + 0) = nI 3
        · rw [if_pos hk, bS, e8, e8c, (h0.s.letter s s1 (e0.symm.trans hk)).1]
        · rw [if_neg hk, bS, e8, h0.s.nolet s s1 (fun q => hk (e0.trans q))]
      · rw [e k (by omega) k8]
        by_cases k7 : k = 7
        · subst k7
          refine Or.inl ⟨_, rfl, ?_⟩
          simp (disch := omega) only [ifn, if_true]
          have e7 : c (10 + 0) (17 + 16 * s + 7) = sS (c (10 + 0)) s 7 := sS_r (v := c (10 + 0)) hs6 (by omega)
          rcases h0.s.stop s s1 with q | q
          · rw [e7, q, if_pos rfl, bS]
          · rw [e7, q, if_neg nz0, bS]
        · rcases (show k = 0 ∨ k = 1 ∨ k = 2 ∨ k = 3 ∨ k = 4 ∨ k = 5 ∨ k = 6 ∨ k = 9 ∨ k = 10 ∨ k = 11 ∨ k = 12 by omega) with rfl | rfl | rfl | rfl | rfl | rfl | rfl | rfl | rfl | rfl | rfl
          all_goals
            refine Or.inl ⟨_, rfl, ?_⟩
            simp (disch := omega) only [ifn, if_true]
    · rw [k3, isThrown_0, bS, th_th]
      refine Or.inr ⟨2, by omega, by omega, ?_, ?_⟩
      · simp only [nz0, if_false]
      · have e := fun (x : Nat) (hx : x < 13) {α : Type} (p q : α) => ifo (x := p) (y := q) (n := 13) (k := x) (a := b) (by omega) hx (by omega)
        simp (disch := omega) only [e]
  · rw [s2, s3, bS, bS, isThrown_0, bS, trL]
    refine Or.inr ⟨1, by omega, by omega, ?_, rfl⟩
    simp only [nz0, if_false]
theorem tx_c {c : RS} {g : CG} {L sm lm cm B U q : Nat} {v : Nat → Int32} (hg : g.nt < 2 ^ 31) (h : QY c g L v sm lm cm B U) (hq : q < cm) : ∃ t n f, TXv v q n f ∧ TXc c g t n f ∧ c (10 + L) (137 + 25 * q + 2) = nI t := text_ok hg h hq
theorem q_card {r c : RS} {g : CG} {B T : Nat} {a b : Int32} (h : GI r c g B T) (hT : T < 2 ^ 31) : QT (F8_card r a b) (C7_card g c a b) r 0 := by
  obtain ⟨sm, lm, cm, h0⟩ := h.l
  have hcm := h0.a.cm30
  have hg : g.nt < 2 ^ 31 := Nat.lt_of_le_of_lt h.n hT
  unfold F8_card C7_card
  simp only [lit32, neg1]
  rcases argCd (r := r) (c := c) (g := g) (a := a) (n := cm) (by omega) h0.v9 h0.n9 with ⟨s, s1, rfl, s2, s3⟩ | ⟨s2, s3⟩
  · have hs6 : s < 30 := by omega
    rw [s2, s3, bS, bS, isThrown_1, bS, trR, ix_n hs6 (by omega), bS]
    simp only [if_true]
    rcases argR (a := b) (lo := 0) (hi := 7) (by omega) (by omega) (l := 0) (h := 7) rfl rfl with ⟨k, k1, k2, rfl, k3, k4⟩ | ⟨k3, k4, k5⟩
    · have e : ∀ k, k < 9 → k ≠ 2 → r 1 (137 + 25 * s + k) = c (10 + 0) (137 + 25 * s + k) := fun k a b => QR.rc h0 s1 a b
      rw [k3, isThrown_1, bS, th_th, thR]
      simp only [if_true]
      rw [F8_ofCard_v hs6 (by omega), bS, ← thR]
      by_cases k8 : k = 2
      · subst k8
        obtain ⟨t, n, f, t1, t2, t3⟩ := tx_c hg h0 s1
        refine Or.inl ⟨_, rfl, ?_⟩
        simp (disch := omega) only [ifn, if_true]
        rw [t3, t2.tln, bS, t1.len]
      · rw [e k (by omega) k8]
        rcases (show k = 0 ∨ k = 1 ∨ k = 3 ∨ k = 4 ∨ k = 5 ∨ k = 6 ∨ k = 7 by omega) with rfl | rfl | rfl | rfl | rfl | rfl | rfl
        all_goals
          refine Or.inl ⟨_, rfl, ?_⟩
          simp (disch := omega) only [ifn, if_true]
    · rw [k3, isThrown_0, bS, th_th]
      refine Or.inr ⟨2, by omega, by omega, ?_, ?_⟩
      · simp only [nz0, if_false]
      · have e := fun (x : Nat) (hx : x < 8) {α : Type} (p q : α) => ifo (x := p) (y := q) (n := 8) (k := x) (a := b) (by omega) hx (by omega)
        simp (disch := omega) only [e]
  · rw [s2, s3, bS, bS, isThrown_0, bS, trL]
    refine Or.inr ⟨1, by omega, by omega, ?_, rfl⟩
    simp only [nz0, if_false]
theorem q_letter {r c : RS} {g : CG} {B T : Nat} {a b : Int32} (h : GI r c g B T) (hT : T < 2 ^ 31) : QT (F8_letter r a b) (C7_letter g c a b) r 0 := by
  obtain ⟨sm, lm, cm, h0⟩ := h.l
  have hcm := h0.a.cm30
  have hg : g.nt < 2 ^ 31 := Nat.lt_of_le_of_lt h.n hT
  unfold F8_letter C7_letter
  simp only [lit32, neg1]
  rcases argCd (r := r) (c := c) (g := g) (a := a) (n := cm) (by omega) h0.v9 h0.n9 with ⟨s, s1, rfl, s2, s3⟩ | ⟨s2, s3⟩
  · have hs6 : s < 30 := by omega
    obtain ⟨t, n, f, t1, t2, t3⟩ := tx_c hg h0 s1
    have hn := t1.n16
    rw [s2, s3, bS, bS, isThrown_1, bS, trR, ix_n hs6 (by omega), bS]
    simp only [if_true]
    rw [thR, F8_ofCard_v hs6 (by omega), bS, t1.len, t3, t2.tln]
    rcases below (a := b) (n := n) (by omega) with ⟨k, hk, rfl⟩ | hb
    · rw [inB_pos (p := 0) (q := (n : Int) - 1) (by decide) (by rw [Int32.toInt_toInt64, sub1_toInt (by omega)]) (by rw [nI_toInt (by omega)]; omega), if_neg nz0, nI_add, F8_ofCard_v hs6 (by omega), bS, bS, if_neg (nI_nlt (by omega) (by omega)), bS, if_neg (nI_ge hk (by omega)), t2.tbt hk, bS, bS, ← thR, (t1.lets k hk).1]
      exact Or.inl ⟨_, rfl, rfl⟩
    · rw [inB_neg (p := 0) (q := (n : Int) - 1) (by decide) (by rw [Int32.toInt_toInt64, sub1_toInt (by omega)]) (by omega), if_pos rfl, bS, ← thR]
      by_cases hb0 : b < nI 0
      · rw [if_pos hb0, bS]; exact Or.inl ⟨_, rfl, rfl⟩
      · have hb1 : ¬ b.toInt < 0 := fun q => hb0 (lt0.mpr q)
        rw [if_neg hb0, bS, if_pos ((gen (by omega)).mpr (by omega)), bS]; exact Or.inl ⟨_, rfl, rfl⟩
  · rw [s2, s3, bS, bS, isThrown_0, bS, trL]
    refine Or.inr ⟨1, by omega, by omega, ?_, rfl⟩
    simp only [nz0, if_false]
theorem q_steps {r c : RS} {g : CG} {B T : Nat} {a b : Int32} (h : GI r c g B T) (hT : T < 2 ^ 31) : QT (F8_steps r a b) (C7_steps g c a b) r 0 := by
  obtain ⟨sm, lm, cm, h0⟩ := h.l
  have hcm := h0.a.cm30
  have hg : g.nt < 2 ^ 31 := Nat.lt_of_le_of_lt h.n hT
  unfold F8_steps C7_steps
  simp only [lit32, neg1]
  rcases argCd (r := r) (c := c) (g := g) (a := a) (n := cm) (by omega) h0.v9 h0.n9 with ⟨s, s1, rfl, s2, s3⟩ | ⟨s2, s3⟩
  · have hs6 : s < 30 := by omega
    obtain ⟨t, n, f, t1, t2, t3⟩ := tx_c hg h0 s1
    rw [s2, s3, bS, bS, isThrown_1, bS, trR]
    simp only [if_true]
    rcases argR (a := b) (lo := 0) (hi := 25) (by omega) (by omega) (l := 0) (h := 25) rfl rfl with ⟨k, k1, k2, rfl, k3, k4⟩ | ⟨k3, k4, k5⟩
    · rw [k3, k4, isThrown_1, bS, bS, trR, th_th, thR, ix_n hs6 (by omega), bS]
      simp only [if_true]
      rw [t1.steps (by omega), bS, t3, t2.steps (by omega), bS, ← thR]
      exact Or.inl ⟨_, rfl, rfl⟩
    · rw [k3, k4, isThrown_0, bS, bS, trL, th_th]
      refine Or.inr ⟨2, by omega, by omega, ?_, rfl⟩
      simp only [nz0, if_false]
  · rw [s2, s3, bS, bS, isThrown_0, bS, trL]
    refine Or.inr ⟨1, by omega, by omega, ?_, rfl⟩
    simp only [nz0, if_false]
theorem ticks_ok {r c : RS} {g : CG} {L sm lm cm B U s q : Nat} {v : Nat → Int32} (hg : g.nt < 2 ^ 31) (h : QY c g L v sm lm cm B U) (hs : s < sm) (hq : q < cm) : ∃ n, n ≤ 1000 ∧ F8_ticksOf (setR r v) (nI s) (nI q) = some (nI n) ∧ C6_ticksOf g c L s (c (10 + L) (137 + 25 * q + 2)) = some (nI n) := by
  have hsm := h.a.sm6
  obtain ⟨t, n, f, t1, t2, t3⟩ := tx_c hg h hq
  obtain ⟨wh, p, b, s1, s2, s3, s4, s5, s6, s7, s8⟩ := stat_ok (c := c) (L := L) (w := c (10 + L)) (iv := c (400 + L)) h hs
  refine ⟨tckN wh p b n f, tckN_le s3 s4 t1.n16 (fun e => (s7 e).2) (fun k hk => (t1.lets k hk).2), F8_ticks_v (by omega) t1 s1 s5 s3 s4 s7, ?_⟩
  unfold C6_ticksOf
  rw [t3, C6_turns_w t2 s2 s8, bS, C6_ticks_w t2 s2 s6 s3 s4 (fun e => (s8 e).2), bS]
theorem q_ticksFor {r c : RS} {g : CG} {B T : Nat} {a b : Int32} (h : GI r c g B T) (hT : T < 2 ^ 31) : QT (F8_ticksFor r a b) (C7_ticksFor g c a b) r 0 := by
  obtain ⟨sm, lm, cm, h0⟩ := h.l
  have hcm := h0.a.cm30; have hsm := h0.a.sm6
  have hg : g.nt < 2 ^ 31 := Nat.lt_of_le_of_lt h.n hT
  unfold F8_ticksFor C7_ticksFor
  simp only [lit32, neg1]
  rcases argSt (r := r) (c := c) (g := g) (a := a) (n := sm) (by omega) h0.v7 h0.n7 with ⟨s, s1, rfl, s2, s3⟩ | ⟨s2, s3⟩
  · have hs6 : s < 6 := by omega
    rw [s2, s3, bS, bS, trR, if_neg nz0]
    rcases argCd (r := r) (c := c) (g := g) (a := b) (n := cm) (by omega) h0.v9 h0.n9 with ⟨q, q1, rfl, q2, q3⟩ | ⟨q2, q3⟩
    · have hq : q < 30 := by omega
      obtain ⟨n, n1, n2, n3⟩ := ticks_ok (r := th r 0) hg h0 s1 q1
      rw [q2, q3, bS, bS, trR, if_neg nz0, bS, isThrown_1, bS, ix_n hs6 (by omega), bS, ix_n hq (by omega), bS, n3, bS]
      simp only [if_true]
      rw [thR, n2, bS, bS, ← thR]
      exact Or.inl ⟨_, rfl, rfl⟩
    · rw [q2, q3, bS, bS, trL, if_pos rfl, bS, isThrown_0, bS]
      refine Or.inr ⟨1, by omega, by omega, ?_, rfl⟩
      simp only [nz0, if_false, bS]
  · rw [s2, s3, bS, bS, trL, if_pos rfl, bS, isThrown_0, bS]
    refine Or.inr ⟨1, by omega, by omega, ?_, rfl⟩
    simp only [nz0, if_false, bS]
theorem q_nextFed {r c : RS} {g : CG} {B T : Nat} (h : GI r c g B T) : QP (F8_nextFed r) (C7_nextFed g c) r := by
  obtain ⟨sm, lm, cm, h0⟩ := h.l
  obtain ⟨x, x1, x2, -⟩ := toFeed_ok (r := th r 0) h0
  refine ⟨x, ?_, ?_⟩
  · unfold F8_nextFed
    simp only [lit32]
    rw [zth, bS, thR, x1, bS, ← thR]
  · unfold C7_nextFed
    rw [← cL (L := 0)] at x2
    rw [x2, bS]
theorem q_now {r c : RS} {g : CG} {B T : Nat} (h : GI r c g B T) : QP (F8_now r) (C7_now g c) r := by
  obtain ⟨sm, lm, cm, h0⟩ := h.l
  refine ⟨c (10 + 0) 6, ?_, rfl⟩
  unfold F8_now
  simp only [lit32]
  rw [zth, bS, th1]
  have : r 1 6 = c (10 + 0) 6 := QR.ra h0 (by omega) (by omega) (by omega)
  rw [this]
theorem q_loadError {r c : RS} {g : CG} {B T : Nat} (h : GI r c g B T) : QP (F8_loadError r) (C7_loadError g c) r := by
  refine ⟨c 0 1, ?_, rfl⟩
  unfold F8_loadError
  simp only [lit32]
  rw [zth, bS, th_0 (by decide), h.e.1]
theorem q_loadStatement {r c : RS} {g : CG} {B T : Nat} (h : GI r c g B T) : QP (F8_loadStatement r) (C7_loadStatement g c) r := by
  refine ⟨c 0 2, ?_, rfl⟩
  unfold F8_loadStatement
  simp only [lit32]
  rw [zth, bS, th_0 (by decide), h.e.2]
theorem q_today {r c : RS} {g : CG} {B T : Nat} {a b : Int32} (h : GI r c g B T) : QT (F8_today r a b) (C7_today g c a b) r 0 := by
  obtain ⟨sm, lm, cm, h0⟩ := h.l
  have hlm := h0.a.lm6
  unfold F8_today C7_today
  simp only [lit32, neg1]
  rcases argLo (r := r) (c := c) (g := g) (a := a) (n := lm) (by omega) h0.v8 h0.n8 with ⟨s, s1, rfl, s2, s3⟩ | ⟨s2, s3⟩
  · have hs6 : s < 6 := by omega
    rw [s2, s3, bS, bS, isThrown_1, bS, trR]
    simp only [if_true]
    rcases argR (a := b) (lo := 0) (hi := 1) (by omega) (by omega) (l := 0) (h := 1) rfl rfl with ⟨k, k1, k2, rfl, k3, k4⟩ | ⟨k3, k4, k5⟩
    · have e : ∀ k, k < 4 → r 1 (113 + 4 * s + k) = c (10 + 0) (113 + 4 * s + k) := fun k hk => by
        rw [sL_r (v := r 1) hs6 hk, sL_r (v := c (10 + 0)) hs6 hk]; exact h0.l.eql s k s1 hk
      rw [k3, k4, isThrown_1, bS, bS, trR, th_th, thR]
      simp only [if_true]
      rw [nI_add, F8_ofLot_v hs6 (by omega), bS, ← thR, e _ (by omega)]
      rcases (show k = 0 ∨ k = 1 by omega) with rfl | rfl
      · rw [if_pos rfl, ix_n hs6 (by omega), bS, bS]; exact Or.inl ⟨_, rfl, rfl⟩
      · rw [if_neg nz0, ix_n hs6 (by omega), bS, bS]; exact Or.inl ⟨_, rfl, rfl⟩
    · rw [k3, k4, isThrown_0, bS, bS, trL, th_th]
      refine Or.inr ⟨2, by omega, by omega, ?_, rfl⟩
      simp only [nz0, if_false]
  · rw [s2, s3, bS, bS, isThrown_0, bS, trL]
    refine Or.inr ⟨1, by omega, by omega, ?_, rfl⟩
    simp only [nz0, if_false]
theorem q_total {r c : RS} {g : CG} {B T : Nat} {a : Int32} (h : GI r c g B T) : QT (F8_total r a) (C7_total g c a) r 1 := by
  obtain ⟨sm, lm, cm, h0⟩ := h.l
  have e : ∀ k, k < 5 → r 1 (12 + k) = c (10 + 0) (12 + k) := fun k hk => QR.ra h0 (by omega) (by omega) (by omega)
  unfold F8_total C7_total
  simp only [lit32, neg1]
  rcases argR (a := a) (lo := 0) (hi := 4) (by omega) (by omega) (l := 0) (h := 4) rfl rfl with ⟨k, k1, k2, rfl, k3, k4⟩ | ⟨k3, k4, k5⟩
  · rw [k3, k4, isThrown_1, bS, bS, trR]
    simp only [if_true]
    rw [nI_add, rd_n (by omega) (by omega), bS, bS, th1, e k (by omega), rdo_n (by omega) (by omega), bS]
    exact Or.inl ⟨_, rfl, rfl⟩
  · rw [k3, k4, isThrown_0, bS, bS, trL]
    refine Or.inr ⟨1, by omega, by omega, ?_, rfl⟩
    simp only [nz0, if_false, bS]
theorem q_leftAt {r c : RS} {g : CG} {B T : Nat} {a : Int32} (h : GI r c g B T) : QP (F8_leftAt r a) (C7_leftAt g c a) r := by
  obtain ⟨sm, lm, cm, h0⟩ := h.l
  have hcm := h0.a.cm30
  have hn := cnt_le (n := cm) (p := stC (sC (c (10 + 0))) 3)
  generalize hnd : cnt cm (stC (sC (c (10 + 0))) 3) = n at hn
  have i3 : c (400 + 0) 3 = nI n := by rw [h0.n.ins 3 (by omega), hnd]
  have v10 : r 1 10 = nI n := by rw [sA_r (v := r 1) (by omega), h0.n.nl, i3]
  unfold F8_leftAt C7_leftAt
  simp only [lit32, neg1]
  rw [zth, bS, th1, v10, i3]
  rcases below (a := a) (n := n) (by omega) with ⟨k, hk, rfl⟩ | hb
  · have e : r 1 (887 + k) = c (10 + 0) (887 + k) := by
      rw [sF_r (v := r 1) (by omega), sF_r (v := c (10 + 0)) (by omega)]; exact h0.n.left k (by rw [hnd]; exact hk)
    rw [inB_pos (p := 0) (q := (n : Int) - 1) (by decide) (by rw [Int32.toInt_toInt64, sub1_toInt (by omega)]) (by rw [nI_toInt (by omega)]; omega), if_neg nz0, nI_add, rd_n (by omega) (by omega), bS, bS, th1, if_neg (nI_nlt (by omega) (by omega)), if_neg (nI_ge hk (by omega)), rdo_n (by omega) (by omega), bS, bS, e]
    exact ⟨_, rfl, rfl⟩
  · rw [inB_neg (p := 0) (q := (n : Int) - 1) (by decide) (by rw [Int32.toInt_toInt64, sub1_toInt (by omega)]) (by omega), if_pos rfl, bS]
    by_cases hb0 : a < nI 0
    · rw [if_pos hb0, bS]; exact ⟨_, rfl, rfl⟩
    · have hb1 : ¬ a.toInt < 0 := fun q => hb0 (lt0.mpr q)
      rw [if_neg hb0, if_pos ((gen (by omega)).mpr (by omega)), bS]; exact ⟨_, rfl, rfl⟩
