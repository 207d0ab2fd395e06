theorem up2_ne {f : Nat → Nat → Int32} {i j a b : Nat} {x : Int32} (h : ¬ b = j) : up2 f i j x a b = f a b := if_neg fun q => h q.2
theorem up2_ne1 {f : Nat → Nat → Int32} {i j a b : Nat} {x : Int32} (h : ¬ a = i) : up2 f i j x a b = f a b := if_neg fun q => h q.1
theorem up2_eq {f : Nat → Nat → Int32} {i j : Nat} {x : Int32} : up2 f i j x i j = x := if_pos ⟨rfl, rfl⟩
theorem cnt_congr {n : Nat} {p q : Nat → Bool} (h : ∀ i, i < n → p i = q i) : cnt n p = cnt n q := by
  induction n with
  | zero => rfl
  | succ n ih => unfold cnt; rw [ih fun i hi => h i (by omega), h n (by omega)]
theorem cnt_le {n : Nat} {p : Nat → Bool} : cnt n p ≤ n := by
  induction n with
  | zero => exact Nat.le_refl _
  | succ n ih => unfold cnt; split <;> omega
theorem cnt_set {n c : Nat} {p q : Nat → Bool} (hc : c < n) (h : ∀ i, i < n → i ≠ c → q i = p i) : cnt n q + (if p c then 1 else 0) = cnt n p + (if q c then 1 else 0) := by
  induction n with
  | zero => omega
  | succ n ih =>
    unfold cnt
    by_cases e : c = n
    · subst e; rw [cnt_congr fun i hi => h i (by omega) (by omega)]; omega
    · rw [h n (by omega) (by omega)]
      have := ih (by omega) fun i hi => h i (by omega)
      omega
theorem cnt_inc {n c : Nat} {p q : Nat → Bool} (hc : c < n) (h : ∀ i, i < n → i ≠ c → q i = p i) (h1 : p c = false) (h2 : q c = true) : cnt n q = cnt n p + 1 := by
  have := cnt_set hc h; simp only [h1, h2] at this; simpa using this
theorem cnt_dec {n c : Nat} {p q : Nat → Bool} (hc : c < n) (h : ∀ i, i < n → i ≠ c → q i = p i) (h1 : p c = true) (h2 : q c = false) : cnt n q + 1 = cnt n p := by
  have := cnt_set hc h; simp only [h1, h2] at this; simpa using this
theorem cnt_eq {n c : Nat} {p q : Nat → Bool} (h : ∀ i, i < n → i ≠ c → q i = p i) (h1 : q c = p c) : cnt n q = cnt n p := cnt_congr fun i hi => by
  by_cases e : i = c
  · rw [e]; exact h1
  · exact h i hi e
theorem cnt_pos {n c : Nat} {p : Nat → Bool} (hc : c < n) (h : p c = true) : 0 < cnt n p := by
  induction n with
  | zero => omega
  | succ n ih =>
    unfold cnt
    by_cases e : c = n
    · subst e; rw [h]; simp
    · have := ih (by omega); omega
theorem cnt_lt {n c : Nat} {p : Nat → Bool} (hc : c < n) (h : p c = false) : cnt n p < n := by
  induction n with
  | zero => omega
  | succ n ih =>
    unfold cnt
    by_cases e : c = n
    · subst e; rw [h]; have := cnt_le (n := c) (p := p); simp; omega
    · have := ih (by omega); split <;> omega
theorem sumI_congr {n : Nat} {p q : Nat → Int32} (h : ∀ i, i < n → p i = q i) : sumI n p = sumI n q := by
  induction n with
  | zero => rfl
  | succ n ih => unfold sumI; rw [ih fun i hi => h i (by omega), h n (by omega)]
theorem sumI_set {n c : Nat} {p q : Nat → Int32} {d : Int32} (hc : c < n) (h : ∀ i, i < n → i ≠ c → q i = p i) (hd : q c = p c + d) : sumI n q = sumI n p + d := by
  induction n with
  | zero => omega
  | succ n ih =>
    unfold sumI
    by_cases e : c = n
    · subst e; rw [sumI_congr fun i hi => h i (by omega) (by omega), hd, Int32.add_assoc]
    · rw [h n (by omega) (by omega), ih (by omega) fun i hi => h i (by omega)]
      rw [Int32.add_assoc, Int32.add_comm d, Int32.add_assoc]
theorem QS.free {vs ws wc tx : Nat → Nat → Int32} {nt sm cm U s : Nat} {x : Int32} (k : Nat) (hk : k = 5 ∨ k = 6 ∨ k = 9 ∨ k = 10 ∨ k = 11 ∨ k = 12 ∨ k = 13) (h : QS vs ws wc tx nt sm cm U) : QS (up2 vs s k x) (up2 ws s k x) wc tx nt sm cm U := by
  obtain ⟨b1, b2, b3, b4, b5, b6, b7, b8, b9, b10⟩ := h
  have e : ∀ (f : Nat → Nat → Int32) a b, b ≠ k → up2 f s k x a b = f a b := fun f a b h => up2_ne h
  refine ⟨fun s' k' h1 h2 h3 => ?_, ?_, ?_, ?_, ?_, ?_, ?_, ?_, ?_, ?_⟩
  · rw [up2_at, up2_at]; split
    · rfl
    · exact b1 s' k' h1 h2 h3
  all_goals
    intro s' h1
    first
    | rw [e _ _ 0 (by omega), e _ _ 8 (by omega), e _ _ 8 (by omega)]; exact b2 s' h1
    | rw [e _ _ 0 (by omega), e _ _ 8 (by omega)]; exact b3 s' h1
    | rw [e _ _ 14 (by omega), e _ _ 14 (by omega), e _ _ 15 (by omega)]; exact b9 s' h1
    | rw [e _ _ 1 (by omega)]; exact b4 s' h1
    | rw [e _ _ 2 (by omega)]; exact b5 s' h1
    | rw [e _ _ 3 (by omega)]; exact b6 s' h1
    | rw [e _ _ 4 (by omega)]; exact b7 s' h1
    | rw [e _ _ 7 (by omega)]; exact b8 s' h1
    | rw [e _ _ 14 (by omega)]; exact b10 s' h1
theorem QS.uNeed {vs ws wc tx : Nat → Nat → Int32} {nt sm cm U s n : Nat} (hn : n ≤ 1000) (h : QS vs ws wc tx nt sm cm U) : QS (up2 vs s 3 (nI n)) (up2 ws s 3 (nI n)) wc tx nt sm cm U := by
  obtain ⟨b1, b2, b3, b4, b5, b6, b7, b8, b9, b10⟩ := h
  refine ⟨fun s' k' h1 h2 h3 => ?_, fun s' h1 => ?_, fun s' h1 => ?_, fun s' h1 => ?_, fun s' h1 => ?_, fun s' h1 => ?_, fun s' h1 => ?_, fun s' h1 => ?_, fun s' h1 => ?_, fun s' h1 => ?_⟩
  · rw [up2_at, up2_at]; split
    · rfl
    · exact b1 s' k' h1 h2 h3
  · simpa [up2_at] using b2 s' h1
  · simpa [up2_at] using b3 s' h1
  · simpa [up2_at] using b4 s' h1
  · simpa [up2_at] using b5 s' h1
  · rw [up2_at]; split
    · exact ⟨n, hn, rfl⟩
    · exact b6 s' h1
  · simpa [up2_at] using b7 s' h1
  · simpa [up2_at] using b8 s' h1
  · simpa [up2_at] using b9 s' h1
  · simpa [up2_at] using b10 s' h1
theorem QS.uUsed {vs ws wc tx : Nat → Nat → Int32} {nt sm cm U s n : Nat} (hn : n ≤ U) (h : QS vs ws wc tx nt sm cm U) : QS (up2 vs s 4 (nI n)) (up2 ws s 4 (nI n)) wc tx nt sm cm U := by
  obtain ⟨b1, b2, b3, b4, b5, b6, b7, b8, b9, b10⟩ := h
  refine ⟨fun s' k' h1 h2 h3 => ?_, fun s' h1 => ?_, fun s' h1 => ?_, fun s' h1 => ?_, fun s' h1 => ?_, fun s' h1 => ?_, fun s' h1 => ?_, fun s' h1 => ?_, fun s' h1 => ?_, fun s' h1 => ?_⟩
  · rw [up2_at, up2_at]; split
    · rfl
    · exact b1 s' k' h1 h2 h3
  · simpa [up2_at] using b2 s' h1
  · simpa [up2_at] using b3 s' h1
  · simpa [up2_at] using b4 s' h1
  · simpa [up2_at] using b5 s' h1
  · simpa [up2_at] using b6 s' h1
  · rw [up2_at]; split
    · exact ⟨n, hn, rfl⟩
    · exact b7 s' h1
  · simpa [up2_at] using b8 s' h1
  · simpa [up2_at] using b9 s' h1
  · simpa [up2_at] using b10 s' h1
theorem QS.uHold {vs ws wc tx : Nat → Nat → Int32} {nt sm cm U s : Nat} {x : Int32} (hx : x = m1 ∨ ∃ c, c < cm ∧ x = nI c ∧ wc c 3 = nI 1 ∧ wc c 4 = nI s) (h : QS vs ws wc tx nt sm cm U) : QS (up2 vs s 2 x) (up2 ws s 2 x) wc tx nt sm cm U := by
  obtain ⟨b1, b2, b3, b4, b5, b6, b7, b8, b9, b10⟩ := h
  refine ⟨fun s' k' h1 h2 h3 => ?_, fun s' h1 => ?_, fun s' h1 => ?_, fun s' h1 => ?_, fun s' h1 => ?_, fun s' h1 => ?_, fun s' h1 => ?_, fun s' h1 => ?_, fun s' h1 => ?_, fun s' h1 => ?_⟩
  · rw [up2_at, up2_at]; split
    · rfl
    · exact b1 s' k' h1 h2 h3
  · simpa [up2_at] using b2 s' h1
  · simpa [up2_at] using b3 s' h1
  · simpa [up2_at] using b4 s' h1
  · rw [up2_at]; split
    · rename_i e; rw [e.1]; exact hx
    · exact b5 s' h1
  · simpa [up2_at] using b6 s' h1
  · simpa [up2_at] using b7 s' h1
  · simpa [up2_at] using b8 s' h1
  · simpa [up2_at] using b9 s' h1
  · simpa [up2_at] using b10 s' h1
theorem QS.lett {vs ws wc tx : Nat → Nat → Int32} {nt sm cm U s a : Nat} (h0 : ws s 0 = nI 3) (ha : a < 26) (h : QS vs ws wc tx nt sm cm U) : QS (up2 vs s 8 (nI a)) (up2 ws s 8 (nI a)) wc tx nt sm cm U := by
  obtain ⟨b1, b2, b3, b4, b5, b6, b7, b8, b9, b10⟩ := h
  refine ⟨fun s' k' h1 h2 h3 => ?_, fun s' h1 => ?_, fun s' h1 => ?_, fun s' h1 => ?_, fun s' h1 => ?_, fun s' h1 => ?_, fun s' h1 => ?_, fun s' h1 => ?_, fun s' h1 => ?_, fun s' h1 => ?_⟩
  · rw [up2_ne h3, up2_ne h3]; exact b1 s' k' h1 h2 h3
  · rw [up2_ne (by decide)]; intro h2
    rw [up2_at, up2_at]; split
    · exact ⟨rfl, a, ha, rfl⟩
    · exact b2 s' h1 h2
  · rw [up2_ne (by decide)]; intro h2
    rw [up2_at]; split
    · rename_i e; rw [e.1] at h2; exact absurd h0 h2
    · exact b3 s' h1 h2
  · simpa [up2_at] using b4 s' h1
  · simpa [up2_at] using b5 s' h1
  · simpa [up2_at] using b6 s' h1
  · simpa [up2_at] using b7 s' h1
  · simpa [up2_at] using b8 s' h1
  · simpa [up2_at] using b9 s' h1
  · simpa [up2_at] using b10 s' h1
noncomputable def NH (ws : Nat → Nat → Int32) (sm c : Nat) : Prop := ∀ s, s < sm → ws s 2 ≠ nI c
theorem QS.card {vs ws wc tx : Nat → Nat → Int32} {nt sm cm U c k : Nat} {x : Int32} (hc : c < cm) (hcm : cm ≤ 30) (hn : NH ws sm c) (h : QS vs ws wc tx nt sm cm U) : QS vs ws (up2 wc c k x) tx nt sm cm U := by
  obtain ⟨b1, b2, b3, b4, b5, b6, b7, b8, b9, b10⟩ := h
  refine ⟨b1, b2, b3, b4, fun s h1 => ?_, b6, b7, b8, b9, b10⟩
  rcases b5 s h1 with e | ⟨c', g1, g2, g3, g4⟩
  · exact Or.inl e
  · refine Or.inr ⟨c', g1, g2, ?_, ?_⟩
    · rw [up2_ne1]; exact g3
      rintro rfl; exact hn s h1 g2
    · rw [up2_ne1]; exact g4
      rintro rfl; exact hn s h1 g2
theorem QS.cardk {vs ws wc tx : Nat → Nat → Int32} {nt sm cm U c k : Nat} {x : Int32} (hk : k ≠ 3) (hk4 : k ≠ 4) (h : QS vs ws wc tx nt sm cm U) : QS vs ws (up2 wc c k x) tx nt sm cm U := by
  obtain ⟨b1, b2, b3, b4, b5, b6, b7, b8, b9, b10⟩ := h
  refine ⟨b1, b2, b3, b4, fun s h1 => ?_, b6, b7, b8, b9, b10⟩
  rcases b5 s h1 with e | ⟨c', g1, g2, g3, g4⟩
  · exact Or.inl e
  · refine Or.inr ⟨c', g1, g2, ?_, ?_⟩
    · rw [up2_ne (Ne.symm hk)]; exact g3
    · rw [up2_ne (Ne.symm hk4)]; exact g4
theorem QS.nh {vs ws wc tx : Nat → Nat → Int32} {nt sm cm U s c : Nat} (hsm : sm ≤ 6) (hcm : cm ≤ 30) (hs : s < sm) (hc : c < 30) (e : ws s 2 = nI c) (h : QS vs ws wc tx nt sm cm U) : NH (up2 ws s 2 m1) sm c := by
  intro s' h1
  rw [up2_at]; split
  · exact m1_neq (by omega)
  · rename_i hne
    intro e2
    rcases h.hold s hs with q | ⟨c1, g1, g2, g3, g4⟩
    · rw [e] at q; exact m1_ne (by omega) q
    · have i1 : c1 = c := ((nI_eq (by omega) (by omega)).mp (g2.symm.trans e))
      subst i1
      rcases h.hold s' h1 with q | ⟨c2, k1, k2, k3, k4⟩
      · rw [e2] at q; exact m1_ne (by omega) q
      · have i2 : c2 = c1 := ((nI_eq (by omega) (by omega)).mp (k2.symm.trans e2))
        subst i2
        have : s = s' := (nI_eq (by omega) (by omega)).mp (g4.symm.trans k4)
        exact hne ⟨this.symm, rfl⟩
theorem QS.nh1 {vs ws wc tx : Nat → Nat → Int32} {nt sm cm U c : Nat} (hcm : cm ≤ 30) (hc : c < cm) (e : wc c 3 ≠ nI 1) (h : QS vs ws wc tx nt sm cm U) : NH ws sm c := by
  intro s h1 e2
  rcases h.hold s h1 with q | ⟨c1, g1, g2, g3, g4⟩
  · rw [e2] at q; exact m1_ne (by omega) q
  · have i1 : c1 = c := ((nI_eq (by omega) (by omega)).mp (g2.symm.trans e2))
    subst i1; exact e g3
theorem NH.up {ws : Nat → Nat → Int32} {sm c s k : Nat} {x : Int32} (hk : k ≠ 2) (h : NH ws sm c) : NH (up2 ws s k x) sm c := fun s' h1 => by
  rw [up2_ne (Ne.symm hk)]; exact h s' h1
theorem QC.set {vc wc tx : Nat → Nat → Int32} {nt lm cm c k : Nat} {x : Int32} (hk : k = 1 ∨ k = 4 ∨ k = 5 ∨ k = 6 ∨ k = 7) (h : QC vc wc tx nt lm cm) : QC (up2 vc c k x) (up2 wc c k x) tx nt lm cm := by
  obtain ⟨b1, b2, b3, b4, b5, b6⟩ := h
  have e : ∀ (f : Nat → Nat → Int32) a b, b ≠ k → up2 f c k x a b = f a b := fun f a b h => up2_ne h
  refine ⟨fun c' k' h1 h2 h3 => ?_, fun c' h1 => ?_, fun c' h1 => ?_, fun c' h1 => ?_, fun c' h1 => ?_, fun c' h1 => ?_⟩
  · rw [up2_at, up2_at]; split
    · rfl
    · exact b1 c' k' h1 h2 h3
  · rw [e _ _ 0 (by omega)]; exact b2 c' h1
  · rw [e _ _ 3 (by omega)]; exact b3 c' h1
  · rw [e _ _ 8 (by omega), e _ _ 3 (by omega)]; exact b4 c' h1
  · obtain ⟨t, n, g1, g2, g3, g4, g5, g6, g7, g8⟩ := b5 c' h1
    refine ⟨t, n, g1, g2, ?_, g4, g5, g6, ?_, fun k2 hk2 => ⟨?_, (g8 k2 hk2).2⟩⟩
    · rw [e _ _ 2 (by omega)]; exact g3
    · rw [e _ _ 2 (by omega)]; exact g7
    · rw [e _ _ (9 + k2) (by omega)]; exact (g8 k2 hk2).1
  · rw [e _ _ 2 (by omega)]; exact b6 c' h1
theorem QC.uState {vc wc tx : Nat → Nat → Int32} {nt lm cm c a : Nat} (ha : a < 5) (hr : a = 0 ∨ wc c 8 = nI 0) (h : QC vc wc tx nt lm cm) : QC (up2 vc c 3 (nI a)) (up2 wc c 3 (nI a)) tx nt lm cm := by
  obtain ⟨b1, b2, b3, b4, b5, b6⟩ := h
  refine ⟨fun c' k' h1 h2 h3 => ?_, fun c' h1 => ?_, fun c' h1 => ?_, fun c' h1 => ?_, fun c' h1 => ?_, fun c' h1 => ?_⟩
  · rw [up2_at, up2_at]; split
    · rfl
    · exact b1 c' k' h1 h2 h3
  · simpa [up2_at] using b2 c' h1
  · rw [up2_at]; split
    · exact ⟨a, ha, rfl⟩
    · exact b3 c' h1
  · rw [up2_ne (by decide), up2_at]; split
    · rename_i e
      rcases hr with rfl | hr
      · rcases b4 c' h1 with q | q
        · exact Or.inl q
        · exact Or.inr ⟨q.1, rfl⟩
      · rw [e.1]; exact Or.inl hr
    · exact b4 c' h1
  · obtain ⟨t, n, g1, g2, g3, g4, g5, g6, g7, g8⟩ := b5 c' h1
    refine ⟨t, n, g1, g2, ?_, g4, g5, g6, ?_, fun k2 hk2 => ⟨?_, (g8 k2 hk2).2⟩⟩
    · rw [up2_ne (by decide)]; exact g3
    · rw [up2_ne (by decide)]; exact g7
    · rw [up2_ne (by omega)]; exact (g8 k2 hk2).1
  · rw [up2_ne (by decide)]; exact b6 c' h1
theorem QC.rushed {vc wc tx : Nat → Nat → Int32} {nt lm cm c : Nat} {x : Int32} (hr : x = nI 0 ∨ (x = nI 1 ∧ wc c 3 = nI 0)) (h : QC vc wc tx nt lm cm) : QC (up2 vc c 8 x) (up2 wc c 8 x) tx nt lm cm := by
  obtain ⟨b1, b2, b3, b4, b5, b6⟩ := h
  refine ⟨fun c' k' h1 h2 h3 => ?_, fun c' h1 => ?_, fun c' h1 => ?_, fun c' h1 => ?_, fun c' h1 => ?_, fun c' h1 => ?_⟩
  · rw [up2_at, up2_at]; split
    · rfl
    · exact b1 c' k' h1 h2 h3
  · simpa [up2_at] using b2 c' h1
  · simpa [up2_at] using b3 c' h1
  · rw [up2_ne (b := 3) (by decide), up2_at]; split
    · rename_i e; rw [e.1]; exact hr
    · exact b4 c' h1
  · obtain ⟨t, n, g1, g2, g3, g4, g5, g6, g7, g8⟩ := b5 c' h1
    refine ⟨t, n, g1, g2, ?_, g4, g5, g6, ?_, fun k2 hk2 => ⟨?_, (g8 k2 hk2).2⟩⟩
    · rw [up2_ne (by decide)]; exact g3
    · rw [up2_ne (by decide)]; exact g7
    · rw [up2_ne (by omega)]; exact (g8 k2 hk2).1
  · rw [up2_ne (by decide)]; exact b6 c' h1
theorem QW.up {wc : Nat → Nat → Int32} {cm c k : Nat} {x : Int32} (hk : k ≠ 3) (hk4 : k ≠ 4) (h : QW wc cm) : QW (up2 wc c k x) cm := fun q hq => by
  rw [up2_ne (Ne.symm hk), up2_ne (Ne.symm hk4)]; exact h q hq
theorem QW.at4 {wc : Nat → Nat → Int32} {cm c : Nat} (h : QW wc cm) : QW (up2 wc c 4 m1) cm := fun q hq => by
  rw [up2_ne (by decide), up2_at]
  split
  · exact Or.inr rfl
  · exact h q hq
theorem QW.st {wc : Nat → Nat → Int32} {cm c : Nat} {x : Int32} (h : QW wc cm) : QW (up2 (up2 wc c 3 x) c 4 m1) cm := fun q hq => by
  by_cases e : q = c
  · rw [e]; exact Or.inr up2_eq
  · rw [up2_ne1 e, up2_ne1 e, up2_ne1 e, up2_ne1 e]; exact h q hq
theorem QW.on {wc : Nat → Nat → Int32} {cm c : Nat} {x : Int32} (h : QW wc cm) : QW (up2 (up2 wc c 3 (nI 1)) c 4 x) cm := fun q hq => by
  by_cases e : q = c
  · rw [e, up2_ne (by decide)]; exact Or.inl up2_eq
  · rw [up2_ne1 e, up2_ne1 e, up2_ne1 e, up2_ne1 e]; exact h q hq
