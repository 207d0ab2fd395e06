theorem QR.lot {v w iv v2 w2 : Nat → Int32} {bp dl df tx : Nat → Nat → Int32} {nt sm lm cm B U p : Nat} (h : QR v w iv bp dl df tx nt sm lm cm B U) (hlm : lm < 6) (hp : p ≤ 9)
    (hv : ∀ i, i ≠ 8 → (i < 113 + 4 * lm ∨ 117 + 4 * lm ≤ i) → v2 i = v i) (hv8 : v2 8 = nI (lm + 1)) (hv0 : v2 (113 + 4 * lm + 0) = nI p) (hvk : ∀ k, 1 ≤ k → k < 4 → v2 (113 + 4 * lm + k) = nI 0)
    (hw : ∀ i, i ≠ 8 → (i < 113 + 4 * lm ∨ 117 + 4 * lm ≤ i) → (i < 1100 + 8 * lm ∨ 1108 + 8 * lm ≤ i) → w2 i = w i) (hw8 : w2 8 = nI (lm + 1)) (hw0 : w2 (113 + 4 * lm + 0) = nI p) (hwk : ∀ k, 1 ≤ k → k < 4 → w2 (113 + 4 * lm + k) = nI 0) (hwe : ∀ k, k < 5 → w2 (1100 + 8 * lm + k) = nI 0)
    (htime : w 6 = nI 0) (hday : ∃ d, 1 ≤ d ∧ d ≤ 2000 ∧ w 0 = nI d) : QR v2 w2 iv bp dl df tx nt sm (lm + 1) cm B U := by
  have hsm := h.a.sm6; have hcm := h.a.cm30
  have A : ∀ i, i < 17 → i ≠ 8 → sA w2 i = sA w i := fun i a b => by rw [← sA_r (v := w2) a, ← sA_r (v := w) a]; exact hw i b (by omega) (by omega)
  have Av : ∀ i, i < 17 → i ≠ 8 → sA v2 i = sA v i := fun i a b => by rw [← sA_r (v := v2) a, ← sA_r (v := v) a]; exact hv i b (by omega)
  have S : ∀ s k, s < 6 → k < 16 → sS w2 s k = sS w s k := fun s k a b => by rw [← sS_r (v := w2) a b, ← sS_r (v := w) a b]; exact hw _ (by omega) (by omega) (by omega)
  have Sv : ∀ s k, s < 6 → k < 16 → sS v2 s k = sS v s k := fun s k a b => by rw [← sS_r (v := v2) a b, ← sS_r (v := v) a b]; exact hv _ (by omega) (by omega)
  have Lc : ∀ s k, s < lm → k < 4 → sL w2 s k = sL w s k := fun s k a b => by rw [← sL_r (v := w2) (by omega) b, ← sL_r (v := w) (by omega) b]; exact hw _ (by omega) (by omega) (by omega)
  have Lv : ∀ s k, s < lm → k < 4 → sL v2 s k = sL v s k := fun s k a b => by rw [← sL_r (v := v2) (by omega) b, ← sL_r (v := v) (by omega) b]; exact hv _ (by omega) (by omega)
  have E : ∀ s k, s < lm → k < 5 → sE w2 s k = sE w s k := fun s k a b => by rw [← sE_r (v := w2) (by omega) (by omega), ← sE_r (v := w) (by omega) (by omega)]; exact hw _ (by omega) (by omega) (by omega)
  have C : ∀ s k, s < 30 → k < 25 → sC w2 s k = sC w s k := fun s k a b => by rw [← sC_r (v := w2) a b, ← sC_r (v := w) a b]; exact hw _ (by omega) (by omega) (by omega)
  have Cv : ∀ s k, s < 30 → k < 25 → sC v2 s k = sC v s k := fun s k a b => by rw [← sC_r (v := v2) a b, ← sC_r (v := v) a b]; exact hv _ (by omega) (by omega)
  have F : ∀ i, i < 30 → sF w2 i = sF w i := fun i a => by rw [← sF_r (v := w2) a, ← sF_r (v := w) a]; exact hw _ (by omega) (by omega) (by omega)
  have Fv : ∀ i, i < 30 → sF v2 i = sF v i := fun i a => by rw [← sF_r (v := v2) a, ← sF_r (v := v) a]; exact hv _ (by omega) (by omega)
  have L0 : sL w2 lm 0 = nI p := by rw [← sL_r (v := w2) (by omega) (by omega)]; exact hw0
  have L0v : sL v2 lm 0 = nI p := by rw [← sL_r (v := v2) (by omega) (by omega)]; exact hv0
  have Lk : ∀ k, 1 ≤ k → k < 4 → sL w2 lm k = nI 0 := fun k a b => by rw [← sL_r (v := w2) (by omega) (by omega)]; exact hwk k a b
  have Lkv : ∀ k, 1 ≤ k → k < 4 → sL v2 lm k = nI 0 := fun k a b => by rw [← sL_r (v := v2) (by omega) (by omega)]; exact hvk k a b
  have En : ∀ k, k < 5 → sE w2 lm k = nI 0 := fun k a => by rw [← sE_r (v := w2) (by omega) (by omega)]; exact hwe k a
  have lotn : ∀ c, c < cm → ¬ sC w c 0 = nI lm := fun c hc e => by
    obtain ⟨l, l1, l2⟩ := h.c.lot c hc
    rw [l2] at e
    have := nI_inj (by omega) (by omega) e
    omega
  have cst : ∀ a, cnt cm (stC (sC w2) a) = cnt cm (stC (sC w) a) := fun a => cnt_congr fun i hi => by unfold stC; rw [C i 3 (by omega) (by omega)]
  have clo : ∀ a, cnt cm (loC (sC w2) a) = cnt cm (loC (sC w) a) := fun a => cnt_congr fun i hi => by unfold loC; rw [C i 0 (by omega) (by omega)]
  have cls : ∀ l a, cnt cm (lsC (sC w2) l a) = cnt cm (lsC (sC w) l a) := fun l a => cnt_congr fun i hi => by unfold lsC; rw [C i 0 (by omega) (by omega), C i 3 (by omega) (by omega)]
  have csu : ∀ l k, k < 9 → sumI cm (suC (sC w2) l k) = sumI cm (suC (sC w) l k) := fun l k hk => sumI_congr fun i hi => by unfold suC; rw [C i 0 (by omega) (by omega), C i k (by omega) (by omega)]
  have cnt0 : ∀ n (q : Nat → Bool), (∀ i, i < n → q i = false) → cnt n q = 0 := fun n => by
    induction n with
    | zero => intro q _; rfl
    | succ n ih => intro q hq; rw [cnt_s, ih q (fun i hi => hq i (by omega)), hq n (by omega)]; rfl
  have sum0 : ∀ n (q : Nat → Int32), (∀ i, i < n → q i = nI 0) → sumI n q = nI 0 := fun n => by
    induction n with
    | zero => intro q _; rfl
    | succ n ih => intro q hq; rw [sumI_s, ih q (fun i hi => hq i (by omega)), hq n (by omega)]; rfl
  have z1 : cnt cm (loC (sC w) lm) = 0 := cnt0 cm _ fun i hi => by unfold loC; exact decide_eq_false (lotn i hi)
  have z2 : ∀ a, cnt cm (lsC (sC w) lm a) = 0 := fun a => cnt0 cm _ fun i hi => by unfold lsC; exact decide_eq_false (fun q => lotn i hi q.1)
  have z3 : ∀ k, sumI cm (suC (sC w) lm k) = nI 0 := fun k => sum0 cm _ fun i hi => by unfold suC; exact if_neg (lotn i hi)
  have fn : ∀ c, c < cm → (fin (sC w2) c ↔ fin (sC w) c) := fun c hc => by unfold fin; rw [C c 3 (by omega) (by omega)]
  refine ⟨?_, ?_, ?_, ?_, ?_, ?_, ?_⟩
  · obtain ⟨a1, a2, a3, a4, a5, a6, a7, a8, a9, a10⟩ := h.a
    refine ⟨a1, by omega, a3, a4, ?_, ?_, ?_, fun i q1 q2 q3 => ?_, ?_, ?_⟩
    · rw [A 7 (by omega) (by omega)]; exact a5
    · rw [← sA_r (v := w2) (by omega)]; exact hw8
    · rw [A 9 (by omega) (by omega)]; exact a7
    · by_cases e : i = 8
      · subst e; rw [← sA_r (v := v2) (by omega), ← sA_r (v := w2) (by omega), hv8, hw8]
      · rw [A i q1 e, Av i q1 e]; exact a8 i q1 q2 q3
    · rw [A 0 (by omega) (by omega)]; exact a9
    · rw [A 6 (by omega) (by omega)]; exact a10
  · obtain ⟨b1, b2, b3, b4, b5, b6, b7, b8, b9, b10⟩ := h.s
    refine ⟨fun s k hs hk h8 => ?_, fun s hs => ?_, fun s hs => ?_, fun s hs => ?_, fun s hs => ?_, fun s hs => ?_, fun s hs => ?_, fun s hs => ?_, fun s hs => ?_, fun s hs => ?_⟩
    · rw [S s k (by omega) (by omega), Sv s k (by omega) (by omega)]; exact b1 s k hs hk h8
    · rw [S s 0 (by omega) (by omega), S s 8 (by omega) (by omega), Sv s 8 (by omega) (by omega)]; exact b2 s hs
    · rw [S s 0 (by omega) (by omega), Sv s 8 (by omega) (by omega)]; exact b3 s hs
    · rw [S s 1 (by omega) (by omega)]; exact b4 s hs
    · rw [S s 2 (by omega) (by omega)]
      rcases b5 s hs with e | ⟨c, c1, c2, c3, c4⟩
      · exact Or.inl e
      · exact Or.inr ⟨c, by omega, c2, by rw [C c 3 (by omega) (by omega)]; exact c3, by rw [C c 4 (by omega) (by omega)]; exact c4⟩
    · rw [S s 3 (by omega) (by omega)]; exact b6 s hs
    · rw [S s 4 (by omega) (by omega)]; exact b7 s hs
    · rw [S s 7 (by omega) (by omega)]; exact b8 s hs
    · rw [S s 14 (by omega) (by omega), Sv s 14 (by omega) (by omega), Sv s 15 (by omega) (by omega)]
      exact b9 s hs
    · rw [S s 14 (by omega) (by omega)]; exact b10 s hs
  · obtain ⟨b1, b2, b3, b4, b5, b6⟩ := h.c
    refine ⟨fun s k hs hk h8 => ?_, fun s hs => ?_, fun s hs => ?_, fun s hs => ?_, fun s hs => ?_, fun s hs => ?_⟩
    · rw [C s k (by omega) (by omega), Cv s k (by omega) (by omega)]; exact b1 s k hs hk h8
    · rw [C s 0 (by omega) (by omega)]
      obtain ⟨l, l1, l2⟩ := b2 s hs
      exact ⟨l, by omega, l2⟩
    · rw [C s 3 (by omega) (by omega)]; exact b3 s hs
    · rw [C s 8 (by omega) (by omega), C s 3 (by omega) (by omega)]; exact b4 s hs
    · rw [C s 2 (by omega) (by omega), Cv s 2 (by omega) (by omega)]
      obtain ⟨t', n, z1, z2, z3, z4, z5, z6, z7, z8⟩ := b5 s hs
      refine ⟨t', n, z1, z2, z3, z4, z5, z6, z7, fun k hk => ?_⟩
      rw [Cv s (9 + k) (by omega) (by omega)]; exact z8 k hk
    · rw [C s 2 hs (by omega)]; exact b6 s hs
  · obtain ⟨b1, b2, b3⟩ := h.n
    refine ⟨fun a ha => ?_, ?_, fun i q => ?_⟩
    · rw [cst a]; exact b1 a ha
    · rw [Av 10 (by omega) (by omega)]; exact b2
    · rw [cst 3] at q
      have := cnt_le (n := cm) (p := stC (sC w) 3)
      rw [F i (by omega), Fv i (by omega)]; exact b3 i q
  · obtain ⟨b1, b2, b3, b4, b5, b6, b7, b8, b9, b10⟩ := h.l
    refine ⟨fun l' k q1 q2 => ?_, fun l' q1 => ?_, fun l' q1 => ?_, fun l' q1 => ?_, fun l' q1 => ?_, fun l' q1 => ?_, fun l' q1 => ?_, fun l' q1 p q2 => ?_, fun l' c q1 q2 q3 => ?_, fun l' q1 => ?_⟩
    · by_cases e : l' = lm
      · subst e
        by_cases e2 : k = 0
        · rw [e2, L0, L0v]
        · rw [Lk k (by omega) q2, Lkv k (by omega) q2]
      · rw [Lc l' k (by omega) q2, Lv l' k (by omega) q2]; exact b1 l' k (by omega) q2
    · by_cases e : l' = lm
      · subst e; exact ⟨p, hp, L0⟩
      · rw [Lc l' 0 (by omega) (by omega)]; exact b2 l' (by omega)
    · rw [cls]
      by_cases e : l' = lm
      · subst e; rw [En 1 (by omega), z2]
      · rw [E l' 1 (by omega) (by omega)]; exact b3 l' (by omega)
    · rw [cls]
      by_cases e : l' = lm
      · subst e; rw [En 2 (by omega), z2]
      · rw [E l' 2 (by omega) (by omega)]; exact b4 l' (by omega)
    · rw [csu _ _ (by omega)]
      by_cases e : l' = lm
      · subst e; rw [En 3 (by omega), z3]
      · rw [E l' 3 (by omega) (by omega)]; exact b5 l' (by omega)
    · rw [csu _ _ (by omega)]
      by_cases e : l' = lm
      · subst e; rw [En 4 (by omega), z3]
      · rw [E l' 4 (by omega) (by omega)]; exact b6 l' (by omega)
    · rw [clo]
      by_cases e : l' = lm
      · subst e; rw [Lk 1 (by omega) (by omega), z1]
      · rw [Lc l' 1 (by omega) (by omega)]; exact b7 l' (by omega)
    · rw [clo] at q2
      by_cases e : l' = lm
      · subst e; rw [z1] at q2; omega
      · obtain ⟨c, y1, y2, y3, y4⟩ := b8 l' (by omega) p q2
        exact ⟨c, y1, y2, by rw [C c 0 (by omega) (by omega)]; exact y3, by rw [C c 1 (by omega) (by omega)]; exact y4⟩
    · rw [C c 0 (by omega) (by omega)] at q3
      by_cases e : l' = lm
      · subst e; exact absurd q3 (lotn c q2)
      · obtain ⟨p, p1, p2, p3⟩ := b9 l' c (by omega) q2 q3
        exact ⟨p, by rw [clo]; exact p1, by rw [C c 1 (by omega) (by omega)]; exact p2, p3⟩
    · rw [clo]
      by_cases e : l' = lm
      · subst e
        rw [z1]
        exact ⟨0, Nat.le_refl _, En 0 (by omega), fun p c r1 => by omega, fun c r1 => by omega⟩
      · obtain ⟨q, p1, p2, p3, p4⟩ := b10 l' (by omega)
        exact ⟨q, p1, by rw [E l' 0 (by omega) (by omega)]; exact p2, fun p c r1 r2 r3 => (fn c r2).mpr (p3 p c r1 r2 r3), fun c r1 r2 r3 f => p4 c r1 r2 r3 ((fn c r2).mp f)⟩
  · obtain ⟨b1, b2⟩ := h.d
    have ht : sA w 6 = nI 0 := by rw [← sA_r (v := w) (by omega)]; exact htime
    obtain ⟨d0, d1, d2, d3⟩ := hday
    refine ⟨fun d t q1 q2 q3 q4 => ?_, fun d t l i q1 q2 q3 q4 q5 q6 => ?_⟩
    · rw [A 0 (by omega) (by omega)] at q3
      rw [A 6 (by omega) (by omega)] at q4
      rw [Av 11 (by omega) (by omega)]
      exact b1 d t q1 q2 q3 q4
    · rw [A 0 (by omega) (by omega)] at q3
      rw [A 6 (by omega) (by omega), ht] at q4
      have := nI_inj (by omega) (by omega) q4
      subst this
      rw [Nat.zero_div] at q6
      omega
  · intro q hq
    rw [C q 3 (by omega) (by omega), C q 4 (by omega) (by omega)]; exact h.wh q hq
