theorem QR.stat {v w iv v2 w2 : Nat → Int32} {bp dl df tx tx2 : Nat → Nat → Int32} {nt nt2 sm lm cm B U ty p t len : Nat} {m : Int32} (h : QR v w iv bp dl df tx nt sm lm cm B U) (hsm : sm < 6) (hty : ty < 4) (hp1 : 1 ≤ p) (hp : p ≤ 99)
    (hv : ∀ i, i ≠ 7 → (i < 17 + 16 * sm ∨ 33 + 16 * sm ≤ i) → v2 i = v i) (hv7 : v2 7 = nI (sm + 1)) (hv0 : v2 (17 + 16 * sm + 0) = nI ty) (hv1 : v2 (17 + 16 * sm + 1) = nI p) (hv2 : v2 (17 + 16 * sm + 2) = m1) (hvk : ∀ k, 3 ≤ k → k < 14 → k ≠ 8 → v2 (17 + 16 * sm + k) = nI 0) (hv8 : v2 (17 + 16 * sm + 8) = if ty = 3 then nI 0 else m1) (hvn : v2 (17 + 16 * sm + 14) = nI len) (hvm : v2 (17 + 16 * sm + 15) = m)
    (hw : ∀ i, i ≠ 7 → (i < 17 + 16 * sm ∨ 33 + 16 * sm ≤ i) → w2 i = w i) (hw7 : w2 7 = nI (sm + 1)) (hw0 : w2 (17 + 16 * sm + 0) = nI ty) (hw1 : w2 (17 + 16 * sm + 1) = nI p) (hw2 : w2 (17 + 16 * sm + 2) = m1) (hwk : ∀ k, 3 ≤ k → k < 14 → w2 (17 + 16 * sm + k) = nI 0) (hwt : w2 (17 + 16 * sm + 14) = nI t)
    (hnt : nt ≤ nt2) (htx : ∀ t', 1 ≤ t' → t' ≤ nt → tx2 t' = tx t') (ht1 : 1 ≤ t) (ht2 : t ≤ nt2) (ht31 : t < 2 ^ 31) (hl1 : 1 ≤ len) (hl : len ≤ 12) (ht0 : tx2 t 0 = nI len) (hbits : ∀ k, k < len → (tx2 t (1 + k) = nI 49 ↔ (m >>> nI k) &&& nI 1 = nI 1)) : QR v2 w2 iv bp dl df tx2 nt2 (sm + 1) lm cm B U := by
  have hlm := h.a.lm6; have hcm := h.a.cm30
  have A : ∀ i, i < 17 → i ≠ 7 → sA w2 i = sA w i := fun i a b => by rw [← sA_r (v := w2) a, ← sA_r (v := w) a]; exact hw i b (by omega)
  have Av : ∀ i, i < 17 → i ≠ 7 → sA v2 i = sA v i := fun i a b => by rw [← sA_r (v := v2) a, ← sA_r (v := v) a]; exact hv i b (by omega)
  have S : ∀ s k, s < 6 → s ≠ sm → k < 16 → sS w2 s k = sS w s k := fun s k a c b => by rw [← sS_r (v := w2) a b, ← sS_r (v := w) a b]; exact hw _ (by omega) (by omega)
  have Sv : ∀ s k, s < 6 → s ≠ sm → k < 16 → sS v2 s k = sS v s k := fun s k a c b => by rw [← sS_r (v := v2) a b, ← sS_r (v := v) a b]; exact hv _ (by omega) (by omega)
  have N : ∀ k, k < 16 → sS w2 sm k = w2 (17 + 16 * sm + k) := fun k b => (sS_r (v := w2) hsm b).symm
  have Nv : ∀ k, k < 16 → sS v2 sm k = v2 (17 + 16 * sm + k) := fun k b => (sS_r (v := v2) hsm b).symm
  have eL : sL w2 = sL w := by
    funext a b; unfold sL
    split
    · exact hw _ (by omega) (by omega)
    · rfl
  have eLv : sL v2 = sL v := by
    funext a b; unfold sL
    split
    · exact hv _ (by omega) (by omega)
    · rfl
  have eE : sE w2 = sE w := by
    funext a b; unfold sE
    split
    · exact hw _ (by omega) (by omega)
    · rfl
  have eC : sC w2 = sC w := by
    funext a b; unfold sC
    split
    · exact hw _ (by omega) (by omega)
    · rfl
  have eCv : sC v2 = sC v := by
    funext a b; unfold sC
    split
    · exact hv _ (by omega) (by omega)
    · rfl
  have eF : sF w2 = sF w := by
    funext a; unfold sF
    split
    · exact hw _ (by omega) (by omega)
    · rfl
  have eFv : sF v2 = sF v := by
    funext a; unfold sF
    split
    · exact hv _ (by omega) (by omega)
    · rfl
  have ePv : sP v2 = sP v := by
    funext a; unfold sP
    split
    · exact hv _ (by omega) (by omega)
    · rfl
  refine ⟨?_, ?_, ?_, ?_, ?_, ?_, ?_⟩
  · obtain ⟨a1, a2, a3, a4, a5, a6, a7, a8, a9, a10⟩ := h.a
    refine ⟨by omega, a2, a3, a4, ?_, ?_, ?_, fun i q1 q2 q3 => ?_, ?_, ?_⟩
    · rw [← sA_r (v := w2) (by omega)]; exact hw7
    · rw [A 8 (by omega) (by omega)]; exact a6
    · rw [A 9 (by omega) (by omega)]; exact a7
    · by_cases e : i = 7
      · subst e; rw [← sA_r (v := v2) (by omega), ← sA_r (v := w2) (by omega), hv7, hw7]
      · rw [A i q1 e, Av i q1 e]; exact a8 i q1 q2 q3
    · rw [A 0 (by omega) (by omega)]; exact a9
    · rw [A 6 (by omega) (by omega)]; exact a10
  · rw [eC]
    obtain ⟨b1, b2, b3, b4, b5, b6, b7, b8, b9, b10⟩ := h.s
    have x0 : sS w2 sm 0 = nI ty := (N 0 (by omega)).trans hw0
    have x8 : sS w2 sm 8 = nI 0 := (N 8 (by omega)).trans (hwk 8 (by omega) (by omega))
    have y8 : sS v2 sm 8 = if ty = 3 then nI 0 else m1 := (Nv 8 (by omega)).trans hv8
    refine ⟨fun s k hs hk h8 => ?_, fun s hs => ?_, fun s hs => ?_, fun s hs => ?_, fun s hs => ?_, fun s hs => ?_, fun s hs => ?_, fun s hs => ?_, fun s hs => ?_, fun s hs => ?_⟩
    · by_cases e : s = sm
      · subst e
        rw [N k (by omega), Nv k (by omega)]
        rcases (show k = 0 ∨ k = 1 ∨ k = 2 ∨ 3 ≤ k by omega) with rfl | rfl | rfl | k3
        · rw [hv0, hw0]
        · rw [hv1, hw1]
        · rw [hv2, hw2]
        · rw [hvk k k3 hk h8, hwk k k3 hk]
      · rw [S s k (by omega) e (by omega), Sv s k (by omega) e (by omega)]; exact b1 s k (by omega) hk h8
    · by_cases e : s = sm
      · subst e
        rw [x0, x8, y8]
        intro q
        have := nI_inj (by omega) (by omega) q
        rw [if_pos this]
        exact ⟨rfl, 0, by omega, rfl⟩
      · rw [S s 0 (by omega) e (by omega), S s 8 (by omega) e (by omega), Sv s 8 (by omega) e (by omega)]; exact b2 s (by omega)
    · by_cases e : s = sm
      · subst e
        rw [x0, y8]
        intro q
        exact if_neg fun z => q (by rw [z])
      · rw [S s 0 (by omega) e (by omega), Sv s 8 (by omega) e (by omega)]; exact b3 s (by omega)
    · by_cases e : s = sm
      · subst e; exact ⟨p, hp1, hp, (N 1 (by omega)).trans hw1⟩
      · rw [S s 1 (by omega) e (by omega)]; exact b4 s (by omega)
    · by_cases e : s = sm
      · subst e; exact Or.inl ((N 2 (by omega)).trans hw2)
      · rw [S s 2 (by omega) e (by omega)]; exact b5 s (by omega)
    · by_cases e : s = sm
      · subst e; exact ⟨0, by omega, (N 3 (by omega)).trans (hwk 3 (by omega) (by omega))⟩
      · rw [S s 3 (by omega) e (by omega)]; exact b6 s (by omega)
    · by_cases e : s = sm
      · subst e; exact ⟨0, by omega, (N 4 (by omega)).trans (hwk 4 (by omega) (by omega))⟩
      · rw [S s 4 (by omega) e (by omega)]; exact b7 s (by omega)
    · by_cases e : s = sm
      · subst e; exact Or.inl ((N 7 (by omega)).trans (hwk 7 (by omega) (by omega)))
      · rw [S s 7 (by omega) e (by omega)]; exact b8 s (by omega)
    · by_cases e : s = sm
      · subst e
        rw [N 14 (by omega), Nv 14 (by omega), Nv 15 (by omega), hwt, hvn, hvm]
        exact ⟨t, len, ht1, ht2, rfl, ht0, hl1, hl, rfl, hbits⟩
      · rw [S s 14 (by omega) e (by omega), Sv s 14 (by omega) e (by omega), Sv s 15 (by omega) e (by omega)]
        obtain ⟨t', n, z1, z2, z3, z4, z5, z6, z7, z8⟩ := b9 s (by omega)
        exact ⟨t', n, z1, by omega, z3, by rw [htx t' z1 z2]; exact z4, z5, z6, z7, fun k hk => by rw [htx t' z1 z2]; exact z8 k hk⟩
    · by_cases e : s = sm
      · subst e; rw [N 14 (by omega), hwt, nI_clamp ht31]; exact ht2
      · rw [S s 14 (by omega) e (by omega)]; exact Nat.le_trans (b10 s hs) hnt
  · rw [eC, eCv]
    obtain ⟨b1, b2, b3, b4, b5, b6⟩ := h.c
    refine ⟨b1, b2, b3, b4, fun s hs => ?_, fun s hs => Nat.le_trans (b6 s hs) hnt⟩
    obtain ⟨t', n, z1, z2, z3, z4, z5, z6, z7, z8⟩ := b5 s hs
    exact ⟨t', n, z1, by omega, z3, by rw [htx t' z1 z2]; exact z4, z5, z6, z7, fun k hk => by rw [htx t' z1 z2]; exact z8 k hk⟩
  · rw [eC, eF, eFv]
    obtain ⟨b1, b2, b3⟩ := h.n
    exact ⟨b1, by rw [Av 10 (by omega) (by omega)]; exact b2, b3⟩
  · rw [eC, eL, eLv, eE]; exact h.l
  · rw [ePv]
    obtain ⟨b1, b2⟩ := h.d
    refine ⟨fun d t q1 q2 q3 q4 => ?_, fun d t l i q1 q2 q3 q4 q5 q6 => ?_⟩
    · rw [A 0 (by omega) (by omega)] at q3
      rw [A 6 (by omega) (by omega)] at q4
      rw [Av 11 (by omega) (by omega)]
      exact b1 d t q1 q2 q3 q4
    · rw [A 0 (by omega) (by omega)] at q3
      rw [A 6 (by omega) (by omega)] at q4
      exact b2 d t l i q1 q2 q3 q4 q5 q6
  · rw [eC]; exact h.wh
theorem QR.fresh {v w iv : Nat → Int32} {bp dl df tx : Nat → Nat → Int32} {nt B U d : Nat} (hB : B < 2000000000) (hd1 : 1 ≤ d) (hd : d ≤ 2000) (e0 : w 0 = nI d) (e6 : w 6 = nI 0) (e7 : w 7 = nI 0) (e8 : w 8 = nI 0) (e9 : w 9 = nI 0) (heq : ∀ i, i < 17 → i ≠ 10 → i ≠ 11 → v i = w i) (v10 : v 10 = nI 0) (v11 : v 11 = nI 0) (hiv : ∀ a, a < 5 → iv a = nI 0) (ht : TIr w nt) : QR v w iv bp dl df tx nt 0 0 0 B U := by
  refine ⟨⟨by omega, by omega, by omega, hB, ?_, ?_, ?_, fun i q1 q2 q3 => ?_, ⟨d, hd1, hd, ?_⟩, ⟨0, by omega, ?_⟩⟩, ⟨fun s k hs => absurd hs (by omega), fun s hs => absurd hs (by omega), fun s hs => absurd hs (by omega), fun s hs => absurd hs (by omega), fun s hs => absurd hs (by omega), fun s hs => absurd hs (by omega), fun s hs => absurd hs (by omega), fun s hs => absurd hs (by omega), fun s hs => absurd hs (by omega), ht.1⟩, ⟨fun s k hs => absurd hs (by omega), fun s hs => absurd hs (by omega), fun s hs => absurd hs (by omega), fun s hs => absurd hs (by omega), fun s hs => absurd hs (by omega), ht.2⟩, ⟨fun a ha => hiv a ha, ?_, fun i q => ?_⟩, ⟨fun s k hs => absurd hs (by omega), fun s hs => absurd hs (by omega), fun s hs => absurd hs (by omega), fun s hs => absurd hs (by omega), fun s hs => absurd hs (by omega), fun s hs => absurd hs (by omega), fun s hs => absurd hs (by omega), fun s hs => absurd hs (by omega), fun s q hs => absurd hs (by omega), fun s hs => absurd hs (by omega)⟩, ⟨fun d t q1 q2 q3 q4 => ?_, fun d t l i q1 q2 q3 q4 q5 => absurd q5 (by omega)⟩, fun c hc => absurd hc (by omega)⟩
  · rw [← sA_r (v := w) (by omega)]; exact e7
  · rw [← sA_r (v := w) (by omega)]; exact e8
  · rw [← sA_r (v := w) (by omega)]; exact e9
  · rw [← sA_r (v := v) q1, ← sA_r (v := w) q1]; exact heq i q1 q2 q3
  · rw [← sA_r (v := w) (by omega)]; exact e0
  · rw [← sA_r (v := w) (by omega)]; exact e6
  · rw [← sA_r (v := v) (by omega), v10, hiv 3 (by omega)]
  · exact absurd q (by show ¬ i < 0; omega)
  · rw [← sA_r (v := w) (by omega), e6] at q4
    have := nI_inj (by omega) (by omega) q4
    rw [← this, Nat.zero_div, Nat.min_zero, ← sA_r (v := v) (by omega)]
    exact v11
