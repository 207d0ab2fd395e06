noncomputable def NC (l sz k : Nat) : Int32 := if k = 0 then nI l else if k = 1 then nI sz else if k = 4 ∨ k = 7 then m1 else nI 0
theorem cnt_s {n : Nat} {p : Nat → Bool} : cnt (n + 1) p = cnt n p + if p n then 1 else 0 := rfl
theorem sumI_s {n : Nat} {f : Nat → Int32} : sumI (n + 1) f = sumI n f + f n := rfl
theorem QR.card {v w iv v2 w2 iv2 : Nat → Int32} {bp dl df tx bp2 tx2 : Nat → Nat → Int32} {nt nt2 sm lm cm B U l t len : Nat} (h : QR v w iv bp dl df tx nt sm lm cm B U) (hcm : cm < 30) (hl : l < lm) (hlen1 : 1 ≤ len) (hlen : len ≤ 16)
    (hv : ∀ i, i ≠ 9 → i ≠ 114 + 4 * l → (i < 137 + 25 * cm ∨ 162 + 25 * cm ≤ i) → v2 i = v i) (hv9 : v2 9 = nI (cm + 1)) (hvs : v2 (113 + 4 * l + 1) = nI (cnt cm (loC (sC w) l) + 1)) (hvc : ∀ k, k < 9 → k ≠ 2 → v2 (137 + 25 * cm + k) = NC l (cnt cm (loC (sC w) l)) k) (hv2 : v2 (137 + 25 * cm + 2) = nI len) (hvl : ∀ k, k < len → v2 (137 + 25 * cm + (9 + k)) = tx2 t (1 + k) ∧ ∃ a, a < 26 ∧ tx2 t (1 + k) = nI a)
    (hw : ∀ i, i ≠ 9 → i ≠ 114 + 4 * l → (i < 137 + 25 * cm ∨ 162 + 25 * cm ≤ i) → w2 i = w i) (hw9 : w2 9 = nI (cm + 1)) (hws : w2 (113 + 4 * l + 1) = nI (cnt cm (loC (sC w) l) + 1)) (hwc : ∀ k, k < 9 → k ≠ 2 → w2 (137 + 25 * cm + k) = NC l (cnt cm (loC (sC w) l)) k) (hw2 : w2 (137 + 25 * cm + 2) = nI t)
    (hi0 : iv2 0 = iv 0 + nI 1) (hi : ∀ a, 1 ≤ a → a < 5 → iv2 a = iv a) (hb0 : bp2 l (cnt cm (loC (sC w) l)) = nI cm) (hb : ∀ l' p, l' < lm → ¬ (l' = l ∧ p = cnt cm (loC (sC w) l)) → bp2 l' p = bp l' p)
    (hnt : nt ≤ nt2) (htx : ∀ t', 1 ≤ t' → t' ≤ nt → tx2 t' = tx t') (ht1 : 1 ≤ t) (ht2 : t ≤ nt2) (ht31 : t < 2 ^ 31) (ht0 : tx2 t 0 = nI len) : QR v2 w2 iv2 bp2 dl df tx2 nt2 sm lm (cm + 1) B U := by
  have hsm := h.a.sm6; have hlm := h.a.lm6
  have A : ∀ i, i < 17 → i ≠ 9 → sA w2 i = sA w i := fun i a b => by rw [← sA_r (v := w2) a, ← sA_r (v := w) a]; exact hw i b (by omega) (by omega)
  have Av : ∀ i, i < 17 → i ≠ 9 → sA v2 i = sA v i := fun i a b => by rw [← sA_r (v := v2) a, ← sA_r (v := v) a]; exact hv i b (by omega) (by omega)
  have S : ∀ s k, s < 6 → k < 16 → sS w2 s k = sS w s k := fun s k a b => by rw [← sS_r (v := w2) a b, ← sS_r (v := w) a b]; exact hw _ (by omega) (by omega) (by omega)
  have Sv : ∀ s k, s < 6 → k < 16 → sS v2 s k = sS v s k := fun s k a b => by rw [← sS_r (v := v2) a b, ← sS_r (v := v) a b]; exact hv _ (by omega) (by omega) (by omega)
  have Lc : ∀ s k, s < 6 → k < 4 → ¬ (s = l ∧ k = 1) → sL w2 s k = sL w s k := fun s k a b c => by rw [← sL_r (v := w2) a b, ← sL_r (v := w) a b]; exact hw _ (by omega) (by omega) (by omega)
  have Lv : ∀ s k, s < 6 → k < 4 → ¬ (s = l ∧ k = 1) → sL v2 s k = sL v s k := fun s k a b c => by rw [← sL_r (v := v2) a b, ← sL_r (v := v) a b]; exact hv _ (by omega) (by omega) (by omega)
  have L1 : sL w2 l 1 = nI (cnt cm (loC (sC w) l) + 1) := by rw [← sL_r (v := w2) (by omega) (by omega)]; exact hws
  have L1v : sL v2 l 1 = nI (cnt cm (loC (sC w) l) + 1) := by rw [← sL_r (v := v2) (by omega) (by omega)]; exact hvs
  have E : ∀ s k, s < 6 → k < 5 → sE w2 s k = sE w s k := fun s k a b => by rw [← sE_r (v := w2) a (by omega), ← sE_r (v := w) a (by omega)]; exact hw _ (by omega) (by omega) (by omega)
  have C : ∀ s k, s < cm → k < 25 → sC w2 s k = sC w s k := fun s k a b => by rw [← sC_r (v := w2) (by omega) b, ← sC_r (v := w) (by omega) b]; exact hw _ (by omega) (by omega) (by omega)
  have Cv : ∀ s k, s < cm → k < 25 → sC v2 s k = sC v s k := fun s k a b => by rw [← sC_r (v := v2) (by omega) b, ← sC_r (v := v) (by omega) b]; exact hv _ (by omega) (by omega) (by omega)
  have Cn : ∀ k, k < 9 → k ≠ 2 → sC w2 cm k = NC l (cnt cm (loC (sC w) l)) k := fun k a b => by rw [← sC_r (v := w2) (by omega) (by omega)]; exact hwc k a b
  have Cnv : ∀ k, k < 9 → k ≠ 2 → sC v2 cm k = NC l (cnt cm (loC (sC w) l)) k := fun k a b => by rw [← sC_r (v := v2) (by omega) (by omega)]; exact hvc k a b
  have C2 : sC w2 cm 2 = nI t := by rw [← sC_r (v := w2) (by omega) (by omega)]; exact hw2
  have C2v : sC v2 cm 2 = nI len := by rw [← sC_r (v := v2) (by omega) (by omega)]; exact hv2
  have F : ∀ i, i < 30 → sF w2 i = sF w i := fun i a => by rw [← sF_r (v := w2) a, ← sF_r (v := w) a]; exact hw _ (by omega) (by omega) (by omega)
  have Fv : ∀ i, i < 30 → sF v2 i = sF v i := fun i a => by rw [← sF_r (v := v2) a, ← sF_r (v := v) a]; exact hv _ (by omega) (by omega) (by omega)
  have Pv : ∀ i, i < 120 → sP v2 i = sP v i := fun i a => by rw [← sP_r (v := v2) a, ← sP_r (v := v) a]; exact hv _ (by omega) (by omega) (by omega)
  have c0 : sC w2 cm 0 = nI l := Cn 0 (by omega) (by omega)
  have c1 : sC w2 cm 1 = nI (cnt cm (loC (sC w) l)) := Cn 1 (by omega) (by omega)
  have c3 : sC w2 cm 3 = nI 0 := Cn 3 (by omega) (by omega)
  have c4 : sC w2 cm 4 = m1 := Cn 4 (by omega) (by omega)
  have c5 : sC w2 cm 5 = nI 0 := Cn 5 (by omega) (by omega)
  have c6 : sC w2 cm 6 = nI 0 := Cn 6 (by omega) (by omega)
  have c8 : sC w2 cm 8 = nI 0 := Cn 8 (by omega) (by omega)
  have n3 : ∀ a, 1 ≤ a → a < 5 → ¬ sC w2 cm 3 = nI a := fun a p q => by rw [c3]; exact nI_ne (by omega) (by omega) (by omega)
  have cst : ∀ a, cnt (cm + 1) (stC (sC w2) a) = cnt cm (stC (sC w) a) + if sC w2 cm 3 = nI a then 1 else 0 := fun a => by
    rw [cnt_s, cnt_congr (q := stC (sC w) a) fun i hi => by unfold stC; rw [C i 3 hi (by omega)]]
    unfold stC; simp only [decide_eq_true_eq]
  have clo : ∀ a, a < 6 → cnt (cm + 1) (loC (sC w2) a) = cnt cm (loC (sC w) a) + if a = l then 1 else 0 := fun a ha => by
    rw [cnt_s, cnt_congr (q := loC (sC w) a) fun i hi => by unfold loC; rw [C i 0 hi (by omega)]]
    unfold loC; simp only [decide_eq_true_eq, c0]
    by_cases e : a = l
    · rw [if_pos (by rw [e]), if_pos e]
    · rw [if_neg (nI_ne (fun q => e q.symm) (by omega) (by omega)), if_neg e]
  have cls : ∀ l' a, 1 ≤ a → a < 5 → cnt (cm + 1) (lsC (sC w2) l' a) = cnt cm (lsC (sC w) l' a) := fun l' a p q => by
    rw [cnt_s, cnt_congr (q := lsC (sC w) l' a) fun i hi => by unfold lsC; rw [C i 0 hi (by omega), C i 3 hi (by omega)]]
    unfold lsC; simp only [decide_eq_true_eq]
    rw [if_neg (fun z => n3 a p q z.2), Nat.add_zero]
  have csu : ∀ l' k, k < 9 → sC w2 cm k = nI 0 → sumI (cm + 1) (suC (sC w2) l' k) = sumI cm (suC (sC w) l' k) := fun l' k hk h0 => by
    rw [sumI_s, sumI_congr (q := suC (sC w) l' k) fun i hi => by unfold suC; rw [C i 0 hi (by omega), C i k hi (by omega)]]
    have : suC (sC w2) l' k cm = nI 0 := by unfold suC; rw [h0]; split <;> rfl
    rw [this]; exact Int32.add_zero _
  have fn : ∀ c, c < cm → (fin (sC w2) c ↔ fin (sC w) c) := fun c hc => by unfold fin; rw [C c 3 hc (by omega)]
  have fnn : ¬ fin (sC w2) cm := fun q => q.elim (n3 3 (by omega) (by omega)) (n3 4 (by omega) (by omega))
  have hsz := cnt_le (n := cm) (p := loC (sC w) l)
  refine ⟨?_, ?_, ?_, ?_, ?_, ?_, ?_⟩
  · obtain ⟨a1, a2, a3, a4, a5, a6, a7, a8, a9, a10⟩ := h.a
    refine ⟨a1, a2, by omega, a4, ?_, ?_, ?_, fun i q1 q2 q3 => ?_, ?_, ?_⟩
    · rw [A 7 (by omega) (by omega)]; exact a5
    · rw [A 8 (by omega) (by omega)]; exact a6
    · rw [← sA_r (v := w2) (by omega)]; exact hw9
    · by_cases e : i = 9
      · subst e; rw [← sA_r (v := v2) (by omega), ← sA_r (v := w2) (by omega), hv9, hw9]
      · rw [A i q1 e, Av i q1 e]; exact a8 i q1 q2 q3
    · rw [A 0 (by omega) (by omega)]; exact a9
    · rw [A 6 (by omega) (by omega)]; exact a10
  · obtain ⟨b1, b2, b3, b4, b5, b6, b7, b8, b9, b10⟩ := h.s
    refine ⟨fun s k hs hk h8 => ?_, fun s hs => ?_, fun s hs => ?_, fun s hs => ?_, fun s hs => ?_, fun s hs => ?_, fun s hs => ?_, fun s hs => ?_, fun s hs => ?_, fun s hs => ?_⟩
    · rw [S s k (by omega) (by omega), Sv s k (by omega) (by omega)]; exact b1 s k hs hk h8
    · rw [S s 0 (by omega) (by omega), S s 8 (by omega) (by omega), Sv s 8 (by omega) (by omega)]; exact b2 s hs
    · rw [S s 0 (by omega) (by omega), Sv s 8 (by omega) (by omega)]; exact b3 s hs
    · rw [S s 1 (by omega) (by omega)]; exact b4 s hs
    · rw [S s 2 (by omega) (by omega)]
      rcases b5 s hs with e | ⟨c, c1, c2, c3, c4⟩
      · exact Or.inl e
      · exact Or.inr ⟨c, by omega, c2, by rw [C c 3 c1 (by omega)]; exact c3, by rw [C c 4 c1 (by omega)]; exact c4⟩
    · rw [S s 3 (by omega) (by omega)]; exact b6 s hs
    · rw [S s 4 (by omega) (by omega)]; exact b7 s hs
    · rw [S s 7 (by omega) (by omega)]; exact b8 s hs
    · rw [S s 14 (by omega) (by omega), Sv s 14 (by omega) (by omega), Sv s 15 (by omega) (by omega)]
      obtain ⟨t', n, z1, z2, z3, z4, z5, z6, z7, z8⟩ := b9 s hs
      exact ⟨t', n, z1, by omega, z3, by rw [htx t' z1 z2]; exact z4, z5, z6, z7, fun k hk => by rw [htx t' z1 z2]; exact z8 k hk⟩
    · rw [S s 14 (by omega) (by omega)]; exact Nat.le_trans (b10 s hs) hnt
  · obtain ⟨b1, b2, b3, b4, b5, b6⟩ := h.c
    refine ⟨fun s k hs hk h8 => ?_, fun s hs => ?_, fun s hs => ?_, fun s hs => ?_, fun s hs => ?_, fun s hs => ?_⟩
    · by_cases e : s = cm
      · subst e; rw [Cn k hk h8, Cnv k hk h8]
      · rw [C s k (by omega) (by omega), Cv s k (by omega) (by omega)]; exact b1 s k (by omega) hk h8
    · by_cases e : s = cm
      · subst e; exact ⟨l, hl, c0⟩
      · rw [C s 0 (by omega) (by omega)]; exact b2 s (by omega)
    · by_cases e : s = cm
      · subst e; exact ⟨0, by omega, c3⟩
      · rw [C s 3 (by omega) (by omega)]; exact b3 s (by omega)
    · by_cases e : s = cm
      · subst e; exact Or.inl c8
      · rw [C s 8 (by omega) (by omega), C s 3 (by omega) (by omega)]; exact b4 s (by omega)
    · by_cases e : s = cm
      · subst e
        refine ⟨t, len, ht1, ht2, C2, ht0, hlen1, hlen, C2v, fun k hk => ?_⟩
        rw [← sC_r (v := v2) (by omega) (by omega)]
        exact hvl k hk
      · rw [C s 2 (by omega) (by omega), Cv s 2 (by omega) (by omega)]
        obtain ⟨t', n, z1, z2, z3, z4, z5, z6, z7, z8⟩ := b5 s (by omega)
        refine ⟨t', n, z1, by omega, z3, by rw [htx t' z1 z2]; exact z4, z5, z6, z7, fun k hk => ?_⟩
        rw [Cv s (9 + k) (by omega) (by omega), htx t' z1 z2]; exact z8 k hk
    · by_cases e : s = cm
      · subst e; rw [C2, nI_clamp ht31]; exact ht2
      · have : sC w2 s 2 = sC w s 2 := by rw [← sC_r (v := w2) (by omega) (by omega), ← sC_r (v := w) (by omega) (by omega)]; exact hw _ (by omega) (by omega) (by omega)
        rw [this]; exact Nat.le_trans (b6 s hs) hnt
  · obtain ⟨b1, b2, b3⟩ := h.n
    refine ⟨fun a ha => ?_, ?_, fun i q => ?_⟩
    · rw [cst a]
      by_cases e : a = 0
      · subst e; rw [hi0, b1 0 (by omega), if_pos c3, nI_add]
      · rw [hi a (by omega) ha, b1 a ha, if_neg (n3 a (by omega) ha), Nat.add_zero]
    · rw [Av 10 (by omega) (by omega), hi 3 (by omega) (by omega)]; exact b2
    · rw [cst 3, if_neg (n3 3 (by omega) (by omega)), Nat.add_zero] at q
      have := cnt_le (n := cm) (p := stC (sC w) 3)
      rw [F i (by omega), Fv i (by omega)]; exact b3 i q
  · obtain ⟨b1, b2, b3, b4, b5, b6, b7, b8, b9, b10⟩ := h.l
    refine ⟨fun l' k q1 q2 => ?_, fun l' q1 => ?_, fun l' q1 => ?_, fun l' q1 => ?_, fun l' q1 => ?_, fun l' q1 => ?_, fun l' q1 => ?_, fun l' q1 p q2 => ?_, fun l' c q1 q2 q3 => ?_, fun l' q1 => ?_⟩
    · by_cases e : l' = l ∧ k = 1
      · rw [e.1, e.2, L1, L1v]
      · rw [Lc l' k (by omega) q2 e, Lv l' k (by omega) q2 e]; exact b1 l' k q1 q2
    · rw [Lc l' 0 (by omega) (by omega) (by omega)]; exact b2 l' q1
    · rw [E l' 1 (by omega) (by omega), cls l' 3 (by omega) (by omega)]; exact b3 l' q1
    · rw [E l' 2 (by omega) (by omega), cls l' 4 (by omega) (by omega)]; exact b4 l' q1
    · rw [E l' 3 (by omega) (by omega), csu l' 5 (by omega) c5]; exact b5 l' q1
    · rw [E l' 4 (by omega) (by omega), csu l' 6 (by omega) c6]; exact b6 l' q1
    · rw [clo l' (by omega)]
      by_cases e : l' = l
      · subst e; rw [L1, if_pos rfl]
      · rw [Lc l' 1 (by omega) (by omega) (by omega), if_neg e, Nat.add_zero]; exact b7 l' q1
    · rw [clo l' (by omega)] at q2
      by_cases e : l' = l ∧ p = cnt cm (loC (sC w) l)
      · rw [e.1, e.2]
        exact ⟨cm, by omega, hb0, c0, c1⟩
      · have hp : p < cnt cm (loC (sC w) l') := by
          by_cases e2 : l' = l
          · subst e2; rw [if_pos rfl] at q2; have : p ≠ cnt cm (loC (sC w) l') := fun z => e ⟨rfl, z⟩; omega
          · rw [if_neg e2] at q2; omega
        obtain ⟨c, z1, z2, z3, z4⟩ := b8 l' q1 p hp
        exact ⟨c, by omega, by rw [hb l' p q1 e]; exact z2, by rw [C c 0 z1 (by omega)]; exact z3, by rw [C c 1 z1 (by omega)]; exact z4⟩
    · rw [clo l' (by omega)]
      by_cases e : c = cm
      · subst e
        have e2 : l' = l := by
          rw [c0] at q3
          exact (nI_inj (by omega) (by omega) q3).symm
        subst e2
        exact ⟨cnt c (loC (sC w) l'), by rw [if_pos rfl]; omega, c1, hb0⟩
      · rw [C c 0 (by omega) (by omega)] at q3
        obtain ⟨p, p1, p2, p3⟩ := b9 l' c q1 (by omega) q3
        refine ⟨p, by omega, by rw [C c 1 (by omega) (by omega)]; exact p2, ?_⟩
        rw [hb l' p q1 (fun z => by rw [z.1] at p1; omega)]; exact p3
    · rw [clo l' (by omega)]
      obtain ⟨q, p1, p2, p3, p4⟩ := b10 l' q1
      refine ⟨q, by omega, by rw [E l' 0 (by omega) (by omega)]; exact p2, fun p c r1 r2 r3 => ?_, fun c r1 r2 r3 => ?_⟩
      · have hne : ¬ (l' = l ∧ p = cnt cm (loC (sC w) l)) := fun z => by rw [z.1] at p1; omega
        rw [hb l' p q1 hne] at r3
        have hc : c < cm := by
          obtain ⟨c', z1, z2, -⟩ := b8 l' q1 p (by omega)
          rw [z2] at r3
          have := nI_inj (by omega) (by omega) r3
          omega
        exact (fn c hc).mpr (p3 p c r1 hc r3)
      · by_cases e : l' = l ∧ q = cnt cm (loC (sC w) l)
        · rw [e.1, e.2, hb0] at r3
          have := nI_inj (by omega) (by omega) r3
          rw [← this]; exact fnn
        · rw [hb l' q q1 e] at r3
          have hq : q < cnt cm (loC (sC w) l') := by
            by_cases e2 : l' = l
            · subst e2; rw [if_pos rfl] at r1; have : q ≠ cnt cm (loC (sC w) l') := fun z => e ⟨rfl, z⟩; omega
            · rw [if_neg e2] at r1; omega
          have hc : c < cm := by
            obtain ⟨c', z1, z2, -⟩ := b8 l' q1 q hq
            rw [z2] at r3
            have := nI_inj (by omega) (by omega) r3
            omega
          exact fun f => p4 c hq hc r3 ((fn c hc).mp f)
  · obtain ⟨b1, b2⟩ := h.d
    refine ⟨fun d t q1 q2 q3 q4 => ?_, fun d t l i q1 q2 q3 q4 q5 q6 => ?_⟩
    · rw [A 0 (by omega) (by omega)] at q3
      rw [A 6 (by omega) (by omega)] at q4
      rw [Av 11 (by omega) (by omega)]
      exact b1 d t q1 q2 q3 q4
    · rw [A 0 (by omega) (by omega)] at q3
      rw [A 6 (by omega) (by omega)] at q4
      rw [Pv _ (by omega), Pv _ (by omega)]
      exact b2 d t l i q1 q2 q3 q4 q5 q6
  · intro q hq
    by_cases e : q = cm
    · subst e; exact Or.inr c4
    · rw [C q 3 (by omega) (by omega), C q 4 (by omega) (by omega)]; exact h.wh q (by omega)
