section
noncomputable def NC (l sz k : Nat) : Int32 := if k = 0 then nI l else if k = 1 then nI sz else if k = 4 ∨ k = 7 then m1 else nI 0
theorem cnt_s {n : Nat} {p : Nat → Bool} : cnt (n + 1) p = cnt n p + if p n then 1 else 0 := rfl
theorem sumI_s {n : Nat} {f : Nat → Int32} : sumI (n + 1) f = sumI n f + f n := rfl
theorem QR.card {v w iv v2 w2 iv2 : Nat → Int32} {bp dl df tx bp2 tx2 : Nat → Nat → Int32} {nt nt2 sm lm cm B U l t len : Nat} (h : QR v w iv bp dl df tx nt sm lm cm B U) (hcm : cm < 30) (hl : l < lm) (hlen1 : 1 ≤ len) (hlen : len ≤ 16)
    (hv : ∀ i, i ≠ 9 → i ≠ 114 + 4 * l → (i < 137 + 25 * cm ∨ 162 + 25 * cm ≤ i) → v2 i = v i) (hv9 : v2 9 = nI (cm + 1)) (hvs : v2 (113 + 4 * l + 1) = nI (cnt cm (loC (sC w) l) + 1)) (hvc : ∀ k, k < 9 → k ≠ 2 → v2 (137 + 25 * cm + k) = NC l (cnt cm (loC (sC w) l)) k) (hv2 : v2 (137 + 25 * cm + 2) = nI len) (hvl : ∀ k, k < len → v2 (137 + 25 * cm + (9 + k)) = tx2 t (1 + k) ∧ ∃ a, a < 26 ∧ tx2 t (1 + k) = nI a)
    (hw : ∀ i, i ≠ 9 → i ≠ 114 + 4 * l → (i < 137 + 25 * cm ∨ 162 + 25 * cm ≤ i) → w2 i = w i) (hw9 : w2 9 = nI (cm + 1)) (hws : w2 (113 + 4 * l + 1) = nI (cnt cm (loC (sC w) l) + 1)) (hwc : ∀ k, k < 9 → k ≠ 2 → w2 (137 + 25 * cm + k) = NC l (cnt cm (loC (sC w) l)) k) (hw2 : w2 (137 + 25 * cm + 2) = nI t)
    (hi0 : iv2 0 = iv 0 + nI 1) (hi : ∀ a, 1 ≤ a → a < 5 → iv2 a = iv a) (hb0 : bp2 l (cnt cm (loC (sC w) l)) = nI cm) (hb : ∀ l' p, l' < lm → ¬ (l' = l ∧ p = cnt cm (loC (sC w) l)) → bp2 l' p = bp l' p)
    (hnt : nt ≤ nt2) (htx : ∀ t', 1 ≤ t' → t' ≤ nt → tx2 t' = tx t') (ht1 : 1 ≤ t) (ht2 : t ≤ nt2) (ht31 : t < 2 ^ 31) (ht0 : tx2 t 0 = nI len) : QR v2 w2 iv2 bp2 dl df tx2 nt2 sm lm (cm + 1) B U := by
  have hsm := h.a.sm6; have hlm := h.a.lm6
  have A : ∀ i, i < 17 → i ≠ 9 → sA w2 i = sA w i := fun i a b => by rw [← sA_r (v := w2) a, ← sA_r (v := w) a]; exact hw i b (by omega) (by omega)
  have Av : ∀ i, i < 17 → i ≠ 9 → sA v2 i = sA v i := fun i a b => by rw [← sA_r (v := v2) a, ← sA_r (v := v) a]; exact hv i b (by omega) (by omega)
  have S : ∀ s k, s < 6 → k < 16 → sS w2 s k = sS w s k := fun s k a b => by rw [← sS_r (v := w2) a b, ← sS_r (v := w) a b]; exact hw _ (by omega) (by omega) (by omega)
  have Sv : ∀ s k, s < 6 → k < 16 → sS v2 s k = sS v s k := fun s k a b => by rw [← sS_r (v := v2) a b, ← sS_r (v := v) a b]; exact hv _ (by omega) (by omega) (by omega)
  have Lc : ∀ s k, s < 6 → k < 4 → ¬ (s = l ∧ k = 1) → sL w2 s k = sL w s k := fun s k a b c => by rw [← sL_r (v := w2) a b, ← sL_r (v := w) a b]; exact hw _ (by omega) (by omega) (by omega)
  have Lv : ∀ s k, s < 6 → k < 4 → ¬ (s = l ∧ k = 1) → sL v2 s k = sL v s k := fun s k a b c => by rw [← sL_r (v := v2) a b, ← sL_r (v := v) a b]; exact hv _ (by omega) (by omega) (by omega)
  have L1 : sL w2 l 1 = nI (cnt cm (loC (sC w) l) + 1) := by rw [← sL_r (v := w2) (by omega) (by omega)]; exact hws
  have L1v : sL v2 l 1 = nI (cnt cm (loC (sC w) l) + 1) := by rw [← sL_r (v := v2) (by omega) (by omega)]; exact hvs
  have E : ∀ s k, s < 6 → k < 5 → sE w2 s k = sE w s k := fun s k a b => by rw [← sE_r (v := w2) a (by omega), ← sE_r (v := w) a (by omega)]; exact hw _ (by omega) (by omega) (by omega)
  have C : ∀ s k, s < cm → k < 25 → sC w2 s k = sC w s k := fun s k a b => by rw [← sC_r (v := w2) (by omega) b, ← sC_r (v := w) (by omega) b]; exact hw _ (by omega) (by omega) (by omega)
  have Cv : ∀ s k, s < cm → k < 25 → sC v2 s k = sC v s k := fun s k a b => by rw [← sC_r (v := v2) (by omega) b, ← sC_r (v := v) (by omega) b]; exact hv _ (by omega) (by omega) (by omega)
  have Cn : ∀ k, k < 9 → k ≠ 2 → sC w2 cm k = NC l (cnt cm (loC (sC w) l)) k := fun k a b => by rw [← sC_r (v := w2) (by omega) (by omega)]; exact hwc k a b
  have Cnv : ∀ k, k < 9 → k ≠ 2 → sC v2 cm k = NC l (cnt cm (loC (sC w) l)) k := fun k a b => by rw [← sC_r (v := v2) (by omega) (by omega)]; exact hvc k a b
  have C2 : sC w2 cm 2 = nI t := by rw [← sC_r (v := w2) (by omega) (by omega)]; exact hw2
  have C2v : sC v2 cm 2 = nI len := by rw [← sC_r (v := v2) (by omega) (by omega)]; exact hv2
  have F : ∀ i, i < 30 → sF w2 i = sF w i := fun i a => by rw [← sF_r (v := w2) a, ← sF_r (v := w) a]; exact hw _ (by omega) (by omega) (by omega)
  have Fv : ∀ i, i < 30 → sF v2 i = sF v i := fun i a => by rw [← sF_r (v := v2) a, ← sF_r (v := v) a]; exact hv _ (by omega) (by omega) (by omega)
  have Pv : ∀ i, i < 120 → sP v2 i = sP v i := fun i a => by rw [← sP_r (v := v2) a, ← sP_r (v := v) a]; exact hv _ (by omega) (by omega) (by omega)
  have c0 : sC w2 cm 0 = nI l := Cn 0 (by omega) (by omega)
  have c1 : sC w2 cm 1 = nI (cnt cm (loC (sC w) l)) := Cn 1 (by omega) (by omega)
  have c3 : sC w2 cm 3 = nI 0 := Cn 3 (by omega) (by omega)
  have c4 : sC w2 cm 4 = m1 := Cn 4 (by omega) (by omega)
  have c5 : sC w2 cm 5 = nI 0 := Cn 5 (by omega) (by omega)
  have c6 : sC w2 cm 6 = nI 0 := Cn 6 (by omega) (by omega)
  have c8 : sC w2 cm 8 = nI 0 := Cn 8 (by omega) (by omega)
  have n3 : ∀ a, 1 ≤ a → a < 5 → ¬ sC w2 cm 3 = nI a := fun a p q => by rw [c3]; exact nI_ne (by omega) (by omega) (by omega)
  have cst : ∀ a, cnt (cm + 1) (stC (sC w2) a) = cnt cm (stC (sC w) a) + if sC w2 cm 3 = nI a then 1 else 0 := fun a => by
    rw [cnt_s, cnt_congr (q := stC (sC w) a) fun i hi => by unfold stC; rw [C i 3 hi (by omega)]]
    unfold stC; simp only [decide_eq_true_eq]
  have clo : ∀ a, a < 6 → cnt (cm + 1) (loC (sC w2) a) = cnt cm (loC (sC w) a) + if a = l then 1 else 0 := fun a ha => by
    rw [cnt_s, cnt_congr (q := loC (sC w) a) fun i hi => by unfold loC; rw [C i 0 hi (by omega)]]
    unfold loC; simp only [decide_eq_true_eq, c0]
    by_cases e : a = l
    · rw [if_pos (by rw [e]), if_pos e]
    · rw [if_neg (nI_ne (fun q => e q.symm) (by omega) (by omega)), if_neg e]
  have cls : ∀ l' a, 1 ≤ a → a < 5 → cnt (cm + 1) (lsC (sC w2) l' a) = cnt cm (lsC (sC w) l' a) := fun l' a p q => by
    rw [cnt_s, cnt_congr (q := lsC (sC w) l' a) fun i hi => by unfold lsC; rw [C i 0 hi (by omega), C i 3 hi (by omega)]]
    unfold lsC; simp only [decide_eq_true_eq]
    rw [if_neg (fun z => n3 a p q z.2), Nat.add_zero]
  have csu : ∀ l' k, k < 9 → sC w2 cm k = nI 0 → sumI (cm + 1) (suC (sC w2) l' k) = sumI cm (suC (sC w) l' k) := fun l' k hk h0 => by
    rw [sumI_s, sumI_congr (q := suC (sC w) l' k) fun i hi => by unfold suC; rw [C i 0 hi (by omega), C i k hi (by omega)]]
    have : suC (sC w2) l' k cm = nI 0 := by unfold suC; rw [h0]; split <;> rfl
    rw [this]; exact Int32.add_zero _
  have fn : ∀ c, c < cm → (fin (sC w2) c ↔ fin (sC w) c) := fun c hc => by unfold fin; rw [C c 3 hc (by omega)]
  have fnn : ¬ fin (sC w2) cm := fun q => q.elim (n3 3 (by omega) (by omega)) (n3 4 (by omega) (by omega))
  have hsz := cnt_le (n := cm) (p := loC (sC w) l)
  refine ⟨?_, ?_, ?_, ?_, ?_, ?_, ?_⟩
  · obtain ⟨a1, a2, a3, a4, a5, a6, a7, a8, a9, a10⟩ := h.a
    refine ⟨a1, a2, by omega, a4, ?_, ?_, ?_, fun i q1 q2 q3 => ?_, ?_, ?_⟩
    · rw [A 7 (by omega) (by omega)]; exact a5
    · rw [A 8 (by omega) (by omega)]; exact a6
    · rw [← sA_r (v := w2) (by omega)]; exact hw9
    · by_cases e : i = 9
      · subst e; rw [← sA_r (v := v2) (by omega), ← sA_r (v := w2) (by omega), hv9, hw9]
      · rw [A i q1 e, Av i q1 e]; exact a8 i q1 q2 q3
    · rw [A 0 (by omega) (by omega)]; exact a9
    · rw [A 6 (by omega) (by omega)]; exact a10
  · obtain ⟨b1, b2, b3, b4, b5, b6, b7, b8, b9, b10⟩ := h.s
    refine ⟨fun s k hs hk h8 => ?_, fun s hs => ?_, fun s hs => ?_, fun s hs => ?_, fun s hs => ?_, fun s hs => ?_, fun s hs => ?_, fun s hs => ?_, fun s hs => ?_, fun s hs => ?_⟩
    · rw [S s k (by omega) (by omega), Sv s k (by omega) (by omega)]; exact b1 s k hs hk h8
    · rw [S s 0 (by omega) (by omega), S s 8 (by omega) (by omega), Sv s 8 (by omega) (by omega)]; exact b2 s hs
    · rw [S s 0 (by omega) (by omega), Sv s 8 (by omega) (by omega)]; exact b3 s hs
    · rw [S s 1 (by omega) (by omega)]; exact b4 s hs
    · rw [S s 2 (by omega) (by omega)]
      rcases b5 s hs with e | ⟨c, c1, c2, c3, c4⟩
      · exact Or.inl e
      · exact Or.inr ⟨c, by omega, c2, by rw [C c 3 c1 (by omega)]; exact c3, by rw [C c 4 c1 (by omega)]; exact c4⟩
    · rw [S s 3 (by omega) (by omega)]; exact b6 s hs
    · rw [S s 4 (by omega) (by omega)]; exact b7 s hs
    · rw [S s 7 (by omega) (by omega)]; exact b8 s hs
    · rw [S s 14 (by omega) (by omega), Sv s 14 (by omega) (by omega), Sv s 15 (by omega) (by omega)]
      obtain ⟨t', n, z1, z2, z3, z4, z5, z6, z7, z8⟩ := b9 s hs
      exact ⟨t', n, z1, by omega, z3, by rw [htx t' z1 z2]; exact z4, z5, z6, z7, fun k hk => by rw [htx t' z1 z2]; exact z8 k hk⟩
    · rw [S s 14 (by omega) (by omega)]; exact Nat.le_trans (b10 s hs) hnt
  · obtain ⟨b1, b2, b3, b4, b5, b6⟩ := h.c
    refine ⟨fun s k hs hk h8 => ?_, fun s hs => ?_, fun s hs => ?_, fun s hs => ?_, fun s hs => ?_, fun s hs => ?_⟩
    · by_cases e : s = cm
      · subst e; rw [Cn k hk h8, Cnv k hk h8]
      · rw [C s k (by omega) (by omega), Cv s k (by omega) (by omega)]; exact b1 s k (by omega) hk h8
    · by_cases e : s = cm
      · subst e; exact ⟨l, hl, c0⟩
      · rw [C s 0 (by omega) (by omega)]; exact b2 s (by omega)
    · by_cases e : s = cm
      · subst e; exact ⟨0, by omega, c3⟩
      · rw [C s 3 (by omega) (by omega)]; exact b3 s (by omega)
    · by_cases e : s = cm
      · subst e; exact Or.inl c8
      · rw [C s 8 (by omega) (by omega), C s 3 (by omega) (by omega)]; exact b4 s (by omega)
    · by_cases e : s = cm
      · subst e
        refine ⟨t, len, ht1, ht2, C2, ht0, hlen1, hlen, C2v, fun k hk => ?_⟩
        rw [← sC_r (v := v2) (by omega) (by omega)]
        exact hvl k hk
      · rw [C s 2 (by omega) (by omega), Cv s 2 (by omega) (by omega)]
        obtain ⟨t', n, z1, z2, z3, z4, z5, z6, z7, z8⟩ := b5 s (by omega)
        refine ⟨t', n, z1, by omega, z3, by rw [htx t' z1 z2]; exact z4, z5, z6, z7, fun k hk => ?_⟩
        rw [Cv s (9 + k) (by omega) (by omega), htx t' z1 z2]; exact z8 k hk
    · by_cases e : s = cm
      · subst e; rw [C2, nI_clamp ht31]; exact ht2
      · have : sC w2 s 2 = sC w s 2 := by rw [← sC_r (v := w2) (by omega) (by omega), ← sC_r (v := w) (by omega) (by omega)]; exact hw _ (by omega) (by omega) (by omega)
        rw [this]; exact Nat.le_trans (b6 s hs) hnt
  · obtain ⟨b1, b2, b3⟩ := h.n
    refine ⟨fun a ha => ?_, ?_, fun i q => ?_⟩
    · rw [cst a]
      by_cases e : a = 0
      · subst e; rw [hi0, b1 0 (by omega), if_pos c3, nI_add]
      · rw [hi a (by omega) ha, b1 a ha, if_neg (n3 a (by omega) ha), Nat.add_zero]
    · rw [Av 10 (by omega) (by omega), hi 3 (by omega) (by omega)]; exact b2
    · rw [cst 3, if_neg (n3 3 (by omega) (by omega)), Nat.add_zero] at q
      have := cnt_le (n := cm) (p := stC (sC w) 3)
      rw [F i (by omega), Fv i (by omega)]; exact b3 i q
  · obtain ⟨b1, b2, b3, b4, b5, b6, b7, b8, b9, b10⟩ := h.l
    refine ⟨fun l' k q1 q2 => ?_, fun l' q1 => ?_, fun l' q1 => ?_, fun l' q1 => ?_, fun l' q1 => ?_, fun l' q1 => ?_, fun l' q1 => ?_, fun l' q1 p q2 => ?_, fun l' c q1 q2 q3 => ?_, fun l' q1 => ?_⟩
    · by_cases e : l' = l ∧ k = 1
      · rw [e.1, e.2, L1, L1v]
      · rw [Lc l' k (by omega) q2 e, Lv l' k (by omega) q2 e]; exact b1 l' k q1 q2
    · rw [Lc l' 0 (by omega) (by omega) (by omega)]; exact b2 l' q1
    · rw [E l' 1 (by omega) (by omega), cls l' 3 (by omega) (by omega)]; exact b3 l' q1
    · rw [E l' 2 (by omega) (by omega), cls l' 4 (by omega) (by omega)]; exact b4 l' q1
    · rw [E l' 3 (by omega) (by omega), csu l' 5 (by omega) c5]; exact b5 l' q1
    · rw [E l' 4 (by omega) (by omega), csu l' 6 (by omega) c6]; exact b6 l' q1
    · rw [clo l' (by omega)]
      by_cases e : l' = l
      · subst e; rw [L1, if_pos rfl]
      · rw [Lc l' 1 (by omega) (by omega) (by omega), if_neg e, Nat.add_zero]; exact b7 l' q1
    · rw [clo l' (by omega)] at q2
      by_cases e : l' = l ∧ p = cnt cm (loC (sC w) l)
      · rw [e.1, e.2]
        exact ⟨cm, by omega, hb0, c0, c1⟩
      · have hp : p < cnt cm (loC (sC w) l') := by
          by_cases e2 : l' = l
          · subst e2; rw [if_pos rfl] at q2; have : p ≠ cnt cm (loC (sC w) l') := fun z => e ⟨rfl, z⟩; omega
          · rw [if_neg e2] at q2; omega
        obtain ⟨c, z1, z2, z3, z4⟩ := b8 l' q1 p hp
        exact ⟨c, by omega, by rw [hb l' p q1 e]; exact z2, by rw [C c 0 z1 (by omega)]; exact z3, by rw [C c 1 z1 (by omega)]; exact z4⟩
    · rw [clo l' (by omega)]
      by_cases e : c = cm
      · subst e
        have e2 : l' = l := by
          rw [c0] at q3
          exact (nI_inj (by omega) (by omega) q3).symm
        subst e2
        exact ⟨cnt c (loC (sC w) l'), by rw [if_pos rfl]; omega, c1, hb0⟩
      · rw [C c 0 (by omega) (by omega)] at q3
        obtain ⟨p, p1, p2, p3⟩ := b9 l' c q1 (by omega) q3
        refine ⟨p, by omega, by rw [C c 1 (by omega) (by omega)]; exact p2, ?_⟩
        rw [hb l' p q1 (fun z => by rw [z.1] at p1; omega)]; exact p3
    · rw [clo l' (by omega)]
      obtain ⟨q, p1, p2, p3, p4⟩ := b10 l' q1
      refine ⟨q, by omega, by rw [E l' 0 (by omega) (by omega)]; exact p2, fun p c r1 r2 r3 => ?_, fun c r1 r2 r3 => ?_⟩
      · have hne : ¬ (l' = l ∧ p = cnt cm (loC (sC w) l)) := fun z => by rw [z.1] at p1; omega
        rw [hb l' p q1 hne] at r3
        have hc : c < cm := by
          obtain ⟨c', z1, z2, -⟩ := b8 l' q1 p (by omega)
          rw [z2] at r3
          have := nI_inj (by omega) (by omega) r3
          omega
        exact (fn c hc).mpr (p3 p c r1 hc r3)
      · by_cases e : l' = l ∧ q = cnt cm (loC (sC w) l)
        · rw [e.1, e.2, hb0] at r3
          have := nI_inj (by omega) (by omega) r3
          rw [← this]; exact fnn
        · rw [hb l' q q1 e] at r3
          have hq : q < cnt cm (loC (sC w) l') := by
            by_cases e2 : l' = l
            · subst e2; rw [if_pos rfl] at r1; have : q ≠ cnt cm (loC (sC w) l') := fun z => e ⟨rfl, z⟩; omega
            · rw [if_neg e2] at r1; omega
          have hc : c < cm := by
            obtain ⟨c', z1, z2, -⟩ := b8 l' q1 q hq
            rw [z2] at r3
            have := nI_inj (by omega) (by omega) r3
            omega
          exact fun f => p4 c hq hc r3 ((fn c hc).mp f)
  · obtain ⟨b1, b2⟩ := h.d
    refine ⟨fun d t q1 q2 q3 q4 => ?_, fun d t l i q1 q2 q3 q4 q5 q6 => ?_⟩
    · rw [A 0 (by omega) (by omega)] at q3
      rw [A 6 (by omega) (by omega)] at q4
      rw [Av 11 (by omega) (by omega)]
      exact b1 d t q1 q2 q3 q4
    · rw [A 0 (by omega) (by omega)] at q3
      rw [A 6 (by omega) (by omega)] at q4
      rw [Pv _ (by omega), Pv _ (by omega)]
      exact b2 d t l i q1 q2 q3 q4 q5 q6
  · intro q hq
    by_cases e : q = cm
    · subst e; exact Or.inr c4
    · rw [C q 3 (by omega) (by omega), C q 4 (by omega) (by omega)]; exact h.wh q (by omega)
end
section
theorem addsL39 {u0 : RS} {a1 : Int32} {cm : Nat} (h9 : u0 1 9 = nI cm) (hcm : cm < 30) : ∀ (d y f : Nat) (u : RS), y + d = 22 → d < f → ∃ u2, F8_adds_L39 u0 a1 f (nI y) u = some (nI 22, u2) ∧ (∀ R, R ≠ 1 → u2 R = u R) ∧ (∀ i, (i < 137 + 25 * cm + 3 + y ∨ 137 + 25 * cm + 25 ≤ i) → u2 1 i = u 1 i) ∧ ∀ k, 3 + y ≤ k → k < 25 → u2 1 (137 + 25 * cm + k) = nI 0
  | 0, y, f, u, h1, h2 => by
    obtain ⟨f, rfl⟩ : ∃ m, f = m + 1 := ⟨f - 1, by omega⟩
    obtain rfl : y = 22 := by omega
    refine ⟨u, ?_, fun _ _ => rfl, fun _ _ => rfl, fun k _ _ => by omega⟩
    rw [F8_adds_L39, if_pos (show (22 : Int32) ≤ nI 22 by decide)]
  | d + 1, y, f, u, h1, h2 => by
    obtain ⟨f, rfl⟩ : ∃ m, f = m + 1 := ⟨f - 1, by omega⟩
    rw [F8_adds_L39, if_neg (show ¬ (22 : Int32) ≤ nI y from nI_ge (b := 22) (by omega) (by omega)), h9, show (3 : Int32) + nI y = nI (3 + y) from nI_add 3 y, F8_setsCard_n hcm (by omega), bS, show nI y + 1 = nI (y + 1) from nI_add _ 1]
    obtain ⟨u2, k1, k2, k3, k4⟩ := addsL39 (a1 := a1) h9 hcm d (y + 1) f (up u 1 (137 + 25 * cm + (3 + y)) 0) (by omega) (by omega)
    refine ⟨u2, k1, fun R hR => (k2 R hR).trans (up_or hR), fun i hi => ?_, fun k q1 q2 => ?_⟩
    · rw [k3 i (by omega), up_ne (by omega)]
    · by_cases e : k = 3 + y
      · subst e; rw [k3 _ (by omega), up_eq]; rfl
      · exact k4 k (by omega) q2
theorem addsL77 {u0 : RS} {a1 : Int32} {cm len : Nat} (h9 : u0 1 9 = nI cm) (hcm : cm < 30) (hlen : len ≤ 16) : ∀ (d y f : Nat) (u : RS), y + d = len → d < f → u 0 19 = nI len → ∃ u2, F8_adds_L77 u0 a1 f (nI y) u = some (nI len, u2) ∧ (∀ R, R ≠ 1 → u2 R = u R) ∧ (∀ i, (i < 137 + 25 * cm + 9 + y ∨ 137 + 25 * cm + 25 ≤ i) → u2 1 i = u 1 i) ∧ ∀ k, y ≤ k → k < len → u2 1 (137 + 25 * cm + (9 + k)) = u 7 k
  | 0, y, f, u, h1, h2, h3 => by
    obtain ⟨f, rfl⟩ : ∃ m, f = m + 1 := ⟨f - 1, by omega⟩
    obtain rfl : y = len := by omega
    refine ⟨u, ?_, fun _ _ => rfl, fun _ _ => rfl, fun k _ _ => by omega⟩
    rw [F8_adds_L77, h3, if_pos (nI_le (by omega) (by omega))]
  | d + 1, y, f, u, h1, h2, h3 => by
    obtain ⟨f, rfl⟩ : ∃ m, f = m + 1 := ⟨f - 1, by omega⟩
    rw [F8_adds_L77, h3, if_neg (nI_ge (by omega) (by omega)), rd_n (by omega) (by omega), bS, h9, show (9 : Int32) + nI y = nI (9 + y) from nI_add 9 y, F8_setsCard_n hcm (by omega), bS, show nI y + 1 = nI (y + 1) from nI_add _ 1]
    obtain ⟨u2, k1, k2, k3, k4⟩ := addsL77 (a1 := a1) h9 hcm hlen d (y + 1) f (up u 1 (137 + 25 * cm + (9 + y)) (u 7 y)) (by omega) (by omega) (by rw [up_ne (by omega)]; exact h3)
    refine ⟨u2, k1, fun R hR => (k2 R hR).trans (up_or hR), fun i hi => ?_, fun k q1 q2 => ?_⟩
    · rw [k3 i (by omega), up_ne (by omega)]
    · by_cases e : k = y
      · subst e; rw [k3 _ (by omega), up_eq]
      · rw [k4 k (by omega) q2, up_or (by omega)]
theorem adds_F {r : RS} {l cm sz len : Nat} (hl : l < 6) (hcm : cm < 30) (hlen : len ≤ 16) (hsz : sz ≤ 30) (h9 : r 1 9 = nI cm) (hs : r 1 (113 + 4 * l + 1) = nI sz) (h19 : r 0 19 = nI len) : ∃ r2, F8_adds r (nI l) = some r2 ∧ (∀ R, R ≠ 1 → r2 R = r R) ∧ (∀ i, i ≠ 9 → i ≠ 114 + 4 * l → (i < 137 + 25 * cm ∨ 162 + 25 * cm ≤ i) → r2 1 i = r 1 i) ∧ r2 1 9 = nI (cm + 1) ∧ r2 1 (113 + 4 * l + 1) = nI (sz + 1) ∧ (∀ k, k < 9 → k ≠ 2 → r2 1 (137 + 25 * cm + k) = NC l sz k) ∧ r2 1 (137 + 25 * cm + 2) = nI len ∧ ∀ k, k < len → r2 1 (137 + 25 * cm + (9 + k)) = r 7 k := by
  unfold F8_adds
  rw [h9, show (0 : Int32) = nI 0 from rfl, show (1 : Int32) = nI 1 from rfl, show (2 : Int32) = nI 2 from rfl, show (4 : Int32) = nI 4 from rfl, show (7 : Int32) = nI 7 from rfl, show (113 : Int32) = nI 113 from rfl]
  rw [F8_setsCard_n hcm (by omega), bS, F8_ofLot_n hl (by omega), bS, up_ne (by omega), hs, F8_setsCard_n hcm (by omega), bS, up_ne (by omega), up_ne (by omega), h19, F8_setsCard_n hcm (by omega), bS]
  obtain ⟨u2, a1, a2, a3, a4⟩ := addsL39 (u0 := r) (a1 := nI l) h9 hcm 22 0 FUEL (up (up (up r 1 (137 + 25 * cm + 0) (nI l)) 1 (137 + 25 * cm + 1) (nI sz)) 1 (137 + 25 * cm + 2) (nI len)) (by omega) (by show 22 < 10000; omega)
  rw [a1, bS]
  dsimp only
  rw [F8_setsCard_n hcm (by omega), bS, F8_setsCard_n hcm (by omega), bS]
  obtain ⟨u3, b1, b2, b3, b4⟩ := addsL77 (u0 := r) (a1 := nI l) h9 hcm hlen len 0 FUEL (up (up u2 1 (137 + 25 * cm + 4) (-nI 1)) 1 (137 + 25 * cm + 7) (-nI 1)) (by omega) (by show len < 10000; omega) (by rw [up_ne (by omega), up_ne (by omega), a2 0 (by decide), up_ne (by omega), up_ne (by omega), up_ne (by omega)]; exact h19)
  rw [b1, bS]
  dsimp only
  rw [show (9 : Int32) = nI 9 from rfl, ws_n (by omega) (by omega), bS, nI_mul, nI_add, nI_add, rd_n (by omega) (by omega), bS, ws_n (by omega) (by omega), bS, up_ne (by omega)]
  have base : ∀ i, i ≠ 9 → i ≠ 114 + 4 * l → (i < 137 + 25 * cm ∨ 162 + 25 * cm ≤ i) → u3 1 i = r 1 i := fun i p q s => by
    rw [b3 i (by omega), up_ne (by omega), up_ne (by omega), a3 i (by omega), up_ne (by omega), up_ne (by omega), up_ne (by omega)]
  have e9 : u3 1 9 = nI cm := by
    rw [b3 9 (by omega), up_ne (by omega), up_ne (by omega), a3 9 (by omega), up_ne (by omega), up_ne (by omega), up_ne (by omega)]; exact h9
  have es : u3 1 (113 + 4 * l + 1) = nI sz := by
    rw [b3 _ (by omega), up_ne (by omega), up_ne (by omega), a3 _ (by omega), up_ne (by omega), up_ne (by omega), up_ne (by omega)]; exact hs
  rw [e9, es, nI_add, nI_add]
  refine ⟨_, rfl, fun R hR => ?_, fun i p q s => ?_, ?_, ?_, fun k p q => ?_, ?_, fun k hk => ?_⟩
  · rw [up_or hR, up_or hR, b2 R hR, up_or hR, up_or hR, a2 R hR, up_or hR, up_or hR, up_or hR]
  · rw [up_ne (by omega), up_ne (by omega)]; exact base i p q s
  · rw [up_ne (by omega), up_eq]
  · exact up_eq
  · rw [up_ne (by omega), up_ne (by omega), b3 _ (by omega)]
    unfold NC
    rcases (show k = 0 ∨ k = 1 ∨ k = 3 ∨ k = 4 ∨ k = 5 ∨ k = 6 ∨ k = 7 ∨ k = 8 by omega) with rfl | rfl | rfl | rfl | rfl | rfl | rfl | rfl
    · rw [up_ne (by omega), up_ne (by omega), a3 _ (by omega), up_ne (by omega), up_ne (by omega), up_eq]; rfl
    · rw [up_ne (by omega), up_ne (by omega), a3 _ (by omega), up_ne (by omega), up_eq]; rfl
    · rw [up_ne (by omega), up_ne (by omega), a4 3 (by omega) (by omega)]; rfl
    · rw [up_ne (by omega), up_eq]; rfl
    · rw [up_ne (by omega), up_ne (by omega), a4 5 (by omega) (by omega)]; rfl
    · rw [up_ne (by omega), up_ne (by omega), a4 6 (by omega) (by omega)]; rfl
    · rw [up_eq]; rfl
    · rw [up_ne (by omega), up_ne (by omega), a4 8 (by omega) (by omega)]; rfl
  · rw [up_ne (by omega), up_ne (by omega), b3 _ (by omega), up_ne (by omega), up_ne (by omega), a3 _ (by omega), up_eq]
  · rw [up_ne (by omega), up_ne (by omega), b4 k (by omega) hk, up_or (by omega), up_or (by omega), a2 7 (by omega), up_or (by omega), up_or (by omega), up_or (by omega)]
theorem adds_C {c : RS} {g : CG} {L l cm sz t : Nat} (hL : L < 12) (hl : l < 6) (hcm : cm < 30) (hsz : sz < 30) (h9 : c (10 + L) 9 = nI cm) (hs : c (10 + L) (113 + 4 * l + 1) = nI sz) : ∃ c2, C3_addCard g c L (nI l) (nI t) = some c2 ∧ (∀ R, R ≠ 10 + L → R ≠ 100 + 6 * L + l → R ≠ 400 + L → c2 R = c R) ∧ (∀ i, i ≠ 9 → i ≠ 114 + 4 * l → (i < 137 + 25 * cm ∨ 162 + 25 * cm ≤ i) → c2 (10 + L) i = c (10 + L) i) ∧ c2 (10 + L) 9 = nI (cm + 1) ∧ c2 (10 + L) (113 + 4 * l + 1) = nI (sz + 1) ∧ (∀ k, k < 9 → k ≠ 2 → c2 (10 + L) (137 + 25 * cm + k) = NC l sz k) ∧ c2 (10 + L) (137 + 25 * cm + 2) = nI t ∧ c2 (400 + L) 0 = c (400 + L) 0 + nI 1 ∧ (∀ a, a ≠ 0 → c2 (400 + L) a = c (400 + L) a) ∧ c2 (100 + 6 * L + l) sz = nI cm ∧ ∀ p, p ≠ sz → c2 (100 + 6 * L + l) p = c (100 + 6 * L + l) p := by
  unfold C3_addCard C1_begin
  simp only [pt_n, bS]
  rw [h9, if_neg (show ¬ (30 : Int32) ≤ nI cm from nI_ge (b := 30) hcm (by omega)), ix_n hcm (by omega), bS, ix_n hl (by omega), bS]
  simp only [bS]
  generalize hu : up (up (up (up (up (up (up (up (up c (10 + L) (137 + 25 * cm + 0) (nI l)) (10 + L) (137 + 25 * cm + 1) (c (10 + L) (113 + 4 * l + 1))) (10 + L) (137 + 25 * cm + 2) (nI t)) (10 + L) (137 + 25 * cm + 3) 0) (10 + L) (137 + 25 * cm + 4) (-1)) (10 + L) (137 + 25 * cm + 5) 0) (10 + L) (137 + 25 * cm + 6) 0) (10 + L) (137 + 25 * cm + 7) (-1)) (10 + L) (137 + 25 * cm + 8) 0 = u
  have ur : ∀ R, R ≠ 10 + L → u R = c R := fun R hR => by rw [← hu]; simp only [up_or hR]
  have ui : ∀ i, (i < 137 + 25 * cm ∨ 162 + 25 * cm ≤ i) → u (10 + L) i = c (10 + L) i := fun i hi => by rw [← hu]; simp (disch := omega) only [up_ne]
  have uk : ∀ k, k < 9 → k ≠ 2 → u (10 + L) (137 + 25 * cm + k) = NC l sz k := fun k p q => by
    rw [← hu, hs]
    unfold NC
    rcases (show k = 0 ∨ k = 1 ∨ k = 3 ∨ k = 4 ∨ k = 5 ∨ k = 6 ∨ k = 7 ∨ k = 8 by omega) with rfl | rfl | rfl | rfl | rfl | rfl | rfl | rfl <;> (simp (disch := omega) only [up_ne, up_eq]; rfl)
  have u2 : u (10 + L) (137 + 25 * cm + 2) = nI t := by rw [← hu]; simp (disch := omega) only [up_ne, up_eq]
  clear hu
  have us : u (10 + L) (113 + 4 * l + 1) = nI sz := by rw [ui _ (by omega)]; exact hs
  have u9 : u (10 + L) 9 = nI cm := by rw [ui _ (by omega)]; exact h9
  rw [us, u9, ws_n (by omega) (by omega), bS, up_ne (by omega), us, show nI sz + 1 = nI (sz + 1) from nI_add _ 1, show (0 : Int32) = nI 0 from rfl, ws_n (by omega) (by omega), bS, up_ne (by omega), up_ne (by omega), up_ne (by omega), up_ne (by omega), up_ne (by omega), u9, show nI cm + 1 = nI (cm + 1) from nI_add _ 1]
  refine ⟨_, rfl, fun R a b d => ?_, fun i p q s => ?_, ?_, ?_, fun k p q => ?_, ?_, ?_, fun a ha => ?_, ?_, fun p hp => ?_⟩
  · rw [up_or a, up_or d, up_or a, up_or b, ur R a]
  · rw [up_ne (by omega), up_ne (by omega), up_ne (by omega), up_ne (by omega)]; exact ui i s
  · exact up_eq
  · rw [up_ne (by omega), up_ne (by omega), up_eq]
  · rw [up_ne (by omega), up_ne (by omega), up_ne (by omega), up_ne (by omega)]; exact uk k p q
  · rw [up_ne (by omega), up_ne (by omega), up_ne (by omega), up_ne (by omega)]; exact u2
  · rw [up_ne (by omega), up_eq, ur _ (by omega)]; rfl
  · rw [up_ne (by omega), up_ne (by omega), up_ne (by omega), up_ne (by omega), ur _ (by omega)]
  · rw [up_ne (by omega), up_ne (by omega), up_ne (by omega), up_eq]
  · rw [up_ne (by omega), up_ne (by omega), up_ne (by omega), up_ne (by omega), ur _ (by omega)]
theorem add_ok {r c : RS} {g : CG} {L l sm lm cm B U t len : Nat} (hL : L < 12) (hq : QY c g L (r 1) sm lm cm B U) (hcm : cm < 30) (hl : l < lm) (hlen1 : 1 ≤ len) (hlen : len ≤ 16) (h19 : r 0 19 = nI len) (ht1 : 1 ≤ t) (ht2 : t ≤ g.nt) (hg : g.nt < 2 ^ 31) (ht0 : c (500 + t) 0 = nI len) (htk : ∀ k, k < len → c (500 + t) (1 + k) = r 7 k ∧ ∃ a, a < 26 ∧ r 7 k = nI a) : ∃ r2 c2, F8_adds r (nI l) = some r2 ∧ C3_addCard g c L (nI l) (nI t) = some c2 ∧ (∀ R, R ≠ 1 → r2 R = r R) ∧ (∀ R, ¬ OWN L R → c2 R = c R) ∧ QY c2 g L (r2 1) sm lm (cm + 1) B U ∧ r2 1 9 = nI (cm + 1) ∧ c2 (10 + L) 9 = nI (cm + 1) ∧ (∀ i, i ≠ 9 → i ≠ 114 + 4 * l → (i < 137 + 25 * cm ∨ 162 + 25 * cm ≤ i) → r2 1 i = r 1 i) := by
  have hsm := hq.a.sm6; have hlm := hq.a.lm6
  have hsz := cnt_le (n := cm) (p := loC (sC (c (10 + L))) l)
  have es : c (10 + L) (113 + 4 * l + 1) = nI (cnt cm (loC (sC (c (10 + L))) l)) := by
    rw [sL_r (v := c (10 + L)) (by omega) (by omega)]; exact hq.l.size l hl
  have esv : r 1 (113 + 4 * l + 1) = nI (cnt cm (loC (sC (c (10 + L))) l)) := by
    rw [sL_r (v := r 1) (by omega) (by omega), hq.l.eql l 1 hl (by omega)]; exact hq.l.size l hl
  obtain ⟨r2, a1, a2, a3, a4, a5, a6, a7, a8⟩ := adds_F (r := r) (l := l) (by omega) hcm hlen (by omega) hq.v9 esv h19
  obtain ⟨c2, b1, b2, b3, b4, b5, b6, b7, b8, b9, b10, b11⟩ := adds_C (c := c) (g := g) (L := L) (l := l) (t := t) hL (by omega) hcm (by omega) hq.n9 es
  have bx : ∀ t', c2 (500 + t') = c (500 + t') := fun t' => b2 _ (by omega) (by omega) (by omega)
  have key := QR.card (v2 := r2 1) (w2 := c2 (10 + L)) (iv2 := c2 (400 + L)) (bp2 := fun l => c2 (100 + 6 * L + l)) (tx2 := fun t => c2 (500 + t)) (nt2 := g.nt) (l := l) (t := t) (len := len) hq hcm hl hlen1 hlen a3 a4 a5 a6 a7 (fun k hk => by
    rw [a8 k hk]
    rw [bx t, (htk k hk).1]
    exact ⟨rfl, (htk k hk).2⟩) b3 b4 b5 b6 b7 b8 (fun a p q => b9 a (by omega)) b10 (fun l' p q z => by
    by_cases e : l' = l
    · subst e; exact b11 p (fun y => z ⟨rfl, y⟩)
    · rw [b2 _ (by omega) (by omega) (by omega)]) (Nat.le_refl _) (fun t' _ _ => bx t') ht1 ht2 (by omega) (by rw [bx t]; exact ht0)
  refine ⟨r2, c2, a1, b1, a2, fun R hR => b2 R (by unfold OWN at hR; omega) (by unfold OWN at hR; omega) (by unfold OWN at hR; omega), ?_, a4, b4, a3⟩
  exact key.congr (Nat.le_refl _) (fun l' h' => rfl) (fun l' h' => b2 _ (by omega) (by omega) (by omega)) (fun l' h' => b2 _ (by omega) (by omega) (by omega)) (fun t' _ _ => rfl)
end
section
theorem QR.lot {v w iv v2 w2 : Nat → Int32} {bp dl df tx : Nat → Nat → Int32} {nt sm lm cm B U p : Nat} (h : QR v w iv bp dl df tx nt sm lm cm B U) (hlm : lm < 6) (hp : p ≤ 9)
    (hv : ∀ i, i ≠ 8 → (i < 113 + 4 * lm ∨ 117 + 4 * lm ≤ i) → v2 i = v i) (hv8 : v2 8 = nI (lm + 1)) (hv0 : v2 (113 + 4 * lm + 0) = nI p) (hvk : ∀ k, 1 ≤ k → k < 4 → v2 (113 + 4 * lm + k) = nI 0)
    (hw : ∀ i, i ≠ 8 → (i < 113 + 4 * lm ∨ 117 + 4 * lm ≤ i) → (i < 1100 + 8 * lm ∨ 1108 + 8 * lm ≤ i) → w2 i = w i) (hw8 : w2 8 = nI (lm + 1)) (hw0 : w2 (113 + 4 * lm + 0) = nI p) (hwk : ∀ k, 1 ≤ k → k < 4 → w2 (113 + 4 * lm + k) = nI 0) (hwe : ∀ k, k < 5 → w2 (1100 + 8 * lm + k) = nI 0)
    (htime : w 6 = nI 0) (hday : ∃ d, 1 ≤ d ∧ d ≤ 2000 ∧ w 0 = nI d) : QR v2 w2 iv bp dl df tx nt sm (lm + 1) cm B U := by
  have hsm := h.a.sm6; have hcm := h.a.cm30
  have A : ∀ i, i < 17 → i ≠ 8 → sA w2 i = sA w i := fun i a b => by rw [← sA_r (v := w2) a, ← sA_r (v := w) a]; exact hw i b (by omega) (by omega)
  have Av : ∀ i, i < 17 → i ≠ 8 → sA v2 i = sA v i := fun i a b => by rw [← sA_r (v := v2) a, ← sA_r (v := v) a]; exact hv i b (by omega)
  have S : ∀ s k, s < 6 → k < 16 → sS w2 s k = sS w s k := fun s k a b => by rw [← sS_r (v := w2) a b, ← sS_r (v := w) a b]; exact hw _ (by omega) (by omega) (by omega)
  have Sv : ∀ s k, s < 6 → k < 16 → sS v2 s k = sS v s k := fun s k a b => by rw [← sS_r (v := v2) a b, ← sS_r (v := v) a b]; exact hv _ (by omega) (by omega)
  have Lc : ∀ s k, s < lm → k < 4 → sL w2 s k = sL w s k := fun s k a b => by rw [← sL_r (v := w2) (by omega) b, ← sL_r (v := w) (by omega) b]; exact hw _ (by omega) (by omega) (by omega)
  have Lv : ∀ s k, s < lm → k < 4 → sL v2 s k = sL v s k := fun s k a b => by rw [← sL_r (v := v2) (by omega) b, ← sL_r (v := v) (by omega) b]; exact hv _ (by omega) (by omega)
  have E : ∀ s k, s < lm → k < 5 → sE w2 s k = sE w s k := fun s k a b => by rw [← sE_r (v := w2) (by omega) (by omega), ← sE_r (v := w) (by omega) (by omega)]; exact hw _ (by omega) (by omega) (by omega)
  have C : ∀ s k, s < 30 → k < 25 → sC w2 s k = sC w s k := fun s k a b => by rw [← sC_r (v := w2) a b, ← sC_r (v := w) a b]; exact hw _ (by omega) (by omega) (by omega)
  have Cv : ∀ s k, s < 30 → k < 25 → sC v2 s k = sC v s k := fun s k a b => by rw [← sC_r (v := v2) a b, ← sC_r (v := v) a b]; exact hv _ (by omega) (by omega)
  have F : ∀ i, i < 30 → sF w2 i = sF w i := fun i a => by rw [← sF_r (v := w2) a, ← sF_r (v := w) a]; exact hw _ (by omega) (by omega) (by omega)
  have Fv : ∀ i, i < 30 → sF v2 i = sF v i := fun i a => by rw [← sF_r (v := v2) a, ← sF_r (v := v) a]; exact hv _ (by omega) (by omega)
  have L0 : sL w2 lm 0 = nI p := by rw [← sL_r (v := w2) (by omega) (by omega)]; exact hw0
  have L0v : sL v2 lm 0 = nI p := by rw [← sL_r (v := v2) (by omega) (by omega)]; exact hv0
  have Lk : ∀ k, 1 ≤ k → k < 4 → sL w2 lm k = nI 0 := fun k a b => by rw [← sL_r (v := w2) (by omega) (by omega)]; exact hwk k a b
  have Lkv : ∀ k, 1 ≤ k → k < 4 → sL v2 lm k = nI 0 := fun k a b => by rw [← sL_r (v := v2) (by omega) (by omega)]; exact hvk k a b
  have En : ∀ k, k < 5 → sE w2 lm k = nI 0 := fun k a => by rw [← sE_r (v := w2) (by omega) (by omega)]; exact hwe k a
  have lotn : ∀ c, c < cm → ¬ sC w c 0 = nI lm := fun c hc e => by
    obtain ⟨l, l1, l2⟩ := h.c.lot c hc
    rw [l2] at e
    have := nI_inj (by omega) (by omega) e
    omega
  have cst : ∀ a, cnt cm (stC (sC w2) a) = cnt cm (stC (sC w) a) := fun a => cnt_congr fun i hi => by unfold stC; rw [C i 3 (by omega) (by omega)]
  have clo : ∀ a, cnt cm (loC (sC w2) a) = cnt cm (loC (sC w) a) := fun a => cnt_congr fun i hi => by unfold loC; rw [C i 0 (by omega) (by omega)]
  have cls : ∀ l a, cnt cm (lsC (sC w2) l a) = cnt cm (lsC (sC w) l a) := fun l a => cnt_congr fun i hi => by unfold lsC; rw [C i 0 (by omega) (by omega), C i 3 (by omega) (by omega)]
  have csu : ∀ l k, k < 9 → sumI cm (suC (sC w2) l k) = sumI cm (suC (sC w) l k) := fun l k hk => sumI_congr fun i hi => by unfold suC; rw [C i 0 (by omega) (by omega), C i k (by omega) (by omega)]
  have cnt0 : ∀ n (q : Nat → Bool), (∀ i, i < n → q i = false) → cnt n q = 0 := fun n => by
    induction n with
    | zero => intro q _; rfl
    | succ n ih => intro q hq; rw [cnt_s, ih q (fun i hi => hq i (by omega)), hq n (by omega)]; rfl
  have sum0 : ∀ n (q : Nat → Int32), (∀ i, i < n → q i = nI 0) → sumI n q = nI 0 := fun n => by
    induction n with
    | zero => intro q _; rfl
    | succ n ih => intro q hq; rw [sumI_s, ih q (fun i hi => hq i (by omega)), hq n (by omega)]; rfl
  have z1 : cnt cm (loC (sC w) lm) = 0 := cnt0 cm _ fun i hi => by unfold loC; exact decide_eq_false (lotn i hi)
  have z2 : ∀ a, cnt cm (lsC (sC w) lm a) = 0 := fun a => cnt0 cm _ fun i hi => by unfold lsC; exact decide_eq_false (fun q => lotn i hi q.1)
  have z3 : ∀ k, sumI cm (suC (sC w) lm k) = nI 0 := fun k => sum0 cm _ fun i hi => by unfold suC; exact if_neg (lotn i hi)
  have fn : ∀ c, c < cm → (fin (sC w2) c ↔ fin (sC w) c) := fun c hc => by unfold fin; rw [C c 3 (by omega) (by omega)]
  refine ⟨?_, ?_, ?_, ?_, ?_, ?_, ?_⟩
  · obtain ⟨a1, a2, a3, a4, a5, a6, a7, a8, a9, a10⟩ := h.a
    refine ⟨a1, by omega, a3, a4, ?_, ?_, ?_, fun i q1 q2 q3 => ?_, ?_, ?_⟩
    · rw [A 7 (by omega) (by omega)]; exact a5
    · rw [← sA_r (v := w2) (by omega)]; exact hw8
    · rw [A 9 (by omega) (by omega)]; exact a7
    · by_cases e : i = 8
      · subst e; rw [← sA_r (v := v2) (by omega), ← sA_r (v := w2) (by omega), hv8, hw8]
      · rw [A i q1 e, Av i q1 e]; exact a8 i q1 q2 q3
    · rw [A 0 (by omega) (by omega)]; exact a9
    · rw [A 6 (by omega) (by omega)]; exact a10
  · obtain ⟨b1, b2, b3, b4, b5, b6, b7, b8, b9, b10⟩ := h.s
    refine ⟨fun s k hs hk h8 => ?_, fun s hs => ?_, fun s hs => ?_, fun s hs => ?_, fun s hs => ?_, fun s hs => ?_, fun s hs => ?_, fun s hs => ?_, fun s hs => ?_, fun s hs => ?_⟩
    · rw [S s k (by omega) (by omega), Sv s k (by omega) (by omega)]; exact b1 s k hs hk h8
    · rw [S s 0 (by omega) (by omega), S s 8 (by omega) (by omega), Sv s 8 (by omega) (by omega)]; exact b2 s hs
    · rw [S s 0 (by omega) (by omega), Sv s 8 (by omega) (by omega)]; exact b3 s hs
    · rw [S s 1 (by omega) (by omega)]; exact b4 s hs
    · rw [S s 2 (by omega) (by omega)]
      rcases b5 s hs with e | ⟨c, c1, c2, c3, c4⟩
      · exact Or.inl e
      · exact Or.inr ⟨c, by omega, c2, by rw [C c 3 (by omega) (by omega)]; exact c3, by rw [C c 4 (by omega) (by omega)]; exact c4⟩
    · rw [S s 3 (by omega) (by omega)]; exact b6 s hs
    · rw [S s 4 (by omega) (by omega)]; exact b7 s hs
    · rw [S s 7 (by omega) (by omega)]; exact b8 s hs
    · rw [S s 14 (by omega) (by omega), Sv s 14 (by omega) (by omega), Sv s 15 (by omega) (by omega)]
      exact b9 s hs
    · rw [S s 14 (by omega) (by omega)]; exact b10 s hs
  · obtain ⟨b1, b2, b3, b4, b5, b6⟩ := h.c
    refine ⟨fun s k hs hk h8 => ?_, fun s hs => ?_, fun s hs => ?_, fun s hs => ?_, fun s hs => ?_, fun s hs => ?_⟩
    · rw [C s k (by omega) (by omega), Cv s k (by omega) (by omega)]; exact b1 s k hs hk h8
    · rw [C s 0 (by omega) (by omega)]
      obtain ⟨l, l1, l2⟩ := b2 s hs
      exact ⟨l, by omega, l2⟩
    · rw [C s 3 (by omega) (by omega)]; exact b3 s hs
    · rw [C s 8 (by omega) (by omega), C s 3 (by omega) (by omega)]; exact b4 s hs
    · rw [C s 2 (by omega) (by omega), Cv s 2 (by omega) (by omega)]
      obtain ⟨t', n, z1, z2, z3, z4, z5, z6, z7, z8⟩ := b5 s hs
      refine ⟨t', n, z1, z2, z3, z4, z5, z6, z7, fun k hk => ?_⟩
      rw [Cv s (9 + k) (by omega) (by omega)]; exact z8 k hk
    · rw [C s 2 hs (by omega)]; exact b6 s hs
  · obtain ⟨b1, b2, b3⟩ := h.n
    refine ⟨fun a ha => ?_, ?_, fun i q => ?_⟩
    · rw [cst a]; exact b1 a ha
    · rw [Av 10 (by omega) (by omega)]; exact b2
    · rw [cst 3] at q
      have := cnt_le (n := cm) (p := stC (sC w) 3)
      rw [F i (by omega), Fv i (by omega)]; exact b3 i q
  · obtain ⟨b1, b2, b3, b4, b5, b6, b7, b8, b9, b10⟩ := h.l
    refine ⟨fun l' k q1 q2 => ?_, fun l' q1 => ?_, fun l' q1 => ?_, fun l' q1 => ?_, fun l' q1 => ?_, fun l' q1 => ?_, fun l' q1 => ?_, fun l' q1 p q2 => ?_, fun l' c q1 q2 q3 => ?_, fun l' q1 => ?_⟩
    · by_cases e : l' = lm
      · subst e
        by_cases e2 : k = 0
        · rw [e2, L0, L0v]
        · rw [Lk k (by omega) q2, Lkv k (by omega) q2]
      · rw [Lc l' k (by omega) q2, Lv l' k (by omega) q2]; exact b1 l' k (by omega) q2
    · by_cases e : l' = lm
      · subst e; exact ⟨p, hp, L0⟩
      · rw [Lc l' 0 (by omega) (by omega)]; exact b2 l' (by omega)
    · rw [cls]
      by_cases e : l' = lm
      · subst e; rw [En 1 (by omega), z2]
      · rw [E l' 1 (by omega) (by omega)]; exact b3 l' (by omega)
    · rw [cls]
      by_cases e : l' = lm
      · subst e; rw [En 2 (by omega), z2]
      · rw [E l' 2 (by omega) (by omega)]; exact b4 l' (by omega)
    · rw [csu _ _ (by omega)]
      by_cases e : l' = lm
      · subst e; rw [En 3 (by omega), z3]
      · rw [E l' 3 (by omega) (by omega)]; exact b5 l' (by omega)
    · rw [csu _ _ (by omega)]
      by_cases e : l' = lm
      · subst e; rw [En 4 (by omega), z3]
      · rw [E l' 4 (by omega) (by omega)]; exact b6 l' (by omega)
    · rw [clo]
      by_cases e : l' = lm
      · subst e; rw [Lk 1 (by omega) (by omega), z1]
      · rw [Lc l' 1 (by omega) (by omega)]; exact b7 l' (by omega)
    · rw [clo] at q2
      by_cases e : l' = lm
      · subst e; rw [z1] at q2; omega
      · obtain ⟨c, y1, y2, y3, y4⟩ := b8 l' (by omega) p q2
        exact ⟨c, y1, y2, by rw [C c 0 (by omega) (by omega)]; exact y3, by rw [C c 1 (by omega) (by omega)]; exact y4⟩
    · rw [C c 0 (by omega) (by omega)] at q3
      by_cases e : l' = lm
      · subst e; exact absurd q3 (lotn c q2)
      · obtain ⟨p, p1, p2, p3⟩ := b9 l' c (by omega) q2 q3
        exact ⟨p, by rw [clo]; exact p1, by rw [C c 1 (by omega) (by omega)]; exact p2, p3⟩
    · rw [clo]
      by_cases e : l' = lm
      · subst e
        rw [z1]
        exact ⟨0, Nat.le_refl _, En 0 (by omega), fun p c r1 => by omega, fun c r1 => by omega⟩
      · obtain ⟨q, p1, p2, p3, p4⟩ := b10 l' (by omega)
        exact ⟨q, p1, by rw [E l' 0 (by omega) (by omega)]; exact p2, fun p c r1 r2 r3 => (fn c r2).mpr (p3 p c r1 r2 r3), fun c r1 r2 r3 f => p4 c r1 r2 r3 ((fn c r2).mp f)⟩
  · obtain ⟨b1, b2⟩ := h.d
    have ht : sA w 6 = nI 0 := by rw [← sA_r (v := w) (by omega)]; exact htime
    obtain ⟨d0, d1, d2, d3⟩ := hday
    refine ⟨fun d t q1 q2 q3 q4 => ?_, fun d t l i q1 q2 q3 q4 q5 q6 => ?_⟩
    · rw [A 0 (by omega) (by omega)] at q3
      rw [A 6 (by omega) (by omega)] at q4
      rw [Av 11 (by omega) (by omega)]
      exact b1 d t q1 q2 q3 q4
    · rw [A 0 (by omega) (by omega)] at q3
      rw [A 6 (by omega) (by omega), ht] at q4
      have := nI_inj (by omega) (by omega) q4
      subst this
      rw [Nat.zero_div] at q6
      omega
  · intro q hq
    rw [C q 3 (by omega) (by omega), C q 4 (by omega) (by omega)]; exact h.wh q hq
end
section
theorem QR.stat {v w iv v2 w2 : Nat → Int32} {bp dl df tx tx2 : Nat → Nat → Int32} {nt nt2 sm lm cm B U ty p t len : Nat} {m : Int32} (h : QR v w iv bp dl df tx nt sm lm cm B U) (hsm : sm < 6) (hty : ty < 4) (hp1 : 1 ≤ p) (hp : p ≤ 99)
    (hv : ∀ i, i ≠ 7 → (i < 17 + 16 * sm ∨ 33 + 16 * sm ≤ i) → v2 i = v i) (hv7 : v2 7 = nI (sm + 1)) (hv0 : v2 (17 + 16 * sm + 0) = nI ty) (hv1 : v2 (17 + 16 * sm + 1) = nI p) (hv2 : v2 (17 + 16 * sm + 2) = m1) (hvk : ∀ k, 3 ≤ k → k < 14 → k ≠ 8 → v2 (17 + 16 * sm + k) = nI 0) (hv8 : v2 (17 + 16 * sm + 8) = if ty = 3 then nI 0 else m1) (hvn : v2 (17 + 16 * sm + 14) = nI len) (hvm : v2 (17 + 16 * sm + 15) = m)
    (hw : ∀ i, i ≠ 7 → (i < 17 + 16 * sm ∨ 33 + 16 * sm ≤ i) → w2 i = w i) (hw7 : w2 7 = nI (sm + 1)) (hw0 : w2 (17 + 16 * sm + 0) = nI ty) (hw1 : w2 (17 + 16 * sm + 1) = nI p) (hw2 : w2 (17 + 16 * sm + 2) = m1) (hwk : ∀ k, 3 ≤ k → k < 14 → w2 (17 + 16 * sm + k) = nI 0) (hwt : w2 (17 + 16 * sm + 14) = nI t)
    (hnt : nt ≤ nt2) (htx : ∀ t', 1 ≤ t' → t' ≤ nt → tx2 t' = tx t') (ht1 : 1 ≤ t) (ht2 : t ≤ nt2) (ht31 : t < 2 ^ 31) (hl1 : 1 ≤ len) (hl : len ≤ 12) (ht0 : tx2 t 0 = nI len) (hbits : ∀ k, k < len → (tx2 t (1 + k) = nI 49 ↔ (m >>> nI k) &&& nI 1 = nI 1)) : QR v2 w2 iv bp dl df tx2 nt2 (sm + 1) lm cm B U := by
  have hlm := h.a.lm6; have hcm := h.a.cm30
  have A : ∀ i, i < 17 → i ≠ 7 → sA w2 i = sA w i := fun i a b => by rw [← sA_r (v := w2) a, ← sA_r (v := w) a]; exact hw i b (by omega)
  have Av : ∀ i, i < 17 → i ≠ 7 → sA v2 i = sA v i := fun i a b => by rw [← sA_r (v := v2) a, ← sA_r (v := v) a]; exact hv i b (by omega)
  have S : ∀ s k, s < 6 → s ≠ sm → k < 16 → sS w2 s k = sS w s k := fun s k a c b => by rw [← sS_r (v := w2) a b, ← sS_r (v := w) a b]; exact hw _ (by omega) (by omega)
  have Sv : ∀ s k, s < 6 → s ≠ sm → k < 16 → sS v2 s k = sS v s k := fun s k a c b => by rw [← sS_r (v := v2) a b, ← sS_r (v := v) a b]; exact hv _ (by omega) (by omega)
  have N : ∀ k, k < 16 → sS w2 sm k = w2 (17 + 16 * sm + k) := fun k b => (sS_r (v := w2) hsm b).symm
  have Nv : ∀ k, k < 16 → sS v2 sm k = v2 (17 + 16 * sm + k) := fun k b => (sS_r (v := v2) hsm b).symm
  have eL : sL w2 = sL w := by
    funext a b; unfold sL
    split
    · exact hw _ (by omega) (by omega)
    · rfl
  have eLv : sL v2 = sL v := by
    funext a b; unfold sL
    split
    · exact hv _ (by omega) (by omega)
    · rfl
  have eE : sE w2 = sE w := by
    funext a b; unfold sE
    split
    · exact hw _ (by omega) (by omega)
    · rfl
  have eC : sC w2 = sC w := by
    funext a b; unfold sC
    split
    · exact hw _ (by omega) (by omega)
    · rfl
  have eCv : sC v2 = sC v := by
    funext a b; unfold sC
    split
    · exact hv _ (by omega) (by omega)
    · rfl
  have eF : sF w2 = sF w := by
    funext a; unfold sF
    split
    · exact hw _ (by omega) (by omega)
    · rfl
  have eFv : sF v2 = sF v := by
    funext a; unfold sF
    split
    · exact hv _ (by omega) (by omega)
    · rfl
  have ePv : sP v2 = sP v := by
    funext a; unfold sP
    split
    · exact hv _ (by omega) (by omega)
    · rfl
  refine ⟨?_, ?_, ?_, ?_, ?_, ?_, ?_⟩
  · obtain ⟨a1, a2, a3, a4, a5, a6, a7, a8, a9, a10⟩ := h.a
    refine ⟨by omega, a2, a3, a4, ?_, ?_, ?_, fun i q1 q2 q3 => ?_, ?_, ?_⟩
    · rw [← sA_r (v := w2) (by omega)]; exact hw7
    · rw [A 8 (by omega) (by omega)]; exact a6
    · rw [A 9 (by omega) (by omega)]; exact a7
    · by_cases e : i = 7
      · subst e; rw [← sA_r (v := v2) (by omega), ← sA_r (v := w2) (by omega), hv7, hw7]
      · rw [A i q1 e, Av i q1 e]; exact a8 i q1 q2 q3
    · rw [A 0 (by omega) (by omega)]; exact a9
    · rw [A 6 (by omega) (by omega)]; exact a10
  · rw [eC]
    obtain ⟨b1, b2, b3, b4, b5, b6, b7, b8, b9, b10⟩ := h.s
    have x0 : sS w2 sm 0 = nI ty := (N 0 (by omega)).trans hw0
    have x8 : sS w2 sm 8 = nI 0 := (N 8 (by omega)).trans (hwk 8 (by omega) (by omega))
    have y8 : sS v2 sm 8 = if ty = 3 then nI 0 else m1 := (Nv 8 (by omega)).trans hv8
    refine ⟨fun s k hs hk h8 => ?_, fun s hs => ?_, fun s hs => ?_, fun s hs => ?_, fun s hs => ?_, fun s hs => ?_, fun s hs => ?_, fun s hs => ?_, fun s hs => ?_, fun s hs => ?_⟩
    · by_cases e : s = sm
      · subst e
        rw [N k (by omega), Nv k (by omega)]
        rcases (show k = 0 ∨ k = 1 ∨ k = 2 ∨ 3 ≤ k by omega) with rfl | rfl | rfl | k3
        · rw [hv0, hw0]
        · rw [hv1, hw1]
        · rw [hv2, hw2]
        · rw [hvk k k3 hk h8, hwk k k3 hk]
      · rw [S s k (by omega) e (by omega), Sv s k (by omega) e (by omega)]; exact b1 s k (by omega) hk h8
    · by_cases e : s = sm
      · subst e
        rw [x0, x8, y8]
        intro q
        have := nI_inj (by omega) (by omega) q
        rw [if_pos this]
        exact ⟨rfl, 0, by omega, rfl⟩
      · rw [S s 0 (by omega) e (by omega), S s 8 (by omega) e (by omega), Sv s 8 (by omega) e (by omega)]; exact b2 s (by omega)
    · by_cases e : s = sm
      · subst e
        rw [x0, y8]
        intro q
        exact if_neg fun z => q (by rw [z])
      · rw [S s 0 (by omega) e (by omega), Sv s 8 (by omega) e (by omega)]; exact b3 s (by omega)
    · by_cases e : s = sm
      · subst e; exact ⟨p, hp1, hp, (N 1 (by omega)).trans hw1⟩
      · rw [S s 1 (by omega) e (by omega)]; exact b4 s (by omega)
    · by_cases e : s = sm
      · subst e; exact Or.inl ((N 2 (by omega)).trans hw2)
      · rw [S s 2 (by omega) e (by omega)]; exact b5 s (by omega)
    · by_cases e : s = sm
      · subst e; exact ⟨0, by omega, (N 3 (by omega)).trans (hwk 3 (by omega) (by omega))⟩
      · rw [S s 3 (by omega) e (by omega)]; exact b6 s (by omega)
    · by_cases e : s = sm
      · subst e; exact ⟨0, by omega, (N 4 (by omega)).trans (hwk 4 (by omega) (by omega))⟩
      · rw [S s 4 (by omega) e (by omega)]; exact b7 s (by omega)
    · by_cases e : s = sm
      · subst e; exact Or.inl ((N 7 (by omega)).trans (hwk 7 (by omega) (by omega)))
      · rw [S s 7 (by omega) e (by omega)]; exact b8 s (by omega)
    · by_cases e : s = sm
      · subst e
        rw [N 14 (by omega), Nv 14 (by omega), Nv 15 (by omega), hwt, hvn, hvm]
        exact ⟨t, len, ht1, ht2, rfl, ht0, hl1, hl, rfl, hbits⟩
      · rw [S s 14 (by omega) e (by omega), Sv s 14 (by omega) e (by omega), Sv s 15 (by omega) e (by omega)]
        obtain ⟨t', n, z1, z2, z3, z4, z5, z6, z7, z8⟩ := b9 s (by omega)
        exact ⟨t', n, z1, by omega, z3, by rw [htx t' z1 z2]; exact z4, z5, z6, z7, fun k hk => by rw [htx t' z1 z2]; exact z8 k hk⟩
    · by_cases e : s = sm
      · subst e; rw [N 14 (by omega), hwt, nI_clamp ht31]; exact ht2
      · rw [S s 14 (by omega) e (by omega)]; exact Nat.le_trans (b10 s hs) hnt
  · rw [eC, eCv]
    obtain ⟨b1, b2, b3, b4, b5, b6⟩ := h.c
    refine ⟨b1, b2, b3, b4, fun s hs => ?_, fun s hs => Nat.le_trans (b6 s hs) hnt⟩
    obtain ⟨t', n, z1, z2, z3, z4, z5, z6, z7, z8⟩ := b5 s hs
    exact ⟨t', n, z1, by omega, z3, by rw [htx t' z1 z2]; exact z4, z5, z6, z7, fun k hk => by rw [htx t' z1 z2]; exact z8 k hk⟩
  · rw [eC, eF, eFv]
    obtain ⟨b1, b2, b3⟩ := h.n
    exact ⟨b1, by rw [Av 10 (by omega) (by omega)]; exact b2, b3⟩
  · rw [eC, eL, eLv, eE]; exact h.l
  · rw [ePv]
    obtain ⟨b1, b2⟩ := h.d
    refine ⟨fun d t q1 q2 q3 q4 => ?_, fun d t l i q1 q2 q3 q4 q5 q6 => ?_⟩
    · rw [A 0 (by omega) (by omega)] at q3
      rw [A 6 (by omega) (by omega)] at q4
      rw [Av 11 (by omega) (by omega)]
      exact b1 d t q1 q2 q3 q4
    · rw [A 0 (by omega) (by omega)] at q3
      rw [A 6 (by omega) (by omega)] at q4
      exact b2 d t l i q1 q2 q3 q4 q5 q6
  · rw [eC]; exact h.wh
theorem QR.fresh {v w iv : Nat → Int32} {bp dl df tx : Nat → Nat → Int32} {nt B U d : Nat} (hB : B < 2000000000) (hd1 : 1 ≤ d) (hd : d ≤ 2000) (e0 : w 0 = nI d) (e6 : w 6 = nI 0) (e7 : w 7 = nI 0) (e8 : w 8 = nI 0) (e9 : w 9 = nI 0) (heq : ∀ i, i < 17 → i ≠ 10 → i ≠ 11 → v i = w i) (v10 : v 10 = nI 0) (v11 : v 11 = nI 0) (hiv : ∀ a, a < 5 → iv a = nI 0) (ht : TIr w nt) : QR v w iv bp dl df tx nt 0 0 0 B U := by
  refine ⟨⟨by omega, by omega, by omega, hB, ?_, ?_, ?_, fun i q1 q2 q3 => ?_, ⟨d, hd1, hd, ?_⟩, ⟨0, by omega, ?_⟩⟩, ⟨fun s k hs => absurd hs (by omega), fun s hs => absurd hs (by omega), fun s hs => absurd hs (by omega), fun s hs => absurd hs (by omega), fun s hs => absurd hs (by omega), fun s hs => absurd hs (by omega), fun s hs => absurd hs (by omega), fun s hs => absurd hs (by omega), fun s hs => absurd hs (by omega), ht.1⟩, ⟨fun s k hs => absurd hs (by omega), fun s hs => absurd hs (by omega), fun s hs => absurd hs (by omega), fun s hs => absurd hs (by omega), fun s hs => absurd hs (by omega), ht.2⟩, ⟨fun a ha => hiv a ha, ?_, fun i q => ?_⟩, ⟨fun s k hs => absurd hs (by omega), fun s hs => absurd hs (by omega), fun s hs => absurd hs (by omega), fun s hs => absurd hs (by omega), fun s hs => absurd hs (by omega), fun s hs => absurd hs (by omega), fun s hs => absurd hs (by omega), fun s hs => absurd hs (by omega), fun s q hs => absurd hs (by omega), fun s hs => absurd hs (by omega)⟩, ⟨fun d t q1 q2 q3 q4 => ?_, fun d t l i q1 q2 q3 q4 q5 => absurd q5 (by omega)⟩, fun c hc => absurd hc (by omega)⟩
  · rw [← sA_r (v := w) (by omega)]; exact e7
  · rw [← sA_r (v := w) (by omega)]; exact e8
  · rw [← sA_r (v := w) (by omega)]; exact e9
  · rw [← sA_r (v := v) q1, ← sA_r (v := w) q1]; exact heq i q1 q2 q3
  · rw [← sA_r (v := w) (by omega)]; exact e0
  · rw [← sA_r (v := w) (by omega)]; exact e6
  · rw [← sA_r (v := v) (by omega), v10, hiv 3 (by omega)]
  · exact absurd q (by show ¬ i < 0; omega)
  · rw [← sA_r (v := w) (by omega), e6] at q4
    have := nI_inj (by omega) (by omega) q4
    rw [← this, Nat.zero_div, Nat.min_zero, ← sA_r (v := v) (by omega)]
    exact v11
end
section
noncomputable def XC (nt : Nat) (u' u : RS) : Prop := (∀ R, R ≠ 0 → R ≠ 4 → R ≠ 5 → R ≠ 6 → ¬ OWN 1 R → R ≤ 500 + nt → u' R = u R) ∧ (∀ i, i ≠ 6 → i ≠ 7 → i ≠ 8 → i ≠ 10 → i ≠ 11 → u' 0 i = u 0 i) ∧ u' 5 0 = u 5 0
noncomputable def XW (w' w : RS) : Prop := (∀ R, R ≠ 0 → R ≠ 1 → R ≠ 7 → R ≠ 8 → w' R = w R) ∧ ∀ i, i ≠ 9 → i ≠ 10 → i ≠ 11 → i ≠ 12 → i ≠ 14 → i ≠ 19 → w' 0 i = w 0 i
theorem FC.x {u' u : RS} {nt : Nat} (h : FC u' u) : XC nt u' u := ⟨fun R a _ _ _ _ _ => h.1 R a, fun i a b c _ _ => h.2 i a b c, by rw [h.1 5 (by decide)]⟩
theorem FW1.x {w' w : RS} (h : FW1 w' w) : XW w' w := ⟨fun R a b _ _ => h.1 R a b, fun i a b c d _ _ => h.2 i a b c d⟩
theorem XC.trans {a b c : RS} {n m : Nat} (h : XC n a b) (h2 : XC m b c) (hm : m ≤ n) : XC m a c := ⟨fun R p q r s t z => (h.1 R p q r s t (by omega)).trans (h2.1 R p q r s t z), fun i p q r s t => (h.2.1 i p q r s t).trans (h2.2.1 i p q r s t), h.2.2.trans h2.2.2⟩
theorem XW.trans {a b c : RS} (h : XW a b) (h2 : XW b c) : XW a c := ⟨fun R p q r s => (h.1 R p q r s).trans (h2.1 R p q r s), fun i p q r s t z => (h.2 i p q r s t z).trans (h2.2 i p q r s t z)⟩
noncomputable def DR (u w : RS) (g : CG) (sm lm cm B : Nat) : Prop := QY u g 1 (w 1) sm lm cm B B ∧ (∀ s k, sm ≤ s → s < 6 → 3 ≤ k → k < 14 → k ≠ 8 → w 1 (17 + 16 * s + k) = nI 0) ∧ (∀ l k, lm ≤ l → l < 6 → 1 ≤ k → k < 4 → w 1 (113 + 4 * l + k) = nI 0) ∧ u (10 + 1) 6 = nI 0 ∧ TI g u
theorem DR.fr {u w u' w' : RS} {g : CG} {sm lm cm B : Nat} (h : DR u w g sm lm cm B) (fc : FC u' u) (fw : FW w' w) : DR u' w' g sm lm cm B := by
  obtain ⟨h1, h2, h3, h4, h5⟩ := h
  have e1 : w' 1 = w 1 := fw.1 1 (by decide)
  refine ⟨?_, by rw [e1]; exact h2, by rw [e1]; exact h3, by rw [fc.1 _ (by omega)]; exact h4, TI_fc h5 fc⟩
  rw [e1]
  exact QY.frame (by omega) h1 (Nat.le_refl _) (fun R hR => fc.1 R (by unfold OWN at hR; omega)) (fun t _ _ => fc.1 _ (by omega))
noncomputable def OUT (b : Nat → Int32) (n B m : Nat) (g : CG) (u w : RS) (g' : CG) (u' w' : RS) : Prop := XC g.nt u' u ∧ XW w' w ∧ g'.1 = g.1 ∧ g.nt ≤ g'.nt ∧ g'.nt ≤ g.nt + 1 ∧ ((∃ i sm lm cm, m ≤ i ∧ OKs b n i u' w' ∧ DR u' w' g' sm lm cm B) ∨ (ERs b n u' w' ∧ TI g' u'))
theorem TI.xl {g : CG} {u u' : RS} (h : TI g u) (hr : ∀ R, 10 ≤ R → R < 22 → u' R = u R) : TI g u' := fun L hL => by rw [hr _ (by omega) (by omega)]; exact h L hL
theorem many0 {w : RS} : F8_tooMany w (0 : Int32) = some w := by
  unfold F8_tooMany
  rw [if_pos rfl, bS]
theorem many1 {b : Nat → Int32} {n i s : Nat} {g : CG} {u w : RS} (h : OKs b n i u w) (h14 : w 0 14 = nI s) (hs : s ≤ 600) : ∃ u' w', C5_error g u (4 : Int32) (nI s) = some u' ∧ F8_tooMany w (1 : Int32) = some w' ∧ ERs b n u' w' ∧ FC u' u ∧ FW w' w := by
  obtain ⟨h1, h2, h3, h4, h5, h6, h7⟩ := h
  obtain ⟨u', w', e1, e2, e3, e4, e5⟩ := err2 (g := g) (u := u) (w := up w 0 10 (nI s)) (i := i) (e := 4) (p := s) h1 (h2.fr (FW.up (by omega))) h3 h4 h6 (by rw [up_ne (by omega)]; exact h7) up_eq hs (by omega) (by omega)
  refine ⟨u', w', e1, ?_, e3, e4, e5.trans (FW.up (by omega))⟩
  unfold F8_tooMany
  rw [if_neg (show ¬ (1 : Int32) = 0 by decide), h14, pt_n, bS, show (4 : Int32) = nI 4 from rfl, e2, bS, bS]
theorem sb1 {n : Nat} (hn : n ≤ 100) : (nI n - (1 : Int32)).toInt ≤ 2000 := by
  have := sub1_toInt (n := n) (by omega)
  show (nI n - nI 1).toInt ≤ 2000
  omega
theorem lot2 {b : Nat → Int32} {n i s sm lm cm B : Nat} {g : CG} {u w : RS} (hb : BB b n) (h : OKs b n i u w) (h1i : 1 ≤ i) (hd : DR u w g sm lm cm B) (h14 : w 0 14 = nI s) (hs : s ≤ 600) : ∃ u' w', C5_readLot g u 1 (nI s) = some u' ∧ F8_lotPart w = some w' ∧ OUT b n B i g u w g u' w' := by
  have hq := hd.1
  have hlm := hq.a.lm6
  unfold C5_readLot F8_lotPart
  rw [hq.n8, hq.v8]
  by_cases c : lm < 6
  · rw [if_pos (show nI lm < (6 : Int32) from nI_lt (b := 6) c (by omega)), if_neg (show ¬ nI lm = (6 : Int32) from nI_ne (b := 6) (by omega) (by omega) (by omega)), bS, many0, bS]
    obtain ⟨u1, w1, y, x, e1, e2, e3, e4, e5⟩ := num2 (g := g) (lo := 0) (a2 := 9) hb h (by omega) (by decide)
    rw [show (0 : Int32) = nI 0 from rfl, e1, e2, bS, bS]
    dsimp only
    rcases e5 with ⟨i', V, q1, q2, rfl, rfl, q5, q6⟩ | ⟨q1, q2⟩
    · have hd1 := hd.fr e3 e4
      have hq1 := hd1.1
      have hV : V ≤ 9 := by
        have : (9 : Int32).toInt = 9 := rfl
        omega
      rw [q2.fine, bS, if_neg nz0, if_pos (show w1 0 11 = nI 0 from q2.w0)]
      unfold C3_addLot C4_begin
      simp only [pt_n, bS]
      rw [hq1.n8, if_neg (show ¬ (6 : Int32) ≤ nI lm from nI_ge (b := 6) c (by omega)), ix_n c (by omega), bS]
      rw [hq1.v8, show (113 : Int32) + 4 * nI lm + nI 0 = nI (113 + 4 * lm + 0) by
        show nI 113 + nI 4 * nI lm + nI 0 = _
        rw [nI_mul, nI_add, nI_add], ws_n (by omega) (by omega)]
      simp only [bS]
      rw [show (8 : Int32) = nI 8 from rfl, ws_n (by omega) (by omega), up_ne (k := 1) (r := 1) (by omega), hq1.v8, show nI lm + 1 = nI (lm + 1) from nI_add _ 1]
      simp only [bS]
      generalize hU : up (up (up (up (up (up (up (up (up u1 (10 + 1) (113 + 4 * lm + 0) (nI V)) (10 + 1) (113 + 4 * lm + 1) (0 : Int32)) (10 + 1) (1100 + 8 * lm + 0) (0 : Int32)) (10 + 1) (1100 + 8 * lm + 1) (0 : Int32)) (10 + 1) (1100 + 8 * lm + 2) (0 : Int32)) (10 + 1) (1100 + 8 * lm + 3) (0 : Int32)) (10 + 1) (1100 + 8 * lm + 4) (0 : Int32)) (10 + 1) (113 + 4 * lm + 2) (0 : Int32)) (10 + 1) (113 + 4 * lm + 3) (0 : Int32) = U
      have ur : ∀ R, R ≠ 10 + 1 → U R = u1 R := fun R hR => by rw [← hU]; simp only [up_or hR]
      have ui : ∀ j, (j < 113 + 4 * lm ∨ 117 + 4 * lm ≤ j) → (j < 1100 + 8 * lm ∨ 1108 + 8 * lm ≤ j) → U (10 + 1) j = u1 (10 + 1) j := fun j p q => by rw [← hU]; simp (disch := omega) only [up_ne]
      have u0 : U (10 + 1) (113 + 4 * lm + 0) = nI V := by rw [← hU]; simp (disch := omega) only [up_ne, up_eq]
      have uk : ∀ k, 1 ≤ k → k < 4 → U (10 + 1) (113 + 4 * lm + k) = nI 0 := fun k p q => by
        rw [← hU]
        rcases (show k = 1 ∨ k = 2 ∨ k = 3 by omega) with rfl | rfl | rfl <;> (simp (disch := omega) only [up_ne, up_eq]; rfl)
      have ue : ∀ k, k < 5 → U (10 + 1) (1100 + 8 * lm + k) = nI 0 := fun k p => by
        rw [← hU]
        rcases (show k = 0 ∨ k = 1 ∨ k = 2 ∨ k = 3 ∨ k = 4 by omega) with rfl | rfl | rfl | rfl | rfl <;> (simp (disch := omega) only [up_ne, up_eq]; rfl)
      clear hU
      rw [ui 8 (by omega) (by omega), hq1.n8, show nI lm + 1 = nI (lm + 1) from nI_add _ 1]
      obtain ⟨d0, d1, d2, d3⟩ := hq1.a.day
      rw [← sA_r (v := u1 (10 + 1)) (by omega)] at d3
      have hqn := QR.lot (v2 := up (up w1 1 (113 + 4 * lm + 0) (nI V)) 1 8 (nI (lm + 1)) 1) (w2 := up U (10 + 1) 8 (nI (lm + 1)) (10 + 1)) (p := V) hq1 c hV (fun j p q => by rw [up_ne (by omega), up_ne (by omega)]) up_eq (by rw [up_ne (by omega), up_eq]) (fun k p q => by rw [up_ne (by omega), up_ne (by omega)]; exact hd1.2.2.1 lm k (Nat.le_refl _) c p q) (fun j p q s => by rw [up_ne (by omega)]; exact ui j q s) up_eq (by rw [up_ne (by omega)]; exact u0) (fun k p q => by rw [up_ne (by omega)]; exact uk k p q) (fun k p => by rw [up_ne (by omega)]; exact ue k p) hd1.2.2.2.1 ⟨d0, d1, d2, d3⟩
      refine ⟨_, _, rfl, rfl, ?_, ?_, rfl, Nat.le_refl _, Nat.le_succ _, Or.inl ⟨i', sm, lm + 1, cm, by omega, ?_, ?_, ?_, ?_, ?_, ?_⟩⟩
      · refine ⟨fun R p _ _ _ s _ => ?_, fun j p q s _ _ => ?_, ?_⟩
        · have : R ≠ 10 + 1 := fun z => s (Or.inl z)
          rw [up_or this, ur R this]; exact e3.1 R p
        · rw [up_ne (by omega), ur 0 (by omega)]; exact e3.2 j p q s
        · rw [up_ne (by omega), ur 5 (by omega), e3.1 5 (by omega)]
      · exact (FW1.up.trans (FW1.up.trans e4.w1)).x
      · obtain ⟨z1, z2, z3, z4, z5, z6, z7⟩ := (q2.w1 (i := 113 + 4 * lm + 0) (x := nI V)).w1 (i := 8) (x := nI (lm + 1))
        have e0 : up U (10 + 1) 8 (nI (lm + 1)) 0 = u1 0 := by rw [up_or (by omega), ur 0 (by omega)]
        have e03 : up U (10 + 1) 8 (nI (lm + 1)) 3 = u1 3 := by rw [up_or (by omega), ur 3 (by omega)]
        exact ⟨⟨by rw [e0]; exact z1.1, fun k hk => by rw [e03]; exact z1.2 k hk⟩, z2, z3, by rw [e0]; exact z4, z5, by rw [e0]; exact z6, z7⟩
      · have : up U (10 + 1) 8 (nI (lm + 1)) (400 + 1) = u1 (400 + 1) := by rw [up_or (by omega), ur _ (by omega)]
        unfold QY
        rw [this]
        exact hqn.congr (Nat.le_refl _) (fun l hl => by rw [up_or (by omega), ur _ (by omega)]) (fun l hl => by rw [up_or (by omega), ur _ (by omega)]) (fun l hl => by rw [up_or (by omega), ur _ (by omega)]) (fun t _ _ => by rw [up_or (by omega), ur _ (by omega)])
      · intro s k p q r s' t
        rw [up_ne (by omega), up_ne (by omega)]; exact hd1.2.1 s k p q r s' t
      · intro l k p q r s'
        rw [up_ne (by omega), up_ne (by omega)]; exact hd1.2.2.1 l k (by omega) q r s'
      · rw [up_ne (by omega), ui 6 (by omega) (by omega)]; exact hd1.2.2.2.1
      · intro L hL
        by_cases e : L = 1
        · subst e
          refine ⟨fun s hs => ?_, fun q hq => ?_⟩
          · rw [up_ne (by omega), ui _ (by omega) (by omega)]; exact (hd1.2.2.2.2 1 hL).1 s hs
          · rw [up_ne (by omega), ui _ (by omega) (by omega)]; exact (hd1.2.2.2.2 1 hL).2 q hq
        · rw [up_or (by omega), ur _ (by omega)]; exact hd1.2.2.2.2 L hL
    · rw [q1.fine, bS, if_pos rfl, bS, if_neg (show ¬ w1 0 11 = nI 0 from q1.ne.1), bS]
      exact ⟨u1, w1, rfl, rfl, e3.x, e4.w1.x, rfl, Nat.le_refl _, Nat.le_succ _, Or.inr ⟨q1, TI_fc hd.2.2.2.2 e3⟩⟩
  · obtain ⟨u', w', e1, e2, e3, e4, e5⟩ := many1 (g := g) h h14 hs
    obtain ⟨x, y⟩ := e3.ne
    have hl : lm = 6 := by omega
    rw [hl, if_neg (show ¬ nI 6 < (6 : Int32) by decide), if_pos (show nI 6 = (6 : Int32) from rfl), e1, bS, bS, e2, bS]
    unfold F8_number
    rw [if_neg x, bS]
    dsimp only
    rw [if_neg x, bS]
    exact ⟨u', w', rfl, rfl, e4.x, e5.w1.x, rfl, Nat.le_refl _, Nat.le_succ _, Or.inr ⟨e3, TI_fc hd.2.2.2.2 e4⟩⟩
end
section
theorem OUT.err {b : Nat → Int32} {n B m : Nat} {g : CG} {u w u' w' : RS} (hc : FC u' u) (hw : XW w' w) (h : ERs b n u' w') (ht : TI g u) : OUT b n B m g u w g u' w' :=
  ⟨hc.x, hw, rfl, Nat.le_refl _, Nat.le_succ _, Or.inr ⟨h, TI_fc ht hc⟩⟩
theorem rest2 {b : Nat → Int32} {n i sm lm cm B : Nat} {g : CG} {u w : RS} (hb : BB b n) (h : OKs b n i u w) (h1i : 1 ≤ i) (hd : DR u w g sm lm cm B) : ∃ u' w', C5_readRest g u 1 = some u' ∧ F8_restPart w = some w' ∧ OUT b n B i g u w g u' w' := by
  have hq := hd.1
  have hsm := hq.a.sm6
  unfold C5_readRest F8_restPart
  rw [hq.n7, hq.v7]
  obtain ⟨u1, w1, y1, x1, e1, e2, e3, e4, e5⟩ := num2 (g := g) (lo := 0) (a2 := nI sm - 1) hb h (by omega) (sb1 (by omega))
  rw [show (0 : Int32) = nI 0 from rfl, e1, e2, bS, bS]
  dsimp only
  rw [show C5_readNumber g u1 (1 : Int32) (99 : Int32) = C5_readNumber g u1 (nI 1) (99 : Int32) from rfl, show F8_number w1 (1 : Int32) (99 : Int32) = F8_number w1 (nI 1) (99 : Int32) from rfl]
  rcases e5 with ⟨i1, V1, q1, q2, rfl, rfl, q5, q6⟩ | ⟨q1, q2⟩
  · obtain ⟨u2, w2, y2, x2, f1, f2, f3, f4, f5⟩ := num2 (g := g) (lo := 1) (a2 := 99) hb q2 (by omega) (by decide)
    rw [f1, f2, bS, bS]
    dsimp only
    rw [show C5_readNumber g u2 (1 : Int32) (99 : Int32) = C5_readNumber g u2 (nI 1) (99 : Int32) from rfl, show F8_number w2 (1 : Int32) (99 : Int32) = F8_number w2 (nI 1) (99 : Int32) from rfl]
    rcases f5 with ⟨i2, V2, r1, r2, rfl, rfl, r5, r6⟩ | ⟨r1, r2⟩
    · obtain ⟨u3, w3, y3, x3, g1, g2, g3, g4, g5⟩ := num2 (g := g) (lo := 1) (a2 := 99) hb r2 (by omega) (by decide)
      rw [g1, g2, bS, bS]
      dsimp only
      have FCu : FC u3 u := g3.trans (f3.trans e3)
      have FWw : FW w3 w := g4.trans (f4.trans e4)
      rcases g5 with ⟨i3, V3, s1, s2, rfl, rfl, s5, s6⟩ | ⟨s1, s2⟩
      · have hd3 := hd.fr FCu FWw
        have hV : V1 < sm := by
          have := sub1_toInt (n := sm) (by omega)
          have q7 : (V1 : Int) ≤ (nI sm - nI 1).toInt := q6
          omega
        rw [s2.fine, bS, if_neg nz0, if_pos (show w3 0 11 = nI 0 from s2.w0), ix_n (show V1 < 6 by omega) (by omega), bS, pt_n, bS, bS, pt_n, bS, bS]
        rw [show F8_sets w3 (nI V1) (9 : Int32) (nI V2) = some (up w3 1 (17 + 16 * V1 + 9) (nI V2)) from F8_sets_n (k := 9) (by omega) (by omega), bS, show F8_sets (up w3 1 (17 + 16 * V1 + 9) (nI V2)) (nI V1) (10 : Int32) (nI V3) = some (up (up w3 1 (17 + 16 * V1 + 9) (nI V2)) 1 (17 + 16 * V1 + 10) (nI V3)) from F8_sets_n (k := 10) (by omega) (by omega), bS, bS]
        have hqn := QR.free (x := nI V3) 10 (by omega) (show V1 < 6 by omega) (QR.free (x := nI V2) 9 (by omega) (show V1 < 6 by omega) hd3.1)
        have hu : up (up u3 (10 + 1) (17 + 16 * V1 + 9) (nI V2)) (10 + 1) (17 + 16 * V1 + 10) (nI V3) = setL u3 1 (upd (upd (u3 (10 + 1)) (17 + 16 * V1 + 9) (nI V2)) (17 + 16 * V1 + 10) (nI V3)) (u3 (400 + 1)) := by
          rw [upC (c := u3), up_setL_w]
        have hw : up (up w3 1 (17 + 16 * V1 + 9) (nI V2)) 1 (17 + 16 * V1 + 10) (nI V3) 1 = upd (upd (w3 1) (17 + 16 * V1 + 9) (nI V2)) (17 + 16 * V1 + 10) (nI V3) := by
          rw [up1, setR_1, up1, setR_1]
        refine ⟨_, _, rfl, rfl, ?_, (FW1.up.trans (FW1.up.trans FWw.w1)).x, rfl, Nat.le_refl _, Nat.le_succ _, Or.inl ⟨i3, sm, lm, cm, by omega, ?_, ?_, ?_, ?_, ?_, ?_⟩⟩
        · refine ⟨fun R p _ _ _ s _ => ?_, fun j p q s _ _ => ?_, ?_⟩
          · have : R ≠ 10 + 1 := fun z => s (Or.inl z)
            rw [up_or this, up_or this]; exact FCu.1 R p
          · rw [up_ne (by omega), up_ne (by omega)]; exact FCu.2 j p q s
          · rw [up_ne (by omega), up_ne (by omega), FCu.1 5 (by omega)]
        · obtain ⟨z1, z2, z3, z4, z5, z6, z7⟩ := (s2.w1 (i := 17 + 16 * V1 + 9) (x := nI V2)).w1 (i := 17 + 16 * V1 + 10) (x := nI V3)
          refine ⟨⟨by rw [up_ne (by omega), up_ne (by omega)]; exact z1.1, fun k hk => by rw [up_ne (by omega), up_ne (by omega)]; exact z1.2 k hk⟩, z2, z3, by rw [up_ne (by omega), up_ne (by omega)]; exact z4, z5, by rw [up_ne (by omega), up_ne (by omega)]; exact z6, z7⟩
        · rw [hu, hw]
          exact QX.toY (by omega) hqn
        · intro s k p q r s' t
          rw [up_ne (by omega), up_ne (by omega)]; exact hd3.2.1 s k p q r s' t
        · intro l k p q r s'
          rw [up_ne (by omega), up_ne (by omega)]; exact hd3.2.2.1 l k p q r s'
        · rw [up_ne (by omega), up_ne (by omega)]; exact hd3.2.2.2.1
        · intro L hL
          by_cases e : L = 1
          · subst e
            refine ⟨fun s hs => ?_, fun q hq => ?_⟩
            · rw [up_ne (by omega), up_ne (by omega)]; exact (hd3.2.2.2.2 1 hL).1 s hs
            · rw [up_ne (by omega), up_ne (by omega)]; exact (hd3.2.2.2.2 1 hL).2 q hq
          · rw [up_or (by omega), up_or (by omega)]; exact hd3.2.2.2.2 L hL
      · rw [s1.fine, bS, if_pos rfl, bS, if_neg (show ¬ w3 0 11 = nI 0 from s1.ne.1), bS]
        exact ⟨u3, w3, rfl, rfl, OUT.err FCu FWw.w1.x s1 hd.2.2.2.2⟩
    · obtain ⟨u3, y3, g1, g2, g3, g4⟩ := numE (g := g) (a1 := nI 1) (a2 := 99) hb r1
      rw [g1, g2, bS, bS]
      dsimp only
      rw [g4.fine, bS, if_pos rfl, bS, if_neg (show ¬ w2 0 11 = nI 0 from g4.ne.1), bS]
      exact ⟨u3, w2, rfl, rfl, OUT.err (g3.trans (f3.trans e3)) (f4.trans e4).w1.x g4 hd.2.2.2.2⟩
  · obtain ⟨u2, y2, f1, f2, f3, f4⟩ := numE (g := g) (a1 := nI 1) (a2 := 99) hb q1
    rw [f1, f2, bS, bS]
    dsimp only
    rw [show C5_readNumber g u2 (1 : Int32) (99 : Int32) = C5_readNumber g u2 (nI 1) (99 : Int32) from rfl, show F8_number w1 (1 : Int32) (99 : Int32) = F8_number w1 (nI 1) (99 : Int32) from rfl]
    obtain ⟨u3, y3, g1, g2, g3, g4⟩ := numE (g := g) (a1 := nI 1) (a2 := 99) hb f4
    rw [g1, g2, bS, bS]
    dsimp only
    rw [g4.fine, bS, if_pos rfl, bS, if_neg (show ¬ w1 0 11 = nI 0 from g4.ne.1), bS]
    exact ⟨u3, w1, rfl, rfl, OUT.err (g3.trans (f3.trans e3)) e4.w1.x g4 hd.2.2.2.2⟩
theorem scrE {b : Nat → Int32} {n st : Nat} {g : CG} {u w : RS} (hb : BB b n) (h : ERs b n u w) : ∃ u', C5_readScript g u = some (0, g, u') ∧ F8_scriptPart w (nI st) = some w ∧ FC u' u ∧ ERs b n u' w := by
  obtain ⟨i, h3, h4⟩ := h.2.2.1
  have h1 := h.1
  have hn := hb.1
  have hs := SK_le (b := b) h3
  have hdl := dg_le (b := b) (n - SK b n i) (SK b n i)
  unfold C5_readScript F8_scriptPart
  rw [skipC hb h1 h4 h3, if_neg h.ne.1, bS, bS, if_neg h.ne.1]
  dsimp only
  have hsc := scrLC (g := g) (t1 := (nI (SK b n i), up u 0 6 (nI (SK b n i)))) hb (n - SK b n i) (SK b n i) FUEL 1 (up u 0 6 (nI (SK b n i))) (by omega) (by show n - SK b n i < 10000; omega) (by omega) (h1.fr (FC.up (by omega))) up_eq
  rw [Nat.one_mul] at hsc
  rw [show (1 : Int32) = nI 1 from rfl, hsc, bS, up_up]
  dsimp only
  have he := h.fc (i := dg b (n - SK b n i) (SK b n i)) (by omega)
  have e0 : ∀ e p, C5_error g (up u 0 6 (nI (dg b (n - SK b n i) (SK b n i)))) e p = some (up u 0 6 (nI (dg b (n - SK b n i) (SK b n i)))) := fun e p => he.errC
  refine ⟨up u 0 6 (nI (dg b (n - SK b n i) (SK b n i))), ?_, rfl, FC.up (by omega), he⟩
  have e1 : ((if up u 0 6 (nI (dg b (n - SK b n i) (SK b n i))) 0 6 = nI (SK b n i) then ((C5_error g (up u 0 6 (nI (dg b (n - SK b n i) (SK b n i)))) (nI 1) (nI (SK b n i))).bind fun u28 => some u28) else (if nI (sfl b (n - SK b n i) (SK b n i)) = 0 then ((C5_error g (up u 0 6 (nI (dg b (n - SK b n i) (SK b n i)))) 2 (nI (SK b n i))).bind fun u23 => some u23) else (if (up u 0 6 (nI (dg b (n - SK b n i) (SK b n i))) 0 6) - nI (SK b n i) ≤ 12 then (some (up u 0 6 (nI (dg b (n - SK b n i) (SK b n i))))) else ((C5_error g (up u 0 6 (nI (dg b (n - SK b n i) (SK b n i)))) 2 (nI (SK b n i))).bind fun u26 => some u26)))) : Option RS) = some (up u 0 6 (nI (dg b (n - SK b n i) (SK b n i)))) := by
    simp only [e0, bS]
    repeat' split
    all_goals rfl
  rw [e1, bS, he.fine, bS, if_pos (show nI 0 = (0 : Int32) from rfl)]
end
section
theorem FW1.one {w' w : RS} (h : FW1 w' w) : XW w' w := h.x
theorem stat2 {b : Nat → Int32} {n i s ty sm lm cm B : Nat} {g : CG} {u w : RS} (hb : BB b n) (h : OKs b n i u w) (h1i : 1 ≤ i) (hd : DR u w g sm lm cm B) (h14 : w 0 14 = nI s) (hs : s ≤ 600) (hty : ty < 4) (hg : g.nt < 1000000) : ∃ g' u' w', C5_readStation g u 1 (nI ty) (nI s) = some (g', u') ∧ F8_stationPart w (nI ty) = some w' ∧ OUT b n B i g u w g' u' w' := by
  have hq := hd.1
  have hsm := hq.a.sm6
  unfold C5_readStation F8_stationPart
  rw [hq.n7, hq.v7]
  by_cases c : sm < 6
  · rw [if_pos (show nI sm < (6 : Int32) from nI_lt (b := 6) c (by omega)), if_neg (show ¬ nI sm = (6 : Int32) from nI_ne (b := 6) (by omega) (by omega) (by omega)), bS, many0, bS, if_pos h.w0, hq.v7]
    rw [show F8_sets w (nI sm) (0 : Int32) (nI ty) = some (up w 1 (17 + 16 * sm + 0) (nI ty)) from F8_sets_n (k := 0) c (by omega), bS]
    obtain ⟨P, hP, hP1, hP2, hP3⟩ : ∃ P, P ≤ 99 ∧ C7_mostPace (nI ty) = some (nI P) ∧ F8_mostPace (nI ty) = some (nI P) ∧ (nI P).toInt = P := by
      by_cases z : ty = 3
      · refine ⟨9, by omega, ?_, ?_, by decide⟩
        · unfold C7_mostPace; rw [z, if_pos (show nI 3 = (3 : Int32) from rfl)]; rfl
        · unfold F8_mostPace; rw [z, if_pos (show nI 3 = (3 : Int32) from rfl)]; rfl
      · refine ⟨99, by omega, ?_, ?_, by decide⟩
        · unfold C7_mostPace; rw [if_neg (show ¬ nI ty = (3 : Int32) from nI_ne (b := 3) z (by omega) (by omega))]; rfl
        · unfold F8_mostPace; rw [if_neg (show ¬ nI ty = (3 : Int32) from nI_ne (b := 3) z (by omega) (by omega))]; rfl
    rw [hP1, hP2, bS, bS]
    obtain ⟨e8, he8, hE8⟩ : ∃ x, x = (if ty = 3 then nI 0 else m1) ∧ (if nI ty = (3 : Int32) then (some (0 : Int32)) else (some (-1 : Int32)) : Option Int32) = some x := by
      by_cases z : ty = 3
      · exact ⟨nI 0, by rw [if_pos z], by rw [z, if_pos (show nI 3 = (3 : Int32) from rfl)]; rfl⟩
      · exact ⟨m1, by rw [if_neg z], by rw [if_neg (show ¬ nI ty = (3 : Int32) from nI_ne (b := 3) z (by omega) (by omega))]; rfl⟩
    rw [hE8]
    obtain ⟨u1, w1, y, x, e1, e2, e3, e4, e5⟩ := num2 (g := g) (lo := 1) (a2 := nI P) hb (h.w1 (i := 17 + 16 * sm + 0) (x := nI ty)) (by omega) (by omega)
    rw [show (1 : Int32) = nI 1 from rfl, e1, e2, bS, bS]
    dsimp only
    rw [F8_sets_n c (by omega), bS, show F8_sets (up w1 1 (17 + 16 * sm + 1) x) (nI sm) (2 : Int32) (-nI 1) = some (up (up w1 1 (17 + 16 * sm + 1) x) 1 (17 + 16 * sm + 2) (-nI 1)) from F8_sets_n (k := 2) c (by omega), bS, bS, show F8_sets (up (up w1 1 (17 + 16 * sm + 1) x) 1 (17 + 16 * sm + 2) (-nI 1)) (nI sm) (8 : Int32) e8 = some (up (up (up w1 1 (17 + 16 * sm + 1) x) 1 (17 + 16 * sm + 2) (-nI 1)) 1 (17 + 16 * sm + 8) e8) from F8_sets_n (k := 8) c (by omega), bS]
    have hTI1 := TI_fc hd.2.2.2.2 e3
    have fw1 : FW1 (up (up (up w1 1 (17 + 16 * sm + 1) x) 1 (17 + 16 * sm + 2) (-nI 1)) 1 (17 + 16 * sm + 8) e8) w := FW1.up.trans (FW1.up.trans (FW1.up.trans (e4.w1.trans FW1.up)))
    rcases e5 with ⟨i1, V, q1, q2, rfl, rfl, q5, q6⟩ | ⟨q1, q2⟩
    · rcases scr2 (g := g) (st := sm) hb ((q2.w1 (i := 17 + 16 * sm + 1) (x := nI V)).w1 (i := 17 + 16 * sm + 2) (x := -nI 1) |>.w1 (i := 17 + 16 * sm + 8) (x := e8)) (by omega) c hg hTI1 with ⟨i2, len, m, u2, u3, w2, k1, k2, k3, k4, k5, k6, k7, k8, k9, k10⟩ | ⟨u2, w2, k1, k2, k3, k4, k5⟩
      · rw [k1, k2, bS, bS, k4.fine, bS, if_neg (show ¬ nI 1 = (0 : Int32) from nz0)]
        have r1 : ∀ j, j ≠ 7 → (j < 17 + 16 * sm ∨ 33 + 16 * sm ≤ j) → w2 1 j = w 1 j := fun j p q => by
          rw [k7.1 1 (by decide), up_ne (by omega), up_ne (by omega), up_ne (by omega), e4.1 1 (by decide), up_ne (by omega)]
        have r7 : w2 1 7 = nI sm := by
          rw [k7.1 1 (by decide), up_ne (by omega), up_ne (by omega), up_ne (by omega), e4.1 1 (by decide), up_ne (by omega)]; exact hq.v7
        have rk : ∀ k, k < 16 → k ≠ 0 → k ≠ 1 → k ≠ 2 → k ≠ 8 → w2 1 (17 + 16 * sm + k) = w 1 (17 + 16 * sm + k) := fun k p a0 a1 a2 a8 => by
          rw [k7.1 1 (by decide), up_ne (by omega), up_ne (by omega), up_ne (by omega), e4.1 1 (by decide), up_ne (by omega)]
        have rk0 : w2 1 (17 + 16 * sm + 0) = nI ty := by
          rw [k7.1 1 (by decide), up_ne (by omega), up_ne (by omega), up_ne (by omega), e4.1 1 (by decide), up_eq]
        have rk1 : w2 1 (17 + 16 * sm + 1) = nI V := by
          rw [k7.1 1 (by decide), up_ne (by omega), up_ne (by omega), up_eq]
        have rk2 : w2 1 (17 + 16 * sm + 2) = m1 := by
          rw [k7.1 1 (by decide), up_ne (by omega), up_eq]; rfl
        have rk8 : w2 1 (17 + 16 * sm + 8) = e8 := by rw [k7.1 1 (by decide), up_eq]
        have c0 : ∀ R, R ≠ 0 → R ≠ 500 + (g.nt + 1) → u3 R = u R := fun R a b => (k6.2.2 R b).trans ((k5.1 R a).trans (e3.1 R a))
        have c7 : u3 (10 + 1) 7 = nI sm := by rw [c0 _ (by omega) (by omega)]; exact hq.n7
        unfold C3_addStation C6_begin
        simp only [pt_n, bS]
        rw [c7, if_neg (show ¬ (6 : Int32) ≤ nI sm from nI_ge (b := 6) c (by omega)), ix_n c (by omega)]
        rw [show (7 : Int32) = nI 7 from rfl, ws_n (by omega) (by omega)]
        simp only [bS]
        generalize hU : up (up (up (up (up (up (up (up (up (up (up (up (up (up (up u3 (10 + 1) (17 + 16 * sm + 0) (nI ty)) (10 + 1) (17 + 16 * sm + 1) (nI V)) (10 + 1) (17 + 16 * sm + 14) (nI (g.nt + 1))) (10 + 1) (17 + 16 * sm + 2) (-1)) (10 + 1) (17 + 16 * sm + 3) 0) (10 + 1) (17 + 16 * sm + 4) 0) (10 + 1) (17 + 16 * sm + 13) 0) (10 + 1) (17 + 16 * sm + 5) 0) (10 + 1) (17 + 16 * sm + 6) 0) (10 + 1) (17 + 16 * sm + 7) 0) (10 + 1) (17 + 16 * sm + 8) 0) (10 + 1) (17 + 16 * sm + 9) 0) (10 + 1) (17 + 16 * sm + 10) 0) (10 + 1) (17 + 16 * sm + 11) 0) (10 + 1) (17 + 16 * sm + 12) 0 = U
        have ur : ∀ R, R ≠ 10 + 1 → U R = u3 R := fun R hR => by rw [← hU]; simp only [up_or hR]
        have ui : ∀ j, (j < 17 + 16 * sm ∨ 33 + 16 * sm ≤ j) → U (10 + 1) j = u3 (10 + 1) j := fun j p => by rw [← hU]; simp (disch := omega) only [up_ne]
        have y0 : U (10 + 1) (17 + 16 * sm + 0) = nI ty := by rw [← hU]; simp (disch := omega) only [up_ne, up_eq]
        have y1 : U (10 + 1) (17 + 16 * sm + 1) = nI V := by rw [← hU]; simp (disch := omega) only [up_ne, up_eq]
        have y2 : U (10 + 1) (17 + 16 * sm + 2) = m1 := by rw [← hU]; simp (disch := omega) only [up_ne, up_eq]; rfl
        have y14 : U (10 + 1) (17 + 16 * sm + 14) = nI (g.nt + 1) := by rw [← hU]; simp (disch := omega) only [up_ne, up_eq]
        have yk : ∀ k, 3 ≤ k → k < 14 → U (10 + 1) (17 + 16 * sm + k) = nI 0 := fun k p q => by
          rw [← hU]
          rcases (show k = 3 ∨ k = 4 ∨ k = 5 ∨ k = 6 ∨ k = 7 ∨ k = 8 ∨ k = 9 ∨ k = 10 ∨ k = 11 ∨ k = 12 ∨ k = 13 by omega) with rfl | rfl | rfl | rfl | rfl | rfl | rfl | rfl | rfl | rfl | rfl <;> (simp (disch := omega) only [up_ne, up_eq]; rfl)
        clear hU
        have e7c : U (10 + 1) 7 + 1 = nI (sm + 1) := by rw [ui 7 (by omega), c7]; exact nI_add sm 1
        have e7r : up (up w2 1 (17 + 16 * sm + 14) (nI len)) 1 (17 + 16 * sm + 15) (nI m) 1 7 + nI 1 = nI (sm + 1) := by rw [up_ne (by omega), up_ne (by omega), r7]; exact nI_add sm 1
        have hV : V ≤ 99 := by rw [hP3] at q6; omega
        have hqn := QR.stat (v := w 1) (w := u (10 + 1)) (v2 := up (up (up w2 1 (17 + 16 * sm + 14) (nI len)) 1 (17 + 16 * sm + 15) (nI m)) 1 7 (up (up w2 1 (17 + 16 * sm + 14) (nI len)) 1 (17 + 16 * sm + 15) (nI m) 1 7 + nI 1) 1) (w2 := up U (10 + 1) 7 (U (10 + 1) 7 + 1) (10 + 1)) (ty := ty) (p := V) (t := g.nt + 1) (len := len) (m := nI m) (nt2 := g.nt + 1) (tx2 := fun t => u3 (500 + t)) hq c hty q5 hV
          (fun j p q => by rw [up_ne (by omega), up_ne (by omega), up_ne (by omega)]; exact r1 j p q) (by rw [up_eq]; exact e7r) (by rw [up_ne (by omega), up_ne (by omega), up_ne (by omega)]; exact rk0) (by rw [up_ne (by omega), up_ne (by omega), up_ne (by omega)]; exact rk1) (by rw [up_ne (by omega), up_ne (by omega), up_ne (by omega)]; exact rk2) (fun k p q z => by rw [up_ne (by omega), up_ne (by omega), up_ne (by omega), rk k (by omega) (by omega) (by omega) (by omega) z]; exact hd.2.1 sm k (Nat.le_refl _) c p q z) (by rw [up_ne (by omega), up_ne (by omega), up_ne (by omega), rk8]; exact he8) (by rw [up_ne (by omega), up_ne (by omega), up_eq]) (by rw [up_ne (by omega), up_eq])
          (fun j p q => by rw [up_ne (by omega), ui j q, c0 _ (by omega) (by omega)]) (by rw [up_eq]; exact e7c) (by rw [up_ne (by omega)]; exact y0) (by rw [up_ne (by omega)]; exact y1) (by rw [up_ne (by omega)]; exact y2) (fun k p q => by rw [up_ne (by omega)]; exact yk k p q) (by rw [up_ne (by omega)]; exact y14)
          (Nat.le_succ _) (fun t' z1 z2 => c0 _ (by omega) (by omega)) (by omega) (Nat.le_refl _) (by omega) k8 k9 k6.1 k10
        refine ⟨_, _, _, rfl, rfl, ?_, (FW1.up.trans (FW1.up.trans (FW1.up.trans (k7.w1.trans fw1)))).x, rfl, Nat.le_succ _, Nat.le_refl _, Or.inl ⟨i2, sm + 1, lm, cm, by omega, ?_, ?_, ?_, ?_, ?_, ?_⟩⟩
        · refine ⟨fun R p _ _ _ s z => ?_, fun j p q s _ _ => ?_, ?_⟩
          · have : R ≠ 10 + 1 := fun z => s (Or.inl z)
            rw [up_or this, ur R this]; exact c0 R p (by omega)
          · rw [up_ne (by omega), ur 0 (by omega), k6.2.2 0 (by omega), k5.2 j p q s]; exact e3.2 j p q s
          · rw [up_ne (by omega), ur 5 (by omega), c0 5 (by omega) (by omega)]
        · obtain ⟨z1, z2, z3, z4, z5, z6, z7⟩ := k4.w1 (i := 7) (x := up (up w2 1 (17 + 16 * sm + 14) (nI len)) 1 (17 + 16 * sm + 15) (nI m) 1 7 + nI 1)
          have ee0 : up U (10 + 1) 7 (U (10 + 1) 7 + 1) 0 = u3 0 := by rw [up_or (by omega), ur 0 (by omega)]
          have ee3 : up U (10 + 1) 7 (U (10 + 1) 7 + 1) 3 = u3 3 := by rw [up_or (by omega), ur 3 (by omega)]
          exact ⟨⟨by rw [ee0]; exact z1.1, fun k hk => by rw [ee3]; exact z1.2 k hk⟩, z2, z3, by rw [ee0]; exact z4, z5, by rw [ee0]; exact z6, z7⟩
        · have e400 : up U (10 + 1) 7 (U (10 + 1) 7 + 1) (400 + 1) = u (400 + 1) := by rw [up_or (by omega), ur _ (by omega), c0 _ (by omega) (by omega)]
          unfold QY
          rw [e400]
          exact hqn.congr (Nat.le_refl _) (fun l hl => by rw [up_or (by omega), ur _ (by omega), c0 _ (by omega) (by omega)]) (fun l hl => by rw [up_or (by omega), ur _ (by omega), c0 _ (by omega) (by omega)]) (fun l hl => by rw [up_or (by omega), ur _ (by omega), c0 _ (by omega) (by omega)]) (fun t _ _ => by rw [up_or (by omega), ur _ (by omega)])
        · intro s k p q r s' t
          rw [up_ne (by omega), up_ne (by omega), up_ne (by omega), r1 _ (by omega) (by omega)]; exact hd.2.1 s k (by omega) q r s' t
        · intro l k p q r s'
          rw [up_ne (by omega), up_ne (by omega), up_ne (by omega), r1 _ (by omega) (by omega)]; exact hd.2.2.1 l k p q r s'
        · rw [up_ne (by omega), ui 6 (by omega), c0 _ (by omega) (by omega)]; exact hd.2.2.2.1
        · intro L hL
          have gn : (ga g).nt = g.nt + 1 := rfl
          rw [gn]
          by_cases e : L = 1
          · subst e
            refine ⟨fun s hs => ?_, fun q hq => ?_⟩
            · by_cases es : s = sm
              · subst es; rw [up_ne (by omega), y14, nI_clamp (by omega)]; exact Nat.le_refl _
              · rw [up_ne (by omega), ui _ (by omega), c0 _ (by omega) (by omega)]; exact Nat.le_succ_of_le ((hd.2.2.2.2 1 hL).1 s hs)
            · rw [up_ne (by omega), ui _ (by omega), c0 _ (by omega) (by omega)]; exact Nat.le_succ_of_le ((hd.2.2.2.2 1 hL).2 q hq)
          · rw [up_or (by omega), ur _ (by omega), c0 _ (by omega) (by omega)]
            exact ⟨fun s hs => Nat.le_succ_of_le ((hd.2.2.2.2 L hL).1 s hs), fun q hq => Nat.le_succ_of_le ((hd.2.2.2.2 L hL).2 q hq)⟩
      · rw [k1, k2, bS, bS, k5.fine, bS, if_pos (show nI 0 = (0 : Int32) from rfl), bS, show (7 : Int32) = nI 7 from rfl, ws_n (by omega) (by omega), bS]
        exact ⟨g, u2, _, rfl, rfl, OUT.err (k3.trans e3) ((FW1.up.trans k4).trans fw1).x k5.w1 hd.2.2.2.2⟩
    · obtain ⟨u2, k1, k2, k3, k4⟩ := scrE (st := sm) (g := g) hb ((q1.w1 (i := 17 + 16 * sm + 1) (x := x)).w1 (i := 17 + 16 * sm + 2) (x := -nI 1) |>.w1 (i := 17 + 16 * sm + 8) (x := e8))
      rw [k1, k2, bS, bS, k4.fine, bS, if_pos (show nI 0 = (0 : Int32) from rfl), bS, show (7 : Int32) = nI 7 from rfl, ws_n (by omega) (by omega), bS]
      exact ⟨g, u2, _, rfl, rfl, OUT.err (k3.trans e3) (FW1.up.trans fw1).x k4.w1 hd.2.2.2.2⟩
  · obtain ⟨u', w', e1, e2, e3, e4, e5⟩ := many1 (g := g) h h14 hs
    obtain ⟨x, y⟩ := e3.ne
    have hl : sm = 6 := by omega
    rw [hl, if_neg (show ¬ nI 6 < (6 : Int32) by decide), if_pos (show nI 6 = (6 : Int32) from rfl), e1, bS, bS, e2, bS, if_neg x]
    exact ⟨g, u', w', rfl, rfl, OUT.err e4 e5.w1.x e3 hd.2.2.2.2⟩
end
section
noncomputable def OKi (b : Nat → Int32) (n : Nat) (u w : RS) : Prop := ∃ i, 1 ≤ i ∧ OKs b n i u w
theorem OK_ER {b : Nat → Int32} {n : Nat} {u w : RS} (h : OKi b n u w) (h2 : ERs b n u w) : False := by
  obtain ⟨i, _, h⟩ := h
  exact h2.ne.1 h.w0
theorem OKi.w1 {b : Nat → Int32} {n j : Nat} {u w : RS} {x : Int32} (h : OKi b n u w) : OKi b n u (up w 1 j x) := by
  obtain ⟨i, a, h⟩ := h
  exact ⟨i, a, h.w1⟩
theorem numP {b : Nat → Int32} {n lo : Nat} {g : CG} {u w : RS} {a2 : Int32} (hb : BB b n) (h : OKi b n u w ∨ ERs b n u w) (hlo : lo ≤ 2000) (ha2 : a2.toInt ≤ 2000) : ∃ u' w' y x, C5_readNumber g u (nI lo) a2 = some (y, u') ∧ F8_number w (nI lo) a2 = some (x, w') ∧ FC u' u ∧ FW w' w ∧ (ERs b n u' w' ∨ (OKi b n u w ∧ OKi b n u' w' ∧ ∃ V, y = nI V ∧ x = nI V ∧ lo ≤ V ∧ (V : Int) ≤ a2.toInt)) := by
  rcases h with ⟨i, a, h⟩ | h
  · obtain ⟨u', w', y, x, e1, e2, e3, e4, e5⟩ := num2 (g := g) hb h hlo ha2
    refine ⟨u', w', y, x, e1, e2, e3, e4, ?_⟩
    rcases e5 with ⟨i', V, q1, q2, q3, q4, q5, q6⟩ | ⟨q1, q2⟩
    · exact Or.inr ⟨⟨i, a, h⟩, ⟨i', by omega, q2⟩, V, q3, q4, q5, q6⟩
    · exact Or.inl q1
  · obtain ⟨u', y, e1, e2, e3, e4⟩ := numE (g := g) (a1 := nI lo) (a2 := a2) hb h
    exact ⟨u', w, y, nI lo, e1, e2, e3, FW.rfl, Or.inl e4⟩
theorem PS.w1 {b : Nat → Int32} {n j : Nat} {u w : RS} {x : Int32} (h : OKi b n u w ∨ ERs b n u w) : OKi b n u (up w 1 j x) ∨ ERs b n u (up w 1 j x) := h.elim (fun q => Or.inl q.w1) (fun q => Or.inr q.w1)
theorem fillI {g : CG} {L : Nat} {v : Int32} : ∀ (d y f : Nat) (u : RS), y + d = 5 → d < f → ∃ u2, C_J7_fill_53178_is_L5 L v g f (nI y) u = some (nI 5, u2) ∧ (∀ R, R ≠ 400 + L → u2 R = u R) ∧ ∀ a, y ≤ a → a < 5 → u2 (400 + L) a = v
  | 0, y, f, u, h1, h2 => by
    obtain ⟨f, rfl⟩ : ∃ m, f = m + 1 := ⟨f - 1, by omega⟩
    obtain rfl : y = 5 := by omega
    exact ⟨u, by rw [C_J7_fill_53178_is_L5, if_pos (show (5 : Int32) ≤ nI 5 by decide)], fun _ _ => rfl, fun a _ _ => by omega⟩
  | d + 1, y, f, u, h1, h2 => by
    obtain ⟨f, rfl⟩ : ∃ m, f = m + 1 := ⟨f - 1, by omega⟩
    have keep : ∀ (d y f : Nat) (u : RS), y + d = 5 → d < f → ∀ u2, C_J7_fill_53178_is_L5 L v g f (nI y) u = some (nI 5, u2) → ∀ a, a < y → u2 (400 + L) a = u (400 + L) a := by
      intro d
      induction d with
      | zero =>
        intro y f u h1 h2 u2 e a ha
        obtain ⟨f, rfl⟩ : ∃ m, f = m + 1 := ⟨f - 1, by omega⟩
        obtain rfl : y = 5 := by omega
        rw [C_J7_fill_53178_is_L5, if_pos (show (5 : Int32) ≤ nI 5 by decide)] at e
        have := (Prod.mk.inj (Option.some.inj e)).2
        rw [← this]
      | succ d ih =>
        intro y f u h1 h2 u2 e a ha
        obtain ⟨f, rfl⟩ : ∃ m, f = m + 1 := ⟨f - 1, by omega⟩
        rw [C_J7_fill_53178_is_L5, if_neg (show ¬ (5 : Int32) ≤ nI y from nI_ge (b := 5) (by omega) (by omega)), ws_n (by omega) (by omega), bS, show nI y + 1 = nI (y + 1) from nI_add _ 1] at e
        rw [ih (y + 1) f _ (by omega) (by omega) u2 e a (by omega), up_ne (by omega)]
    rw [C_J7_fill_53178_is_L5, if_neg (show ¬ (5 : Int32) ≤ nI y from nI_ge (b := 5) (by omega) (by omega)), ws_n (by omega) (by omega), bS, show nI y + 1 = nI (y + 1) from nI_add _ 1]
    obtain ⟨u2, k1, k2, k3⟩ := fillI (g := g) (L := L) (v := v) d (y + 1) f (up u (400 + L) y v) (by omega) (by omega)
    refine ⟨u2, k1, fun R hR => (k2 R hR).trans (up_or hR), fun a p q => ?_⟩
    by_cases e : a = y
    · subst e; rw [keep d (a + 1) f _ (by omega) (by omega) u2 k1 a (by omega), up_eq]
    · exact k3 a (by omega) q
theorem fillT {g : CG} {L : Nat} {v : Int32} : ∀ (d y f : Nat) (u : RS), y + d = 5 → d < f → ∃ u2, C_J7_fill_53178_tt_L5 L v g f (nI y) u = some (nI 5, u2) ∧ (∀ R, R ≠ 10 + L → u2 R = u R) ∧ (∀ a, (a < 12 + y ∨ 17 ≤ a) → u2 (10 + L) a = u (10 + L) a) ∧ ∀ a, y ≤ a → a < 5 → u2 (10 + L) (12 + a) = v
  | 0, y, f, u, h1, h2 => by
    obtain ⟨f, rfl⟩ : ∃ m, f = m + 1 := ⟨f - 1, by omega⟩
    obtain rfl : y = 5 := by omega
    exact ⟨u, by rw [C_J7_fill_53178_tt_L5, if_pos (show (5 : Int32) ≤ nI 5 by decide)], fun _ _ => rfl, fun _ _ => rfl, fun a _ _ => by omega⟩
  | d + 1, y, f, u, h1, h2 => by
    obtain ⟨f, rfl⟩ : ∃ m, f = m + 1 := ⟨f - 1, by omega⟩
    rw [C_J7_fill_53178_tt_L5, if_neg (show ¬ (5 : Int32) ≤ nI y from nI_ge (b := 5) (by omega) (by omega)), wso_n (by omega) (by omega), bS, show nI y + 1 = nI (y + 1) from nI_add _ 1]
    obtain ⟨u2, k1, k2, k3, k4⟩ := fillT (g := g) (L := L) (v := v) d (y + 1) f (up u (10 + L) (12 + y) v) (by omega) (by omega)
    refine ⟨u2, k1, fun R hR => (k2 R hR).trans (up_or hR), fun a p => ?_, fun a p q => ?_⟩
    · rw [k3 a (by omega), up_ne (by omega)]
    · by_cases e : a = y
      · subst e; rw [k3 (12 + a) (by omega), up_eq]
      · exact k4 a (by omega) q
theorem begin_C {g : CG} {u : RS} {L : Nat} {d bl tr ti : Int32} (hL : L < 12) : ∃ u2, C3_begin g u L d bl tr ti = some u2 ∧ (∀ R, R ≠ 10 + L → R ≠ 400 + L → u2 R = u R) ∧ (∀ i, 17 ≤ i → u2 (10 + L) i = u (10 + L) i) ∧ (∀ a, a < 5 → u2 (400 + L) a = nI 0) ∧ u2 (10 + L) 0 = d ∧ u2 (10 + L) 1 = tr ∧ u2 (10 + L) 2 = ti ∧ u2 (10 + L) 3 = bl ∧ u2 (10 + L) 4 = nI 0 ∧ u2 (10 + L) 5 = bl ∧ (∀ i, 6 ≤ i → i < 10 → u2 (10 + L) i = nI 0) ∧ ∀ i, 12 ≤ i → i < 17 → u2 (10 + L) i = nI 0 := by
  unfold C3_begin C_J7_fill_53178_is C_J7_fill_53178_tt
  simp only [pt_n, bS]
  generalize hU : up (up (up (up (up (up (up (up (up (up u (10 + L) 0 d) (10 + L) 3 bl) (10 + L) 4 0) (10 + L) 5 bl) (10 + L) 1 tr) (10 + L) 2 ti) (10 + L) 6 0) (10 + L) 7 0) (10 + L) 8 0) (10 + L) 9 0 = U
  have ur : ∀ R, R ≠ 10 + L → U R = u R := fun R hR => by rw [← hU]; simp only [up_or hR]
  have ui : ∀ j, 17 ≤ j → U (10 + L) j = u (10 + L) j := fun j p => by rw [← hU]; simp (disch := omega) only [up_ne]
  have x0 : U (10 + L) 0 = d := by rw [← hU]; simp (disch := omega) only [up_ne, up_eq]
  have x1 : U (10 + L) 1 = tr := by rw [← hU]; simp (disch := omega) only [up_ne, up_eq]
  have x2 : U (10 + L) 2 = ti := by rw [← hU]; simp (disch := omega) only [up_ne, up_eq]
  have x3 : U (10 + L) 3 = bl := by rw [← hU]; simp (disch := omega) only [up_ne, up_eq]
  have x4 : U (10 + L) 4 = nI 0 := by rw [← hU]; simp (disch := omega) only [up_ne, up_eq]; rfl
  have x5 : U (10 + L) 5 = bl := by rw [← hU]; simp (disch := omega) only [up_ne, up_eq]
  have xk : ∀ i, 6 ≤ i → i < 10 → U (10 + L) i = nI 0 := fun i p q => by
    rw [← hU]
    rcases (show i = 6 ∨ i = 7 ∨ i = 8 ∨ i = 9 by omega) with rfl | rfl | rfl | rfl <;> (simp (disch := omega) only [up_ne, up_eq]; rfl)
  clear hU
  obtain ⟨u2, k1, k2, k3⟩ := fillI (g := g) (L := L) (v := 0) 5 0 FUEL U (by omega) (by show 5 < 10000; omega)
  obtain ⟨u3, j1, j2, j3, j4⟩ := fillT (g := g) (L := L) (v := 0) 5 0 FUEL u2 (by omega) (by show 5 < 10000; omega)
  have k1' : C_J7_fill_53178_is_L5 L 0 g FUEL 0 U = some (nI 5, u2) := k1
  have j1' : C_J7_fill_53178_tt_L5 L 0 g FUEL 0 u2 = some (nI 5, u3) := j1
  rw [k1', bS, bS]
  dsimp only
  rw [j1', bS, bS]
  have e : ∀ i, i < 12 ∨ 17 ≤ i → u3 (10 + L) i = U (10 + L) i := fun i p => by rw [j3 i (by omega), k2 _ (by omega)]
  refine ⟨u3, rfl, fun R p q => ?_, fun i p => ?_, fun a p => ?_, ?_, ?_, ?_, ?_, ?_, ?_, fun i p q => ?_, fun i p q => ?_⟩
  · rw [j2 R p, k2 R q, ur R p]
  · rw [e i (by omega), ui i p]
  · rw [j2 _ (by omega)]; exact k3 a (by omega) p
  · rw [e 0 (by omega), x0]
  · rw [e 1 (by omega), x1]
  · rw [e 2 (by omega), x2]
  · rw [e 3 (by omega), x3]
  · rw [e 4 (by omega), x4]
  · rw [e 5 (by omega), x5]
  · rw [e i (by omega), xk i p q]
  · have := j4 (i - 12) (by omega) (by omega)
    rw [show 12 + (i - 12) = i by omega] at this
    exact this
end
section
noncomputable def lineTail (t6 : RS) : Option RS := (F8_number t6 (1 : Int32) (2000 : Int32)).bind fun t9 => (ws t9.2 1 1037 0 t9.1).bind fun u11 => (F8_number u11 (0 : Int32) (999 : Int32)).bind fun t13 => (ws t13.2 1 1037 3 t13.1).bind fun u15 => (ws u15 1 1037 5 (u15 1 3)).bind fun u17 => (F8_number u17 (1 : Int32) (20 : Int32)).bind fun t19 => (ws t19.2 1 1037 1 t19.1).bind fun u21 => (F8_number u21 (1 : Int32) (9 : Int32)).bind fun t23 => (ws t23.2 1 1037 2 t23.1).bind fun u25 => some u25
theorem linePart_t {u0 : RS} : F8_linePart u0 = (F8_reads u0).bind fun u1 => (F8_isWord u1 [108, 105, 110, 101]).bind fun x3 => (if x3 = 0 then ((F8_fails u1 (1 : Int32)).bind fun u27 => some u27) else (some u1) : Option (RS)).bind lineTail := rfl
theorem wsk {w : RS} {k : Nat} {x : Int32} (hk : k < 1037) : ws w 1 1037 (nI k) x = some (up w 1 k x) := ws_n hk (by omega)
theorem line2 {b : Nat → Int32} {n B : Nat} {g : CG} {u w : RS} (hb : BB b n) (h : OKi b n u w) (hB : B < 2000000000) (hti : TI g u) (hz : ∀ i, i < 137 → i ≠ 0 → i ≠ 1 → i ≠ 2 → w 1 i = nI 0) : ∃ u' w', C5_readLine g u 1 = some u' ∧ lineTail w = some w' ∧ OUT b n B 1 g u w g u' w' := by
  unfold C5_readLine lineTail
  obtain ⟨u1, w1, y1, x1, a1, a2, a3, a4, a5⟩ := numP (g := g) (lo := 1) (a2 := 2000) hb (Or.inl h) (by omega) (by decide)
  have z1 : C5_readNumber g u (1 : Int32) (2000 : Int32) = some (y1, u1) := a1
  have z2 : F8_number w (1 : Int32) (2000 : Int32) = some (x1, w1) := a2
  rw [z1, z2, bS, bS]
  dsimp only
  rw [show ws w1 1 1037 (0 : Int32) x1 = some (up w1 1 0 x1) from wsk (k := 0) (by omega), bS]
  obtain ⟨u2, w2, y2, x2, b1, b2, b3, b4, b5⟩ := numP (g := g) (u := u1) (w := up w1 1 0 x1) (lo := 0) (a2 := 999) hb (PS.w1 (a5.elim Or.inr (fun q => Or.inl q.2.1))) (by omega) (by decide)
  have z3 : C5_readNumber g u1 (0 : Int32) (999 : Int32) = some (y2, u2) := b1
  have z4 : F8_number (up w1 1 0 x1) (0 : Int32) (999 : Int32) = some (x2, w2) := b2
  rw [z3, z4, bS, bS]
  dsimp only
  rw [show ws w2 1 1037 (3 : Int32) x2 = some (up w2 1 3 x2) from wsk (k := 3) (by omega), bS, show ws (up w2 1 3 x2) 1 1037 (5 : Int32) (up w2 1 3 x2 1 3) = some (up (up w2 1 3 x2) 1 5 (up w2 1 3 x2 1 3)) from wsk (k := 5) (by omega), bS, up_eq]
  obtain ⟨u3, w3, y3, x3, c1, c2, c3, c4, c5⟩ := numP (g := g) (u := u2) (w := up (up w2 1 3 x2) 1 5 x2) (lo := 1) (a2 := 20) hb (PS.w1 (PS.w1 (b5.elim Or.inr (fun q => Or.inl q.2.1)))) (by omega) (by decide)
  have z5 : C5_readNumber g u2 (1 : Int32) (20 : Int32) = some (y3, u3) := c1
  have z6 : F8_number (up (up w2 1 3 x2) 1 5 x2) (1 : Int32) (20 : Int32) = some (x3, w3) := c2
  rw [z5, z6, bS, bS]
  dsimp only
  rw [show ws w3 1 1037 (1 : Int32) x3 = some (up w3 1 1 x3) from wsk (k := 1) (by omega), bS]
  obtain ⟨u4, w4, y4, x4, d1, d2, d3, d4, d5⟩ := numP (g := g) (u := u3) (w := up w3 1 1 x3) (lo := 1) (a2 := 9) hb (PS.w1 (c5.elim Or.inr (fun q => Or.inl q.2.1))) (by omega) (by decide)
  have z7 : C5_readNumber g u3 (1 : Int32) (9 : Int32) = some (y4, u4) := d1
  have z8 : F8_number (up w3 1 1 x3) (1 : Int32) (9 : Int32) = some (x4, w4) := d2
  rw [z7, z8, bS, bS]
  dsimp only
  rw [show ws w4 1 1037 (2 : Int32) x4 = some (up w4 1 2 x4) from wsk (k := 2) (by omega), bS]
  have FCu : FC u4 u := d3.trans (c3.trans (b3.trans a3))
  have FWw : FW1 (up w4 1 2 x4) w := FW1.up.trans (d4.w1.trans (FW1.up.trans (c4.w1.trans (FW1.up.trans (FW1.up.trans (b4.w1.trans (FW1.up.trans a4.w1)))))))
  have hti4 := TI_fc hti FCu
  rcases d5 with q | ⟨q1, q2, V4, rfl, rfl, q5, q6⟩
  · rw [q.fine, bS, if_pos (show nI 0 = (0 : Int32) from rfl), bS]
    exact ⟨u4, _, rfl, rfl, OUT.err FCu FWw.x q.w1 hti⟩
  · rcases c5 with p | ⟨p1, p2, V3, rfl, rfl, p5, p6⟩
    · exact absurd p.w1 (fun z => OK_ER q1 z)
    rcases b5 with p | ⟨r1, r2, V2, rfl, rfl, r5, r6⟩
    · exact absurd p.w1.w1 (fun z => OK_ER p1 z)
    rcases a5 with p | ⟨s1, s2, V1, rfl, rfl, s5, s6⟩
    · exact absurd p.w1 (fun z => OK_ER r1 z)
    have hV1 : V1 ≤ 2000 := by have : (2000 : Int32).toInt = 2000 := rfl; omega
    obtain ⟨i, hi, hok⟩ := q2
    rw [hok.fine, bS, if_neg (show ¬ nI 1 = (0 : Int32) from nz0)]
    obtain ⟨U, k1, k2, k3, k4, k5, k6, k7, k8, k9, k10, k11, k12⟩ := begin_C (g := g) (u := u4) (L := 1) (d := nI V1) (bl := nI V2) (tr := nI V3) (ti := nI V4) (by omega)
    rw [k1, bS, bS]
    have e1 : w4 1 = up w3 1 1 (nI V3) 1 := d4.1 1 (by decide)
    have e2 : w3 1 = up (up w2 1 3 (nI V2)) 1 5 (nI V2) 1 := c4.1 1 (by decide)
    have e3 : w2 1 = up w1 1 0 (nI V1) 1 := b4.1 1 (by decide)
    have e4 : w1 1 = w 1 := a4.1 1 (by decide)
    have W : ∀ j, j ≠ 0 → j ≠ 1 → j ≠ 2 → j ≠ 3 → j ≠ 5 → up w4 1 2 (nI V4) 1 j = w 1 j := fun j p0 p1 p2 p3 p5 => by
      rw [up_ne (by omega), e1, up_ne (by omega), e2, up_ne (by omega), up_ne (by omega), e3, up_ne (by omega), e4]
    have W0 : up w4 1 2 (nI V4) 1 0 = nI V1 := by rw [up_ne (by omega), e1, up_ne (by omega), e2, up_ne (by omega), up_ne (by omega), e3, up_eq]
    have W1 : up w4 1 2 (nI V4) 1 1 = nI V3 := by rw [up_ne (by omega), e1, up_eq]
    have W2 : up w4 1 2 (nI V4) 1 2 = nI V4 := up_eq
    have W3 : up w4 1 2 (nI V4) 1 3 = nI V2 := by rw [up_ne (by omega), e1, up_ne (by omega), e2, up_ne (by omega), up_eq]
    have W5 : up w4 1 2 (nI V4) 1 5 = nI V2 := by rw [up_ne (by omega), e1, up_ne (by omega), e2, up_eq]
    have tir : TIr (U (10 + 1)) g.nt := by
      refine ⟨fun s hs => ?_, fun q hq => ?_⟩
      · rw [← sS_r (v := U (10 + 1)) hs (by omega), k3 _ (by omega)]; exact (hti4 1 (by omega)).1 s hs
      · rw [← sC_r (v := U (10 + 1)) hq (by omega), k3 _ (by omega)]; exact (hti4 1 (by omega)).2 q hq
    refine ⟨U, _, rfl, rfl, ?_, FWw.x, rfl, Nat.le_refl _, Nat.le_succ _, Or.inl ⟨i, 0, 0, 0, hi, ?_, ?_, ?_, ?_, ?_, ?_⟩⟩
    · refine ⟨fun R p _ _ _ s _ => ?_, fun j p q s _ _ => ?_, ?_⟩
      · rw [k2 R (fun z => s (Or.inl z)) (fun z => s (Or.inr (Or.inl z)))]; exact FCu.1 R p
      · rw [k2 0 (by omega) (by omega)]; exact FCu.2 j p q s
      · rw [k2 5 (by omega) (by omega), FCu.1 5 (by omega)]
    · obtain ⟨y1, y2, y3, y4, y5, y6, y7⟩ := hok.w1 (i := 2) (x := nI V4)
      have ee0 : U 0 = u4 0 := k2 0 (by omega) (by omega)
      have ee3 : U 3 = u4 3 := k2 3 (by omega) (by omega)
      exact ⟨⟨by rw [ee0]; exact y1.1, fun k hk => by rw [ee3]; exact y1.2 k hk⟩, y2, y3, by rw [ee0]; exact y4, y5, by rw [ee0]; exact y6, y7⟩
    · refine QR.fresh (d := V1) hB s5 hV1 k5 (k11 6 (by omega) (by omega)) (k11 7 (by omega) (by omega)) (k11 8 (by omega) (by omega)) (k11 9 (by omega) (by omega)) (fun j p q r => ?_) ?_ ?_ (fun a ha => k4 a ha) tir
      · rcases (show j = 0 ∨ j = 1 ∨ j = 2 ∨ j = 3 ∨ j = 4 ∨ j = 5 ∨ (6 ≤ j ∧ j < 10) ∨ 12 ≤ j by omega) with rfl | rfl | rfl | rfl | rfl | rfl | z | z
        · rw [W0, k5]
        · rw [W1, k6]
        · rw [W2, k7]
        · rw [W3, k8]
        · rw [W 4 (by omega) (by omega) (by omega) (by omega) (by omega), hz 4 (by omega) (by omega) (by omega) (by omega), k9]
        · rw [W5, k10]
        · rw [W j (by omega) (by omega) (by omega) (by omega) (by omega), hz j (by omega) (by omega) (by omega) (by omega), k11 j z.1 z.2]
        · rw [W j (by omega) (by omega) (by omega) (by omega) (by omega), hz j (by omega) (by omega) (by omega) (by omega), k12 j z p]
      · rw [W 10 (by omega) (by omega) (by omega) (by omega) (by omega)]; exact hz 10 (by omega) (by omega) (by omega) (by omega)
      · rw [W 11 (by omega) (by omega) (by omega) (by omega) (by omega)]; exact hz 11 (by omega) (by omega) (by omega) (by omega)
    · intro s k p q r s' t
      rw [W _ (by omega) (by omega) (by omega) (by omega) (by omega)]; exact hz _ (by omega) (by omega) (by omega) (by omega)
    · intro l k p q r s'
      rw [W _ (by omega) (by omega) (by omega) (by omega) (by omega)]; exact hz _ (by omega) (by omega) (by omega) (by omega)
    · exact k11 6 (by omega) (by omega)
    · intro L hL
      by_cases e : L = 1
      · subst e
        refine ⟨fun s hs => ?_, fun q hq => ?_⟩
        · rw [k3 _ (by omega)]; exact (hti4 1 hL).1 s hs
        · rw [k3 _ (by omega)]; exact (hti4 1 hL).2 q hq
      · rw [k2 _ (by omega) (by omega)]; exact hti4 L hL
end
section
noncomputable def RT (u w : RS) (d len : Nat) (st ct : Nat → Nat) : Prop := d ≤ 3 ∧ u 0 11 = nI d ∧ u 0 10 = nI len ∧ w 0 19 = nI len ∧ st 0 = 0 ∧ (∀ k, k < d → st k ≤ st (k + 1) ∧ st (k + 1) ≤ st k + 16) ∧ st d ≤ len ∧ len ≤ st d + 16 ∧ (∀ k, k ≤ d → u 5 k = nI (st k) ∧ w 8 k = nI (st k)) ∧ (∀ k, 1 ≤ k → k ≤ d → u 6 k = nI (ct k) ∧ 2 ≤ ct k ∧ ct k ≤ 9) ∧ ∀ k, k < len → u 4 k = w 7 k ∧ ∃ a, a < 26 ∧ w 7 k = nI a
theorem RT.le {u w : RS} {d len : Nat} {st ct : Nat → Nat} (h : RT u w d len st ct) : ∀ k, k ≤ d → st k ≤ 16 * k := by
  obtain ⟨h1, h2, h3, h4, h5, h6, -⟩ := h
  intro k
  induction k with
  | zero => intro _; omega
  | succ k ih =>
    intro hk
    have := ih (by omega)
    have := (h6 k (by omega)).2
    omega
theorem RT.fr {u w u' w' : RS} {d len : Nat} {st ct : Nat → Nat} (h : RT u w d len st ct) (fc : FC u' u) (fw : FW w' w) : RT u' w' d len st ct := by
  obtain ⟨h1, h2, h3, h4, h5, h6, h7, h8, h9, h10, h11⟩ := h
  refine ⟨h1, (fc.2 11 (by decide) (by decide) (by decide)).trans h2, (fc.2 10 (by decide) (by decide) (by decide)).trans h3, (fw.2 19 (by decide) (by decide) (by decide) (by decide)).trans h4, h5, h6, h7, h8, fun k hk => ?_, fun k p q => ?_, fun k hk => ?_⟩
  · rw [fc.1 5 (by decide), fw.1 8 (by decide)]; exact h9 k hk
  · rw [fc.1 6 (by decide)]; exact h10 k p q
  · rw [fc.1 4 (by decide), fw.1 7 (by decide)]; exact h11 k hk
theorem rowLen {u w : RS} {g : CG} {d len : Nat} {st ct : Nat → Nat} (h : RT u w d len st ct) : C5_rowLength g u (nI d) = some (nI (len - st d)) := by
  have hl := h.le d (Nat.le_refl _)
  obtain ⟨h1, h2, h3, h4, h5, h6, h7, h8, h9, h10, h11⟩ := h
  unfold C5_rowLength
  rw [h2, if_pos rfl, bS, rd_n (by omega) (by omega), bS, h3, (h9 d (Nat.le_refl _)).1, nI_sub h7]
theorem rowLen1 {u w : RS} {g : CG} {d len k : Nat} {st ct : Nat → Nat} (h : RT u w d len st ct) (hk : k < d) : C5_rowLength g u (nI k) = some (nI (st (k + 1) - st k)) := by
  obtain ⟨h1, h2, h3, h4, h5, h6, h7, h8, h9, h10, h11⟩ := h
  unfold C5_rowLength
  rw [h2, if_neg (nI_ne (by omega) (by omega) (by omega)), show nI k + 1 = nI (k + 1) from nI_add _ 1, rd_n (by omega) (by omega), bS, bS, rd_n (by omega) (by omega), bS, (h9 k (by omega)).1, (h9 (k + 1) (by omega)).1, nI_sub (h6 k hk).1]
theorem letter2 {b : Nat → Int32} {n i d len : Nat} {st ct : Nat → Nat} {g : CG} {u w : RS} (hb : BB b n) (h : OKs b n i u w) (h10 : w 0 10 = nI i) (ht : RT u w d len st ct) (hc : 97 ≤ ch b n i ∧ ch b n i ≤ 122) : ∃ u' w', C5_readLetter g u (b i) = some u' ∧ F8_takes w (nI d) (hv (ch b n i) - 97) = some w' ∧ XC g.nt u' u ∧ XW w' w ∧ ((OKs b n (i + 1) u' w' ∧ RT u' w' d (len + 1) st ct ∧ (∀ R, 10 ≤ R → u' R = u R) ∧ w' 1 = w 1) ∨ (ERs b n u' w' ∧ (∀ R, 10 ≤ R → u' R = u R))) := by
  have hn := hb.1
  have hin : i < n := ch_lt (b := b) (by omega)
  have hbi := hb.2 i hin
  have hld := ht.le d (Nat.le_refl _)
  obtain ⟨o1, o2, o3, o4, o5, o6, o7⟩ := h
  have hx : hv (ch b n i) = nI (ch b n i) := (hv_eq (ch_le hb) (by omega)).mpr rfl
  have hcb : b i = nI (ch b n i) := by rw [ch_i hin]; rw [ch_i hin] at hc; exact b_num hbi (by omega)
  have htt := ht
  obtain ⟨h1, h2, h3, h4, h5, h6, h7, h8, h9, h10', h11⟩ := htt
  unfold C5_readLetter F8_takes
  rw [h2, rowLen ht, bS, rd_n (by omega) (by omega), bS, h4, (h9 d (Nat.le_refl _)).2, nI_sub h7, hx, hcb]
  by_cases c : len - st d < 16
  · rw [if_pos (show nI (len - st d) < (16 : Int32) from nI_lt (b := 16) c (by omega)), if_neg (show ¬ nI (len - st d) = (16 : Int32) from nI_ne (b := 16) (by omega) (by omega) (by omega))]
    rw [h3, ws_n (by omega) (by omega), ws_n (by omega) (by omega), bS, bS, pt_n, pt_n, bS, bS, pt_n, pt_n, bS, bS]
    have e97 : nI (ch b n i) - (97 : Int32) = nI (ch b n i - 97) := by
      show nI (ch b n i) - nI 97 = _
      rw [nI_sub hc.1]
    have enar : vp_nar .byte (nI (ch b n i) - (97 : Int32)).toInt8.toInt32 = nI (ch b n i - 97) := by
      rw [nar8, e97]
      have : ∀ k : Nat, k < 26 → (nI k).toInt8.toInt32 = nI k := by decide +kernel
      exact this _ (by omega)
    rw [enar, e97]
    refine ⟨_, _, rfl, rfl, ?_, ?_, Or.inl ⟨⟨⟨?_, fun k hk => ?_⟩, ⟨?_, fun k hk => ?_⟩, by omega, ?_, ?_, ?_, ?_⟩, ⟨h1, ?_, ?_, ?_, h5, h6, by omega, by omega, fun k hk => ?_, fun k p q => ?_, fun k hk => ?_⟩, fun R hR => ?_, ?_⟩⟩
    · refine ⟨fun R p q _ _ _ _ => by rw [up_or p, up_or p, up_or q], fun j p _ _ q _ => by rw [up_ne (by omega), up_ne (by omega), up_ne (by omega)], by rw [up_ne (by omega), up_ne (by omega), up_ne (by omega)]⟩
    · exact ⟨fun R p _ q _ => by rw [up_or p, up_or p, up_or q], fun j p _ _ _ _ q => by rw [up_ne (by omega), up_ne (by omega), up_ne (by omega)]⟩
    · rw [up_ne (by omega), up_ne (by omega), up_ne (by omega)]; exact o1.1
    · rw [up_ne (by omega), up_ne (by omega), up_ne (by omega)]; exact o1.2 k hk
    · rw [up_ne (by omega), up_ne (by omega), up_ne (by omega)]; exact o2.1
    · rw [up_ne (by omega), up_ne (by omega), up_ne (by omega)]; exact o2.2 k hk
    · rw [up_eq, up_ne (by omega), up_ne (by omega), o4]; exact nI_add i 1
    · rw [up_eq, up_ne (by omega), up_ne (by omega), o5]; exact nI_add i 1
    · rw [up_ne (by omega), up_ne (by omega), up_ne (by omega)]; exact o6
    · rw [up_ne (by omega), up_ne (by omega), up_ne (by omega)]; exact o7
    · rw [up_ne (by omega), up_ne (by omega), up_ne (by omega)]; exact h2
    · rw [up_ne (by omega), up_eq, up_ne (by omega), h3]; exact nI_add len 1
    · rw [up_ne (by omega), up_eq, up_ne (by omega), h4]; exact nI_add len 1
    · rw [up_ne (by omega), up_ne (by omega), up_ne (by omega), up_ne (by omega), up_ne (by omega), up_ne (by omega)]; exact h9 k hk
    · rw [up_ne (by omega), up_ne (by omega), up_ne (by omega)]; exact h10' k p q
    · rw [up_or (r := 4) (k := 0) (by decide), up_or (r := 4) (k := 0) (by decide), up_or (r := 7) (k := 0) (by decide), up_or (r := 7) (k := 0) (by decide)]
      by_cases e : k = len
      · subst e; rw [up_eq, up_eq]; exact ⟨rfl, _, by omega, rfl⟩
      · rw [up_ne (by omega), up_ne (by omega)]; exact h11 k (by omega)
    · rw [up_or (by omega), up_or (by omega), up_or (by omega)]
    · rw [up_or (by omega), up_or (by omega), up_or (by omega)]
  · obtain ⟨u', w', e1, e2, e3, e4, e5⟩ := err2 (g := g) (u := u) (w := w) (e := 3) o1 o2 o3 o4 o6 o7 h10 (by omega) (by omega) (by omega)
    rw [if_neg (show ¬ nI (len - st d) < (16 : Int32) from nI_nlt (b := 16) (by omega) (by omega)), if_pos (show nI (len - st d) = (16 : Int32) by rw [show len - st d = 16 by omega]; rfl), o4, show (3 : Int32) = nI 3 from rfl, e1, e2, bS, bS]
    exact ⟨u', w', rfl, rfl, e4.x, e5.w1.x, Or.inr ⟨e3, fun R hR => e4.1 R (by omega)⟩⟩
end
