noncomputable def TIr (w : Nat → Int32) (nt : Nat) : Prop := (∀ s, s < 6 → (sS w s 14).toNatClampNeg ≤ nt) ∧ (∀ c, c < 30 → (sC w c 2).toNatClampNeg ≤ nt)
theorem QR.tir {v w iv : Nat → Int32} {bp dl df tx : Nat → Nat → Int32} {nt sm lm cm B U : Nat} (h : QR v w iv bp dl df tx nt sm lm cm B U) : TIr w nt := ⟨h.s.ti, h.c.ti⟩
theorem QR.extW {v w iv w2 iv2 : Nat → Int32} {bp dl df tx bp2 dl2 df2 : Nat → Nat → Int32} {nt sm lm cm B U : Nat} (h : QR v w iv bp dl df tx nt sm lm cm B U) (hA : ∀ i, i < 17 → i ≠ 10 → i ≠ 11 → w2 i = w i) (hS : ∀ s k, s < sm → k < 15 → w2 (17 + 16 * s + k) = w (17 + 16 * s + k)) (hL : ∀ l k, l < lm → k < 4 → w2 (113 + 4 * l + k) = w (113 + 4 * l + k)) (hE : ∀ l k, l < lm → k < 5 → w2 (1100 + 8 * l + k) = w (1100 + 8 * l + k)) (hC : ∀ c k, c < cm → k < 9 → w2 (137 + 25 * c + k) = w (137 + 25 * c + k)) (hF : ∀ i, i < 30 → w2 (887 + i) = w (887 + i)) (hi : ∀ a, a < 5 → iv2 a = iv a) (hb : ∀ l p, l < lm → p < 30 → bp2 l p = bp l p) (hd : ∀ l k, l < lm → k < 10 → dl2 l k = dl l k) (hf : ∀ l k, l < lm → k < 10 → df2 l k = df l k) (ht : TIr w2 nt) : QR v w2 iv2 bp2 dl2 df2 tx nt sm lm cm B U := by
  have hsm := h.a.sm6; have hlm := h.a.lm6; have hcm := h.a.cm30
  have A : ∀ i, i < 17 → i ≠ 10 → i ≠ 11 → sA w2 i = sA w i := fun i a b d => by rw [← sA_r (v := w2) a, ← sA_r (v := w) a]; exact hA i a b d
  have S : ∀ s k, s < sm → k < 15 → sS w2 s k = sS w s k := fun s k a b => by rw [← sS_r (v := w2) (by omega) (by omega), ← sS_r (v := w) (by omega) (by omega)]; exact hS s k a b
  have Lc : ∀ s k, s < lm → k < 4 → sL w2 s k = sL w s k := fun s k a b => by rw [← sL_r (v := w2) (by omega) (by omega), ← sL_r (v := w) (by omega) (by omega)]; exact hL s k a b
  have E : ∀ s k, s < lm → k < 5 → sE w2 s k = sE w s k := fun s k a b => by rw [← sE_r (v := w2) (by omega) (by omega), ← sE_r (v := w) (by omega) (by omega)]; exact hE s k a b
  have C : ∀ s k, s < cm → k < 9 → sC w2 s k = sC w s k := fun s k a b => by rw [← sC_r (v := w2) (by omega) (by omega), ← sC_r (v := w) (by omega) (by omega)]; exact hC s k a b
  have F : ∀ i, i < 30 → sF w2 i = sF w i := fun i a => by rw [← sF_r (v := w2) a, ← sF_r (v := w) a]; exact hF i a
  have cst : ∀ a, cnt cm (stC (sC w2) a) = cnt cm (stC (sC w) a) := fun a => cnt_congr fun i hi => by unfold stC; rw [C i 3 hi (by omega)]
  have clo : ∀ a, cnt cm (loC (sC w2) a) = cnt cm (loC (sC w) a) := fun a => cnt_congr fun i hi => by unfold loC; rw [C i 0 hi (by omega)]
  have cls : ∀ l a, cnt cm (lsC (sC w2) l a) = cnt cm (lsC (sC w) l a) := fun l a => cnt_congr fun i hi => by unfold lsC; rw [C i 0 hi (by omega), C i 3 hi (by omega)]
  have csu : ∀ l k, k < 9 → sumI cm (suC (sC w2) l k) = sumI cm (suC (sC w) l k) := fun l k hk => sumI_congr fun i hi => by unfold suC; rw [C i 0 hi (by omega), C i k hi hk]
  have fn : ∀ c, c < cm → (fin (sC w2) c ↔ fin (sC w) c) := fun c hc => by unfold fin; rw [C c 3 hc (by omega)]
  refine ⟨?_, ?_, ?_, ?_, ?_, ?_, ?_⟩
  · obtain ⟨a1, a2, a3, a4, a5, a6, a7, a8, a9, a10⟩ := h.a
    refine ⟨a1, a2, a3, a4, ?_, ?_, ?_, fun i q1 q2 q3 => ?_, ?_, ?_⟩
    · rw [A 7 (by omega) (by omega) (by omega)]; exact a5
    · rw [A 8 (by omega) (by omega) (by omega)]; exact a6
    · rw [A 9 (by omega) (by omega) (by omega)]; exact a7
    · rw [A i q1 q2 q3]; exact a8 i q1 q2 q3
    · rw [A 0 (by omega) (by omega) (by omega)]; exact a9
    · rw [A 6 (by omega) (by omega) (by omega)]; exact a10
  · obtain ⟨b1, b2, b3, b4, b5, b6, b7, b8, b9, b10⟩ := h.s
    refine ⟨fun s k hs hk h8 => ?_, fun s hs => ?_, fun s hs => ?_, fun s hs => ?_, fun s hs => ?_, fun s hs => ?_, fun s hs => ?_, fun s hs => ?_, fun s hs => ?_, ht.1⟩
    · rw [S s k hs (by omega)]; exact b1 s k hs hk h8
    · rw [S s 0 hs (by omega), S s 8 hs (by omega)]; exact b2 s hs
    · rw [S s 0 hs (by omega)]; exact b3 s hs
    · rw [S s 1 hs (by omega)]; exact b4 s hs
    · rw [S s 2 hs (by omega)]
      rcases b5 s hs with e | ⟨c, c1, c2, c3, c4⟩
      · exact Or.inl e
      · exact Or.inr ⟨c, c1, c2, by rw [C c 3 c1 (by omega)]; exact c3, by rw [C c 4 c1 (by omega)]; exact c4⟩
    · rw [S s 3 hs (by omega)]; exact b6 s hs
    · rw [S s 4 hs (by omega)]; exact b7 s hs
    · rw [S s 7 hs (by omega)]; exact b8 s hs
    · rw [S s 14 hs (by omega)]; exact b9 s hs
  · obtain ⟨b1, b2, b3, b4, b5, b6⟩ := h.c
    refine ⟨fun s k hs hk h8 => ?_, fun s hs => ?_, fun s hs => ?_, fun s hs => ?_, fun s hs => ?_, ht.2⟩
    · rw [C s k hs (by omega)]; exact b1 s k hs hk h8
    · rw [C s 0 hs (by omega)]; exact b2 s hs
    · rw [C s 3 hs (by omega)]; exact b3 s hs
    · rw [C s 8 hs (by omega), C s 3 hs (by omega)]; exact b4 s hs
    · rw [C s 2 hs (by omega)]; exact b5 s hs
  · obtain ⟨b1, b2, b3⟩ := h.n
    refine ⟨fun a ha => ?_, ?_, fun i q => ?_⟩
    · rw [hi a ha, b1 a ha, cst]
    · rw [hi 3 (by omega)]; exact b2
    · rw [cst] at q
      have := cnt_le (n := cm) (p := stC (sC w) 3)
      rw [F i (by omega)]; exact b3 i q
  · obtain ⟨b1, b2, b3, b4, b5, b6, b7, b8, b9, b10⟩ := h.l
    refine ⟨fun l k q1 q2 => ?_, fun l q1 => ?_, fun l q1 => ?_, fun l q1 => ?_, fun l q1 => ?_, fun l q1 => ?_, fun l q1 => ?_, fun l q1 p q2 => ?_, fun l c q1 q2 q3 => ?_, fun l q1 => ?_⟩
    · rw [Lc l k q1 q2]; exact b1 l k q1 q2
    · rw [Lc l 0 q1 (by omega)]; exact b2 l q1
    · rw [E l 1 q1 (by omega), cls]; exact b3 l q1
    · rw [E l 2 q1 (by omega), cls]; exact b4 l q1
    · rw [E l 3 q1 (by omega), csu l 5 (by omega)]; exact b5 l q1
    · rw [E l 4 q1 (by omega), csu l 6 (by omega)]; exact b6 l q1
    · rw [Lc l 1 q1 (by omega), clo]; exact b7 l q1
    · rw [clo] at q2
      have := cnt_le (n := cm) (p := loC (sC w) l)
      obtain ⟨c, c1, c2, c3, c4⟩ := b8 l q1 p q2
      exact ⟨c, c1, by rw [hb l p q1 (by omega)]; exact c2, by rw [C c 0 c1 (by omega)]; exact c3, by rw [C c 1 c1 (by omega)]; exact c4⟩
    · rw [C c 0 q2 (by omega)] at q3
      have := cnt_le (n := cm) (p := loC (sC w) l)
      obtain ⟨p, p1, p2, p3⟩ := b9 l c q1 q2 q3
      exact ⟨p, by rw [clo]; exact p1, by rw [C c 1 q2 (by omega)]; exact p2, by rw [hb l p q1 (by omega)]; exact p3⟩
    · have := cnt_le (n := cm) (p := loC (sC w) l)
      obtain ⟨q, p1, p2, p3, p4⟩ := b10 l q1
      refine ⟨q, by rw [clo]; exact p1, by rw [E l 0 q1 (by omega)]; exact p2, fun p c r1 r2 r3 => ?_, fun c r1 r2 r3 => ?_⟩
      · rw [hb l p q1 (by omega)] at r3
        exact (fn c r2).mpr (p3 p c r1 r2 r3)
      · rw [clo] at r1
        rw [hb l q q1 (by omega)] at r3
        exact fun f => p4 c r1 r2 r3 ((fn c r2).mp f)
  · obtain ⟨b1, b2⟩ := h.d
    refine ⟨fun d t q1 q2 q3 q4 => ?_, fun d t l i q1 q2 q3 q4 q5 q6 => ?_⟩
    · rw [A 0 (by omega) (by omega) (by omega)] at q3
      rw [A 6 (by omega) (by omega) (by omega)] at q4
      exact b1 d t q1 q2 q3 q4
    · rw [A 0 (by omega) (by omega) (by omega)] at q3
      rw [A 6 (by omega) (by omega) (by omega)] at q4
      rw [hd l _ q5 (Nat.mod_lt _ (by omega)), hf l _ q5 (Nat.mod_lt _ (by omega))]
      exact b2 d t l i q1 q2 q3 q4 q5 q6
  · intro q hq; rw [C q 3 hq (by omega), C q 4 hq (by omega)]; exact h.wh q hq
theorem nz_of {x : Int32} (h : x = nI 0 ∨ x = nI 1) : nz x = some x := by
  rcases h with rfl | rfl
  · exact nz_0
  · exact nz_1
noncomputable abbrev QY (c : RS) (g : CG) (L : Nat) (v : Nat → Int32) (sm lm cm B U : Nat) : Prop := QX c g L v (c (10 + L)) (c (400 + L)) sm lm cm B U
theorem copyFrom_ok {c : RS} {g : CG} {L L2 sm lm cm B U : Nat} {v : Nat → Int32} (hL : L < 12) (hL2 : L2 < 12) (hne : ¬ L = L2) (h : QY c g L2 v sm lm cm B U) (ht : TIr (c (10 + L)) g.nt) : ∃ c2, C3_copyFrom g c L L2 = some c2 ∧ (∀ R, ¬ OWN L R → c2 R = c R) ∧ QY c2 g L v sm lm cm B U := by
  have hsm := h.a.sm6; have hlm := h.a.lm6; have hcm := h.a.cm30
  obtain ⟨c2, k1, k2, k3, k4, k5, k6, k7, k8⟩ := cfrom (g := g) (u := c) hL hL2 hne hsm hlm hcm (by rw [sA_r (v := c (10 + L2)) (by omega)]; exact h.a.w7) (by rw [sA_r (v := c (10 + L2)) (by omega)]; exact h.a.w8) (by rw [sA_r (v := c (10 + L2)) (by omega)]; exact h.a.w9) (fun s hs => nz_of (by rw [sS_r (v := c (10 + L2)) (by omega) (by omega)]; exact h.s.stop s hs)) (fun s hs => nz_of (by
    rw [sC_r (v := c (10 + L2)) (by omega) (by omega)]
    rcases h.c.rush s hs with q | q
    · exact Or.inl q
    · exact Or.inr q.1))
  refine ⟨c2, k1, k2, ?_⟩
  have hx := h.extW (w2 := c2 (10 + L)) (iv2 := c2 (400 + L)) (bp2 := fun l => c2 (100 + 6 * L + l)) (dl2 := fun l => c2 (200 + 6 * L + l)) (df2 := fun l => c2 (300 + 6 * L + l))
    (fun i q1 q2 q3 => k3 i (by unfold CPp; omega)) (fun s k q1 q2 => k3 _ (by unfold CPp; omega)) (fun l k q1 q2 => k3 _ (by unfold CPp; omega)) (fun l k q1 q2 => k3 _ (by unfold CPp; omega)) (fun q k q1 q2 => k3 _ (by unfold CPp; omega)) (fun i q1 => k3 _ (by omega)) k5 k6 k7 k8 ⟨fun s hs => ?_, fun q hq => ?_⟩
  · exact hx.congr (Nat.le_refl _) (fun l hl => rfl) (fun l hl => rfl) (fun l hl => rfl) (fun t q1 q2 => k2 _ (by unfold OWN; omega))
  · rw [← sS_r (v := c2 (10 + L)) hs (by omega)]
    by_cases e : s < sm
    · rw [k3 _ (by unfold CPp; omega), sS_r (v := c (10 + L2)) hs (by omega)]; exact h.s.ti s hs
    · rw [k4 _ (by unfold CPp; omega), sS_r (v := c (10 + L)) hs (by omega)]; exact ht.1 s hs
  · rw [← sC_r (v := c2 (10 + L)) hq (by omega)]
    by_cases e : q < cm
    · rw [k3 _ (by unfold CPp; omega), sC_r (v := c (10 + L2)) hq (by omega)]; exact h.c.ti q hq
    · rw [k4 _ (by unfold CPp; omega), sC_r (v := c (10 + L)) hq (by omega)]; exact ht.2 q hq
theorem QX.frame {c c2 : RS} {g g2 : CG} {L sm lm cm B U : Nat} {v w iv : Nat → Int32} (hL : L < 12) (h : QX c g L v w iv sm lm cm B U) (hn : g.nt ≤ g2.nt) (hb : ∀ R, 100 ≤ R → R < 400 → OWN L R → c2 R = c R) (ht : ∀ t, 1 ≤ t → t ≤ g.nt → c2 (500 + t) = c (500 + t)) : QX c2 g2 L v w iv sm lm cm B U :=
  h.congr hn (fun l hl => hb _ (by omega) (by have := h.a.lm6; omega) (by have := h.a.lm6; unfold OWN; omega)) (fun l hl => hb _ (by omega) (by have := h.a.lm6; omega) (by have := h.a.lm6; unfold OWN; omega)) (fun l hl => hb _ (by omega) (by have := h.a.lm6; omega) (by have := h.a.lm6; unfold OWN; omega)) ht
theorem QY.frame {c c2 : RS} {g g2 : CG} {L sm lm cm B U : Nat} {v : Nat → Int32} (hL : L < 12) (h : QY c g L v sm lm cm B U) (hn : g.nt ≤ g2.nt) (hb : ∀ R, OWN L R → c2 R = c R) (ht : ∀ t, 1 ≤ t → t ≤ g.nt → c2 (500 + t) = c (500 + t)) : QY c2 g2 L v sm lm cm B U := by
  have := QX.frame (c2 := c2) (g2 := g2) hL h hn (fun R _ _ => hb R) ht
  unfold QY
  rw [hb (10 + L) (Or.inl rfl), hb (400 + L) (Or.inr (Or.inl rfl))]
  exact this
