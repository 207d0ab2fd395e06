noncomputable def PE (b : Nat → Int32) (n d i : Nat) (st ct : Nat → Nat) (t5 : Int32 × RS) (g : CG) (u w : RS) (R : Option (Int32 × RS)) (y' : Nat) (w' : RS) : Prop := ∃ i' u' len' fc' yc', R = C5_readText_L17 t5 g fc' (nI yc') u' ∧ OKs b n i' u' w' ∧ w' 0 10 = nI i' ∧ RT u' w' d len' st ct ∧ ¬ (97 ≤ ch b n i' ∧ ch b n i' ≤ 122) ∧ ¬ (48 ≤ ch b n i' ∧ ch b n i' ≤ 57) ∧ ch b n i' ≠ 32 ∧ (y' = 0 ↔ len' = st d) ∧ yc' ≤ i' ∧ n + 2 ≤ fc' + i' ∧ i ≤ i' ∧ (∀ R, 10 ≤ R → u' R = u R) ∧ XC g.nt u' u ∧ XW w' w ∧ w' 1 = w 1
noncomputable def EP (b : Nat → Int32) (n : Nat) (u w : RS) : Prop := ERs b n u w ∨ (TC b n u ∧ TW b n w ∧ ∃ i d, i ≤ n ∧ 1 ≤ d ∧ d ≤ 3 ∧ u 0 6 = nI i ∧ u 0 7 = nI 0 ∧ u 0 11 = nI d ∧ w 0 11 = nI 1 ∧ w 0 12 = nI i)
theorem EP.ne {b : Nat → Int32} {n : Nat} {u w : RS} (h : EP b n u w) : ¬ w 0 11 = (0 : Int32) := by
  rcases h with h | ⟨-, -, i, d, -, -, -, -, -, -, h, -⟩
  · exact h.ne.1
  · rw [h]; exact nz0
noncomputable def PF (b : Nat → Int32) (n : Nat) (g : CG) (u w : RS) (R : Option (Int32 × RS)) (w' : RS) : Prop := ∃ yy u', R = some (yy, u') ∧ EP b n u' w' ∧ (∀ R, 10 ≤ R → u' R = u R) ∧ XC g.nt u' u ∧ XW w' w ∧ w' 1 = w 1
noncomputable def GC (b : Nat → Int32) (n d : Nat) (G : RS → Option RS) (t5 : Int32 × RS) (g : CG) : Prop := ∀ (i yc fc len : Nat) (st ct : Nat → Nat) (u w : RS), OKs b n i u w → w 0 10 = nI i → RT u w d len st ct → (48 ≤ ch b n i ∧ ch b n i ≤ 57) → yc ≤ i → n + 2 ≤ fc + i → ∃ w', G w = some w' ∧ ((∃ i2 u2 fc2 yc2 len2, C5_readText_L17 t5 g fc (nI yc) u = C5_readText_L17 t5 g fc2 (nI yc2) u2 ∧ OKn b n i2 u2 w' ∧ i < i2 ∧ RT u2 w' d len2 st ct ∧ st d < len2 ∧ yc2 ≤ SK b n i2 ∧ n + 2 ≤ fc2 + SK b n i2 ∧ (∀ R, 10 ≤ R → u2 R = u R) ∧ XC g.nt u2 u ∧ XW w' w ∧ w' 1 = w 1) ∨ PF b n g u w (C5_readText_L17 t5 g fc (nI yc) u) w')
theorem plW {w w' : RS} {a1 a2 : Int32} (h : F8_takes w a1 a2 = some w') : w' 1 = w 1 := by
  unfold F8_takes at h
  obtain ⟨x, -, h⟩ := ob h
  split at h
  · obtain ⟨u, h1, h⟩ := ob h
    have e := Option.some.inj h
    rw [← e]
    unfold F8_fails at h1
    obtain ⟨z, h2, h3⟩ := ob h1
    rw [← Option.some.inj h3]
    split at h2
    · rw [pt_n, bS, pt_n, bS] at h2
      rw [← Option.some.inj h2, up_or (by decide), up_or (by decide)]
    · rw [← Option.some.inj h2]
  · obtain ⟨u, h1, h⟩ := ob h
    rw [pt_n, bS, pt_n, bS] at h
    rw [← Option.some.inj h, up_or (by decide), up_or (by decide)]
    unfold ws at h1
    split at h1
    · rw [← Option.some.inj h1, up_or (by decide)]
    · cases h1
theorem OKn.s {b : Nat → Int32} {n i : Nat} {u w : RS} (h : OKn b n i u w) : TC b n u ∧ u 0 6 = nI (SK b n i) ∧ u 0 7 = nI 0 := ⟨h.1, h.2.2.2.1, h.2.2.2.2.2.1⟩
theorem piecesC {b : Nat → Int32} {n d : Nat} {G : RS → Option RS} {t5 : Int32 × RS} {g : CG} (hb : BB b n) (hG : GC b n d G t5 g) : ∀ (k i y yc f fc len : Nat) (st ct : Nat → Nat) (u w : RS), n - i < k → k < f → y + k ≤ 10000 → OKn b n i u w → RT u w d len st ct → (y = 0 ↔ len = st d) → yc ≤ SK b n i → n + 2 ≤ fc + SK b n i → ∃ y' w', pl G (nI d) f (nI y) w = some (nI y', w') ∧ y' ≤ 10000 ∧ (PE b n d i st ct t5 g u w (C5_readText_L17 t5 g fc (nI yc) u) y' w' ∨ PF b n g u w (C5_readText_L17 t5 g fc (nI yc) u) w')
  | 0, i, y, yc, f, fc, len, st, ct, u, w, h1, _, _, _, _, _, _, _ => by omega
  | k + 1, i, y, yc, f, fc, len, st, ct, u, w, h1, h2, h3, ho, ht, hy, hyc, hfc => by
    obtain ⟨f, rfl⟩ : ∃ m, f = m + 1 := ⟨f - 1, by omega⟩
    have hn := hb.1
    have hi := ho.2.2.1
    have hs := SK_le (b := b) hi
    have hnb := SK_nb (b := b) hi
    obtain ⟨e1, e2⟩ := ho.next hb
    have fw : FW (up (up w 0 9 (nI (SK b n i))) 0 10 (nI (SK b n i))) w := (FW.up (by omega)).trans (FW.up (by omega))
    have ht1 := ht.fr FC.rfl fw
    have hch := ch_le (i := SK b n i) hb
    rw [pl, if_pos (show w 0 11 = (0 : Int32) from ho.2.2.2.2.2.2), e1, bS]
    dsimp only
    rw [inB_hv (p := 97) (q := 122) hch rfl rfl (by omega) (by omega), inB_hv (p := 48) (q := 57) hch rfl rfl (by omega) (by omega)]
    have k10 : up (up w 0 9 (nI (SK b n i))) 0 10 (nI (SK b n i)) 0 10 = nI (SK b n i) := up_eq
    generalize hW : up (up w 0 9 (nI (SK b n i))) 0 10 (nI (SK b n i)) = W at *
    by_cases c1 : 97 ≤ ch b n (SK b n i) ∧ ch b n (SK b n i) ≤ 122
    · have hsn : SK b n i < n := ch_lt (b := b) (by omega)
      obtain ⟨fc, rfl⟩ : ∃ m, fc = m + 2 := ⟨fc - 2, by omega⟩
      rw [if_pos c1, if_neg (show ¬ nI 1 = (0 : Int32) from nz0)]
      obtain ⟨u', w', a1, a2, a3, a4, a5⟩ := letter2 (g := g) hb e2 k10 ht1 c1
      have a2' : F8_takes W (nI d) (hv (ch b n (SK b n i)) - 97) = some w' := a2
      rw [a2', bS, stepX hb ho.s.1 ho.s.2.1 ho.s.2.2 hsn (by omega) (by omega), if_pos c1, a1, bS, show nI y + 1 = nI (y + 1) from nI_add _ 1]
      rcases a5 with ⟨b1, b2, b3, b4⟩ | ⟨b1, b2⟩
      · obtain ⟨g1, g2⟩ := nxO (g := g) (t5 := t5) (y := yc) (f := fc + 1) hb b1
        have hs2 := SK_le (b := b) (n := n) (i := SK b n i + 1) (by omega)
        have w1 : w' 1 = w 1 := b4.trans (fw.1 1 (by decide))
        obtain ⟨y', w2, q1, q2, q3⟩ := piecesC hb hG k (SK b n i + 1) (y + 1) (yc + 1) f (fc + 1) (len + 1) st ct (up u' 0 6 (nI (SK b n (SK b n i + 1)))) w' (by omega) (by omega) (by omega) g2 (b2.fr (FC.up (by omega)) FW.rfl) (by have := ht.2.2.2.2.2.2.1; omega) (by omega) (by omega)
        refine ⟨y', w2, q1, q2, ?_⟩
        rw [g1]
        have fX : XC g.nt (up u' 0 6 (nI (SK b n (SK b n i + 1)))) u := (FC.up (by omega)).x.trans a3 (Nat.le_refl _)
        have fR : ∀ R, 10 ≤ R → up u' 0 6 (nI (SK b n (SK b n i + 1))) R = u R := fun R hR => (up_or (by omega)).trans (b3 R hR)
        have fY : XW w' w := a4.trans fw.w1.x
        rcases q3 with ⟨i', u2, len', fc', yc', p1, p2, p3, p4, p5, p6, p7, p8, p9, p10, p11, p12, p13, p14, p15⟩ | ⟨yy, u2, p1, p2, p3, p4, p5, p6⟩
        · exact Or.inl ⟨i', u2, len', fc', yc', p1, p2, p3, p4, p5, p6, p7, p8, p9, p10, by omega, fun R hR => (p12 R hR).trans (fR R hR), p13.trans fX (Nat.le_refl _), p14.trans fY, p15.trans w1⟩
        · exact Or.inr ⟨yy, u2, p1, p2, fun R hR => (p3 R hR).trans (fR R hR), p4.trans fX (Nat.le_refl _), p5.trans fY, p6.trans w1⟩
      · obtain ⟨u2, g1, g2, g3⟩ := nxE (g := g) (t5 := t5) (y := yc) (f := fc) hb b1
        obtain ⟨f, rfl⟩ : ∃ m, f = m + 1 := ⟨f - 1, by omega⟩
        have w1 : w' 1 = w 1 := by
          have := a4
          exact (plW a2').trans (fw.1 1 (by decide))
        refine ⟨y + 1, w', by rw [pl, if_neg b1.ne.1], by omega, Or.inr ⟨_, u2, g1, Or.inl g3, fun R hR => (g2.1 R (by omega)).trans (b2 R hR), g2.x.trans a3 (Nat.le_refl _), a4.trans fw.w1.x, w1⟩⟩
    · rw [if_neg c1, if_pos (show nI 0 = (0 : Int32) from rfl)]
      by_cases c2 : 48 ≤ ch b n (SK b n i) ∧ ch b n (SK b n i) ≤ 57
      · rw [if_pos c2, if_neg (show ¬ nI 1 = (0 : Int32) from nz0)]
        obtain ⟨w', a1, a2⟩ := hG (SK b n i) yc fc len st ct u W e2 k10 ht1 c2 hyc hfc
        rw [a1, bS, show nI y + 1 = nI (y + 1) from nI_add _ 1]
        rcases a2 with ⟨i2, u2, fc2, yc2, len2, q1, q2, q3, q4, q5, q6, q7, q8, q9, q10, q11⟩ | ⟨yy, u2, q1, q2, q3, q4, q5, q6⟩
        · have hi2 : i2 ≤ n := q2.2.2.1
          obtain ⟨y', w2, r1, r2, r3⟩ := piecesC hb hG k i2 (y + 1) yc2 f fc2 len2 st ct u2 w' (by omega) (by omega) (by omega) q2 q4 (by omega) q6 q7
          refine ⟨y', w2, r1, r2, ?_⟩
          rw [q1]
          have fY : XW w' w := q10.trans fw.w1.x
          have w1 : w' 1 = w 1 := q11.trans (fw.1 1 (by decide))
          have hs2 := SK_le (b := b) (n := n) (i := i2) q2.2.2.1
          rcases r3 with ⟨i', u3, len', fc', yc', p1, p2, p3, p4, p5, p6, p7, p8, p9, p10, p11, p12, p13, p14, p15⟩ | ⟨yy, u3, p1, p2, p3, p4, p5, p6⟩
          · exact Or.inl ⟨i', u3, len', fc', yc', p1, p2, p3, p4, p5, p6, p7, p8, p9, p10, by omega, fun R hR => (p12 R hR).trans (q8 R hR), p13.trans q9 (Nat.le_refl _), p14.trans fY, p15.trans w1⟩
          · exact Or.inr ⟨yy, u3, p1, p2, fun R hR => (p3 R hR).trans (q8 R hR), p4.trans q9 (Nat.le_refl _), p5.trans fY, p6.trans w1⟩
        · obtain ⟨f, rfl⟩ : ∃ m, f = m + 1 := ⟨f - 1, by omega⟩
          exact ⟨y + 1, w', by rw [pl, if_neg q2.ne], by omega, Or.inr ⟨yy, u2, q1, q2, q3, q4, q5.trans fw.w1.x, q6.trans (fw.1 1 (by decide))⟩⟩
      · rw [if_neg c2, if_pos (show nI 0 = (0 : Int32) from rfl)]
        exact ⟨y, W, rfl, by omega, Or.inl ⟨SK b n i, u, len, fc, yc, rfl, e2, k10, ht1, c1, c2, hnb, hy, hyc, hfc, hs.1, fun _ _ => rfl, FC.rfl.x, fw.w1.x, fw.1 1 (by decide)⟩⟩
