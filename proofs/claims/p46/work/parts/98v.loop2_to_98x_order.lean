section
noncomputable def EE (u w : RS) : Prop := ∃ e p, 1 ≤ e ∧ e ≤ 4 ∧ p ≤ 600 ∧ u 0 7 = nI e ∧ w 0 11 = nI e ∧ u 0 8 = nI p ∧ w 0 12 = nI p
theorem ERs.ee {b : Nat → Int32} {n : Nat} {u w : RS} (h : ERs b n u w) : EE u w := by
  obtain ⟨-, -, -, e, p, h1, h2, h3, h4, h5, h6, h7⟩ := h
  exact ⟨e, p, h1, h2, h3, h4, h5, h6, h7⟩
noncomputable def FWs (w' w : RS) : Prop := (∀ R, R ≠ 0 → w' R = w R) ∧ ∀ i, i ≠ 9 → i ≠ 10 → i ≠ 11 → i ≠ 12 → i ≠ 13 → w' 0 i = w 0 i
theorem FW.s {w' w : RS} (h : FW w' w) : FWs w' w := ⟨h.1, fun i a b c d _ => h.2 i a b c d⟩
theorem semiO {b : Nat → Int32} {n i k : Nat} {g : CG} {u w : RS} (hb : BB b n) (h : OKs b n i u w) (h13 : w 0 13 = nI k) : (∃ i' u' w', i < i' ∧ C5_readSemicolon g u = some ((1 : Int32), u') ∧ F8_isMore w = some ((1 : Int32), w') ∧ OKs b n i' u' w' ∧ FC u' u ∧ FWs w' w ∧ w' 0 13 = nI (k + 1)) ∨ (∃ u' w', C5_readSemicolon g u = some ((0 : Int32), u') ∧ F8_isMore w = some ((0 : Int32), w') ∧ FC u' u ∧ FW w' w ∧ ((u' 0 7 = nI 0 ∧ w' 0 11 = nI 0) ∨ EE u' w')) := by
  have hn := hb.1
  obtain ⟨o1, o2, o3, o4, o5, o6, o7⟩ := h
  have hs := SK_le (b := b) o3
  have k1 := skipC (g := g) hb o1 o4 o3
  have k2 := nextW hb o2 o5 o3
  have hch := ch_le (i := SK b n i) hb
  generalize SK b n i = s at *
  have hT : TC b n (up u 0 6 (nI s)) := o1.fr (FC.up (by omega))
  have hW : TW b n (up (up w 0 9 (nI s)) 0 10 (nI s)) := (o2.fr (FW.up (by omega))).fr (FW.up (by omega))
  have w9 : up (up w 0 9 (nI s)) 0 10 (nI s) 0 9 = nI s := by rw [up_ne (by omega), up_eq]
  have u6 : up u 0 6 (nI s) 0 6 = nI s := up_eq
  have u7 : up u 0 6 (nI s) 0 7 = nI 0 := by rw [up_ne (by omega)]; exact o6
  have w10 : up (up w 0 9 (nI s)) 0 10 (nI s) 0 10 = nI s := up_eq
  have w11 : up (up w 0 9 (nI s)) 0 10 (nI s) 0 11 = nI 0 := by rw [up_ne (by omega), up_ne (by omega)]; exact o7
  have w13 : up (up w 0 9 (nI s)) 0 10 (nI s) 0 13 = nI k := by rw [up_ne (by omega), up_ne (by omega)]; exact h13
  have fu : FC (up u 0 6 (nI s)) u := FC.up (by omega)
  have fw : FW (up (up w 0 9 (nI s)) 0 10 (nI s)) w := (FW.up (by omega)).trans (FW.up (by omega))
  have k3 := here_ok hb hW w9 hs.2
  unfold C5_readSemicolon F8_isMore
  rw [k1, bS, if_pos (show w 0 11 = (0 : Int32) from o7), k2, bS]
  dsimp only
  generalize up u 0 6 (nI s) = U at *
  generalize up (up w 0 9 (nI s)) 0 10 (nI s) = W at *
  rw [fineC0 u7, bS, if_neg (show ¬ nI 1 = (0 : Int32) from nz0)]
  by_cases c : s < n
  · have hcd := (cd_spec (hb.2 s c)).2.1
    have hh : hv (ch b n s) = nI (ch b n s) := (hv_eq hch (by rw [ch_i c]; omega)).mpr rfl
    have h59 := b_eq (hb.2 s c) (c := 59) (by omega)
    rw [if_pos (show U 0 6 < U 0 5 by rw [u6, hT.1]; exact nI_lt c (by omega)), u6, rd_n (by omega) (by omega), bS, hT.2 s c, if_pos (show (0 : Int32) ≤ hv (ch b n s) by rw [hh]; exact nI_le (a := 0) (by omega) (by rw [ch_i c]; omega)), k3, bS]
    by_cases d : ch b n s = 59
    · rw [ch_i c] at d
      rw [if_pos (show b s = (59 : Int32) from h59.mpr d), if_pos (show hv (ch b n s) = (59 : Int32) by rw [hh, ch_i c, d]; rfl), pt_n, bS, pt_n, bS, pt_n, bS, w9, up_ne (show ¬ (0 = 0 ∧ 13 = 9) by omega), w13, show nI s + 1 = nI (s + 1) from nI_add s 1, show nI k + 1 = nI (k + 1) from nI_add k 1]
      refine Or.inl ⟨s + 1, _, _, by omega, rfl, rfl, ⟨hT.fr (FC.up (by omega)), ⟨?_, fun j hj => ?_⟩, by omega, up_eq, ?_, ?_, ?_⟩, (FC.up (by omega)).trans fu, ⟨fun R p => ?_, fun j p q r t y => ?_⟩, up_eq⟩
      · rw [up_ne (by omega), up_ne (by omega)]; exact hW.1
      · rw [up_ne (by omega), up_ne (by omega)]; exact hW.2 j hj
      · rw [up_ne (by omega), up_eq]
      · rw [up_ne (by omega)]; exact u7
      · rw [up_ne (by omega), up_ne (by omega)]; exact w11
      · rw [up_or p, up_or p]; exact fw.1 R p
      · rw [up_ne (by omega), up_ne (by omega)]; exact fw.2 j p q r t
    · obtain ⟨u', w', e1, e2, e3, e4, e5⟩ := err2 (g := g) (e := 1) hT hW hs.2 u6 u7 w11 w10 (by omega) (by omega) (by omega)
      have e1' : C5_error g U (1 : Int32) (nI s) = some u' := e1
      have e2' : F8_fails W (1 : Int32) = some w' := e2
      have d' := d
      rw [ch_i c] at d'
      rw [if_neg (show ¬ b s = (59 : Int32) from fun q => d' (h59.mp q)), if_neg (show ¬ hv (ch b n s) = (59 : Int32) from fun q => d ((hv_eq (c := 59) hch (by omega)).mp q)), e1', e2', bS, bS]
      exact Or.inr ⟨u', w', rfl, rfl, e4.trans fu, e5.trans fw, Or.inr e3.ee⟩
  · rw [if_neg (show ¬ U 0 6 < U 0 5 by rw [u6, hT.1]; exact nI_nlt (by omega) (by omega)), if_neg (show ¬ (0 : Int32) ≤ hv (ch b n s) by rw [ch_n (show n ≤ s by omega)]; decide)]
    exact Or.inr ⟨U, W, rfl, rfl, fu, fw, Or.inl ⟨u7, w11⟩⟩
theorem semiE {b : Nat → Int32} {n : Nat} {g : CG} {u w : RS} (hb : BB b n) (h : ERs b n u w) : ∃ u', C5_readSemicolon g u = some ((0 : Int32), u') ∧ F8_isMore w = some ((0 : Int32), w) ∧ FC u' u ∧ EE u' w := by
  obtain ⟨s, u', e1, e2, e3⟩ := h.skip (g := g) hb
  unfold C5_readSemicolon F8_isMore
  rw [e1, bS, e3.fine, bS, if_pos (show nI 0 = (0 : Int32) from rfl), if_neg h.ne.1]
  exact ⟨u', rfl, rfl, e2, e3.ee⟩
theorem semiP {b : Nat → Int32} {n : Nat} {g : CG} {u w : RS} (hb : BB b n) (h : PN b n u w) : ∃ u' w', C5_readSemicolon g u = some ((0 : Int32), u') ∧ F8_isMore w = some ((0 : Int32), w') ∧ FC u' u ∧ FW w' w ∧ EE u' w' := by
  obtain ⟨o1, o2, i, o3, c1, c2, c3, o4, o5, o6, o7, o8⟩ := h
  have hn := hb.1
  have k1 := skipC (g := g) hb o1 o4 o3
  have k2 := nextW hb o2 o7 o3
  have hch := ch_le (i := i) hb
  rw [SK_id c3, up_id o4] at k1
  rw [SK_id c3, up_id o7] at k2
  have hW : TW b n (up w 0 10 (nI i)) := o2.fr (FW.up (by omega))
  have k3 := here_ok (i := i) hb hW (by rw [up_ne (by omega)]; exact o7) o3
  have w11 : up w 0 10 (nI i) 0 11 = nI 0 := by rw [up_ne (by omega)]; exact o8
  have hh : hv (ch b n i) = nI (ch b n i) := (hv_eq hch (by omega)).mpr rfl
  have ef := failW0 (e := (1 : Int32)) w11
  unfold C5_readSemicolon F8_isMore
  rw [k1, bS, fineC1 (k := 1) o5 (by omega) (by omega), bS, if_pos (show nI 0 = (0 : Int32) from rfl), if_pos (show w 0 11 = (0 : Int32) from o8), k2, bS]
  dsimp only
  rw [if_pos (show (0 : Int32) ≤ hv (ch b n i) by rw [hh]; exact nI_le (a := 0) (by omega) (by omega)), k3, bS, if_neg (show ¬ hv (ch b n i) = (59 : Int32) from fun q => c1 ((hv_eq (c := 59) hch (by omega)).mp q)), ef, bS, up_eq]
  refine ⟨u, _, rfl, rfl, FC.rfl, (FW.up (by omega)).trans ((FW.up (by omega)).trans (FW.up (by omega))), 1, i, by omega, by omega, by omega, o5, ?_, o6, up_eq⟩
  rw [up_ne (by omega), up_eq]; rfl
noncomputable def XC2 (nt : Nat) (u' u : RS) : Prop := (∀ R, R ≠ 0 → R ≠ 4 → R ≠ 5 → R ≠ 6 → ¬ OWN 1 R → R ≤ 500 + nt → u' R = u R) ∧ (∀ i, i ≠ 6 → i ≠ 7 → i ≠ 8 → i ≠ 9 → i ≠ 10 → i ≠ 11 → u' 0 i = u 0 i) ∧ u' 5 0 = u 5 0
noncomputable def XW2 (w' w : RS) : Prop := (∀ R, R ≠ 0 → R ≠ 1 → R ≠ 7 → R ≠ 8 → w' R = w R) ∧ ∀ i, i ≠ 9 → i ≠ 10 → i ≠ 11 → i ≠ 12 → i ≠ 13 → i ≠ 14 → i ≠ 19 → w' 0 i = w 0 i
theorem XC2.trans {a b c : RS} {n m : Nat} (h : XC2 n a b) (h2 : XC2 m b c) (hm : m ≤ n) : XC2 m a c := ⟨fun R p q r s t z => (h.1 R p q r s t (by omega)).trans (h2.1 R p q r s t z), fun i p q r s t z => (h.2.1 i p q r s t z).trans (h2.2.1 i p q r s t z), h.2.2.trans h2.2.2⟩
theorem XW2.trans {a b c : RS} (h : XW2 a b) (h2 : XW2 b c) : XW2 a c := ⟨fun R p q r s => (h.1 R p q r s).trans (h2.1 R p q r s), fun i p q r s t z y => (h.2 i p q r s t z y).trans (h2.2 i p q r s t z y)⟩
theorem XC.t {a b : RS} {n : Nat} (h : XC n a b) : XC2 n a b := ⟨h.1, fun i p q r _ t z => h.2.1 i p q r t z, h.2.2⟩
theorem XW.t {a b : RS} (h : XW a b) : XW2 a b := ⟨h.1, fun i p q r s _ t z => h.2 i p q r s t z⟩
theorem FC.t {a b : RS} {n : Nat} (h : FC a b) : XC2 n a b := (FC.x h).t
theorem FWs.t {a b : RS} (h : FWs a b) : XW2 a b := ⟨fun R p _ _ _ => h.1 R p, fun i p q r s t _ _ => h.2 i p q r s t⟩
noncomputable def END (B : Nat) (g : CG) (u w : RS) : Prop := TI g u ∧ (∃ k, k ≤ 600 ∧ u 0 9 = nI k ∧ w 0 13 = nI k) ∧ ((u 0 7 = nI 0 ∧ w 0 11 = nI 0 ∧ ∃ sm lm cm, DR u w g sm lm cm B) ∨ EE u w)
noncomputable def afterC (g : CG) (f : Nat) (t26 : Int32 × RS) : Option (Int32 × CG × RS) := if (t26.1) = 0 then (C5_readDescription_L6 1 f ((t26.1)) g (t26.2)) else ((pt (t26.2) 0 9 (((t26.2) 0 9) + 1)).bind fun u29 => C5_readDescription_L6 1 f ((t26.1)) g u29)
theorem L6_s {g : CG} {u : RS} {f k : Nat} (h9 : u 0 9 = nI k) (hk : k ≤ 600) : C5_readDescription_L6 1 (f + 1) (1 : Int32) g u = (C5_readStatement g u 1).bind fun t20 => (C5_readSemicolon t20.1 t20.2).bind fun t26 => afterC t20.1 f t26 := by
  rw [C5_readDescription_L6, if_neg (show ¬ (1 : Int32) = 0 by decide), if_neg (show ¬ (600 : Int32) < u 0 9 by rw [h9]; exact nI_nlt (a := 600) (by omega) (by omega))]
  rfl
theorem L6_e {g : CG} {u : RS} {f : Nat} : C5_readDescription_L6 1 (f + 1) (0 : Int32) g u = some (0, g, u) := by
  rw [C5_readDescription_L6, if_pos rfl]
theorem restS {b : Nat → Int32} {n B : Nat} (hb : BB b n) : ∀ (d k f f2 : Nat) (g : CG) (u w : RS), k + d = 601 → d ≤ f → d ≤ f2 → k ≤ 600 → g.nt + d ≤ 999999 → u 0 9 = nI k → w 0 13 = nI k → u 5 0 = nI 0 → TI g u → ((∃ i sm lm cm, k ≤ i ∧ OKs b n i u w ∧ DR u w g sm lm cm B) ∨ ERs b n u w ∨ PN b n u w) → ∃ y g' u' w', (C5_readSemicolon g u).bind (afterC g f) = some (y, g', u') ∧ F8_load_L25 f2 w = some w' ∧ XC2 g.nt u' u ∧ XW2 w' w ∧ g'.1 = g.1 ∧ g.nt ≤ g'.nt ∧ g'.nt ≤ g.nt + d ∧ END B g' u' w'
  | 0, k, f, f2, g, u, w, h1, h2, h3, h4, _, _, _, _, _, _ => by omega
  | d + 1, k, f, f2, g, u, w, h1, h2, h3, h4, hg, h9, h13, h50, hti, hst => by
    obtain ⟨f, rfl⟩ : ∃ m, f = m + 1 := ⟨f - 1, by omega⟩
    obtain ⟨f2, rfl⟩ : ∃ m, f2 = m + 1 := ⟨f2 - 1, by omega⟩
    have hn := hb.1
    have fin : ∀ u' w', C5_readSemicolon g u = some ((0 : Int32), u') → F8_isMore w = some ((0 : Int32), w') → FC u' u → FW w' w → ((u' 0 7 = nI 0 ∧ w' 0 11 = nI 0 ∧ ∃ sm lm cm, DR u' w' g sm lm cm B) ∨ EE u' w') → ∃ y g' u' w', (C5_readSemicolon g u).bind (afterC g (f + 1)) = some (y, g', u') ∧ F8_load_L25 (f2 + 1) w = some w' ∧ XC2 g.nt u' u ∧ XW2 w' w ∧ g'.1 = g.1 ∧ g.nt ≤ g'.nt ∧ g'.nt ≤ g.nt + (d + 1) ∧ END B g' u' w' := by
      intro u' w' e1 e2 e3 e4 e5
      rw [e1, bS, F8_load_L25, e2, bS]
      unfold afterC
      dsimp only
      rw [if_pos rfl, if_pos rfl, L6_e]
      exact ⟨_, g, u', w', rfl, rfl, e3.t, e4.s.t, rfl, Nat.le_refl _, by omega, TI_fc hti e3, ⟨k, h4, by rw [e3.2 9 (by decide) (by decide) (by decide)]; exact h9, by rw [e4.2 13 (by decide) (by decide) (by decide) (by decide)]; exact h13⟩, e5⟩
    rcases hst with ⟨i, sm, lm, cm, q1, q2, q3⟩ | q | q
    · have hi := q2.2.2.1
      rcases semiO (g := g) hb q2 h13 with ⟨i', u', w', e0, e1, e2, e3, e4, e5, e6⟩ | ⟨u', w', e1, e2, e3, e4, e5⟩
      · have hi' := e3.2.2.1
        have k9 : u' 0 9 = nI k := by rw [e4.2 9 (by decide) (by decide) (by decide)]; exact h9
        have fu : XC2 g.nt (up u' 0 9 (nI (k + 1))) u := ⟨fun R p _ _ _ _ _ => by rw [up_or p]; exact e4.1 R p, fun j p q r s _ _ => by rw [up_ne (by omega)]; exact e4.2 j p q r, by rw [up_ne (by omega), e4.1 5 (by decide)]⟩
        have o1 : OKs b n i' (up u' 0 9 (nI (k + 1))) w' := by
          obtain ⟨z1, z2, z3, z4, z5, z6, z7⟩ := e3
          exact ⟨⟨by rw [up_ne (by omega)]; exact z1.1, fun j hj => by rw [up_ne (by omega)]; exact z1.2 j hj⟩, z2, z3, by rw [up_ne (by omega)]; exact z4, z5, by rw [up_ne (by omega)]; exact z6, z7⟩
        have t1 : TI g (up u' 0 9 (nI (k + 1))) := fun L hL => by rw [up_or (by omega), e4.1 _ (by omega)]; exact hti L hL
        have d1 : DR (up u' 0 9 (nI (k + 1))) w' g sm lm cm B := by
          obtain ⟨p1, p2, p3, p4, p5⟩ := q3
          have ew : w' 1 = w 1 := e5.1 1 (by decide)
          refine ⟨?_, by rw [ew]; exact p2, by rw [ew]; exact p3, by rw [up_or (by omega), e4.1 _ (by omega)]; exact p4, t1⟩
          rw [ew]
          exact QY.frame (by omega) p1 (Nat.le_refl _) (fun R hR => by rw [up_or (by unfold OWN at hR; omega)]; exact e4.1 R (by unfold OWN at hR; omega)) (fun t _ _ => by rw [up_or (by omega)]; exact e4.1 _ (by omega))
        obtain ⟨g2, u2, w2, z1, z2, z3⟩ := stmt2 (g := g) (k := k + 1) hb o1 (by omega) d1 (by rw [up_ne (by omega), e4.1 5 (by decide)]; exact h50) (by omega) up_eq (by omega) (by omega)
        obtain ⟨y1, y2, y3, y4, y5, y6, y7⟩ := z3
        obtain ⟨y, g', u3, w3, x1, x2, x3, x4, x5, x6, x7, x8⟩ := restS hb d (k + 1) f f2 g2 u2 w2 (by omega) (by omega) (by omega) (by omega) (by omega) (by rw [y1.2.1 9 (by decide) (by decide) (by decide) (by decide) (by decide), up_eq]) (by rw [y2.2 13 (by decide) (by decide) (by decide) (by decide) (by decide) (by decide)]; exact e6) (by rw [y1.2.2, up_ne (by omega), e4.1 5 (by decide)]; exact h50) y6 (by
          rcases y7 with ⟨i2, a1, a2, a3, a4, a5⟩ | y7
          · exact Or.inl ⟨i2, a1, a2, a3, by omega, a5⟩
          · exact Or.inr y7)
        refine ⟨y, g', u3, w3, ?_, ?_, x3.trans (y1.t.trans fu (Nat.le_refl _)) y4, x4.trans (y2.t.trans e5.t), x5.trans y3, by omega, by omega, x8⟩
        · rw [e1, bS]
          unfold afterC
          dsimp only
          rw [if_neg (show ¬ (1 : Int32) = 0 by decide), pt_n, bS, k9, show nI k + 1 = nI (k + 1) from nI_add k 1, L6_s (k := k + 1) up_eq (by omega), z1, bS]
          exact x1
        · rw [F8_load_L25, e2, bS]
          dsimp only
          rw [if_neg (show ¬ (1 : Int32) = 0 by decide), z2, bS]
          exact x2
      · refine fin u' w' e1 e2 e3 e4 ?_
        rcases e5 with ⟨a1, a2⟩ | a
        · exact Or.inl ⟨a1, a2, sm, lm, cm, q3.fr e3 e4⟩
        · exact Or.inr a
    · obtain ⟨u', e1, e2, e3, e4⟩ := semiE (g := g) hb q
      exact fin u' w e1 e2 e3 FW.rfl (Or.inr e4)
    · obtain ⟨u', w', e1, e2, e3, e4, e5⟩ := semiP (g := g) hb q
      exact fin u' w' e1 e2 e3 e4 (Or.inr e5)
theorem desc2 {b : Nat → Int32} {n B : Nat} {g : CG} {u w : RS} (hb : BB b n) (h : OKs b n 0 u w) (hB : B < 2000000000) (hti : TI g u) (h9 : u 0 9 = nI 0) (h13 : w 0 13 = nI 0) (h50 : u 5 0 = nI 0) (hg : g.nt + 602 ≤ 999999) (hz : ∀ i, i < 137 → i ≠ 0 → i ≠ 1 → i ≠ 2 → w 1 i = nI 0) : ∃ y g' u' w', C5_readDescription_L6 1 602 (1 : Int32) g u = some (y, g', u') ∧ (F8_linePart w).bind (F8_load_L25 FUEL) = some w' ∧ XC2 g.nt u' u ∧ XW2 w' w ∧ g'.1 = g.1 ∧ g.nt ≤ g'.nt ∧ g'.nt ≤ g.nt + 601 ∧ END B g' u' w' := by
  obtain ⟨u1, w1, z1, z2, y1, y2, y3, y4, y5, y6, y7⟩ := first2 (g := g) (B := B) hb h hB hti h9 hz
  obtain ⟨y, g', u3, w3, x1, x2, x3, x4, x5, x6, x7, x8⟩ := restS (B := B) hb 601 0 601 FUEL g u1 w1 (by omega) (by omega) (by show 601 ≤ 10000; omega) (by omega) (by omega) (by rw [y1.2.1 9 (by decide) (by decide) (by decide) (by decide) (by decide)]; exact h9) (by rw [y2.2 13 (by decide) (by decide) (by decide) (by decide) (by decide) (by decide)]; exact h13) (by rw [y1.2.2]; exact h50) y6 y7
  refine ⟨y, g', u3, w3, ?_, by rw [z2, bS]; exact x2, x3.trans y1.t (Nat.le_refl _), x4.trans y2.t, x5, x6, x7, x8⟩
  rw [L6_s (f := 601) (k := 0) h9 (by omega), z1, bS]
  exact x1
end
section
theorem beginsL : ∀ (d y f : Nat) (u : RS), y + d = 1037 → d < f → ∃ u2, F8_begins_L2 f (nI y) u = some (nI 1037, u2) ∧ (∀ R, R ≠ 1 → u2 R = u R) ∧ (∀ i, i < y → u2 1 i = u 1 i) ∧ ∀ i, y ≤ i → i < 1037 → u2 1 i = nI 0
  | 0, y, f, u, h1, h2 => by
    obtain ⟨f, rfl⟩ : ∃ m, f = m + 1 := ⟨f - 1, by omega⟩
    refine ⟨u, ?_, fun _ _ => rfl, fun _ _ => rfl, fun i p q => by omega⟩
    rw [F8_begins_L2, if_pos (show (1037 : Int32) ≤ nI y from nI_le (a := 1037) (by omega) (by omega)), show y = 1037 by omega]
  | d + 1, y, f, u, h1, h2 => by
    obtain ⟨f, rfl⟩ : ∃ m, f = m + 1 := ⟨f - 1, by omega⟩
    obtain ⟨u2, k1, k2, k3, k4⟩ := beginsL d (y + 1) f (up u 1 y (0 : Int32)) (by omega) (by omega)
    refine ⟨u2, ?_, fun R hR => (k2 R hR).trans (up_or hR), fun i p => ?_, fun i p q => ?_⟩
    · rw [F8_begins_L2, if_neg (show ¬ (1037 : Int32) ≤ nI y from nI_ge (b := 1037) (by omega) (by omega)), wsk (by omega), bS, show nI y + 1 = nI (y + 1) from nI_add _ 1]
      exact k1
    · rw [k3 i (by omega), up_ne (by omega)]
    · by_cases e : i = y
      · rw [e, k3 y (by omega), up_eq]; rfl
      · exact k4 i (by omega) q
theorem begins_ok {u : RS} : ∃ u2, F8_begins u = some u2 ∧ (∀ R, R ≠ 1 → u2 R = u R) ∧ u2 1 0 = nI 480 ∧ u2 1 1 = nI 1 ∧ u2 1 2 = nI 1 ∧ ∀ i, i < 1037 → i ≠ 0 → i ≠ 1 → i ≠ 2 → u2 1 i = nI 0 := by
  obtain ⟨u2, k1, k2, k3, k4⟩ := beginsL 1037 0 FUEL u (by omega) (by show 1037 < 10000; omega)
  have k1' : F8_begins_L2 FUEL (0 : Int32) u = some (nI 1037, u2) := k1
  refine ⟨up (up (up u2 1 0 480) 1 1 1) 1 2 1, ?_, fun R hR => ?_, ?_, ?_, ?_, fun i p q r s => ?_⟩
  · unfold F8_begins
    rw [k1', bS]
    dsimp only
    rw [show ws u2 1 1037 (0 : Int32) (480 : Int32) = some (up u2 1 0 480) from wsk (k := 0) (by omega), bS, show ws (up u2 1 0 480) 1 1037 (1 : Int32) (1 : Int32) = some (up (up u2 1 0 480) 1 1 1) from wsk (k := 1) (by omega), bS, show ws (up (up u2 1 0 480) 1 1 1) 1 1037 (2 : Int32) (1 : Int32) = some (up (up (up u2 1 0 480) 1 1 1) 1 2 1) from wsk (k := 2) (by omega), bS]
  · rw [up_or hR, up_or hR, up_or hR]; exact k2 R hR
  · rw [up_ne (by omega), up_ne (by omega), up_eq]; rfl
  · rw [up_ne (by omega), up_eq]; rfl
  · rw [up_eq]; rfl
  · rw [up_ne (by omega), up_ne (by omega), up_ne (by omega)]; exact k4 i (by omega) p
noncomputable def ET (F : Option (Int32 × RS)) (C : Option (Int32 × CG × RS)) (B T : Nat) : Prop := ∃ x r2 c2 g2, F = some (x, r2) ∧ C = some (x, g2, c2) ∧ GI r2 c2 g2 B T ∧ r2 0 6 = nI 0
theorem TIr_of {c : RS} {g : CG} {L sm lm cm B U : Nat} {v : Nat → Int32} (h : QY c g L v sm lm cm B U) : TIr (c (10 + L)) g.nt := ⟨h.s.ti, h.c.ti⟩
theorem PAi.pa {r c : RS} {g : CG} {B o n : Nat} (h : PAi r c g B o n) : PA r c g B := ⟨o, n, h⟩
theorem a_load {r c : RS} {g : CG} {B T : Nat} (h : GI r c g B T) (hT : T + 602 ≤ 999999) (hB : B < 2000000000) : ET (F8_load r) (C7_load g c) B (T + 602) := by
  have hgn := h.n
  obtain ⟨z5, n, b1, b2, b3, b4⟩ := h.b
  have hb : BB (c 3) n := ⟨b1, fun k hk => (b4 k hk).2⟩
  have hTI : TI g c := TI_n.mpr h.ti
  have eS : F8_starts r = some (up (up (up (up r 0 6 0) 0 9 0) 0 11 0) 0 13 0) := by
    unfold F8_starts
    rw [pt_n, bS, pt_n, bS, pt_n, bS, pt_n, bS]
  have s6 : up (up (up (up r 0 6 0) 0 9 0) 0 11 0) 0 13 0 0 6 = nI 0 := by rw [up_ne (by omega), up_ne (by omega), up_ne (by omega), up_eq]; rfl
  have s9 : up (up (up (up r 0 6 0) 0 9 0) 0 11 0) 0 13 0 0 9 = nI 0 := by rw [up_ne (by omega), up_ne (by omega), up_eq]; rfl
  have s11 : up (up (up (up r 0 6 0) 0 9 0) 0 11 0) 0 13 0 0 11 = nI 0 := by rw [up_ne (by omega), up_eq]; rfl
  have s13 : up (up (up (up r 0 6 0) 0 9 0) 0 11 0) 0 13 0 0 13 = nI 0 := by rw [up_eq]; rfl
  have sR : ∀ R, R ≠ 0 → up (up (up (up r 0 6 0) 0 9 0) 0 11 0) 0 13 0 R = r R := fun R hR => by rw [up_or hR, up_or hR, up_or hR, up_or hR]
  have s0 : ∀ i, i ≠ 6 → i ≠ 9 → i ≠ 11 → i ≠ 13 → up (up (up (up r 0 6 0) 0 9 0) 0 11 0) 0 13 0 0 i = r 0 i := fun i p q s t => by rw [up_ne (by omega), up_ne (by omega), up_ne (by omega), up_ne (by omega)]
  generalize up (up (up (up r 0 6 0) 0 9 0) 0 11 0) 0 13 0 = w1 at *
  have eC : F8_copies_1_2 w1 (0 : Int32) (0 : Int32) = some (cpA w1 1 0 2 0) := cp_1_2 (i := 0) (k := 0) (by omega) (by omega)
  obtain ⟨w3, eB, w3R, w30, w31, w32, w3z⟩ := begins_ok (u := cpA w1 1 0 2 0)
  have w3o : ∀ R, R ≠ 1 → R ≠ 2 → w3 R = w1 R := fun R p q => (w3R R p).trans (cpA_o q)
  have w3c : ∀ j, j < 1037 → w3 2 j = r 1 j := fun j hj => by
    have h2 := cpA_n (u := w1) (A := 1) (i := 0) (B := 2) (k := 0) hj
    simp only [Nat.mul_zero, Nat.zero_add] at h2
    rw [w3R 2 (by decide), h2, sR 1 (by decide)]
  have eT : C5_start g c = some (up (up (up (up c 0 6 0) 0 7 0) 0 8 0) 0 9 0) := by
    unfold C5_start
    rw [pt_n, bS, pt_n, bS, pt_n, bS, pt_n, bS]
  have c6 : up (up (up (up c 0 6 0) 0 7 0) 0 8 0) 0 9 0 0 6 = nI 0 := by rw [up_ne (by omega), up_ne (by omega), up_ne (by omega), up_eq]; rfl
  have c7 : up (up (up (up c 0 6 0) 0 7 0) 0 8 0) 0 9 0 0 7 = nI 0 := by rw [up_ne (by omega), up_ne (by omega), up_eq]; rfl
  have c9 : up (up (up (up c 0 6 0) 0 7 0) 0 8 0) 0 9 0 0 9 = nI 0 := by rw [up_eq]; rfl
  have cR : ∀ R, R ≠ 0 → up (up (up (up c 0 6 0) 0 7 0) 0 8 0) 0 9 0 R = c R := fun R hR => by rw [up_or hR, up_or hR, up_or hR, up_or hR]
  have c0 : ∀ i, i ≠ 6 → i ≠ 7 → i ≠ 8 → i ≠ 9 → up (up (up (up c 0 6 0) 0 7 0) 0 8 0) 0 9 0 0 i = c 0 i := fun i p q s t => by rw [up_ne (by omega), up_ne (by omega), up_ne (by omega), up_ne (by omega)]
  generalize up (up (up (up c 0 6 0) 0 7 0) 0 8 0) 0 9 0 = u1 at *
  have hok : OKs (c 3) n 0 u1 w3 := by
    refine ⟨⟨by rw [c0 5 (by decide) (by decide) (by decide) (by decide)]; exact b2, fun k hk => by rw [cR 3 (by decide)]⟩, ⟨?_, fun k hk => ?_⟩, Nat.zero_le _, c6, ?_, c7, ?_⟩
    · rw [w3o 0 (by decide) (by decide), s0 8 (by decide) (by decide) (by decide) (by decide)]; exact b3
    · rw [w3o 6 (by decide) (by decide), sR 6 (by decide)]; exact (b4 k hk).1.symm
    · rw [w3o 0 (by decide) (by decide)]; exact s9
    · rw [w3o 0 (by decide) (by decide)]; exact s11
  obtain ⟨y, g', u', w', x1, x2, x3, x4, x5, x6, x7, x8, ⟨k, x9, x10, x11⟩, x12⟩ := desc2 (g := g) (B := B) hb hok hB (fun L hL => by rw [cR _ (by omega)]; exact hTI L hL) c9 (by rw [w3o 0 (by decide) (by decide)]; exact s13) (by rw [cR 5 (by decide)]; exact z5) (by omega) (fun i p q s t => w3z i (by omega) q s t)
  have hn' : g'.nt ≤ T + 602 := by omega
  have plE : g'.pl = g.pl := x5
  have eW : F8_load r = (F8_settles w').bind fun u15 => if (u15 0 11) = 0 then ((pt u15 0 5 0).bind fun u18 => some ((u18 1 7), u18)) else ((F8_copies_2_1 u15 (0 : Int32) (0 : Int32)).bind fun u20 => some (((-100) - (u20 0 12)), u20)) := by
    unfold F8_load
    rw [eS, bS, eC, bS, eB, bS]
    rw [← Option.bind_assoc, x2, bS]
  have eU : C7_load g c = (C7_keepResult g' (up u' 0 5 0)).bind fun u7 => if (u7 0 1) = 0 then ((C3_copyFrom g' u7 0 1).bind fun u10 => (pt u10 0 4 (0)).bind fun u12 => (pt u12 0 0 (0)).bind fun u14 => some ((u14 (10 + 0) 7), g', u14)) else (some (((-100) - (u7 0 8)), g', u7)) := by
    unfold C7_load C5_readDescription
    rw [eT, bS, x1, bS, pt_n, bS, bS]
  have cr : ∀ R, R ≠ 0 → R ≠ 4 → R ≠ 5 → R ≠ 6 → ¬ OWN 1 R → R ≤ 500 + g.nt → u' R = c R := fun R p q s t a b => (x3.1 R p q s t a b).trans (cR R p)
  have cz : ∀ i, i ≠ 6 → i ≠ 7 → i ≠ 8 → i ≠ 9 → i ≠ 10 → i ≠ 11 → u' 0 i = c 0 i := fun i p q s t a b => (x3.2.1 i p q s t a b).trans (c0 i p q s t)
  have wr : ∀ R, R ≠ 0 → R ≠ 1 → R ≠ 2 → R ≠ 7 → R ≠ 8 → w' R = r R := fun R p q s t a => (x4.1 R p q t a).trans ((w3o R q s).trans (sR R p))
  have wz : ∀ i, i ≠ 6 → i ≠ 9 → i ≠ 10 → i ≠ 11 → i ≠ 12 → i ≠ 13 → i ≠ 14 → i ≠ 19 → w' 0 i = r 0 i := fun i o p q s t a b d => by rw [x4.2 i p q s t a b d, w3o 0 (by decide) (by decide), s0 i o p s a]
  have w6 : w' 0 6 = nI 0 := by rw [x4.2 6 (by decide) (by decide) (by decide) (by decide) (by decide) (by decide) (by decide), w3o 0 (by decide) (by decide)]; exact s6
  have w2 : ∀ j, j < 1037 → w' 2 j = r 1 j := fun j hj => by rw [x4.1 2 (by decide) (by decide) (by decide) (by decide)]; exact w3c j hj
  have u50 : u' 5 0 = nI 0 := by rw [x3.2.2, cR 5 (by decide)]; exact z5
  obtain ⟨o, np, p1, p2, p3, p4, p5, p6⟩ := h.p
  obtain ⟨oa, ob, o1, o2, o3, o4⟩ := h.o
  rw [eW, eU]
  rcases x12 with ⟨y1, y2, sm, lm, cm, y3⟩ | ⟨e, p, e1, e2, e3, e4, e5, e6, e7⟩
  · -- no error
    have eN : F8_settles w' = some (up (up (up w' 0 8 0) 0 15 (nI 0)) 0 16 (-1)) := by
      unfold F8_settles
      rw [pt_n, bS, up_ne (show ¬ (0 = 0 ∧ 11 = 8) by omega), y2, pt_n, bS, up_ne (show ¬ (0 = 0 ∧ 11 = 15) by omega), up_ne (show ¬ (0 = 0 ∧ 11 = 8) by omega), y2, if_pos (show nI 0 = (0 : Int32) from rfl), bS, pt_n, bS]
    have eK : C7_keepResult g' (up u' 0 5 0) = some (up (up (up u' 0 5 0) 0 1 (nI 0)) 0 2 (-1)) := by
      unfold C7_keepResult
      rw [up_ne (show ¬ (0 = 0 ∧ 7 = 5) by omega), y1, pt_n, bS, up_eq, if_pos (show nI 0 = (0 : Int32) from rfl), bS, pt_n, bS]
    have kR : ∀ R, R ≠ 0 → up (up (up u' 0 5 0) 0 1 (nI 0)) 0 2 (-1) R = u' R := fun R hR => by rw [up_or hR, up_or hR, up_or hR]
    have k1 : up (up (up u' 0 5 0) 0 1 (nI 0)) 0 2 (-1) 0 1 = nI 0 := by rw [up_ne (by omega), up_eq]
    have k2 : up (up (up u' 0 5 0) 0 1 (nI 0)) 0 2 (-1) 0 2 = -1 := up_eq
    have k5 : up (up (up u' 0 5 0) 0 1 (nI 0)) 0 2 (-1) 0 5 = nI 0 := by rw [up_ne (by omega), up_ne (by omega), up_eq]; rfl
    have k3 : up (up (up u' 0 5 0) 0 1 (nI 0)) 0 2 (-1) 0 3 = c 0 3 := by rw [up_ne (by omega), up_ne (by omega), up_ne (by omega)]; exact cz 3 (by decide) (by decide) (by decide) (by decide) (by decide) (by decide)
    generalize up (up (up u' 0 5 0) 0 1 (nI 0)) 0 2 (-1) = U at *
    have v11 : up (up (up w' 0 8 0) 0 15 (nI 0)) 0 16 (-1) 0 11 = nI 0 := by rw [up_ne (by omega), up_ne (by omega), up_ne (by omega)]; exact y2
    have v15 : up (up (up w' 0 8 0) 0 15 (nI 0)) 0 16 (-1) 0 15 = nI 0 := by rw [up_ne (by omega), up_eq]
    have v16 : up (up (up w' 0 8 0) 0 15 (nI 0)) 0 16 (-1) 0 16 = -1 := up_eq
    have v8 : up (up (up w' 0 8 0) 0 15 (nI 0)) 0 16 (-1) 0 8 = nI 0 := by rw [up_ne (by omega), up_ne (by omega), up_eq]; rfl
    have vR : ∀ R, R ≠ 0 → up (up (up w' 0 8 0) 0 15 (nI 0)) 0 16 (-1) R = w' R := fun R hR => by rw [up_or hR, up_or hR, up_or hR]
    have v0 : ∀ i, i ≠ 8 → i ≠ 15 → i ≠ 16 → up (up (up w' 0 8 0) 0 15 (nI 0)) 0 16 (-1) 0 i = w' 0 i := fun i p q s => by rw [up_ne (by omega), up_ne (by omega), up_ne (by omega)]
    generalize up (up (up w' 0 8 0) 0 15 (nI 0)) 0 16 (-1) = W at *
    have hq : QY U g' 1 (w' 1) sm lm cm B B := QY.frame (by omega) y3.1 (Nat.le_refl _) (fun R hR => kR R (by unfold OWN at hR; omega)) (fun t _ _ => kR _ (by omega))
    obtain ⟨c2, q1, q2, q3⟩ := copyFrom_ok (L := 0) (L2 := 1) (by omega) (by omega) (by omega) hq (by
      have := (TI_n.mp x8) 0 (by omega)
      rw [kR _ (by omega)]; exact this)
    have n0 : ¬ OWN 0 0 := by unfold OWN; omega
    rw [eN, bS, eK, bS, if_pos (show W 0 11 = (0 : Int32) from v11), pt_n, bS, if_pos (show U 0 1 = (0 : Int32) from k1), q1, bS, pt_n, bS, pt_n, bS]
    have e17 : up W 0 5 0 1 7 = up (up c2 0 4 0) 0 0 0 (10 + 0) 7 := by
      rw [up_or (show ¬ 1 = 0 by omega), up_or (show ¬ 10 + 0 = 0 by omega), up_or (show ¬ 10 + 0 = 0 by omega), vR 1 (by decide), q3.n7, q3.v7]
    have cc : ∀ R, R ≠ 0 → up (up c2 0 4 0) 0 0 0 R = c2 R := fun R hR => by rw [up_or hR, up_or hR]
    refine ⟨_, _, _, g', rfl, by rw [e17], ⟨?_, ?_, ⟨o, 0, p1, by omega, ?_, ?_, ?_, fun i hi => by omega⟩, ?_, ⟨?_, 0, by omega, ?_, ?_, fun k hk => by omega⟩, ⟨?_, ?_⟩, ⟨0, ob, by omega, o2, ?_, ?_⟩, hn'⟩, ?_⟩
    · rw [up_or (show ¬ 1 = 0 by omega), vR 1 (by decide)]
      exact ⟨sm, lm, cm, QY.frame (by omega) q3 (Nat.le_refl _) (fun R hR => cc R (by unfold OWN at hR; omega)) (fun t _ _ => cc _ (by omega))⟩
    · intro L hL
      rw [cc _ (by omega)]
      by_cases e : L = 0
      · subst e; exact TIr_of q3
      · rw [q2 _ (by unfold OWN; omega), kR _ (by omega)]; exact (TI_n.mp x8) L hL
    · rw [up_ne (by omega), up_ne (by omega), q2 0 n0, k3]; exact p3
    · rw [up_ne (by omega), up_eq]; rfl
    · rw [up_eq]; rfl
    · exact h.s.frame x6 (fun i _ _ => by rw [plE]) (by rw [up_or (show ¬ 5 = 0 by omega), vR 5 (by decide)]; exact wr 5 (by decide) (by decide) (by decide) (by decide) (by decide)) (by rw [up_or (show ¬ 4 = 0 by omega), vR 4 (by decide)]; exact wr 4 (by decide) (by decide) (by decide) (by decide) (by decide)) (fun L R a b hR => by rw [cc R (by unfold OWN at hR; omega), q2 R (by unfold OWN at hR ⊢; omega), kR R (by unfold OWN at hR; omega)]; exact cr R (by unfold OWN at hR; omega) (by unfold OWN at hR; omega) (by unfold OWN at hR; omega) (by unfold OWN at hR; omega) (by unfold OWN at hR ⊢; omega) (by unfold OWN at hR; omega)) (fun t t1 t2 => by rw [cc _ (by omega), q2 _ (by unfold OWN; omega), kR _ (by omega)]; exact cr _ (by omega) (by omega) (by omega) (by omega) (by unfold OWN; omega) (by omega))
    · rw [cc 5 (by decide), q2 5 (by unfold OWN; omega), kR 5 (by decide)]; exact u50
    · rw [up_ne (by omega), up_ne (by omega), q2 0 n0]; exact k5
    · rw [up_ne (by omega)]; exact v8
    · rw [up_ne (by omega), up_ne (by omega), q2 0 n0, k1, up_ne (by omega), v15]
    · rw [up_ne (by omega), up_ne (by omega), q2 0 n0, k2, up_ne (by omega), v16]
    · rw [up_eq]; rfl
    · rw [up_ne (by omega), v0 22 (by decide) (by decide) (by decide), wz 22 (by decide) (by decide) (by decide) (by decide) (by decide) (by decide) (by decide) (by decide)]; exact o4
    · rw [up_ne (by omega), v0 6 (by decide) (by decide) (by decide)]; exact w6
  · -- an error
    have en0 : ¬ nI e = (0 : Int32) := nI_ne (b := 0) (by omega) (by omega) (by omega)
    have eN : F8_settles w' = some (up (up (up w' 0 8 0) 0 15 (nI e)) 0 16 (nI k)) := by
      unfold F8_settles
      rw [pt_n, bS, up_ne (show ¬ (0 = 0 ∧ 11 = 8) by omega), e5, pt_n, bS, up_ne (show ¬ (0 = 0 ∧ 11 = 15) by omega), up_ne (show ¬ (0 = 0 ∧ 11 = 8) by omega), e5, if_neg en0, bS, up_ne (show ¬ (0 = 0 ∧ 13 = 15) by omega), up_ne (show ¬ (0 = 0 ∧ 13 = 8) by omega), x11, pt_n, bS]
    have eK : C7_keepResult g' (up u' 0 5 0) = some (up (up (up u' 0 5 0) 0 1 (nI e)) 0 2 (nI k)) := by
      unfold C7_keepResult
      rw [up_ne (show ¬ (0 = 0 ∧ 7 = 5) by omega), e4, pt_n, bS, up_eq, if_neg en0, bS, up_ne (show ¬ (0 = 0 ∧ 9 = 1) by omega), up_ne (show ¬ (0 = 0 ∧ 9 = 5) by omega), x10, pt_n, bS]
    have kR : ∀ R, R ≠ 0 → up (up (up u' 0 5 0) 0 1 (nI e)) 0 2 (nI k) R = u' R := fun R hR => by rw [up_or hR, up_or hR, up_or hR]
    have k1 : up (up (up u' 0 5 0) 0 1 (nI e)) 0 2 (nI k) 0 1 = nI e := by rw [up_ne (by omega), up_eq]
    have k2 : up (up (up u' 0 5 0) 0 1 (nI e)) 0 2 (nI k) 0 2 = nI k := up_eq
    have k5 : up (up (up u' 0 5 0) 0 1 (nI e)) 0 2 (nI k) 0 5 = nI 0 := by rw [up_ne (by omega), up_ne (by omega), up_eq]; rfl
    have k8 : up (up (up u' 0 5 0) 0 1 (nI e)) 0 2 (nI k) 0 8 = nI p := by rw [up_ne (by omega), up_ne (by omega), up_ne (by omega)]; exact e6
    have k0 : ∀ i, i ≠ 1 → i ≠ 2 → i ≠ 5 → up (up (up u' 0 5 0) 0 1 (nI e)) 0 2 (nI k) 0 i = u' 0 i := fun i p q s => by rw [up_ne (by omega), up_ne (by omega), up_ne (by omega)]
    generalize up (up (up u' 0 5 0) 0 1 (nI e)) 0 2 (nI k) = U at *
    have v11 : up (up (up w' 0 8 0) 0 15 (nI e)) 0 16 (nI k) 0 11 = nI e := by rw [up_ne (by omega), up_ne (by omega), up_ne (by omega)]; exact e5
    have v12 : up (up (up w' 0 8 0) 0 15 (nI e)) 0 16 (nI k) 0 12 = nI p := by rw [up_ne (by omega), up_ne (by omega), up_ne (by omega)]; exact e7
    have v15 : up (up (up w' 0 8 0) 0 15 (nI e)) 0 16 (nI k) 0 15 = nI e := by rw [up_ne (by omega), up_eq]
    have v16 : up (up (up w' 0 8 0) 0 15 (nI e)) 0 16 (nI k) 0 16 = nI k := up_eq
    have v8 : up (up (up w' 0 8 0) 0 15 (nI e)) 0 16 (nI k) 0 8 = nI 0 := by rw [up_ne (by omega), up_ne (by omega), up_eq]; rfl
    have vR : ∀ R, R ≠ 0 → up (up (up w' 0 8 0) 0 15 (nI e)) 0 16 (nI k) R = w' R := fun R hR => by rw [up_or hR, up_or hR, up_or hR]
    have v0 : ∀ i, i ≠ 8 → i ≠ 15 → i ≠ 16 → up (up (up w' 0 8 0) 0 15 (nI e)) 0 16 (nI k) 0 i = w' 0 i := fun i p q s => by rw [up_ne (by omega), up_ne (by omega), up_ne (by omega)]
    generalize up (up (up w' 0 8 0) 0 15 (nI e)) 0 16 (nI k) = W at *
    have eD : F8_copies_2_1 W (0 : Int32) (0 : Int32) = some (cpA W 2 0 1 0) := cp_2_1 (i := 0) (k := 0) (by omega) (by omega)
    rw [eN, bS, eK, bS, if_neg (show ¬ W 0 11 = (0 : Int32) by rw [v11]; exact en0), eD, bS, if_neg (show ¬ U 0 1 = (0 : Int32) by rw [k1]; exact en0)]
    have dR : ∀ R, R ≠ 1 → cpA W 2 0 1 0 R = W R := fun R hR => cpA_o hR
    have d1 : ∀ j, j < 1037 → cpA W 2 0 1 0 1 j = r 1 j := fun j hj => by
      have h2 := cpA_n (u := W) (A := 2) (i := 0) (B := 1) (k := 0) hj
      simp only [Nat.mul_zero, Nat.zero_add] at h2
      rw [h2, vR 2 (by decide)]; exact w2 j hj
    have cu : ∀ R, R ≠ 0 → R ≠ 4 → R ≠ 5 → R ≠ 6 → ¬ OWN 1 R → R ≤ 500 + g.nt → U R = c R := fun R p q s t a b => (kR R p).trans (cr R p q s t a b)
    have kz : ∀ i, i ≠ 1 → i ≠ 2 → i ≠ 5 → i ≠ 6 → i ≠ 7 → i ≠ 8 → i ≠ 9 → i ≠ 10 → i ≠ 11 → U 0 i = c 0 i := fun i a1 a2 a5 p q s t a b => (k0 i a1 a2 a5).trans (cz i p q s t a b)
    have dz : ∀ i, i ≠ 6 → i ≠ 8 → i ≠ 9 → i ≠ 10 → i ≠ 11 → i ≠ 12 → i ≠ 13 → i ≠ 14 → i ≠ 15 → i ≠ 16 → i ≠ 19 → cpA W 2 0 1 0 0 i = r 0 i := fun i o a8 p q s t a b a15 a16 d => by rw [dR 0 (by decide), v0 i a8 a15 a16]; exact wz i o p q s t a b d
    have dr : ∀ R, R ≠ 0 → R ≠ 1 → R ≠ 2 → R ≠ 7 → R ≠ 8 → cpA W 2 0 1 0 R = r R := fun R p q s t a => by rw [dR R q, vR R p]; exact wr R p q s t a
    have ox : ∀ L R, L ≠ 1 → L < 12 → OWN L R → U R = c R := fun L R a b hR => cu R (by unfold OWN at hR; omega) (by unfold OWN at hR; omega) (by unfold OWN at hR; omega) (by unfold OWN at hR; omega) (by unfold OWN at hR ⊢; omega) (by unfold OWN at hR; omega)
    have tx : ∀ t, 1 ≤ t → t ≤ g.nt → U (500 + t) = c (500 + t) := fun t t1 t2 => cu _ (by omega) (by omega) (by omega) (by omega) (by unfold OWN; omega) (by omega)
    refine ⟨_, _, _, g', rfl, by rw [dR 0 (by decide), v12, k8], ⟨?_, ?_, ?_, ?_, ⟨?_, 0, by omega, k5, ?_, fun k hk => by omega⟩, ⟨?_, ?_⟩, ⟨oa, ob, o1, o2, ?_, ?_⟩, hn'⟩, ?_⟩
    · exact LQ.ext (h.l.frame (by omega) x6 (fun R hR => ox 0 R (by omega) (by omega) hR) tx) d1
    · intro L hL
      rw [kR _ (by omega)]; exact (TI_n.mp x8) L hL
    · exact PAi.pa (PAi.frame ⟨p1, p2, p3, p4, p5, p6⟩ x6 (fun i _ _ q => by rw [plE]; exact q) (kz 3 (by decide) (by decide) (by decide) (by decide) (by decide) (by decide) (by decide) (by decide) (by decide)) (kz 4 (by decide) (by decide) (by decide) (by decide) (by decide) (by decide) (by decide) (by decide) (by decide)) (dz 5 (by decide) (by decide) (by decide) (by decide) (by decide) (by decide) (by decide) (by decide) (by decide) (by decide) (by decide)) (dr 3 (by decide) (by decide) (by decide) (by decide) (by decide)) (fun L R a b hR => ox L R (by omega) (by omega) hR) tx)
    · exact h.s.frame x6 (fun i _ _ => by rw [plE]) (dr 5 (by decide) (by decide) (by decide) (by decide) (by decide)) (dr 4 (by decide) (by decide) (by decide) (by decide) (by decide)) (fun L R a b hR => ox L R (by omega) (by omega) hR) tx
    · rw [kR 5 (by decide)]; exact u50
    · rw [dR 0 (by decide)]; exact v8
    · rw [k1, dR 0 (by decide), v15]
    · rw [k2, dR 0 (by decide), v16]
    · rw [kz 0 (by decide) (by decide) (by decide) (by decide) (by decide) (by decide) (by decide) (by decide) (by decide)]; exact o3
    · rw [dz 22 (by decide) (by decide) (by decide) (by decide) (by decide) (by decide) (by decide) (by decide) (by decide) (by decide) (by decide)]; exact o4
    · rw [dR 0 (by decide), v0 6 (by decide) (by decide) (by decide)]; exact w6
end
section
theorem remF {r c c2 : RS} {g g2 : CG} {B T : Nat} (h : GI r c g B T) (e : C7_remember g c = some (g2, c2)) : (∀ R, R ≠ 0 → R < 10 → c2 R = c R) ∧ ∀ i, i ≠ 3 → i ≠ 4 → c2 0 i = c 0 i := by
  obtain ⟨sm, lm, cm, h0⟩ := h.l
  unfold C7_remember at e
  obtain ⟨t2, a1, e⟩ := ob e
  have f2 : (∀ R, R ≠ 0 → t2 R = c R) ∧ ∀ i, i ≠ 3 → i ≠ 4 → t2 0 i = c 0 i := by
    split at a1
    · obtain ⟨x, -, a1⟩ := ob a1
      rw [pt_n, bS, pt_n, bS] at a1
      rw [← Option.some.inj a1]
      exact ⟨fun R hR => by rw [up_or hR, up_or hR], fun i p q => by rw [up_ne (by omega), up_ne (by omega)]⟩
    · rw [← Option.some.inj a1]
      exact ⟨fun _ _ => rfl, fun _ _ _ => rfl⟩
  obtain ⟨x5, -, e⟩ := ob e
  obtain ⟨n7, a2, e⟩ := ob e
  have hn7 := ix_lt a2
  have hq : QY t2 g 0 (r 1) sm lm cm B B := QY.frame (by omega) h0 (Nat.le_refl _) (fun R hR => f2.1 R (by unfold OWN at hR; omega)) (fun t _ _ => f2.1 _ (by omega))
  split at e
  · obtain ⟨u10, a3, e⟩ := ob e
    rw [pt_n, bS] at e
    obtain ⟨c3, k1, k2, k3⟩ := copyFrom_ok (L := 2 + n7) (L2 := 0) (by omega) (by omega) (by omega) hq (by rw [f2.1 _ (by omega)]; exact h.ti _ (by omega))
    have e3 : c3 = u10 := Option.some.inj (k1.symm.trans a3)
    have ec := (Prod.mk.inj (Option.some.inj e)).2
    rw [← ec, ← e3]
    exact ⟨fun R p q => by rw [up_or p, k2 R (by unfold OWN; omega)]; exact f2.1 R p, fun i p q => by rw [up_ne (by omega), k2 0 (by unfold OWN; omega)]; exact f2.2 i p q⟩
  · rw [bS, bS] at e
    obtain ⟨u10, a3, e⟩ := ob e
    rw [pt_n, bS] at e
    have hq2 : QY (ul t2 (2 + n7)) (gl g (2 + n7)) 0 (r 1) sm lm cm B B := QY.frame (by omega) hq (Nat.le_refl _) (fun R hR => ul_row (by omega) (by unfold OWN at hR ⊢; omega)) (fun t _ _ => ul_row (by omega) (by unfold OWN; omega))
    obtain ⟨c3, k1, k2, k3⟩ := copyFrom_ok (L := 2 + n7) (L2 := 0) (by omega) (by omega) (by omega) hq2 (ul_tir (by omega))
    have e3 : c3 = u10 := Option.some.inj (k1.symm.trans a3)
    have ec := (Prod.mk.inj (Option.some.inj e)).2
    rw [← ec, ← e3]
    exact ⟨fun R p q => by rw [up_or p, k2 R (by unfold OWN; omega), ul_row (by omega) (by unfold OWN; omega)]; exact f2.1 R p, fun i p q => by rw [up_ne (by omega), k2 0 (by unfold OWN; omega), ul_row (by omega) (by unfold OWN; omega)]; exact f2.2 i p q⟩
theorem GI.read {r c r2 c2 : RS} {g : CG} {B T : Nat} (h : GI r c g B T) (hR : ∀ R, R ≠ 0 → R ≠ 7 → R ≠ 8 → r2 R = r R) (h5 : r2 0 5 = r 0 5) (h22 : r2 0 22 = r 0 22) (h8 : r2 0 8 = nI 0) (hC : ∀ R, R ≠ 0 → R ≠ 4 → R ≠ 5 → R ≠ 6 → c2 R = c R) (c50 : c2 5 0 = nI 0) (c3 : c2 0 3 = c 0 3) (c4 : c2 0 4 = c 0 4) (c00 : c2 0 0 = c 0 0) (c5 : c2 0 5 = nI 0) (e1 : c2 0 1 = r2 0 15) (e2 : c2 0 2 = r2 0 16) : GI r2 c2 g B T := by
  have ox : ∀ L R, L < 12 → OWN L R → c2 R = c R := fun L R b hR' => hC R (by unfold OWN at hR'; omega) (by unfold OWN at hR'; omega) (by unfold OWN at hR'; omega) (by unfold OWN at hR'; omega)
  have tx : ∀ t, 1 ≤ t → t ≤ g.nt → c2 (500 + t) = c (500 + t) := fun t _ _ => hC _ (by omega) (by omega) (by omega) (by omega)
  refine ⟨?_, fun L hL => ?_, ?_, ?_, ⟨c50, 0, by omega, c5, h8, fun k hk => by omega⟩, ⟨e1, e2⟩, h.o.frame c00 h22, h.n⟩
  · rw [hR 1 (by decide) (by decide) (by decide)]
    exact h.l.frame (by omega) (Nat.le_refl _) (fun R q => ox 0 R (by omega) q) tx
  · rw [hC _ (by omega) (by omega) (by omega) (by omega)]; exact h.ti L hL
  · exact h.p.frame (Nat.le_refl _) (fun _ _ _ q => q) c3 c4 h5 (hR 3 (by decide) (by decide) (by decide)) (fun L R a b q => ox L R (by omega) q) tx
  · exact h.s.frame (Nat.le_refl _) (fun _ _ _ => rfl) (hR 5 (by decide) (by decide) (by decide)) (hR 4 (by decide) (by decide) (by decide)) (fun L R a b q => ox L R (by omega) q) tx
noncomputable def ordC (g : CG) (a1 : Int32) (u1 : RS) : Option RS := (C5_readText g u1).bind fun u3 => (if (u3 0 5) ≤ (u3 0 6) then (some u3) else ((C5_error g u3 (1) ((u3 0 6))).bind fun u17 => some u17) : Option (RS)).bind fun t6 => (if a1 < 30 then (some t6) else ((C5_error g t6 (4) ((t6 0 5))).bind fun u15 => some u15) : Option (RS))
noncomputable def ordW (u6 : RS) : Option RS := (F8_text u6).bind fun u8 => (if (u8 0 11) = 0 then ((F8_next u8).bind fun t30 => if t30.1 < 0 then (some t30.2) else ((F8_fails t30.2 (1 : Int32)).bind fun u33 => some u33)) else (some u8) : Option (RS)).bind fun t11 => (if (t11 0 11) = 0 then (if (t11 1 9) = 30 then ((pt t11 0 10 (t11 0 8)).bind fun u26 => (F8_fails u26 (4 : Int32)).bind fun u28 => some u28) else (some t11)) else (some t11) : Option (RS))
theorem ord_C2 {g : CG} {a1 : Int32} {u : RS} {e : Nat} (h : u 0 7 = nI e) (h1 : 1 ≤ e) (h4 : e ≤ 4) : (if a1 < 30 then (some u) else ((C5_error g u (4) ((u 0 5))).bind fun u15 => some u15) : Option (RS)) = some u := by
  rw [errC1 h h1 h4, bS, ite_self]
theorem ord_W2 {w : RS} (h : ¬ w 0 11 = (0 : Int32)) : (if (w 0 11) = 0 then (if (w 1 9) = 30 then ((pt w 0 10 (w 0 8)).bind fun u26 => (F8_fails u26 (4 : Int32)).bind fun u28 => some u28) else (some w)) else (some w) : Option (RS)) = some w := if_neg h
theorem ord2 {b : Nat → Int32} {n cm : Nat} {g : CG} {u w : RS} (hb : BB b n) (h : OKs b n 0 u w) (h50 : u 5 0 = nI 0) (hcm : cm ≤ 30) (h19 : w 1 9 = nI cm) : ∃ u' w', ordC g (nI cm) u = some u' ∧ ordW w = some w' ∧ XC g.nt u' u ∧ XW w' w ∧ (∀ R, 10 ≤ R → u' R = u R) ∧ w' 1 = w 1 ∧ ((u' 0 7 = nI 0 ∧ w' 0 11 = nI 0 ∧ cm < 30 ∧ ∃ len, 1 ≤ len ∧ RT u' w' 0 len (fun _ => 0) (fun _ => 0)) ∨ EE u' w') := by
  have hn := hb.1
  obtain ⟨u1, w1, f1, f2, f3, f4, f5, f6, f7⟩ := text2 (g := g) hb h h50
  unfold ordC ordW
  rw [f1, f2, bS, bS]
  rcases f7 with ⟨i', len, r1, r2, r3, r4, r5⟩ | q | ⟨⟨z1, z2, i2, z3, z4, z5, z6, z7, z8, z9, z10, z11⟩, len, r2, r3⟩
  · obtain ⟨o1, o2, o3, o4, o5, o6, o7⟩ := r2
    have hsk : SK b n i' = i' := SK_id (by omega)
    have hch := ch_le (i := i') hb
    have k2 := nextW hb o2 o5 o3
    rw [hsk, up_id o5] at k2
    have fw : FW (up w1 0 10 (nI i')) w1 := FW.up (by omega)
    have hW : TW b n (up w1 0 10 (nI i')) := o2.fr fw
    have w10 : up w1 0 10 (nI i') 0 10 = nI i' := up_eq
    have w11 : up w1 0 10 (nI i') 0 11 = nI 0 := by rw [up_ne (by omega)]; exact o7
    have w19 : up w1 0 10 (nI i') 1 9 = nI cm := by rw [up_ne (by omega), f6]; exact h19
    rw [if_pos (show w1 0 11 = (0 : Int32) from o7), k2, bS]
    dsimp only
    have rtW := r5.fr FC.rfl fw
    generalize up w1 0 10 (nI i') = W at *
    by_cases c : ch b n i' = 256
    · have hin : n ≤ i' := by
        by_cases q : i' < n
        · have := (cd_spec (hb.2 i' q)).2.1
          rw [ch_i q] at c; omega
        · omega
      rw [if_pos (show u1 0 5 ≤ u1 0 6 by rw [o1.1, o4]; exact nI_le hin (by omega)), bS, c, if_pos (show hv 256 < (0 : Int32) by decide), bS]
      rw [if_pos (show W 0 11 = (0 : Int32) from w11), w19]
      by_cases d : cm < 30
      · rw [if_pos (show nI cm < (30 : Int32) from nI_lt (b := 30) d (by omega)), if_neg (show ¬ nI cm = (30 : Int32) from nI_ne (b := 30) (by omega) (by omega) (by omega))]
        exact ⟨u1, W, rfl, rfl, f3, fw.w1.x.trans f4, f5, (fw.1 1 (by decide)).trans f6, Or.inl ⟨o6, w11, d, len, r4, rtW⟩⟩
      · have e30 : cm = 30 := by omega
        obtain ⟨u', w', e1, e2, e3, e4, e5⟩ := err2 (g := g) (u := u1) (w := up W 0 10 (nI n)) (e := 4) (p := n) o1 (hW.fr (FW.up (by omega))) o3 o4 o6 (by rw [up_ne (by omega)]; exact w11) up_eq (by omega) (by omega) (by omega)
        have e1' : C5_error g u1 (4 : Int32) (nI n) = some u' := e1
        have e2' : F8_fails (up W 0 10 (nI n)) (4 : Int32) = some w' := e2
        rw [e30, if_neg (show ¬ nI 30 < (30 : Int32) by decide), o1.1, e1', bS, if_pos (show nI 30 = (30 : Int32) from rfl), hW.1, pt_n, bS, e2', bS]
        have fw2 : FW w' w1 := e5.trans ((FW.up (by omega)).trans fw)
        exact ⟨u', w', rfl, rfl, e4.x.trans f3 (Nat.le_refl _), fw2.w1.x.trans f4, fun R hR => (e4.1 R (by omega)).trans (f5 R hR), (fw2.1 1 (by decide)).trans f6, Or.inr e3.ee⟩
    · have c59 : ch b n i' = 59 := by omega
      have hin : i' < n := ch_lt (b := b) (by omega)
      obtain ⟨u', w', e1, e2, e3, e4, e5⟩ := err2 (g := g) (u := u1) (w := W) (e := 1) (p := i') o1 hW o3 o4 o6 w11 w10 (by omega) (by omega) (by omega)
      have e1' : C5_error g u1 (1 : Int32) (nI i') = some u' := e1
      have e2' : F8_fails W (1 : Int32) = some w' := e2
      obtain ⟨e, p, q1, q4, -, q7, -⟩ := e3.ee
      rw [if_neg (show ¬ u1 0 5 ≤ u1 0 6 by rw [o1.1, o4]; exact nI_ge hin (by omega)), o4, e1', bS, bS, ord_C2 q7 q1 q4, c59, if_neg (show ¬ hv 59 < (0 : Int32) by decide), e2', bS, bS, ord_W2 e3.ne.1]
      have fw2 : FW w' w1 := e5.trans fw
      exact ⟨u', w', rfl, rfl, e4.x.trans f3 (Nat.le_refl _), fw2.w1.x.trans f4, fun R hR => (e4.1 R (by omega)).trans (f5 R hR), (fw2.1 1 (by decide)).trans f6, Or.inr e3.ee⟩
  · obtain ⟨e, p, q1, q4, -, q7, -⟩ := q.ee
    rw [if_neg q.ne.1, bS, ord_W2 q.ne.1, errC1 q7 q1 q4, bS, ite_self, bS, ord_C2 q7 q1 q4]
    exact ⟨u1, w1, rfl, rfl, f3, f4, f5, f6, Or.inr q.ee⟩
  · have k2 := nextW hb z2 z10 z3
    have hch := ch_le (i := i2) hb
    rw [SK_id z6, up_id z10] at k2
    have hh : hv (ch b n i2) = nI (ch b n i2) := (hv_eq hch (by omega)).mpr rfl
    have w11 : up w1 0 10 (nI i2) 0 11 = nI 0 := by rw [up_ne (by omega)]; exact z11
    have ef := failW0 (e := (1 : Int32)) w11
    rw [up_eq] at ef
    have fw : FW (up (up (up w1 0 10 (nI i2)) 0 11 1) 0 12 (nI i2)) w1 := (FW.up (by omega)).trans ((FW.up (by omega)).trans (FW.up (by omega)))
    have x11 : up (up (up w1 0 10 (nI i2)) 0 11 1) 0 12 (nI i2) 0 11 = nI 1 := by rw [up_ne (by omega), up_eq]; rfl
    have x12 : up (up (up w1 0 10 (nI i2)) 0 11 1) 0 12 (nI i2) 0 12 = nI i2 := up_eq
    rw [if_pos (show w1 0 11 = (0 : Int32) from z11), k2, bS]
    dsimp only
    rw [hh, if_neg (show ¬ nI (ch b n i2) < (0 : Int32) from nI_nlt (a := ch b n i2) (b := 0) (by omega) (by omega)), ef, bS, bS]
    generalize up (up (up w1 0 10 (nI i2)) 0 11 1) 0 12 (nI i2) = W at *
    rw [ord_W2 (show ¬ W 0 11 = (0 : Int32) by rw [x11]; exact nz0), errC1 z8 (by omega) (by omega), bS, ite_self, bS, ord_C2 z8 (by omega) (by omega)]
    exact ⟨u1, W, rfl, rfl, f3, fw.w1.x.trans f4, f5, (fw.1 1 (by decide)).trans f6, Or.inr ⟨1, i2, by omega, by omega, by omega, z8, x11, z9, x12⟩⟩
theorem a_order {r c : RS} {g : CG} {B T : Nat} {a : Int32} (h : GI r c g B T) (hT : T + 1 ≤ 999999) : AT (F8_order r a) (C7_order g c a) r 0 B (T + 1) := by
  obtain ⟨sm, lm, cm, h0⟩ := h.l
  have hlm := h0.a.lm6
  have hcm := h0.a.cm30
  have hgn := h.n
  obtain ⟨z5, n, b1, b2, b3, b4⟩ := h.b
  have hb : BB (c 3) n := ⟨b1, fun k hk => (b4 k hk).2⟩
  unfold F8_order C7_order
  rcases argLo (r := r) (c := c) (g := g) (a := a) (n := lm) (by omega) h0.v8 h0.n8 with ⟨l, s1, rfl, s2, s3⟩ | ⟨s2, s3⟩
  · have i1 : F8_isThrown r (nI 1) (1 : Int32) = some (nI 0, th r 0) := isThrown_1
    rw [s2, bS, i1, bS, s3, bS, trR]
    dsimp only
    rw [if_pos (show nI 0 = (0 : Int32) from rfl)]
    have eS : F8_starts (th r 0) = some (up (up (up (up (th r 0) 0 6 0) 0 9 0) 0 11 0) 0 13 0) := by
      unfold F8_starts
      rw [pt_n, bS, pt_n, bS, pt_n, bS, pt_n, bS]
    have s6 : up (up (up (up (th r 0) 0 6 0) 0 9 0) 0 11 0) 0 13 0 0 6 = nI 0 := by rw [up_ne (by omega), up_ne (by omega), up_ne (by omega), up_eq]; rfl
    have s9 : up (up (up (up (th r 0) 0 6 0) 0 9 0) 0 11 0) 0 13 0 0 9 = nI 0 := by rw [up_ne (by omega), up_ne (by omega), up_eq]; rfl
    have s11 : up (up (up (up (th r 0) 0 6 0) 0 9 0) 0 11 0) 0 13 0 0 11 = nI 0 := by rw [up_ne (by omega), up_eq]; rfl
    have s13 : up (up (up (up (th r 0) 0 6 0) 0 9 0) 0 11 0) 0 13 0 0 13 = nI 0 := by rw [up_eq]; rfl
    have sR : ∀ R, R ≠ 0 → up (up (up (up (th r 0) 0 6 0) 0 9 0) 0 11 0) 0 13 0 R = r R := fun R hR => by rw [up_or hR, up_or hR, up_or hR, up_or hR, th_o hR]
    have s0 : ∀ i, i ≠ 6 → i ≠ 9 → i ≠ 11 → i ≠ 13 → up (up (up (up (th r 0) 0 6 0) 0 9 0) 0 11 0) 0 13 0 0 i = r 0 i := fun i p q s t => by rw [up_ne (by omega), up_ne (by omega), up_ne (by omega), up_ne (by omega), th_0 p]
    generalize up (up (up (up (th r 0) 0 6 0) 0 9 0) 0 11 0) 0 13 0 = w1 at *
    have eT : C5_start g c = some (up (up (up (up c 0 6 0) 0 7 0) 0 8 0) 0 9 0) := by
      unfold C5_start
      rw [pt_n, bS, pt_n, bS, pt_n, bS, pt_n, bS]
    have c6 : up (up (up (up c 0 6 0) 0 7 0) 0 8 0) 0 9 0 0 6 = nI 0 := by rw [up_ne (by omega), up_ne (by omega), up_ne (by omega), up_eq]; rfl
    have c7 : up (up (up (up c 0 6 0) 0 7 0) 0 8 0) 0 9 0 0 7 = nI 0 := by rw [up_ne (by omega), up_ne (by omega), up_eq]; rfl
    have c9 : up (up (up (up c 0 6 0) 0 7 0) 0 8 0) 0 9 0 0 9 = nI 0 := by rw [up_eq]; rfl
    have cR : ∀ R, R ≠ 0 → up (up (up (up c 0 6 0) 0 7 0) 0 8 0) 0 9 0 R = c R := fun R hR => by rw [up_or hR, up_or hR, up_or hR, up_or hR]
    have c0 : ∀ i, i ≠ 6 → i ≠ 7 → i ≠ 8 → i ≠ 9 → up (up (up (up c 0 6 0) 0 7 0) 0 8 0) 0 9 0 0 i = c 0 i := fun i p q s t => by rw [up_ne (by omega), up_ne (by omega), up_ne (by omega), up_ne (by omega)]
    generalize up (up (up (up c 0 6 0) 0 7 0) 0 8 0) 0 9 0 = u1 at *
    have hok : OKs (c 3) n 0 u1 w1 := by
      refine ⟨⟨by rw [c0 5 (by decide) (by decide) (by decide) (by decide)]; exact b2, fun k hk => by rw [cR 3 (by decide)]⟩, ⟨?_, fun k hk => ?_⟩, Nat.zero_le _, c6, s9, c7, s11⟩
      · rw [s0 8 (by decide) (by decide) (by decide) (by decide)]; exact b3
      · rw [sR 6 (by decide)]; exact (b4 k hk).1.symm
    have w19 : w1 1 9 = nI cm := by rw [sR 1 (by decide)]; exact h0.v9
    obtain ⟨u', w', x1, x2, x3, x4, x5, x6, x7⟩ := ord2 (g := g) (cm := cm) hb hok (by rw [cR 5 (by decide)]; exact z5) hcm w19
    have k9 : c (10 + 0) 9 = nI cm := h0.n9
    have eO : C5_readOrder g c (c (10 + 0) 9) = some (up u' 0 5 0) := by
      unfold C5_readOrder
      rw [eT, bS, k9]
      unfold ordC at x1
      obtain ⟨u3, y1, x1⟩ := ob x1
      obtain ⟨u4, y2, x1⟩ := ob x1
      rw [y1, bS, y2, bS, x1, bS, pt_n, bS]
    have eX : ∀ {α : Type} (K : RS → Option α), ((F8_text w1).bind fun u8 => (if (u8 0 11) = 0 then ((F8_next u8).bind fun t30 => if t30.1 < 0 then (some t30.2) else ((F8_fails t30.2 (1 : Int32)).bind fun u33 => some u33)) else (some u8) : Option (RS)).bind fun t11 => (if (t11 0 11) = 0 then (if (t11 1 9) = 30 then ((pt t11 0 10 (t11 0 8)).bind fun u26 => (F8_fails u26 (4 : Int32)).bind fun u28 => some u28) else (some t11)) else (some t11) : Option (RS)).bind K) = K w' := fun K => by
      unfold ordW at x2
      obtain ⟨u3, y1, x2⟩ := ob x2
      obtain ⟨u4, y2, x2⟩ := ob x2
      rw [y1, bS, y2, bS, x2, bS]
    rw [eS, bS, eX, eO, bS]
    have cr : ∀ R, R ≠ 0 → R ≠ 4 → R ≠ 5 → R ≠ 6 → u' R = c R := fun R p q s t => by
      by_cases e : 10 ≤ R
      · exact (x5 R e).trans (cR R p)
      · exact (x3.1 R p q s t (by unfold OWN; omega) (by omega)).trans (cR R p)
    have cz : ∀ i, i ≠ 6 → i ≠ 7 → i ≠ 8 → i ≠ 9 → i ≠ 10 → i ≠ 11 → u' 0 i = c 0 i := fun i p q s t a b => (x3.2.1 i p q s a b).trans (c0 i p q s t)
    have u50 : u' 5 0 = nI 0 := by rw [x3.2.2, cR 5 (by decide)]; exact z5
    have wr : ∀ R, R ≠ 0 → R ≠ 7 → R ≠ 8 → w' R = r R := fun R p q s => by
      by_cases e : R = 1
      · rw [e, x6]; exact sR 1 (by decide)
      · exact (x4.1 R p e q s).trans (sR R p)
    have wz : ∀ i, i ≠ 6 → i ≠ 9 → i ≠ 10 → i ≠ 11 → i ≠ 12 → i ≠ 13 → i ≠ 14 → i ≠ 19 → w' 0 i = r 0 i := fun i o p q s t a b d => by rw [x4.2 i p q s t b d]; exact s0 i o p s a
    have w6 : w' 0 6 = nI 0 := by rw [x4.2 6 (by decide) (by decide) (by decide) (by decide) (by decide) (by decide)]; exact s6
    have w13 : w' 0 13 = nI 0 := by rw [x4.2 13 (by decide) (by decide) (by decide) (by decide) (by decide) (by decide)]; exact s13
    have u9 : u' 0 9 = nI 0 := by rw [x3.2.1 9 (by decide) (by decide) (by decide) (by decide) (by decide)]; exact c9
    rcases x7 with ⟨y1, y2, y3, len, y4, y5⟩ | ⟨e, p, e1, e2, e3, e4, e5, e6, e7⟩
    · have eN : F8_settles w' = some (up (up (up w' 0 8 0) 0 15 (nI 0)) 0 16 (-1)) := by
        unfold F8_settles
        rw [pt_n, bS, up_ne (show ¬ (0 = 0 ∧ 11 = 8) by omega), y2, pt_n, bS, up_ne (show ¬ (0 = 0 ∧ 11 = 15) by omega), up_ne (show ¬ (0 = 0 ∧ 11 = 8) by omega), y2, if_pos (show nI 0 = (0 : Int32) from rfl), bS, pt_n, bS]
      have eK : C7_keepResult g (up u' 0 5 0) = some (up (up (up u' 0 5 0) 0 1 (nI 0)) 0 2 (-1)) := by
        unfold C7_keepResult
        rw [up_ne (show ¬ (0 = 0 ∧ 7 = 5) by omega), y1, pt_n, bS, up_eq, if_pos (show nI 0 = (0 : Int32) from rfl), bS, pt_n, bS]
      have kR : ∀ R, R ≠ 0 → up (up (up u' 0 5 0) 0 1 (nI 0)) 0 2 (-1) R = u' R := fun R hR => by rw [up_or hR, up_or hR, up_or hR]
      have k1 : up (up (up u' 0 5 0) 0 1 (nI 0)) 0 2 (-1) 0 1 = nI 0 := by rw [up_ne (by omega), up_eq]
      have k2 : up (up (up u' 0 5 0) 0 1 (nI 0)) 0 2 (-1) 0 2 = -1 := up_eq
      have k5 : up (up (up u' 0 5 0) 0 1 (nI 0)) 0 2 (-1) 0 5 = nI 0 := by rw [up_ne (by omega), up_ne (by omega), up_eq]; rfl
      have k0 : ∀ i, i ≠ 1 → i ≠ 2 → i ≠ 5 → up (up (up u' 0 5 0) 0 1 (nI 0)) 0 2 (-1) 0 i = u' 0 i := fun i p q s => by rw [up_ne (by omega), up_ne (by omega), up_ne (by omega)]
      generalize up (up (up u' 0 5 0) 0 1 (nI 0)) 0 2 (-1) = U at *
      have v11 : up (up (up w' 0 8 0) 0 15 (nI 0)) 0 16 (-1) 0 11 = nI 0 := by rw [up_ne (by omega), up_ne (by omega), up_ne (by omega)]; exact y2
      have v15 : up (up (up w' 0 8 0) 0 15 (nI 0)) 0 16 (-1) 0 15 = nI 0 := by rw [up_ne (by omega), up_eq]
      have v16 : up (up (up w' 0 8 0) 0 15 (nI 0)) 0 16 (-1) 0 16 = -1 := up_eq
      have v8 : up (up (up w' 0 8 0) 0 15 (nI 0)) 0 16 (-1) 0 8 = nI 0 := by rw [up_ne (by omega), up_ne (by omega), up_eq]; rfl
      have vR : ∀ R, R ≠ 0 → up (up (up w' 0 8 0) 0 15 (nI 0)) 0 16 (-1) R = w' R := fun R hR => by rw [up_or hR, up_or hR, up_or hR]
      have v0 : ∀ i, i ≠ 8 → i ≠ 15 → i ≠ 16 → up (up (up w' 0 8 0) 0 15 (nI 0)) 0 16 (-1) 0 i = w' 0 i := fun i p q s => by rw [up_ne (by omega), up_ne (by omega), up_ne (by omega)]
      generalize up (up (up w' 0 8 0) 0 15 (nI 0)) 0 16 (-1) = W at *
      have hG : GI W U g B T := h.read (fun R p q s => (vR R p).trans (wr R p q s)) (by rw [v0 5 (by decide) (by decide) (by decide)]; exact wz 5 (by decide) (by decide) (by decide) (by decide) (by decide) (by decide) (by decide) (by decide)) (by rw [v0 22 (by decide) (by decide) (by decide)]; exact wz 22 (by decide) (by decide) (by decide) (by decide) (by decide) (by decide) (by decide) (by decide)) v8 (fun R p q s t => (kR R p).trans (cr R p q s t)) (by rw [kR 5 (by decide)]; exact u50) (by rw [k0 3 (by decide) (by decide) (by decide)]; exact cz 3 (by decide) (by decide) (by decide) (by decide) (by decide) (by decide)) (by rw [k0 4 (by decide) (by decide) (by decide)]; exact cz 4 (by decide) (by decide) (by decide) (by decide) (by decide) (by decide)) (by rw [k0 0 (by decide) (by decide) (by decide)]; exact cz 0 (by decide) (by decide) (by decide) (by decide) (by decide) (by decide)) k5 (by rw [k1, v15]) (by rw [k2, v16])
      have hq : QY U g 0 (W 1) sm lm cm B B := by
        rw [vR 1 (by decide), wr 1 (by decide) (by decide) (by decide)]
        exact QY.frame (by omega) h0 (Nat.le_refl _) (fun R hR => (kR R (by unfold OWN at hR; omega)).trans (cr R (by unfold OWN at hR; omega) (by unfold OWN at hR; omega) (by unfold OWN at hR; omega) (by unfold OWN at hR; omega))) (fun t _ _ => (kR _ (by omega)).trans (cr _ (by omega) (by omega) (by omega) (by omega)))
      obtain ⟨r3, c3, g3, m1', m2', m3, m4, m5⟩ := keeps_ok hG hq
      have rf := remF hG m2'
      have h16 : len ≤ 16 := by have := y5.2.2.2.2.2.2.2.1; omega
      have hlet := y5.2.2.2.2.2.2.2.2.2.2
      have l10 : c3 0 10 = nI len := by rw [rf.2 10 (by decide) (by decide), k0 10 (by decide) (by decide) (by decide)]; exact y5.2.2.1
      have l19 : r3 0 19 = nI len := by rw [m5.2.2.1 19 (by decide), v0 19 (by decide) (by decide) (by decide)]; exact y5.2.2.2.1
      have c34 : c3 4 = u' 4 := (rf.1 4 (by decide) (by decide)).trans (kR 4 (by decide))
      have r37 : r3 7 = w' 7 := (m5.2.1 7 (by decide) (by decide)).trans (vR 7 (by decide))
      have hTI3 : TI g3 c3 := TI_n.mpr m3.ti
      have hn3 : g3.nt = g.nt := m5.1
      obtain ⟨c4, n1, n2⟩ := copyText (g := g3) (u := c3) (len := len) h16 l10 (fun k hk => by
        obtain ⟨q1, a, q2, q3⟩ := hlet k hk
        exact ⟨a, q2, by rw [c34]; exact q1.trans q3⟩) (by omega) hTI3
      have hq4 : QY c4 (ga g3) 0 (r3 1) sm lm cm B B := QY.frame (g2 := ga g3) (by omega) m4 (Nat.le_succ _) (fun R hR => n2.2.2 R (by unfold OWN at hR; omega)) (fun t _ z => n2.2.2 _ (by omega))
      have gn : (ga g3).nt = g3.nt + 1 := rfl
      have gp : (ga g3).pl = g3.pl := rfl
      obtain ⟨r4, c5, a1, a2, a3, a4, a5, a6, a7, a8, a9, a10⟩ := add_ok2 (r := r3) (c := c4) (g := ga g3) (L := 0) (l := l) (t := g3.nt + 1) (len := len) (by omega) hq4 y3 s1 y4 h16 l19 (by omega) (Nat.le_refl _) (by omega) n2.1 (fun k hk => by rw [n2.2.1 k hk, c34, r37]; exact hlet k hk)
      rw [eN, bS, eK, bS, if_pos (show W 0 11 = (0 : Int32) from v11), if_pos (show U 0 1 = (0 : Int32) from k1), m1', bS, a1, bS, m2', bS]
      dsimp only
      rw [n1, bS]
      dsimp only
      rw [a2, bS]
      have n0 : ¬ OWN 0 0 := by unfold OWN; omega
      have cc : ∀ R, ¬ OWN 0 R → R ≠ 500 + (g3.nt + 1) → c5 R = c3 R := fun R p q => (a4 R p).trans (n2.2.2 R q)
      have ox : ∀ L R, L ≠ 0 → L < 12 → OWN L R → c5 R = c3 R := fun L R p q hR => cc R (by unfold OWN at hR ⊢; omega) (by unfold OWN at hR; omega)
      have tx : ∀ t, 1 ≤ t → t ≤ g3.nt → c5 (500 + t) = c3 (500 + t) := fun t p q => cc _ (by unfold OWN; omega) (by omega)
      have c5z : c5 0 = c3 0 := cc 0 n0 (by omega)
      have r4z : r4 0 = r3 0 := a3 0 (by decide)
      refine Or.inl ⟨_, r4, c5, ga g3, rfl, by rw [a6, a7], ⟨⟨sm, lm, cm + 1, a5⟩, fun L hL => ?_, ?_, ?_, ?_, ?_, ?_, ?_⟩, ?_⟩
      · rw [gn]
        by_cases e : L = 0
        · subst e
          exact TIr_of a5
        · rw [ox L _ e hL (by unfold OWN; omega)]; exact (m3.ti L hL).mono (Nat.le_succ _)
      · exact m3.p.frame (Nat.le_succ _) (fun _ _ _ q => q) (by rw [c5z]) (by rw [c5z]) (by rw [r4z]) (a3 3 (by decide)) (fun L R p q hR => ox L R (by omega) (by omega) hR) tx
      · exact m3.s.frame (Nat.le_succ _) (fun _ _ _ => rfl) (a3 5 (by decide)) (a3 4 (by decide)) (fun L R p q hR => ox L R (by omega) (by omega) hR) tx
      · exact m3.b.frame (by rw [c5z]) (by rw [r4z]) (cc 3 (by unfold OWN; omega) (by omega)) (a3 6 (by decide)) (cc 5 (by unfold OWN; omega) (by omega))
      · exact m3.e.frame (by rw [c5z]) (by rw [c5z]) (by rw [r4z]) (by rw [r4z])
      · exact m3.o.frame (by rw [c5z]) (by rw [r4z])
      · rw [gn]; have := m3.n; omega
      · rw [r4z, m5.2.2.1 6 (by decide), v0 6 (by decide) (by decide) (by decide)]; exact w6
    · have en0 : ¬ nI e = (0 : Int32) := nI_ne (b := 0) (by omega) (by omega) (by omega)
      have eN : F8_settles w' = some (up (up (up w' 0 8 0) 0 15 (nI e)) 0 16 (nI 0)) := by
        unfold F8_settles
        rw [pt_n, bS, up_ne (show ¬ (0 = 0 ∧ 11 = 8) by omega), e5, pt_n, bS, up_ne (show ¬ (0 = 0 ∧ 11 = 15) by omega), up_ne (show ¬ (0 = 0 ∧ 11 = 8) by omega), e5, if_neg en0, bS, up_ne (show ¬ (0 = 0 ∧ 13 = 15) by omega), up_ne (show ¬ (0 = 0 ∧ 13 = 8) by omega), w13, pt_n, bS]
      have eK : C7_keepResult g (up u' 0 5 0) = some (up (up (up u' 0 5 0) 0 1 (nI e)) 0 2 (nI 0)) := by
        unfold C7_keepResult
        rw [up_ne (show ¬ (0 = 0 ∧ 7 = 5) by omega), e4, pt_n, bS, up_eq, if_neg en0, bS, up_ne (show ¬ (0 = 0 ∧ 9 = 1) by omega), up_ne (show ¬ (0 = 0 ∧ 9 = 5) by omega), u9, pt_n, bS]
      have kR : ∀ R, R ≠ 0 → up (up (up u' 0 5 0) 0 1 (nI e)) 0 2 (nI 0) R = u' R := fun R hR => by rw [up_or hR, up_or hR, up_or hR]
      have k1 : up (up (up u' 0 5 0) 0 1 (nI e)) 0 2 (nI 0) 0 1 = nI e := by rw [up_ne (by omega), up_eq]
      have k2 : up (up (up u' 0 5 0) 0 1 (nI e)) 0 2 (nI 0) 0 2 = nI 0 := up_eq
      have k5 : up (up (up u' 0 5 0) 0 1 (nI e)) 0 2 (nI 0) 0 5 = nI 0 := by rw [up_ne (by omega), up_ne (by omega), up_eq]; rfl
      have k8 : up (up (up u' 0 5 0) 0 1 (nI e)) 0 2 (nI 0) 0 8 = nI p := by rw [up_ne (by omega), up_ne (by omega), up_ne (by omega)]; exact e6
      have k0 : ∀ i, i ≠ 1 → i ≠ 2 → i ≠ 5 → up (up (up u' 0 5 0) 0 1 (nI e)) 0 2 (nI 0) 0 i = u' 0 i := fun i p q s => by rw [up_ne (by omega), up_ne (by omega), up_ne (by omega)]
      generalize up (up (up u' 0 5 0) 0 1 (nI e)) 0 2 (nI 0) = U at *
      have v11 : up (up (up w' 0 8 0) 0 15 (nI e)) 0 16 (nI 0) 0 11 = nI e := by rw [up_ne (by omega), up_ne (by omega), up_ne (by omega)]; exact e5
      have v12 : up (up (up w' 0 8 0) 0 15 (nI e)) 0 16 (nI 0) 0 12 = nI p := by rw [up_ne (by omega), up_ne (by omega), up_ne (by omega)]; exact e7
      have v15 : up (up (up w' 0 8 0) 0 15 (nI e)) 0 16 (nI 0) 0 15 = nI e := by rw [up_ne (by omega), up_eq]
      have v16 : up (up (up w' 0 8 0) 0 15 (nI e)) 0 16 (nI 0) 0 16 = nI 0 := up_eq
      have v8 : up (up (up w' 0 8 0) 0 15 (nI e)) 0 16 (nI 0) 0 8 = nI 0 := by rw [up_ne (by omega), up_ne (by omega), up_eq]; rfl
      have vR : ∀ R, R ≠ 0 → up (up (up w' 0 8 0) 0 15 (nI e)) 0 16 (nI 0) R = w' R := fun R hR => by rw [up_or hR, up_or hR, up_or hR]
      have v0 : ∀ i, i ≠ 8 → i ≠ 15 → i ≠ 16 → up (up (up w' 0 8 0) 0 15 (nI e)) 0 16 (nI 0) 0 i = w' 0 i := fun i p q s => by rw [up_ne (by omega), up_ne (by omega), up_ne (by omega)]
      generalize up (up (up w' 0 8 0) 0 15 (nI e)) 0 16 (nI 0) = W at *
      have hG : GI W U g B T := h.read (fun R p q s => (vR R p).trans (wr R p q s)) (by rw [v0 5 (by decide) (by decide) (by decide)]; exact wz 5 (by decide) (by decide) (by decide) (by decide) (by decide) (by decide) (by decide) (by decide)) (by rw [v0 22 (by decide) (by decide) (by decide)]; exact wz 22 (by decide) (by decide) (by decide) (by decide) (by decide) (by decide) (by decide) (by decide)) v8 (fun R p q s t => (kR R p).trans (cr R p q s t)) (by rw [kR 5 (by decide)]; exact u50) (by rw [k0 3 (by decide) (by decide) (by decide)]; exact cz 3 (by decide) (by decide) (by decide) (by decide) (by decide) (by decide)) (by rw [k0 4 (by decide) (by decide) (by decide)]; exact cz 4 (by decide) (by decide) (by decide) (by decide) (by decide) (by decide)) (by rw [k0 0 (by decide) (by decide) (by decide)]; exact cz 0 (by decide) (by decide) (by decide) (by decide) (by decide) (by decide)) k5 (by rw [k1, v15]) (by rw [k2, v16])
      rw [eN, bS, eK, bS, if_neg (show ¬ W 0 11 = (0 : Int32) by rw [v11]; exact en0), if_neg (show ¬ U 0 1 = (0 : Int32) by rw [k1]; exact en0)]
      exact Or.inl ⟨_, W, U, g, rfl, by rw [v12, k8], hG.mono (Nat.le_refl _) h0.a.bb (Nat.le_succ _), by rw [v0 6 (by decide) (by decide) (by decide)]; exact w6⟩
  · have i0 : F8_isThrown r (nI 0) (1 : Int32) = some (nI 1, th r 1) := isThrown_0 (n := 1)
    rw [s2, bS, i0, bS, s3, bS, trL]
    dsimp only
    rw [if_neg (show ¬ nI 1 = (0 : Int32) from nz0)]
    exact Or.inr ⟨1, by omega, by omega, rfl, rfl⟩
end
