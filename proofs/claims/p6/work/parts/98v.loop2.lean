noncomputable def EE (u w : RS) : Prop := ∃ e p, 1 ≤ e ∧ e ≤ 4 ∧ p ≤ 600 ∧ u 0 7 = nI e ∧ w 0 11 = nI e ∧ u 0 8 = nI p ∧ w 0 12 = nI p
theorem ERs.ee {b : Nat → Int32} {n : Nat} {u w : RS} (h : ERs b n u w) : EE u w := by
  obtain ⟨-, -, -, e, p, h1, h2, h3, h4, h5, h6, h7⟩ := h
  exact ⟨e, p, h1, h2, h3, h4, h5, h6, h7⟩
noncomputable def FWs (w' w : RS) : Prop := (∀ R, R ≠ 0 → w' R = w R) ∧ ∀ i, i ≠ 9 → i ≠ 10 → i ≠ 11 → i ≠ 12 → i ≠ 13 → w' 0 i = w 0 i
theorem FW.s {w' w : RS} (h : FW w' w) : FWs w' w := ⟨h.1, fun i a b c d _ => h.2 i a b c d⟩
theorem semiO {b : Nat → Int32} {n i k : Nat} {g : CG} {u w : RS} (hb : BB b n) (h : OKs b n i u w) (h13 : w 0 13 = nI k) : (∃ i' u' w', i < i' ∧ C5_readSemicolon g u = some ((1 : Int32), u') ∧ F8_isMore w = some ((1 : Int32), w') ∧ OKs b n i' u' w' ∧ FC u' u ∧ FWs w' w ∧ w' 0 13 = nI (k + 1)) ∨ (∃ u' w', C5_readSemicolon g u = some ((0 : Int32), u') ∧ F8_isMore w = some ((0 : Int32), w') ∧ FC u' u ∧ FW w' w ∧ ((u' 0 7 = nI 0 ∧ w' 0 11 = nI 0) ∨ EE u' w')) := by
  have hn := hb.1
  obtain ⟨o1, o2, o3, o4, o5, o6, o7⟩ := h
  have hs := SK_le (b := b) o3
  have k1 := skipC (g := g) hb o1 o4 o3
  have k2 := nextW hb o2 o5 o3
  have hch := ch_le (i := SK b n i) hb
  generalize SK b n i = s at *
  have hT : TC b n (up u 0 6 (nI s)) := o1.fr (FC.up (by omega))
  have hW : TW b n (up (up w 0 9 (nI s)) 0 10 (nI s)) := (o2.fr (FW.up (by omega))).fr (FW.up (by omega))
  have w9 : up (up w 0 9 (nI s)) 0 10 (nI s) 0 9 = nI s := by rw [up_ne (by omega), up_eq]
  have u6 : up u 0 6 (nI s) 0 6 = nI s := up_eq
  have u7 : up u 0 6 (nI s) 0 7 = nI 0 := by rw [up_ne (by omega)]; exact o6
  have w10 : up (up w 0 9 (nI s)) 0 10 (nI s) 0 10 = nI s := up_eq
  have w11 : up (up w 0 9 (nI s)) 0 10 (nI s) 0 11 = nI 0 := by rw [up_ne (by omega), up_ne (by omega)]; exact o7
  have w13 : up (up w 0 9 (nI s)) 0 10 (nI s) 0 13 = nI k := by rw [up_ne (by omega), up_ne (by omega)]; exact h13
  have fu : FC (up u 0 6 (nI s)) u := FC.up (by omega)
  have fw : FW (up (up w 0 9 (nI s)) 0 10 (nI s)) w := (FW.up (by omega)).trans (FW.up (by omega))
  have k3 := here_ok hb hW w9 hs.2
  unfold C5_readSemicolon F8_isMore
  rw [k1, bS, if_pos (show w 0 11 = (0 : Int32) from o7), k2, bS]
  dsimp only
  generalize up u 0 6 (nI s) = U at *
  generalize up (up w 0 9 (nI s)) 0 10 (nI s) = W at *
  rw [fineC0 u7, bS, if_neg (show ¬ nI 1 = (0 : Int32) from nz0)]
  by_cases c : s < n
  · have hcd := (cd_spec (hb.2 s c)).2.1
    have hh : hv (ch b n s) = nI (ch b n s) := (hv_eq hch (by rw [ch_i c]; omega)).mpr rfl
    have h59 := b_eq (hb.2 s c) (c := 59) (by omega)
    rw [if_pos (show U 0 6 < U 0 5 by rw [u6, hT.1]; exact nI_lt c (by omega)), u6, rd_n (by omega) (by omega), bS, hT.2 s c, if_pos (show (0 : Int32) ≤ hv (ch b n s) by rw [hh]; exact nI_le (a := 0) (by omega) (by rw [ch_i c]; omega)), k3, bS]
    by_cases d : ch b n s = 59
    · rw [ch_i c] at d
      rw [if_pos (show b s = (59 : Int32) from h59.mpr d), if_pos (show hv (ch b n s) = (59 : Int32) by rw [hh, ch_i c, d]; rfl), pt_n, bS, pt_n, bS, pt_n, bS, w9, up_ne (show ¬ (0 = 0 ∧ 13 = 9) by omega), w13, show nI s + 1 = nI (s + 1) from nI_add s 1, show nI k + 1 = nI (k + 1) from nI_add k 1]
      refine Or.inl ⟨s + 1, _, _, by omega, rfl, rfl, ⟨hT.fr (FC.up (by omega)), ⟨?_, fun j hj => ?_⟩, by omega, up_eq, ?_, ?_, ?_⟩, (FC.up (by omega)).trans fu, ⟨fun R p => ?_, fun j p q r t y => ?_⟩, up_eq⟩
      · rw [up_ne (by omega), up_ne (by omega)]; exact hW.1
      · rw [up_ne (by omega), up_ne (by omega)]; exact hW.2 j hj
      · rw [up_ne (by omega), up_eq]
      · rw [up_ne (by omega)]; exact u7
      · rw [up_ne (by omega), up_ne (by omega)]; exact w11
      · rw [up_or p, up_or p]; exact fw.1 R p
      · rw [up_ne (by omega), up_ne (by omega)]; exact fw.2 j p q r t
    · obtain ⟨u', w', e1, e2, e3, e4, e5⟩ := err2 (g := g) (e := 1) hT hW hs.2 u6 u7 w11 w10 (by omega) (by omega) (by omega)
      have e1' : C5_error g U (1 : Int32) (nI s) = some u' := e1
      have e2' : F8_fails W (1 : Int32) = some w' := e2
      have d' := d
      rw [ch_i c] at d'
      rw [if_neg (show ¬ b s = (59 : Int32) from fun q => d' (h59.mp q)), if_neg (show ¬ hv (ch b n s) = (59 : Int32) from fun q => d ((hv_eq (c := 59) hch (by omega)).mp q)), e1', e2', bS, bS]
      exact Or.inr ⟨u', w', rfl, rfl, e4.trans fu, e5.trans fw, Or.inr e3.ee⟩
  · rw [if_neg (show ¬ U 0 6 < U 0 5 by rw [u6, hT.1]; exact nI_nlt (by omega) (by omega)), if_neg (show ¬ (0 : Int32) ≤ hv (ch b n s) by rw [ch_n (show n ≤ s by omega)]; decide)]
    exact Or.inr ⟨U, W, rfl, rfl, fu, fw, Or.inl ⟨u7, w11⟩⟩
theorem semiE {b : Nat → Int32} {n : Nat} {g : CG} {u w : RS} (hb : BB b n) (h : ERs b n u w) : ∃ u', C5_readSemicolon g u = some ((0 : Int32), u') ∧ F8_isMore w = some ((0 : Int32), w) ∧ FC u' u ∧ EE u' w := by
  obtain ⟨s, u', e1, e2, e3⟩ := h.skip (g := g) hb
  unfold C5_readSemicolon F8_isMore
  rw [e1, bS, e3.fine, bS, if_pos (show nI 0 = (0 : Int32) from rfl), if_neg h.ne.1]
  exact ⟨u', rfl, rfl, e2, e3.ee⟩
theorem semiP {b : Nat → Int32} {n : Nat} {g : CG} {u w : RS} (hb : BB b n) (h : PN b n u w) : ∃ u' w', C5_readSemicolon g u = some ((0 : Int32), u') ∧ F8_isMore w = some ((0 : Int32), w') ∧ FC u' u ∧ FW w' w ∧ EE u' w' := by
  obtain ⟨o1, o2, i, o3, c1, c2, c3, o4, o5, o6, o7, o8⟩ := h
  have hn := hb.1
  have k1 := skipC (g := g) hb o1 o4 o3
  have k2 := nextW hb o2 o7 o3
  have hch := ch_le (i := i) hb
  rw [SK_id c3, up_id o4] at k1
  rw [SK_id c3, up_id o7] at k2
  have hW : TW b n (up w 0 10 (nI i)) := o2.fr (FW.up (by omega))
  have k3 := here_ok (i := i) hb hW (by rw [up_ne (by omega)]; exact o7) o3
  have w11 : up w 0 10 (nI i) 0 11 = nI 0 := by rw [up_ne (by omega)]; exact o8
  have hh : hv (ch b n i) = nI (ch b n i) := (hv_eq hch (by omega)).mpr rfl
  have ef := failW0 (e := (1 : Int32)) w11
  unfold C5_readSemicolon F8_isMore
  rw [k1, bS, fineC1 (k := 1) o5 (by omega) (by omega), bS, if_pos (show nI 0 = (0 : Int32) from rfl), if_pos (show w 0 11 = (0 : Int32) from o8), k2, bS]
  dsimp only
  rw [if_pos (show (0 : Int32) ≤ hv (ch b n i) by rw [hh]; exact nI_le (a := 0) (by omega) (by omega)), k3, bS, if_neg (show ¬ hv (ch b n i) = (59 : Int32) from fun q => c1 ((hv_eq (c := 59) hch (by omega)).mp q)), ef, bS, up_eq]
  refine ⟨u, _, rfl, rfl, FC.rfl, (FW.up (by omega)).trans ((FW.up (by omega)).trans (FW.up (by omega))), 1, i, by omega, by omega, by omega, o5, ?_, o6, up_eq⟩
  rw [up_ne (by omega), up_eq]; rfl
noncomputable def XC2 (nt : Nat) (u' u : RS) : Prop := (∀ R, R ≠ 0 → R ≠ 4 → R ≠ 5 → R ≠ 6 → ¬ OWN 1 R → R ≤ 500 + nt → u' R = u R) ∧ (∀ i, i ≠ 6 → i ≠ 7 → i ≠ 8 → i ≠ 9 → i ≠ 10 → i ≠ 11 → u' 0 i = u 0 i) ∧ u' 5 0 = u 5 0
noncomputable def XW2 (w' w : RS) : Prop := (∀ R, R ≠ 0 → R ≠ 1 → R ≠ 7 → R ≠ 8 → w' R = w R) ∧ ∀ i, i ≠ 9 → i ≠ 10 → i ≠ 11 → i ≠ 12 → i ≠ 13 → i ≠ 14 → i ≠ 19 → w' 0 i = w 0 i
theorem XC2.trans {a b c : RS} {n m : Nat} (h : XC2 n a b) (h2 : XC2 m b c) (hm : m ≤ n) : XC2 m a c := ⟨fun R p q r s t z => (h.1 R p q r s t (by omega)).trans (h2.1 R p q r s t z), fun i p q r s t z => (h.2.1 i p q r s t z).trans (h2.2.1 i p q r s t z), h.2.2.trans h2.2.2⟩
theorem XW2.trans {a b c : RS} (h : XW2 a b) (h2 : XW2 b c) : XW2 a c := ⟨fun R p q r s => (h.1 R p q r s).trans (h2.1 R p q r s), fun i p q r s t z y => (h.2 i p q r s t z y).trans (h2.2 i p q r s t z y)⟩
theorem XC.t {a b : RS} {n : Nat} (h : XC n a b) : XC2 n a b := ⟨h.1, fun i p q r _ t z => h.2.1 i p q r t z, h.2.2⟩
theorem XW.t {a b : RS} (h : XW a b) : XW2 a b := ⟨h.1, fun i p q r s _ t z => h.2 i p q r s t z⟩
theorem FC.t {a b : RS} {n : Nat} (h : FC a b) : XC2 n a b := (FC.x h).t
theorem FWs.t {a b : RS} (h : FWs a b) : XW2 a b := ⟨fun R p _ _ _ => h.1 R p, fun i p q r s t _ _ => h.2 i p q r s t⟩
noncomputable def END (B : Nat) (g : CG) (u w : RS) : Prop := TI g u ∧ (∃ k, k ≤ 600 ∧ u 0 9 = nI k ∧ w 0 13 = nI k) ∧ ((u 0 7 = nI 0 ∧ w 0 11 = nI 0 ∧ ∃ sm lm cm, DR u w g sm lm cm B) ∨ EE u w)
noncomputable def afterC (g : CG) (f : Nat) (t26 : Int32 × RS) : Option (Int32 × CG × RS) := if (t26.1) = 0 then (C5_readDescription_L6 1 f ((t26.1)) g (t26.2)) else ((pt (t26.2) 0 9 (((t26.2) 0 9) + 1)).bind fun u29 => C5_readDescription_L6 1 f ((t26.1)) g u29)
theorem L6_s {g : CG} {u : RS} {f k : Nat} (h9 : u 0 9 = nI k) (hk : k ≤ 600) : C5_readDescription_L6 1 (f + 1) (1 : Int32) g u = (C5_readStatement g u 1).bind fun t20 => (C5_readSemicolon t20.1 t20.2).bind fun t26 => afterC t20.1 f t26 := by
  rw [C5_readDescription_L6, if_neg (show ¬ (1 : Int32) = 0 by decide), if_neg (show ¬ (600 : Int32) < u 0 9 by rw [h9]; exact nI_nlt (a := 600) (by omega) (by omega))]
  rfl
theorem L6_e {g : CG} {u : RS} {f : Nat} : C5_readDescription_L6 1 (f + 1) (0 : Int32) g u = some (0, g, u) := by
  rw [C5_readDescription_L6, if_pos rfl]
theorem restS {b : Nat → Int32} {n B : Nat} (hb : BB b n) : ∀ (d k f f2 : Nat) (g : CG) (u w : RS), k + d = 601 → d ≤ f → d ≤ f2 → k ≤ 600 → g.nt + d ≤ 999999 → u 0 9 = nI k → w 0 13 = nI k → u 5 0 = nI 0 → TI g u → ((∃ i sm lm cm, k ≤ i ∧ OKs b n i u w ∧ DR u w g sm lm cm B) ∨ ERs b n u w ∨ PN b n u w) → ∃ y g' u' w', (C5_readSemicolon g u).bind (afterC g f) = some (y, g', u') ∧ F8_load_L25 f2 w = some w' ∧ XC2 g.nt u' u ∧ XW2 w' w ∧ g'.1 = g.1 ∧ g.nt ≤ g'.nt ∧ g'.nt ≤ g.nt + d ∧ END B g' u' w'
  | 0, k, f, f2, g, u, w, h1, h2, h3, h4, _, _, _, _, _, _ => by omega
  | d + 1, k, f, f2, g, u, w, h1, h2, h3, h4, hg, h9, h13, h50, hti, hst => by
    obtain ⟨f, rfl⟩ : ∃ m, f = m + 1 := ⟨f - 1, by omega⟩
    obtain ⟨f2, rfl⟩ : ∃ m, f2 = m + 1 := ⟨f2 - 1, by omega⟩
    have hn := hb.1
    have fin : ∀ u' w', C5_readSemicolon g u = some ((0 : Int32), u') → F8_isMore w = some ((0 : Int32), w') → FC u' u → FW w' w → ((u' 0 7 = nI 0 ∧ w' 0 11 = nI 0 ∧ ∃ sm lm cm, DR u' w' g sm lm cm B) ∨ EE u' w') → ∃ y g' u' w', (C5_readSemicolon g u).bind (afterC g (f + 1)) = some (y, g', u') ∧ F8_load_L25 (f2 + 1) w = some w' ∧ XC2 g.nt u' u ∧ XW2 w' w ∧ g'.1 = g.1 ∧ g.nt ≤ g'.nt ∧ g'.nt ≤ g.nt + (d + 1) ∧ END B g' u' w' := by
      intro u' w' e1 e2 e3 e4 e5
      rw [e1, bS, F8_load_L25, e2, bS]
      unfold afterC
      dsimp only
      rw [if_pos rfl, if_pos rfl, L6_e]
      exact ⟨_, g, u', w', rfl, rfl, e3.t, e4.s.t, rfl, Nat.le_refl _, by omega, TI_fc hti e3, ⟨k, h4, by rw [e3.2 9 (by decide) (by decide) (by decide)]; exact h9, by rw [e4.2 13 (by decide) (by decide) (by decide) (by decide)]; exact h13⟩, e5⟩
    rcases hst with ⟨i, sm, lm, cm, q1, q2, q3⟩ | q | q
    · have hi := q2.2.2.1
      rcases semiO (g := g) hb q2 h13 with ⟨i', u', w', e0, e1, e2, e3, e4, e5, e6⟩ | ⟨u', w', e1, e2, e3, e4, e5⟩
      · have hi' := e3.2.2.1
        have k9 : u' 0 9 = nI k := by rw [e4.2 9 (by decide) (by decide) (by decide)]; exact h9
        have fu : XC2 g.nt (up u' 0 9 (nI (k + 1))) u := ⟨fun R p _ _ _ _ _ => by rw [up_or p]; exact e4.1 R p, fun j p q r s _ _ => by rw [up_ne (by omega)]; exact e4.2 j p q r, by rw [up_ne (by omega), e4.1 5 (by decide)]⟩
        have o1 : OKs b n i' (up u' 0 9 (nI (k + 1))) w' := by
          obtain ⟨z1, z2, z3, z4, z5, z6, z7⟩ := e3
          exact ⟨⟨by rw [up_ne (by omega)]; exact z1.1, fun j hj => by rw [up_ne (by omega)]; exact z1.2 j hj⟩, z2, z3, by rw [up_ne (by omega)]; exact z4, z5, by rw [up_ne (by omega)]; exact z6, z7⟩
        have t1 : TI g (up u' 0 9 (nI (k + 1))) := fun L hL => by rw [up_or (by omega), e4.1 _ (by omega)]; exact hti L hL
        have d1 : DR (up u' 0 9 (nI (k + 1))) w' g sm lm cm B := by
          obtain ⟨p1, p2, p3, p4, p5⟩ := q3
          have ew : w' 1 = w 1 := e5.1 1 (by decide)
          refine ⟨?_, by rw [ew]; exact p2, by rw [ew]; exact p3, by rw [up_or (by omega), e4.1 _ (by omega)]; exact p4, t1⟩
          rw [ew]
          exact QY.frame (by omega) p1 (Nat.le_refl _) (fun R hR => by rw [up_or (by unfold OWN at hR; omega)]; exact e4.1 R (by unfold OWN at hR; omega)) (fun t _ _ => by rw [up_or (by omega)]; exact e4.1 _ (by omega))
        obtain ⟨g2, u2, w2, z1, z2, z3⟩ := stmt2 (g := g) (k := k + 1) hb o1 (by omega) d1 (by rw [up_ne (by omega), e4.1 5 (by decide)]; exact h50) (by omega) up_eq (by omega) (by omega)
        obtain ⟨y1, y2, y3, y4, y5, y6, y7⟩ := z3
        obtain ⟨y, g', u3, w3, x1, x2, x3, x4, x5, x6, x7, x8⟩ := restS hb d (k + 1) f f2 g2 u2 w2 (by omega) (by omega) (by omega) (by omega) (by omega) (by rw [y1.2.1 9 (by decide) (by decide) (by decide) (by decide) (by decide), up_eq]) (by rw [y2.2 13 (by decide) (by decide) (by decide) (by decide) (by decide) (by decide)]; exact e6) (by rw [y1.2.2, up_ne (by omega), e4.1 5 (by decide)]; exact h50) y6 (by
          rcases y7 with ⟨i2, a1, a2, a3, a4, a5⟩ | y7
          · exact Or.inl ⟨i2, a1, a2, a3, by omega, a5⟩
          · exact Or.inr y7)
        refine ⟨y, g', u3, w3, ?_, ?_, x3.trans (y1.t.trans fu (Nat.le_refl _)) y4, x4.trans (y2.t.trans e5.t), x5.trans y3, by omega, by omega, x8⟩
        · rw [e1, bS]
          unfold afterC
          dsimp only
          rw [if_neg (show ¬ (1 : Int32) = 0 by decide), pt_n, bS, k9, show nI k + 1 = nI (k + 1) from nI_add k 1, L6_s (k := k + 1) up_eq (by omega), z1, bS]
          exact x1
        · rw [F8_load_L25, e2, bS]
          dsimp only
          rw [if_neg (show ¬ (1 : Int32) = 0 by decide), z2, bS]
          exact x2
      · refine fin u' w' e1 e2 e3 e4 ?_
        rcases e5 with ⟨a1, a2⟩ | a
        · exact Or.inl ⟨a1, a2, sm, lm, cm, q3.fr e3 e4⟩
        · exact Or.inr a
    · obtain ⟨u', e1, e2, e3, e4⟩ := semiE (g := g) hb q
      exact fin u' w e1 e2 e3 FW.rfl (Or.inr e4)
    · obtain ⟨u', w', e1, e2, e3, e4, e5⟩ := semiP (g := g) hb q
      exact fin u' w' e1 e2 e3 e4 (Or.inr e5)
theorem desc2 {b : Nat → Int32} {n B : Nat} {g : CG} {u w : RS} (hb : BB b n) (h : OKs b n 0 u w) (hB : B < 2000000000) (hti : TI g u) (h9 : u 0 9 = nI 0) (h13 : w 0 13 = nI 0) (h50 : u 5 0 = nI 0) (hg : g.nt + 602 ≤ 999999) (hz : ∀ i, i < 137 → i ≠ 0 → i ≠ 1 → i ≠ 2 → w 1 i = nI 0) : ∃ y g' u' w', C5_readDescription_L6 1 602 (1 : Int32) g u = some (y, g', u') ∧ (F8_linePart w).bind (F8_load_L25 FUEL) = some w' ∧ XC2 g.nt u' u ∧ XW2 w' w ∧ g'.1 = g.1 ∧ g.nt ≤ g'.nt ∧ g'.nt ≤ g.nt + 601 ∧ END B g' u' w' := by
  obtain ⟨u1, w1, z1, z2, y1, y2, y3, y4, y5, y6, y7⟩ := first2 (g := g) (B := B) hb h hB hti h9 hz
  obtain ⟨y, g', u3, w3, x1, x2, x3, x4, x5, x6, x7, x8⟩ := restS (B := B) hb 601 0 601 FUEL g u1 w1 (by omega) (by omega) (by show 601 ≤ 10000; omega) (by omega) (by omega) (by rw [y1.2.1 9 (by decide) (by decide) (by decide) (by decide) (by decide)]; exact h9) (by rw [y2.2 13 (by decide) (by decide) (by decide) (by decide) (by decide) (by decide)]; exact h13) (by rw [y1.2.2]; exact h50) y6 y7
  refine ⟨y, g', u3, w3, ?_, by rw [z2, bS]; exact x2, x3.trans y1.t (Nat.le_refl _), x4.trans y2.t, x5, x6, x7, x8⟩
  rw [L6_s (f := 601) (k := 0) h9 (by omega), z1, bS]
  exact x1
