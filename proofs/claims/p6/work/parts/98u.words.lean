theorem reads_ok {b : Nat → Int32} {n i : Nat} {g : CG} {u w : RS} (hb : BB b n) (h : OKs b n i u w) : ∃ s e U1 U2 W2, C5_skipSpaces g u = some (nI s, U1) ∧ U1 0 6 = nI s ∧ C5_readWord_L5 U1 g FUEL U1 = some U2 ∧ F8_reads w = some W2 ∧ s ≤ e ∧ e ≤ n ∧ i ≤ s ∧ OKs b n e U2 W2 ∧ W2 0 10 = nI s ∧ FC U2 u ∧ FW W2 w := by
  obtain ⟨o1, o2, o3, o4, o5, o6, o7⟩ := h
  have hn := hb.1
  have hs := SK_le (b := b) o3
  have hl := lt_le (b := b) (n - SK b n i) (SK b n i)
  have k1 := skipC (g := g) hb o1 o4 o3
  have k2 := nextW hb o2 o5 o3
  generalize SK b n i = s at *
  have hT : TC b n (up u 0 6 (nI s)) := o1.fr (FC.up (by omega))
  have hW : TW b n (up (up w 0 9 (nI s)) 0 10 (nI s)) := (o2.fr (FW.up (by omega))).fr (FW.up (by omega))
  have k3 := wordLC (g := g) (u0 := up u 0 6 (nI s)) hb (n - s) s FUEL (up u 0 6 (nI s)) (by omega) (by show n - s < 10000; omega) hT up_eq
  have k4 := wordLW hb (n - s) s FUEL (up (up w 0 9 (nI s)) 0 10 (nI s)) (by omega) (by show n - s < 10000; omega) hW (by rw [up_ne (by omega), up_eq])
  generalize lt b (n - s) s = e at *
  refine ⟨s, e, up u 0 6 (nI s), up (up u 0 6 (nI s)) 0 6 (nI e), up (up (up w 0 9 (nI s)) 0 10 (nI s)) 0 9 (nI e), k1, up_eq, k3, ?_, by omega, by omega, hs.1, ⟨?_, ?_, by omega, up_eq, up_eq, ?_, ?_⟩, ?_, ?_, ?_⟩
  · unfold F8_reads
    rw [k2, bS]
    dsimp only
    rw [k4, bS]
  · exact hT.fr (FC.up (by omega))
  · exact hW.fr (FW.up (by omega))
  · rw [up_ne (by omega), up_ne (by omega)]; exact o6
  · rw [up_ne (by omega), up_ne (by omega), up_ne (by omega)]; exact o7
  · rw [up_ne (by omega), up_eq]
  · exact (FC.up (by omega)).trans (FC.up (by omega))
  · exact (FW.up (by omega)).trans ((FW.up (by omega)).trans (FW.up (by omega)))
noncomputable def stT (g : CG) (L : Nat) (s : Int32) (t3 : Int32 × RS) : Option (CG × RS) := if (t3.1) = (-1) then ((C5_error g (t3.2) (1) (s)).bind fun u6 => some (g, u6)) else ((if (t3.1) = 4 then (some (1 : Int32)) else (some (0 : Int32)) : Option (Int32)).bind fun t9 => (if ((t3.2) 0 9) = 0 then (some (1 : Int32)) else (some (0 : Int32)) : Option (Int32)).bind fun t13 => if t9 = t13 then (if (t3.1) = 4 then ((C5_readLine g (t3.2) L).bind fun u18 => some (g, u18)) else (if (t3.1) = 5 then ((C5_readRest g (t3.2) L).bind fun u21 => some (g, u21)) else (if (t3.1) = 6 then ((C5_readLot g (t3.2) L (s)).bind fun u24 => some (g, u24)) else (if (t3.1) = 7 then ((C5_readCard g (t3.2) L (s)).bind fun t27 => some ((t27.1), (t27.2))) else ((C5_readStation g (t3.2) L ((t3.1)) (s)).bind fun t33 => some ((t33.1), (t33.2))))))) else ((C5_error g (t3.2) (1) (s)).bind fun u39 => some (g, u39)))
theorem readStatement_t {g : CG} {u : RS} {L : Nat} : C5_readStatement g u L = (C5_skipSpaces g u).bind fun t1 => (C5_readWord g t1.2).bind fun t3 => stT g L t1.1 t3 := rfl
theorem bP {α β : Type} {x : Option (α × β)} : (x.bind fun t => some (t.1, t.2)) = x := by cases x <;> rfl
theorem stT_e {g : CG} {L k : Nat} {s : Int32} {U : RS} {r : Int32} (h9 : U 0 9 = nI k) (hk : k < 10000) (hr : r = m1 ∨ (k = 0 ∧ ¬ r = nI 4) ∨ (¬ k = 0 ∧ r = nI 4)) : stT g L s (r, U) = (C5_error g U (1 : Int32) s).bind fun u6 => some (g, u6) := by
  unfold stT
  dsimp only
  rcases hr with rfl | ⟨rfl, hr⟩ | ⟨hk0, rfl⟩
  · rw [if_pos (show m1 = (-1 : Int32) from rfl)]
  · by_cases e : r = (-1 : Int32)
    · rw [if_pos e]
    · rw [if_neg e, if_neg (show ¬ r = (4 : Int32) from hr), bS, if_pos (show U 0 9 = (0 : Int32) from h9), bS, if_neg (show ¬ (0 : Int32) = 1 by decide)]
  · rw [if_neg (show ¬ nI 4 = (-1 : Int32) by decide), if_pos (show nI 4 = (4 : Int32) from rfl), bS, if_neg (show ¬ U 0 9 = (0 : Int32) by rw [h9]; exact nI_ne (b := 0) hk0 (by omega) (by omega)), bS, if_neg (show ¬ (1 : Int32) = 0 by decide)]
theorem stT_n {g : CG} {L k : Nat} {s : Int32} {U : RS} {r : Nat} (h9 : U 0 9 = nI k) (hk : k < 10000) (hk0 : ¬ k = 0) (hr : r < 8) (h4 : ¬ r = 4) : stT g L s (nI r, U) = (if r = 5 then ((C5_readRest g U L).bind fun u21 => some (g, u21)) else (if r = 6 then ((C5_readLot g U L (s)).bind fun u24 => some (g, u24)) else (if r = 7 then (C5_readCard g U L (s)) else (C5_readStation g U L (nI r) (s))))) := by
  unfold stT
  dsimp only
  rw [if_neg (show ¬ nI r = (-1 : Int32) from m1_ne (by omega)), if_neg (show ¬ nI r = (4 : Int32) from nI_ne (b := 4) h4 (by omega) (by omega)), bS, if_neg (show ¬ U 0 9 = (0 : Int32) by rw [h9]; exact nI_ne (b := 0) hk0 (by omega) (by omega)), bS, if_pos rfl, if_neg (show ¬ nI r = (4 : Int32) from nI_ne (b := 4) h4 (by omega) (by omega)), bP, bP]
  by_cases e5 : r = 5
  · rw [if_pos e5, if_pos (show nI r = (5 : Int32) by rw [e5]; rfl)]
  · rw [if_neg e5, if_neg (show ¬ nI r = (5 : Int32) from nI_ne (b := 5) e5 (by omega) (by omega))]
    by_cases e6 : r = 6
    · rw [if_pos e6, if_pos (show nI r = (6 : Int32) by rw [e6]; rfl)]
    · rw [if_neg e6, if_neg (show ¬ nI r = (6 : Int32) from nI_ne (b := 6) e6 (by omega) (by omega))]
      by_cases e7 : r = 7
      · rw [if_pos e7, if_pos (show nI r = (7 : Int32) by rw [e7]; rfl)]
      · rw [if_neg e7, if_neg (show ¬ nI r = (7 : Int32) from nI_ne (b := 7) e7 (by omega) (by omega))]
theorem stT_l {g : CG} {L : Nat} {s : Int32} {U : RS} (h9 : U 0 9 = nI 0) : stT g L s (nI 4, U) = (C5_readLine g U L).bind fun u18 => some (g, u18) := by
  unfold stT
  dsimp only
  rw [if_neg (show ¬ nI 4 = (-1 : Int32) by decide), if_pos (show nI 4 = (4 : Int32) from rfl), bS, if_pos (show U 0 9 = (0 : Int32) from h9), bS, if_pos rfl, if_pos (show nI 4 = (4 : Int32) from rfl)]
theorem OKs.wo {b : Nat → Int32} {n i : Nat} {u w : RS} {x : Int32} {j : Nat} (h : OKs b n i u w) (h1 : ¬ j = 8) (h2 : ¬ j = 9) (h3 : ¬ j = 11) : OKs b n i u (up w 0 j x) := by
  obtain ⟨o1, o2, o3, o4, o5, o6, o7⟩ := h
  exact ⟨o1, ⟨by rw [up_ne (by omega)]; exact o2.1, fun k hk => by rw [up_ne (by omega)]; exact o2.2 k hk⟩, o3, o4, by rw [up_ne (by omega)]; exact o5, o6, by rw [up_ne (by omega)]; exact o7⟩
theorem OUT2.tr {b : Nat → Int32} {n B m m2 : Nat} {g g' : CG} {u w u0 w0 u' w' : RS} (h : OUT2 b n B m g u w g' u' w') (hm : m2 ≤ m) (hc : XC g.nt u u0) (hw : XW w w0) : OUT2 b n B m2 g u0 w0 g' u' w' := by
  obtain ⟨h1, h2, h3, h4, h5, h6, h7⟩ := h
  refine ⟨h1.trans hc (Nat.le_refl _), h2.trans hw, h3, h4, h5, h6, ?_⟩
  rcases h7 with ⟨i, sm, lm, cm, q1, q2⟩ | q
  · exact Or.inl ⟨i, sm, lm, cm, Nat.le_trans hm q1, q2⟩
  · exact Or.inr q
theorem stmt2 {b : Nat → Int32} {n i k sm lm cm B : Nat} {g : CG} {u w : RS} (hb : BB b n) (h : OKs b n i u w) (h1i : 1 ≤ i) (hd : DR u w g sm lm cm B) (h50 : u 5 0 = nI 0) (hg : g.nt < 1000000) (h9 : u 0 9 = nI k) (hk0 : ¬ k = 0) (hk : k < 10000) : ∃ g' u' w', C5_readStatement g u 1 = some (g', u') ∧ F8_statement w = some w' ∧ OUT2 b n B i g u w g' u' w' := by
  have hn := hb.1
  obtain ⟨s, e, U1, U2, W2, a1, a2, a3, a4, a5, a6, a7, a8, a9, a10, a11⟩ := reads_ok (g := g) hb h
  have hd2 := hd.fr a10 a11
  have b1 : OKs b n e U2 (up W2 0 14 (nI s)) := a8.wo (by omega) (by omega) (by omega)
  have b2 : DR U2 (up W2 0 14 (nI s)) g sm lm cm B := by
    unfold DR
    rw [up_or (show ¬ 1 = 0 by omega)]
    exact hd2
  have b3 : up W2 0 14 (nI s) 0 10 = nI s := by rw [up_ne (by omega)]; exact a9
  have b4 : up W2 0 14 (nI s) 0 14 = nI s := up_eq
  have b5 : XW (up W2 0 14 (nI s)) w := ⟨fun R p q r t => by rw [up_or p]; exact a11.1 R p, fun j p q r t y z => by rw [up_ne (by omega)]; exact a11.2 j p q r t⟩
  have b6 : U2 5 0 = nI 0 := by rw [a10.1 5 (by decide)]; exact h50
  have b7 : U2 0 9 = nI k := by rw [a10.2 9 (by decide) (by decide) (by decide)]; exact h9
  have eC : C5_readStatement g u 1 = (C5_readWord g U1).bind fun t3 => stT g 1 (nI s) t3 := by rw [readStatement_t, a1, bS]
  have eW0 : (F8_reads w).bind (fun u1 => pt u1 0 14 (u1 0 10)) = some (up W2 0 14 (nI s)) := by rw [a4, bS, pt_n, a9]
  rw [eC]
  unfold F8_statement C5_readWord
  rw [a3, a4, bS, bS, a2, pt_n, bS, a9]
  generalize up W2 0 14 (nI s) = W at *
  obtain ⟨x0, k0, m0, s0, r0⟩ := word2 (g := g) hb w_chip b1.1 b1.2.1 b1.2.2.2.1 b1.2.2.2.2.1 b3 a5 a6
  have s0' : C5_stands g U2 (nI s) [99, 104, 105, 112] = some x0 := s0
  have r0' : F8_isWord W [99, 104, 105, 112] = some x0 := r0
  rw [s0', r0', bS, bS]
  rcases k0 with rfl | rfl
  · rw [if_pos (show nI 0 = (0 : Int32) from rfl), if_pos (show nI 0 = (0 : Int32) from rfl)]
    obtain ⟨x1, k1, m1, s1, r1⟩ := word2 (g := g) hb w_stripe b1.1 b1.2.1 b1.2.2.2.1 b1.2.2.2.2.1 b3 a5 a6
    have s1' : C5_stands g U2 (nI s) [115, 116, 114, 105, 112, 101] = some x1 := s1
    have r1' : F8_isWord W [115, 116, 114, 105, 112, 101] = some x1 := r1
    rw [s1', r1', bS, bS]
    rcases k1 with rfl | rfl
    · rw [if_pos (show nI 0 = (0 : Int32) from rfl), if_pos (show nI 0 = (0 : Int32) from rfl)]
      obtain ⟨x2, k2, m2, s2, r2⟩ := word2 (g := g) hb w_print b1.1 b1.2.1 b1.2.2.2.1 b1.2.2.2.2.1 b3 a5 a6
      have s2' : C5_stands g U2 (nI s) [112, 114, 105, 110, 116] = some x2 := s2
      have r2' : F8_isWord W [112, 114, 105, 110, 116] = some x2 := r2
      rw [s2', r2', bS, bS]
      rcases k2 with rfl | rfl
      · rw [if_pos (show nI 0 = (0 : Int32) from rfl), if_pos (show nI 0 = (0 : Int32) from rfl)]
        obtain ⟨x3, k3, m3, s3, r3⟩ := word2 (g := g) hb w_wheel b1.1 b1.2.1 b1.2.2.2.1 b1.2.2.2.2.1 b3 a5 a6
        have s3' : C5_stands g U2 (nI s) [119, 104, 101, 101, 108] = some x3 := s3
        have r3' : F8_isWord W [119, 104, 101, 101, 108] = some x3 := r3
        rw [s3', r3', bS, bS]
        rcases k3 with rfl | rfl
        · rw [if_pos (show nI 0 = (0 : Int32) from rfl), if_pos (show nI 0 = (0 : Int32) from rfl)]
          obtain ⟨x4, k4, m4, s4, r4⟩ := word2 (g := g) hb w_rest b1.1 b1.2.1 b1.2.2.2.1 b1.2.2.2.2.1 b3 a5 a6
          have s4' : C5_stands g U2 (nI s) [114, 101, 115, 116] = some x4 := s4
          have r4' : F8_isWord W [114, 101, 115, 116] = some x4 := r4
          rw [s4', r4', bS, bS]
          rcases k4 with rfl | rfl
          · rw [if_pos (show nI 0 = (0 : Int32) from rfl), if_pos (show nI 0 = (0 : Int32) from rfl)]
            obtain ⟨x5, k5, m5, s5, r5⟩ := word2 (g := g) hb w_lot b1.1 b1.2.1 b1.2.2.2.1 b1.2.2.2.2.1 b3 a5 a6
            have s5' : C5_stands g U2 (nI s) [108, 111, 116] = some x5 := s5
            have r5' : F8_isWord W [108, 111, 116] = some x5 := r5
            rw [s5', r5', bS, bS]
            rcases k5 with rfl | rfl
            · rw [if_pos (show nI 0 = (0 : Int32) from rfl), if_pos (show nI 0 = (0 : Int32) from rfl)]
              obtain ⟨x6, k6, m6, s6, r6⟩ := word2 (g := g) hb w_card b1.1 b1.2.1 b1.2.2.2.1 b1.2.2.2.2.1 b3 a5 a6
              have s6' : C5_stands g U2 (nI s) [99, 97, 114, 100] = some x6 := s6
              have r6' : F8_isWord W [99, 97, 114, 100] = some x6 := r6
              rw [s6', r6', bS, bS]
              rcases k6 with rfl | rfl
              · rw [if_pos (show nI 0 = (0 : Int32) from rfl), if_pos (show nI 0 = (0 : Int32) from rfl)]
                obtain ⟨x, kx, mx, sx, rx⟩ := word2 (g := g) hb w_line b1.1 b1.2.1 b1.2.2.2.1 b1.2.2.2.2.1 b3 a5 a6
                have sx' : C5_stands g U2 (nI s) [108, 105, 110, 101] = some x := sx
                obtain ⟨u', w', z1, z2, z3, z4, z5⟩ := err2 (g := g) (e := 1) b1.1 b1.2.1 a6 b1.2.2.2.1 b1.2.2.2.2.2.1 b1.2.2.2.2.2.2 b3 (by omega) (by omega) (by omega)
                have z1' : C5_error g U2 (1 : Int32) (nI s) = some u' := z1
                have z2' : F8_fails W (1 : Int32) = some w' := z2
                have o2 : OUT2 b n B i g u w g u' w' := ((OUT.err (m := i) z4 z5.w1.x z3 b2.2.2.2.2).two).tr (Nat.le_refl _) a10.x b5
                rw [sx', bS, z2', bS, bS]
                rcases kx with rfl | rfl
                · rw [if_pos (show nI 0 = (0 : Int32) from rfl), bS, bS, stT_e (r := -1) b7 hk (Or.inl rfl), z1', bS]
                  exact ⟨g, u', w', rfl, rfl, o2⟩
                · rw [if_neg (show ¬ nI 1 = (0 : Int32) from nz0), bS, bS, stT_e (r := 4) b7 hk (Or.inr (Or.inr ⟨hk0, rfl⟩)), z1', bS]
                  exact ⟨g, u', w', rfl, rfl, o2⟩
              · rw [if_neg (show ¬ nI 1 = (0 : Int32) from nz0), if_neg (show ¬ nI 1 = (0 : Int32) from nz0), bS]
                obtain ⟨g', u', w', z1, z2, z3⟩ := card2 (g := g) hb b1 (by omega) b2 b4 (by omega) b6 hg
                rw [show stT g 1 (nI s) ((7 : Int32), U2) = C5_readCard g U2 1 (nI s) from stT_n (r := 7) b7 hk hk0 (by omega) (by omega), z1, z2, bS, bS]
                exact ⟨g', u', w', rfl, rfl, z3.tr (by omega) a10.x b5⟩
            · rw [if_neg (show ¬ nI 1 = (0 : Int32) from nz0), if_neg (show ¬ nI 1 = (0 : Int32) from nz0), bS]
              obtain ⟨u', w', z1, z2, z3⟩ := lot2 (g := g) hb b1 (by omega) b2 b4 (by omega)
              rw [show stT g 1 (nI s) ((6 : Int32), U2) = (C5_readLot g U2 1 (nI s)).bind fun u24 => some (g, u24) from stT_n (r := 6) b7 hk hk0 (by omega) (by omega), z1, z2, bS, bS, bS]
              exact ⟨g, u', w', rfl, rfl, z3.two.tr (by omega) a10.x b5⟩
          · rw [if_neg (show ¬ nI 1 = (0 : Int32) from nz0), if_neg (show ¬ nI 1 = (0 : Int32) from nz0), bS]
            obtain ⟨u', w', z1, z2, z3⟩ := rest2 (g := g) hb b1 (by omega) b2
            rw [show stT g 1 (nI s) ((5 : Int32), U2) = (C5_readRest g U2 1).bind fun u21 => some (g, u21) from stT_n (r := 5) b7 hk hk0 (by omega) (by omega), z1, z2, bS, bS, bS]
            exact ⟨g, u', w', rfl, rfl, z3.two.tr (by omega) a10.x b5⟩
        · rw [if_neg (show ¬ nI 1 = (0 : Int32) from nz0), if_neg (show ¬ nI 1 = (0 : Int32) from nz0), bS]
          obtain ⟨g', u', w', z1, z2, z3⟩ := stat2 (g := g) (ty := 3) hb b1 (by omega) b2 b4 (by omega) (by omega) hg
          have z2' : F8_stationPart W (3 : Int32) = some w' := z2
          rw [show stT g 1 (nI s) ((3 : Int32), U2) = C5_readStation g U2 1 (nI 3) (nI s) from stT_n (r := 3) b7 hk hk0 (by omega) (by omega), z1, z2', bS, bS]
          exact ⟨g', u', w', rfl, rfl, z3.two.tr (by omega) a10.x b5⟩
      · rw [if_neg (show ¬ nI 1 = (0 : Int32) from nz0), if_neg (show ¬ nI 1 = (0 : Int32) from nz0), bS]
        obtain ⟨g', u', w', z1, z2, z3⟩ := stat2 (g := g) (ty := 2) hb b1 (by omega) b2 b4 (by omega) (by omega) hg
        have z2' : F8_stationPart W (2 : Int32) = some w' := z2
        rw [show stT g 1 (nI s) ((2 : Int32), U2) = C5_readStation g U2 1 (nI 2) (nI s) from stT_n (r := 2) b7 hk hk0 (by omega) (by omega), z1, z2', bS, bS]
        exact ⟨g', u', w', rfl, rfl, z3.two.tr (by omega) a10.x b5⟩
    · rw [if_neg (show ¬ nI 1 = (0 : Int32) from nz0), if_neg (show ¬ nI 1 = (0 : Int32) from nz0), bS]
      obtain ⟨g', u', w', z1, z2, z3⟩ := stat2 (g := g) (ty := 1) hb b1 (by omega) b2 b4 (by omega) (by omega) hg
      have z2' : F8_stationPart W (1 : Int32) = some w' := z2
      rw [show stT g 1 (nI s) ((1 : Int32), U2) = C5_readStation g U2 1 (nI 1) (nI s) from stT_n (r := 1) b7 hk hk0 (by omega) (by omega), z1, z2', bS, bS]
      exact ⟨g', u', w', rfl, rfl, z3.two.tr (by omega) a10.x b5⟩
  · rw [if_neg (show ¬ nI 1 = (0 : Int32) from nz0), if_neg (show ¬ nI 1 = (0 : Int32) from nz0), bS]
    obtain ⟨g', u', w', z1, z2, z3⟩ := stat2 (g := g) (ty := 0) hb b1 (by omega) b2 b4 (by omega) (by omega) hg
    have z2' : F8_stationPart W (0 : Int32) = some w' := z2
    rw [show stT g 1 (nI s) ((0 : Int32), U2) = C5_readStation g U2 1 (nI 0) (nI s) from stT_n (r := 0) b7 hk hk0 (by omega) (by omega), z1, z2', bS, bS]
    exact ⟨g', u', w', rfl, rfl, z3.two.tr (by omega) a10.x b5⟩
theorem first_no {b : Nat → Int32} {n s e : Nat} {g : CG} {U1 U2 W : RS} (hb : BB b n) (hL : C5_readWord_L5 U1 g FUEL U1 = some U2) (hs : U1 0 6 = nI s) (h1 : TC b n U2) (h2 : TW b n W) (h6 : U2 0 6 = nI e) (h9 : W 0 9 = nI e) (h10 : W 0 10 = nI s) (hse : s ≤ e) (hen : e ≤ n) (sx' : C5_stands g U2 (nI s) [108, 105, 110, 101] = some (nI 0)) : ∃ r, C5_readWord g U1 = some (r, U2) ∧ ¬ r = nI 4 := by
  unfold C5_readWord
  rw [hL, bS, hs]
  obtain ⟨x0, k0, m0, s0, r0⟩ := word2 (g := g) hb w_chip h1 h2 h6 h9 h10 hse hen
  have s0' : C5_stands g U2 (nI s) [99, 104, 105, 112] = some x0 := s0
  rw [s0', bS]
  rcases k0 with rfl | rfl
  · rw [if_pos (show nI 0 = (0 : Int32) from rfl)]
    obtain ⟨x1, k1, m1, s1, r1⟩ := word2 (g := g) hb w_stripe h1 h2 h6 h9 h10 hse hen
    have s1' : C5_stands g U2 (nI s) [115, 116, 114, 105, 112, 101] = some x1 := s1
    rw [s1', bS]
    rcases k1 with rfl | rfl
    · rw [if_pos (show nI 0 = (0 : Int32) from rfl)]
      obtain ⟨x2, k2, m2, s2, r2⟩ := word2 (g := g) hb w_print h1 h2 h6 h9 h10 hse hen
      have s2' : C5_stands g U2 (nI s) [112, 114, 105, 110, 116] = some x2 := s2
      rw [s2', bS]
      rcases k2 with rfl | rfl
      · rw [if_pos (show nI 0 = (0 : Int32) from rfl)]
        obtain ⟨x3, k3, m3, s3, r3⟩ := word2 (g := g) hb w_wheel h1 h2 h6 h9 h10 hse hen
        have s3' : C5_stands g U2 (nI s) [119, 104, 101, 101, 108] = some x3 := s3
        rw [s3', bS]
        rcases k3 with rfl | rfl
        · rw [if_pos (show nI 0 = (0 : Int32) from rfl)]
          obtain ⟨x4, k4, m4, s4, r4⟩ := word2 (g := g) hb w_rest h1 h2 h6 h9 h10 hse hen
          have s4' : C5_stands g U2 (nI s) [114, 101, 115, 116] = some x4 := s4
          rw [s4', bS]
          rcases k4 with rfl | rfl
          · rw [if_pos (show nI 0 = (0 : Int32) from rfl)]
            obtain ⟨x5, k5, m5, s5, r5⟩ := word2 (g := g) hb w_lot h1 h2 h6 h9 h10 hse hen
            have s5' : C5_stands g U2 (nI s) [108, 111, 116] = some x5 := s5
            rw [s5', bS]
            rcases k5 with rfl | rfl
            · rw [if_pos (show nI 0 = (0 : Int32) from rfl)]
              obtain ⟨x6, k6, m6, s6, r6⟩ := word2 (g := g) hb w_card h1 h2 h6 h9 h10 hse hen
              have s6' : C5_stands g U2 (nI s) [99, 97, 114, 100] = some x6 := s6
              rw [s6', bS]
              rcases k6 with rfl | rfl
              · rw [if_pos (show nI 0 = (0 : Int32) from rfl)]
                rw [sx', bS, if_pos (show nI 0 = (0 : Int32) from rfl), bS]
                exact ⟨-1, rfl, by decide⟩
              · rw [if_neg (show ¬ nI 1 = (0 : Int32) from nz0)]
                exact ⟨7, rfl, by decide⟩
            · rw [if_neg (show ¬ nI 1 = (0 : Int32) from nz0)]
              exact ⟨6, rfl, by decide⟩
          · rw [if_neg (show ¬ nI 1 = (0 : Int32) from nz0)]
            exact ⟨5, rfl, by decide⟩
        · rw [if_neg (show ¬ nI 1 = (0 : Int32) from nz0)]
          exact ⟨3, rfl, by decide⟩
      · rw [if_neg (show ¬ nI 1 = (0 : Int32) from nz0)]
        exact ⟨2, rfl, by decide⟩
    · rw [if_neg (show ¬ nI 1 = (0 : Int32) from nz0)]
      exact ⟨1, rfl, by decide⟩
  · rw [if_neg (show ¬ nI 1 = (0 : Int32) from nz0)]
    exact ⟨0, rfl, by decide⟩
theorem first_line {b : Nat → Int32} {n s e : Nat} {g : CG} {U1 U2 W : RS} (hb : BB b n) (hL : C5_readWord_L5 U1 g FUEL U1 = some U2) (hs : U1 0 6 = nI s) (h1 : TC b n U2) (h2 : TW b n W) (h6 : U2 0 6 = nI e) (h9 : W 0 9 = nI e) (h10 : W 0 10 = nI s) (hse : s ≤ e) (hen : e ≤ n) (sx' : C5_stands g U2 (nI s) [108, 105, 110, 101] = some (nI 1)) (hm : WMs b s e 4 W_line) : C5_readWord g U1 = some (nI 4, U2) := by
  unfold C5_readWord
  rw [hL, bS, hs]
  obtain ⟨x0, k0, m0, s0, r0⟩ := word2 (g := g) hb w_chip h1 h2 h6 h9 h10 hse hen
  have s0' : C5_stands g U2 (nI s) [99, 104, 105, 112] = some x0 := s0
  rw [s0', bS]
  rcases k0 with rfl | rfl
  · rw [if_pos (show nI 0 = (0 : Int32) from rfl)]
    obtain ⟨x1, k1, m1, s1, r1⟩ := word2 (g := g) hb w_stripe h1 h2 h6 h9 h10 hse hen
    have s1' : C5_stands g U2 (nI s) [115, 116, 114, 105, 112, 101] = some x1 := s1
    rw [s1', bS]
    rcases k1 with rfl | rfl
    · rw [if_pos (show nI 0 = (0 : Int32) from rfl)]
      obtain ⟨x2, k2, m2, s2, r2⟩ := word2 (g := g) hb w_print h1 h2 h6 h9 h10 hse hen
      have s2' : C5_stands g U2 (nI s) [112, 114, 105, 110, 116] = some x2 := s2
      rw [s2', bS]
      rcases k2 with rfl | rfl
      · rw [if_pos (show nI 0 = (0 : Int32) from rfl)]
        obtain ⟨x3, k3, m3, s3, r3⟩ := word2 (g := g) hb w_wheel h1 h2 h6 h9 h10 hse hen
        have s3' : C5_stands g U2 (nI s) [119, 104, 101, 101, 108] = some x3 := s3
        rw [s3', bS]
        rcases k3 with rfl | rfl
        · rw [if_pos (show nI 0 = (0 : Int32) from rfl)]
          obtain ⟨x4, k4, m4, s4, r4⟩ := word2 (g := g) hb w_rest h1 h2 h6 h9 h10 hse hen
          have s4' : C5_stands g U2 (nI s) [114, 101, 115, 116] = some x4 := s4
          rw [s4', bS]
          rcases k4 with rfl | rfl
          · rw [if_pos (show nI 0 = (0 : Int32) from rfl)]
            obtain ⟨x5, k5, m5, s5, r5⟩ := word2 (g := g) hb w_lot h1 h2 h6 h9 h10 hse hen
            have s5' : C5_stands g U2 (nI s) [108, 111, 116] = some x5 := s5
            rw [s5', bS]
            rcases k5 with rfl | rfl
            · rw [if_pos (show nI 0 = (0 : Int32) from rfl)]
              obtain ⟨x6, k6, m6, s6, r6⟩ := word2 (g := g) hb w_card h1 h2 h6 h9 h10 hse hen
              have s6' : C5_stands g U2 (nI s) [99, 97, 114, 100] = some x6 := s6
              rw [s6', bS]
              rcases k6 with rfl | rfl
              · rw [if_pos (show nI 0 = (0 : Int32) from rfl)]
                rw [sx', bS, if_neg (show ¬ nI 1 = (0 : Int32) from nz0), bS]
                rfl
              · exact absurd (m6 rfl) (no_card hm)
            · exact absurd (m5 rfl) (no_lot hm)
          · exact absurd (m4 rfl) (no_rest hm)
        · exact absurd (m3 rfl) (no_wheel hm)
      · exact absurd (m2 rfl) (no_print hm)
    · exact absurd (m1 rfl) (no_stripe hm)
  · exact absurd (m0 rfl) (no_chip hm)
theorem lineTail_e {b : Nat → Int32} {n : Nat} {u w : RS} (h : ERs b n u w) : ∃ w', lineTail w = some w' ∧ ERs b n u w' ∧ FW1 w' w := by
  have nE : ∀ (v : RS) (a1 a2 : Int32), ¬ v 0 11 = (0 : Int32) → F8_number v a1 a2 = some (a1, v) := fun v a1 a2 q => by
    unfold F8_number
    rw [if_neg q]
  unfold lineTail
  have x0 := h.ne.1
  rw [nE _ _ _ x0, bS]
  dsimp only
  rw [show ws w 1 1037 (0 : Int32) (1 : Int32) = some (up w 1 0 (1 : Int32)) from wsk (k := 0) (by omega), bS, nE _ _ _ (by rw [up_ne (by omega)]; exact x0), bS]
  dsimp only
  rw [show ws (up w 1 0 (1 : Int32)) 1 1037 (3 : Int32) (0 : Int32) = some (up (up w 1 0 (1 : Int32)) 1 3 (0 : Int32)) from wsk (k := 3) (by omega), bS, up_eq, show ws (up (up w 1 0 (1 : Int32)) 1 3 (0 : Int32)) 1 1037 (5 : Int32) (0 : Int32) = some (up (up (up w 1 0 (1 : Int32)) 1 3 (0 : Int32)) 1 5 (0 : Int32)) from wsk (k := 5) (by omega), bS, nE _ _ _ (by rw [up_ne (by omega), up_ne (by omega), up_ne (by omega)]; exact x0), bS]
  dsimp only
  generalize hv : up (up (up w 1 0 (1 : Int32)) 1 3 (0 : Int32)) 1 5 (0 : Int32) = v
  have xv : ¬ v 0 11 = (0 : Int32) := by rw [← hv, up_ne (by omega), up_ne (by omega), up_ne (by omega)]; exact x0
  have ev : ERs b n u v := by rw [← hv]; exact h.w1.w1.w1
  have fv : FW1 v w := by rw [← hv]; exact FW1.up.trans (FW1.up.trans FW1.up)
  rw [show ws v 1 1037 (1 : Int32) (1 : Int32) = some (up v 1 1 (1 : Int32)) from wsk (k := 1) (by omega), bS, nE _ _ _ (by rw [up_ne (by omega)]; exact xv), bS]
  dsimp only
  rw [show ws (up v 1 1 (1 : Int32)) 1 1037 (2 : Int32) (1 : Int32) = some (up (up v 1 1 (1 : Int32)) 1 2 (1 : Int32)) from wsk (k := 2) (by omega), bS]
  exact ⟨_, rfl, ev.w1.w1, FW1.up.trans (FW1.up.trans fv)⟩
theorem first2 {b : Nat → Int32} {n B : Nat} {g : CG} {u w : RS} (hb : BB b n) (h : OKs b n 0 u w) (hB : B < 2000000000) (hti : TI g u) (h9 : u 0 9 = nI 0) (hz : ∀ i, i < 137 → i ≠ 0 → i ≠ 1 → i ≠ 2 → w 1 i = nI 0) : ∃ u' w', C5_readStatement g u 1 = some (g, u') ∧ F8_linePart w = some w' ∧ OUT2 b n B 0 g u w g u' w' := by
  have hn := hb.1
  obtain ⟨s, e, U1, U2, W, a1, a2, a3, a4, a5, a6, a7, a8, a9, a10, a11⟩ := reads_ok (g := g) hb h
  have b7 : U2 0 9 = nI 0 := by rw [a10.2 9 (by decide) (by decide) (by decide)]; exact h9
  obtain ⟨x, kx, mx, sx, rx⟩ := word2 (g := g) hb w_line a8.1 a8.2.1 a8.2.2.2.1 a8.2.2.2.2.1 a9 a5 a6
  have sx' : C5_stands g U2 (nI s) [108, 105, 110, 101] = some x := sx
  have rx' : F8_isWord W [108, 105, 110, 101] = some x := rx
  rw [readStatement_t, a1, bS, linePart_t, a4, bS, rx', bS]
  dsimp only
  rcases kx with rfl | rfl
  · obtain ⟨r, c1, c2⟩ := first_no hb a3 a2 a8.1 a8.2.1 a8.2.2.2.1 a8.2.2.2.2.1 a9 a5 a6 sx'
    obtain ⟨u', w', z1, z2, z3, z4, z5⟩ := err2 (g := g) (e := 1) a8.1 a8.2.1 a6 a8.2.2.2.1 a8.2.2.2.2.2.1 a8.2.2.2.2.2.2 a9 (by omega) (by omega) (by omega)
    have z1' : C5_error g U2 (1 : Int32) (nI s) = some u' := z1
    have z2' : F8_fails W (1 : Int32) = some w' := z2
    obtain ⟨w2, y1, y2, y3⟩ := lineTail_e z3
    rw [c1, bS, stT_e b7 (by omega) (Or.inr (Or.inl ⟨rfl, c2⟩)), z1', bS, if_pos (show nI 0 = (0 : Int32) from rfl), z2', bS, bS, y1]
    exact ⟨u', w2, rfl, rfl, ((OUT.err (z4.trans a10) (y3.trans (z5.trans a11).w1).x y2 hti).two)⟩
  · have hm := mx rfl
    have he : 1 ≤ e := by have := hm.1; omega
    have c1 := first_line hb a3 a2 a8.1 a8.2.1 a8.2.2.2.1 a8.2.2.2.2.1 a9 a5 a6 sx' hm
    obtain ⟨u', w', z1, z2, z3⟩ := line2 (g := g) (B := B) hb ⟨e, he, a8⟩ hB (TI_fc hti a10) (fun i p q r t => by rw [a11.1 1 (by decide)]; exact hz i p q r t)
    rw [c1, bS, stT_l b7, z1, bS, if_neg (show ¬ nI 1 = (0 : Int32) from nz0), bS, z2]
    exact ⟨u', w', rfl, rfl, z3.two.tr (by omega) a10.x a11.w1.x⟩
