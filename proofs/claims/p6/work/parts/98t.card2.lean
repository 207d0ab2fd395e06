theorem copyText {g : CG} {u : RS} {len : Nat} (hlen : len ≤ 16) (h10 : u 0 10 = nI len) (hl : ∀ k, k < len → ∃ a, a < 26 ∧ u 4 k = nI a) (hg : g.nt < 1000000) (ht : TI g u) : ∃ u2, C5_textRead g u = some (nI (g.nt + 1), ga g, u2) ∧ NT g u u2 len (fun k => u 4 k) := by
  have e0 : ut g u (nI len) (500 + (g.nt + 1)) = fun i => if i = 0 then nI len else 0 := rw_eq
  have e3 : ut g u (nI len) 4 = u 4 := rw_ne (by omega)
  have em : (if nI len < (64 : Int32) then nI len else (64 : Int32)) = nI len := by
    rw [if_pos (show nI len < (64 : Int32) from nI_lt (b := 64) (by omega) (by omega))]
  unfold C5_textRead C_J7_copyOf_9075b_le
  rw [h10, if_neg (show ¬ nI len = (64 : Int32) from nI_ne (b := 64) (by omega) (by omega) (by omega)), al_n hlen hg ht, bS, bS, bS, nI_clamp (by omega), em, e0, e3]
  simp only [if_true]
  rw [nI_clamp (by omega), show (0 : Int32) = nI 0 from rfl, cpo_b (sp := 0) (dp := 0) (n := len) (by omega) (by omega) (by omega) (by omega) (fun i hi => by
    rw [Nat.zero_add]
    obtain ⟨a, a1, a2⟩ := hl i hi
    rw [a2]; unfold BYT; rw [nI_toInt (by omega)]; omega), bS, bS, nI_clamp (by omega), bS]
  refine ⟨_, rfl, ?_, fun k hk => ?_, fun R hR => ?_⟩
  · unfold cpR; dsimp only
    rw [rw_eq, if_neg (by omega), e0]; rfl
  · unfold cpR; dsimp only
    rw [rw_eq, if_pos (by omega), show 0 + (1 + k - (1 + 0)) = k by omega]
  · unfold cpR ut; dsimp only
    rw [rw_ne hR, rw_ne hR]
theorem add_ok2 {r c : RS} {g : CG} {L l sm lm cm B U t len : Nat} (hL : L < 12) (hq : QY c g L (r 1) sm lm cm B U) (hcm : cm < 30) (hl : l < lm) (hlen1 : 1 ≤ len) (hlen : len ≤ 16) (h19 : r 0 19 = nI len) (ht1 : 1 ≤ t) (ht2 : t ≤ g.nt) (hg : g.nt < 2 ^ 31) (ht0 : c (500 + t) 0 = nI len) (htk : ∀ k, k < len → c (500 + t) (1 + k) = r 7 k ∧ ∃ a, a < 26 ∧ r 7 k = nI a) : ∃ r2 c2, F8_adds r (nI l) = some r2 ∧ C3_addCard g c L (nI l) (nI t) = some c2 ∧ (∀ R, R ≠ 1 → r2 R = r R) ∧ (∀ R, ¬ OWN L R → c2 R = c R) ∧ QY c2 g L (r2 1) sm lm (cm + 1) B U ∧ r2 1 9 = nI (cm + 1) ∧ c2 (10 + L) 9 = nI (cm + 1) ∧ (∀ i, i ≠ 9 → i ≠ 114 + 4 * l → (i < 137 + 25 * cm ∨ 162 + 25 * cm ≤ i) → r2 1 i = r 1 i) ∧ (∀ i, i ≠ 9 → i ≠ 114 + 4 * l → (i < 137 + 25 * cm ∨ 162 + 25 * cm ≤ i) → c2 (10 + L) i = c (10 + L) i) ∧ c2 (10 + L) (137 + 25 * cm + 2) = nI t := by
  have hsm := hq.a.sm6; have hlm := hq.a.lm6
  have hsz := cnt_le (n := cm) (p := loC (sC (c (10 + L))) l)
  have es : c (10 + L) (113 + 4 * l + 1) = nI (cnt cm (loC (sC (c (10 + L))) l)) := by
    rw [sL_r (v := c (10 + L)) (by omega) (by omega)]; exact hq.l.size l hl
  obtain ⟨r2, c2, a1, a2, a3, a4, a5, a6, a7, a8⟩ := add_ok hL hq hcm hl hlen1 hlen h19 ht1 ht2 hg ht0 htk
  obtain ⟨c3, b1, b2, b3, b4, b5, b6, b7, b8, b9, b10, b11⟩ := adds_C (c := c) (g := g) (L := L) (l := l) (t := t) hL (by omega) hcm (by omega) hq.n9 es
  have e : c2 = c3 := Option.some.inj (a2.symm.trans b1)
  subst e
  exact ⟨r2, c2, a1, a2, a3, a4, a5, a6, a7, a8, b3, b7⟩
noncomputable def OUT2 (b : Nat → Int32) (n B m : Nat) (g : CG) (u w : RS) (g' : CG) (u' w' : RS) : Prop := XC g.nt u' u ∧ XW w' w ∧ g'.1 = g.1 ∧ g.nt ≤ g'.nt ∧ g'.nt ≤ g.nt + 1 ∧ TI g' u' ∧ ((∃ i sm lm cm, m ≤ i ∧ OKs b n i u' w' ∧ DR u' w' g' sm lm cm B) ∨ ERs b n u' w' ∨ PN b n u' w')
theorem OUT.two {b : Nat → Int32} {n B m : Nat} {g : CG} {u w : RS} {g' : CG} {u' w' : RS} (h : OUT b n B m g u w g' u' w') : OUT2 b n B m g u w g' u' w' := by
  obtain ⟨h1, h2, h3, h4, h5, h6⟩ := h
  rcases h6 with ⟨i, sm, lm, cm, q1, q2, q3⟩ | ⟨q1, q2⟩
  · exact ⟨h1, h2, h3, h4, h5, q3.2.2.2.2, Or.inl ⟨i, sm, lm, cm, q1, q2, q3⟩⟩
  · exact ⟨h1, h2, h3, h4, h5, q2, Or.inr (Or.inl q1)⟩
theorem card2 {b : Nat → Int32} {n i s sm lm cm B : Nat} {g : CG} {u w : RS} (hb : BB b n) (h : OKs b n i u w) (h1i : 1 ≤ i) (hd : DR u w g sm lm cm B) (h14 : w 0 14 = nI s) (hs : s ≤ 600) (h50 : u 5 0 = nI 0) (hg : g.nt < 1000000) : ∃ g' u' w', C5_readCard g u 1 (nI s) = some (g', u') ∧ F8_cardPart w = some w' ∧ OUT2 b n B i g u w g' u' w' := by
  have hq := hd.1
  have hcm := hq.a.cm30
  have hlm := hq.a.lm6
  have hsm := hq.a.sm6
  unfold C5_readCard F8_cardPart
  rw [hq.n9, hq.n8, hq.v9]
  by_cases c : cm < 30
  · rw [if_pos (show nI cm < (30 : Int32) from nI_lt (b := 30) c (by omega)), if_neg (show ¬ nI cm = (30 : Int32) from nI_ne (b := 30) (by omega) (by omega) (by omega)), bS, many0, bS, hq.v8]
    obtain ⟨u1, w1, y, x, e1, e2, e3, e4, e5⟩ := num2 (g := g) (lo := 0) (a2 := nI lm - 1) hb h (by omega) (sb1 (by omega))
    have e1' : C5_readNumber g u (0 : Int32) (nI lm - 1) = some (y, u1) := e1
    have e2' : F8_number w (0 : Int32) (nI lm - 1) = some (x, w1) := e2
    rw [e1', e2', bS, bS]
    dsimp only
    rcases e5 with ⟨i1, V, q1, q2, rfl, rfl, q5, q6⟩ | ⟨q1, q2⟩
    · have hd1 := hd.fr e3 e4
      have hV : V < lm := by
        have := sub1_toInt (n := lm) (by omega)
        have q7 : (V : Int) ≤ (nI lm - nI 1).toInt := q6
        omega
      have h51 : u1 5 0 = nI 0 := by rw [e3.1 5 (by decide)]; exact h50
      obtain ⟨u2, w2, f1, f2, f3, f4, f5, f6, f7⟩ := text2 (g := g) hb q2 h51
      have hTI2 : TI g u2 := hd1.2.2.2.2.xl (fun R p _ => f5 R p)
      have fX : XC g.nt u2 u := f3.trans e3.x (Nat.le_refl _)
      have fW : XW w2 w := f4.trans e4.w1.x
      rw [q2.fine, bS, if_neg (show ¬ nI 1 = (0 : Int32) from nz0), if_pos (show w1 0 11 = (0 : Int32) from q2.w0), f1, f2, bS, bS, bS, bS]
      rcases f7 with ⟨i2, len, r1, r2, r3, r4, r5⟩ | r | ⟨r1, len, r2, r3⟩
      · have h16 : len ≤ 16 := by have := r5.2.2.2.2.2.2.2.1; omega
        have hlet := r5.2.2.2.2.2.2.2.2.2.2
        obtain ⟨u3, k1, k2⟩ := copyText (g := g) (u := u2) (len := len) h16 r5.2.2.1 (fun k hk => by
          obtain ⟨z1, a, z2, z3⟩ := hlet k hk
          exact ⟨a, z2, z1.trans z3⟩) hg hTI2
        have hq2 : QY u2 g 1 (w2 1) sm lm cm B B := by
          rw [f6]
          exact QY.frame (by omega) hd1.1 (Nat.le_refl _) (fun R hR => f5 R (by unfold OWN at hR; omega)) (fun t _ _ => f5 _ (by omega))
        have hq3 : QY u3 (ga g) 1 (w2 1) sm lm cm B B := QY.frame (g2 := ga g) (by omega) hq2 (Nat.le_succ _) (fun R hR => k2.2.2 R (by unfold OWN at hR; omega)) (fun t _ z => k2.2.2 _ (by omega))
        have gn : (ga g).nt = g.nt + 1 := rfl
        obtain ⟨r', c', a1, a2, a3, a4, a5, a6, a7, a8, a9, a10⟩ := add_ok2 (r := w2) (c := u3) (g := ga g) (L := 1) (l := V) (t := g.nt + 1) (len := len) (by omega) hq3 c hV r4 h16 r5.2.2.2.1 (by omega) (Nat.le_refl _) (by omega) k2.1 (fun k hk => by rw [k2.2.1 k hk]; exact hlet k hk)
        rw [r2.fine, bS, if_neg (show ¬ nI 1 = (0 : Int32) from nz0), k1, bS, if_pos (show w2 0 11 = (0 : Int32) from r2.w0), a1, bS, bS]
        dsimp only
        rw [a2, bS]
        have n0 : ¬ OWN 1 0 := by unfold OWN; omega
        have n3 : ¬ OWN 1 3 := by unfold OWN; omega
        have n5 : ¬ OWN 1 5 := by unfold OWN; omega
        have cR : ∀ R, ¬ OWN 1 R → R ≠ 500 + (g.nt + 1) → c' R = u2 R := fun R p q => (a4 R p).trans (k2.2.2 R q)
        have gX : XC g.nt c' u := by
          refine ⟨fun R p0 p4 p5 p6 po pn => ?_, fun j p q s t z => ?_, ?_⟩
          · rw [cR R po (by omega)]; exact fX.1 R p0 p4 p5 p6 po pn
          · rw [cR 0 n0 (by omega)]; exact fX.2.1 j p q s t z
          · rw [cR 5 n5 (by omega)]; exact fX.2.2
        have gW : XW r' w := by
          refine ⟨fun R p q s t => ?_, fun j p q s t y z => ?_⟩
          · rw [a3 R q]; exact fW.1 R p q s t
          · rw [a3 0 (by decide)]; exact fW.2 j p q s t y z
        have w21 : ∀ j, w2 1 j = w1 1 j := fun j => by rw [f6]
        have c11 : ∀ j, u3 (10 + 1) j = u1 (10 + 1) j := fun j => by rw [k2.2.2 _ (by omega), f5 _ (by omega)]
        have hTI : TI (ga g) c' := by
          intro L hL
          rw [gn]
          by_cases e : L = 1
          · subst e
            refine ⟨fun s hs => ?_, fun q hq => ?_⟩
            · rw [a9 _ (by omega) (by omega) (by omega), c11]; exact Nat.le_succ_of_le ((hd1.2.2.2.2 1 hL).1 s hs)
            · by_cases eq : q = cm
              · subst eq; rw [a10, nI_clamp (by omega)]; exact Nat.le_refl _
              · rw [a9 _ (by omega) (by omega) (by omega), c11]; exact Nat.le_succ_of_le ((hd1.2.2.2.2 1 hL).2 q hq)
          · rw [cR _ (by unfold OWN; omega) (by omega), f5 _ (by omega)]
            exact ⟨fun s hs => Nat.le_succ_of_le ((hd1.2.2.2.2 L hL).1 s hs), fun q hq => Nat.le_succ_of_le ((hd1.2.2.2.2 L hL).2 q hq)⟩
        refine ⟨ga g, c', r', rfl, rfl, gX, gW, rfl, Nat.le_succ _, Nat.le_refl _, hTI, Or.inl ⟨i2, sm, lm, cm + 1, by omega, ?_, a5, ?_, ?_, ?_, hTI⟩⟩
        · obtain ⟨z1, z2, z3, z4, z5, z6, z7⟩ := r2
          have c0 := cR 0 n0 (by omega)
          have c3 := cR 3 n3 (by omega)
          have r0 := a3 0 (by decide)
          have r6 := a3 6 (by decide)
          exact ⟨⟨by rw [c0]; exact z1.1, fun k hk => by rw [c3]; exact z1.2 k hk⟩, ⟨by rw [r0]; exact z2.1, fun k hk => by rw [r6]; exact z2.2 k hk⟩, z3, by rw [c0]; exact z4, by rw [r0]; exact z5, by rw [c0]; exact z6, by rw [r0]; exact z7⟩
        · intro s k p q r s' t
          rw [a8 _ (by omega) (by omega) (by omega), w21]; exact hd1.2.1 s k p q r s' t
        · intro l k p q r s'
          rw [a8 _ (by omega) (by omega) (by omega), w21]; exact hd1.2.2.1 l k p q r s'
        · rw [a9 _ (by omega) (by omega) (by omega), c11]; exact hd1.2.2.2.1
      · rw [r.fine, bS, if_pos (show nI 0 = (0 : Int32) from rfl), if_neg r.ne.1, bS]
        exact ⟨g, u2, w2, rfl, rfl, fX, fW, rfl, Nat.le_refl _, Nat.le_succ _, hTI2, Or.inr (Or.inl r)⟩
      · obtain ⟨z1, z2, i2, z3, z4, z5, z6, z7, z8, z9, z10, z11⟩ := r1
        have hq1 := hd1.1
        have w29 : w2 1 9 = nI cm := by rw [f6]; exact hq1.v9
        have hsz := cnt_le (n := cm) (p := loC (sC (u1 (10 + 1))) V)
        have w2s : w2 1 (113 + 4 * V + 1) = nI (cnt cm (loC (sC (u1 (10 + 1))) V)) := by
          rw [f6, sL_r (v := w1 1) (by omega) (by omega), hq1.l.eql V 1 hV (by omega)]; exact hq1.l.size V hV
        obtain ⟨r', a1, a2, -⟩ := adds_F (r := w2) (l := V) (by omega) c r2 (by omega) w29 w2s r3
        rw [fineC1 (k := 1) z8 (by omega) (by omega), bS, if_pos (show nI 0 = (0 : Int32) from rfl), if_pos (show w2 0 11 = (0 : Int32) from z11), a1, bS, bS]
        have r0 := a2 0 (by decide)
        have r6 := a2 6 (by decide)
        refine ⟨g, u2, r', rfl, rfl, fX, ⟨fun R p q s t => ?_, fun j p q s t y z => ?_⟩, rfl, Nat.le_refl _, Nat.le_succ _, hTI2, Or.inr (Or.inr ⟨z1, ⟨by rw [r0]; exact z2.1, fun k hk => by rw [r6]; exact z2.2 k hk⟩, i2, z3, z4, z5, z6, z7, z8, z9, by rw [r0]; exact z10, by rw [r0]; exact z11⟩)⟩
        · rw [a2 R q]; exact fW.1 R p q s t
        · rw [a2 0 (by decide)]; exact fW.2 j p q s t y z
    · rw [q1.fine, bS, if_pos (show nI 0 = (0 : Int32) from rfl), bS, q1.fine, bS, if_pos (show nI 0 = (0 : Int32) from rfl), if_neg q1.ne.1, bS, if_neg q1.ne.1, bS]
      exact ⟨g, u1, w1, rfl, rfl, (OUT.err e3 e4.w1.x q1 hd.2.2.2.2).two⟩
  · obtain ⟨u', w', e1, e2, e3, e4, e5⟩ := many1 (g := g) h h14 hs
    obtain ⟨x, y⟩ := e3.ne
    have hl : cm = 30 := by omega
    rw [hl, if_neg (show ¬ nI 30 < (30 : Int32) by decide), if_pos (show nI 30 = (30 : Int32) from rfl), e1, bS, bS, e2, bS]
    unfold F8_number
    rw [if_neg x, bS]
    dsimp only
    rw [if_neg x, bS, if_neg x, bS]
    exact ⟨g, u', w', rfl, rfl, (OUT.err e4 e5.w1.x e3 hd.2.2.2.2).two⟩
