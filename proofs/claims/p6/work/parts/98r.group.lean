theorem RT.dn {u w : RS} {d len x y : Nat} {st ct : Nat → Nat} (h : RT u w d len (ups st (d + 1) x) (ups ct (d + 1) y)) : RT u w d len st ct := by
  obtain ⟨h1, h2, h3, h4, h5, h6, h7, h8, h9, h10, h11⟩ := h
  have e : ∀ k, k ≤ d → ups st (d + 1) x k = st k := fun k hk => by unfold ups; rw [if_neg (by omega)]
  have e2 : ∀ k, k ≤ d → ups ct (d + 1) y k = ct k := fun k hk => by unfold ups; rw [if_neg (by omega)]
  rw [e d (Nat.le_refl _)] at h7 h8
  rw [e 0 (by omega)] at h5
  refine ⟨h1, h2, h3, h4, h5, fun k hk => ?_, h7, h8, fun k hk => ?_, fun k p q => ?_, h11⟩
  · have := h6 k hk
    rw [e k (by omega), e (k + 1) (by omega)] at this
    exact this
  · have := h9 k hk
    rw [e k hk] at this
    exact this
  · have := h10 k p q
    rw [e2 k q] at this
    exact this
noncomputable def gtl (a1 : Int32) (x : Int32) (u14 : RS) : Option RS := (if (u14 0 11) = 0 then ((F8_next u14).bind fun t26 => if t26.1 = 41 then (some t26.2) else ((F8_fails t26.2 (1 : Int32)).bind fun u29 => some u29)) else (some u14) : Option (RS)).bind fun t17 => (if (t17 0 11) = 0 then ((F8_repeats t17 (a1) x).bind fun u24 => some u24) else (some t17) : Option (RS)).bind fun t21 => some t21
theorem gtl_e {a x : Int32} {u : RS} (h : ¬ u 0 11 = (0 : Int32)) : gtl a x u = some u := by
  unfold gtl
  rw [if_neg h, bS, if_neg h, bS]
theorem gsuf_e {a : Int32} {P : RS → Int32 → Option RS} {t : Int32 × RS} (h : ¬ t.2 0 11 = (0 : Int32)) : gsuf P a t = some t.2 := by
  unfold gsuf
  rw [if_neg h]
theorem errG {b : Nat → Int32} {n i d len yc fc : Nat} {st ct : Nat → Nat} {g : CG} {u w : RS} {t5 : Int32 × RS} (hb : BB b n) (h : OKs b n i u w) (h10 : w 0 10 = nI i) (ht : RT u w (d + 1) len st ct) (c1 : ¬ (97 ≤ ch b n i ∧ ch b n i ≤ 122)) (c2 : ¬ (48 ≤ ch b n i ∧ ch b n i ≤ 57)) (c4 : ch b n i = 41 → len = st (d + 1)) (hyc : yc ≤ i) (hfc : n + 2 ≤ fc + i) : ∃ w', F8_fails w (1 : Int32) = some w' ∧ PF b n g u w (C5_readText_L17 t5 g fc (nI yc) u) w' := by
  have hn := hb.1
  have hi := h.2.2.1
  have h6 := h.2.2.2.1
  have h7 := h.2.2.2.2.2.1
  by_cases e : ch b n i = 59 ∨ ch b n i = 256
  · obtain ⟨fc, rfl⟩ : ∃ m, fc = m + 1 := ⟨fc - 1, by omega⟩
    obtain ⟨o1, o2, o3, o4, o5, o6, o7⟩ := h
    have fw : FW (up (up w 0 11 (1 : Int32)) 0 12 (w 0 10)) w := (FW.up (by omega)).trans (FW.up (by omega))
    refine ⟨_, failW0 o7, _, u, stepN hb o1 o4 o6 o3 e, Or.inr ⟨o1, o2.fr fw, i, d + 1, o3, by omega, ht.1, o4, o6, ht.2.1, ?_, ?_⟩, fun _ _ => rfl, FC.rfl.x, fw.w1.x, fw.1 1 (by decide)⟩
    · rw [up_ne (by omega), up_eq]; rfl
    · rw [up_eq]; exact h10
  · have hin : i < n := by
      by_cases q : i < n
      · exact q
      · exact absurd (Or.inr (ch_n (b := b) (by omega))) e
    obtain ⟨fc, rfl⟩ : ∃ m, fc = m + 2 := ⟨fc - 2, by omega⟩
    obtain ⟨o1, o2, o3, o4, o5, o6, o7⟩ := h
    obtain ⟨u', w', e1, e2, e3, e4, e5⟩ := err2 (g := g) (u := u) (w := w) (e := 1) (p := i) o1 o2 o3 o4 o6 o7 h10 (by omega) (by omega) (by omega)
    have e1' : C5_error g u (1 : Int32) (nI i) = some u' := e1
    have e2' : F8_fails w (1 : Int32) = some w' := e2
    obtain ⟨u2, k1, k2, k3⟩ := nxE (g := g) (t5 := t5) (y := yc) (f := fc) hb e3
    have hs : (if ch b n i = 41 then ((C5_closeGroup g u).bind fun u48 => some u48) else ((C5_error g u (1 : Int32) (u 0 6)).bind fun u46 => some u46) : Option RS) = some u' := by
      by_cases c3 : ch b n i = 41
      · have hl := c4 c3
        have rl := rowLen (g := g) ht
        rw [if_pos c3]
        unfold C5_closeGroup
        rw [ht.2.1, if_neg (show ¬ nI (d + 1) = (0 : Int32) from nI_ne (b := 0) (by omega) (by have := ht.1; omega) (by omega)), rl, bS, if_pos (show nI (len - st (d + 1)) = (0 : Int32) by rw [hl, Nat.sub_self]; rfl), o4, e1', bS, bS]
      · rw [if_neg c3, o4, e1', bS]
    rw [stepX hb o1 o4 o6 hin (by omega) (by omega), if_neg c1, if_neg c2, hs, k1]
    exact ⟨w', e2', _, u2, rfl, Or.inl k3, fun R hR => (k2.1 R (by omega)).trans (e4.1 R (by omega)), (k2.trans e4).x, e5.w1.x, e5.1 1 (by decide)⟩
theorem groupC {b : Nat → Int32} {n d : Nat} {G' : RS → Option RS} {P : RS → Int32 → Option RS} {t5 : Int32 × RS} {g : CG} (hb : BB b n) (hG : d < 3 → GC b n (d + 1) G' t5 g ∧ ∀ u, P u (nI (d + 1)) = pP G' u (nI (d + 1))) : GC b n d (fun u => (gpre u (nI d)).bind (gsuf P (nI d))) t5 g := by
  intro i yc fc len st ct u w ho h10 ht hc hyc hfc
  have hn := hb.1
  have hin : i < n := ch_lt (b := b) (by omega)
  obtain ⟨fc, rfl⟩ : ∃ m, fc = m + 2 := ⟨fc - 2, by omega⟩
  obtain ⟨y, u1, u', e1, e2, e3, e4, e5⟩ := open2 (g := g) hb ho ht
  rw [stepX hb ho.1 ho.2.2.2.1 ho.2.2.2.2.2.1 hin (by omega) (by omega), if_neg (by omega), if_pos hc, e1, bS]
  dsimp only
  rw [e2, bS]
  rcases e5 with ⟨V, i', w', d3, V2, V9, hi', g1, g2, g3, g4, g5, g6⟩ | ⟨x, w', g1, g2, g3⟩
  · obtain ⟨hG1, hP⟩ := hG d3
    have h19 : w' 0 19 = nI len := (g2.2 19 (by decide) (by decide) (by decide) (by decide)).trans ht.2.2.2.1
    have eG : (gpre w (nI d)).bind (gsuf P (nI d)) = ((pl G' (nI (d + 1)) FUEL (nI 0) (up (up w' 0 9 (nI (i' + 1))) 8 (d + 1) (nI len))).bind fun t7 => (if ((t7.2) 0 11) = 0 then (if (t7.1) = 0 then ((F8_fails (t7.2) (1 : Int32)).bind fun u16 => some u16) else (some (t7.2))) else (some (t7.2)) : Option (RS))).bind (gtl (nI d) (nI V)) := by
      rw [g1, bS]
      unfold gsuf gtl
      dsimp only
      rw [if_pos (show w' 0 11 = (0 : Int32) from g3), pt_n, bS, g4, show nI i' + 1 = nI (i' + 1) from nI_add _ 1, show nI d + 1 = nI (d + 1) from nI_add _ 1, hP]
      unfold pP
      rw [up_ne (show ¬ (0 = 0 ∧ 19 = 9) by omega), h19, ws_n (by omega) (by omega), bS]
      simp only [Option.bind_assoc, bS]
      rfl
    obtain ⟨n1, n2⟩ := nxO (g := g) (t5 := t5) (y := yc) (f := fc + 1) hb g5
    have hs := SK_le (b := b) (n := n) (i := i' + 1) g5.2.2.1
    have e0 : ups st (d + 1) len (d + 1) = len := by unfold ups; rw [if_pos rfl]
    have ec : ups ct (d + 1) V (d + 1) = V := by unfold ups; rw [if_pos rfl]
    have e0d : ups st (d + 1) len d = st d := by unfold ups; rw [if_neg (by omega)]
    have fWX : XW (up (up w' 0 9 (nI (i' + 1))) 8 (d + 1) (nI len)) w := ⟨fun R p _ _ r => by rw [up_or r, up_or p]; exact g2.1 R p, fun j p q r s _ _ => by rw [up_ne (by omega), up_ne (by omega)]; exact g2.2 j p q r s⟩
    have fW1 : (up (up w' 0 9 (nI (i' + 1))) 8 (d + 1) (nI len)) 1 = w 1 := by rw [up_or (by decide), up_or (by decide)]; exact g2.1 1 (by decide)
    generalize up (up w' 0 9 (nI (i' + 1))) 8 (d + 1) (nI len) = W at *
    obtain ⟨y', w2, q1, q2, q3⟩ := piecesC hb hG1 601 (i' + 1) 0 (yc + 1) FUEL (fc + 1) len (ups st (d + 1) len) (ups ct (d + 1) V) (up u' 0 6 (nI (SK b n (i' + 1)))) W (by omega) (by show 601 < 10000; omega) (by omega) n2 (g6.fr (FC.up (by omega)) FW.rfl) (by rw [e0]; exact ⟨fun _ => rfl, fun _ => rfl⟩) (by omega) (by omega)
    have fX : XC g.nt (up u' 0 6 (nI (SK b n (i' + 1)))) u := (FC.up (by omega)).x.trans e3 (Nat.le_refl _)
    have fR : ∀ R, 10 ≤ R → up u' 0 6 (nI (SK b n (i' + 1))) R = u R := fun R hR => (up_or (by omega)).trans (e4 R hR)
    rw [n1]
    try dsimp only
    rw [eG, q1, bS]
    dsimp only
    rcases q3 with ⟨i2, u2, len2, fc2, yc2, p1, p2, p3, p4, p5, p6, p7, p8, p9, p10, p11, p12, p13, p14, p15⟩ | ⟨yy, u2, p1, p2, p3, p4, p5, p6⟩
    · rw [p1]
      rw [e0] at p8
      have p11' := p2.2.2.1
      rw [if_pos (show w2 0 11 = (0 : Int32) from p2.2.2.2.2.2.2)]
      by_cases hy : y' = 0
      · have hl := p8.mp hy
        obtain ⟨w3, z1, yy, u3, z2, z3, z4, z5, z6, z7⟩ := errG (g := g) (t5 := t5) (yc := yc2) (fc := fc2) hb p2 p3 p4 p5 p6 (fun _ => hl.trans e0.symm) p9 p10
        rw [hy, if_pos (show nI 0 = (0 : Int32) from rfl), z1, bS, bS, gtl_e z3.ne]
        exact ⟨w3, rfl, Or.inr ⟨yy, u3, z2, z3, fun R hR => ((z4 R hR).trans (p12 R hR)).trans (fR R hR), (z5.trans p13 (Nat.le_refl _)).trans fX (Nat.le_refl _), (z6.trans p14).trans fWX, (z7.trans p15).trans fW1⟩⟩
      · rw [if_neg (show ¬ nI y' = (0 : Int32) from nI_ne (b := 0) hy (by omega) (by omega)), bS]
        unfold gtl
        have hsk := SK_id (b := b) (n := n) (i := i2) p7
        rw [if_pos (show w2 0 11 = (0 : Int32) from p2.2.2.2.2.2.2), nextW hb p2.2.1 p2.2.2.2.2.1 p11', bS, hsk]
        dsimp only
        rw [up_id (x := nI i2) p2.2.2.2.2.1, up_id (x := nI i2) p3]
        have hch := ch_le (i := i2) hb
        have hlen : len < len2 := by
          have := p4.2.2.2.2.2.2.1
          rw [e0] at this
          by_cases z : len2 = len
          · exact absurd (p8.mpr z) hy
          · omega
        by_cases c : ch b n i2 = 41
        · have hin2 : i2 < n := ch_lt (b := b) (by omega)
          obtain ⟨fc2, rfl⟩ : ∃ m, fc2 = m + 2 := ⟨fc2 - 2, by omega⟩
          obtain ⟨u3, w3, z1, z2, z3, z4, z5, z6, z7⟩ := close2 (g := g) hb p2 hin2 p3 p4 (by rw [e0]; exact hlen)
          rw [ec] at z2
          rw [if_pos (show hv (ch b n i2) = (41 : Int32) from (hv_eq (c := 41) hch (by omega)).mpr c), bS, if_pos (show w2 0 11 = (0 : Int32) from p2.2.2.2.2.2.2), z2, bS, bS]
          rw [stepX hb p2.1 p2.2.2.2.1 p2.2.2.2.2.2.1 hin2 (by omega) (by omega), if_neg p5, if_neg p6, if_pos c, z1, bS]
          have tR : ∀ R, 10 ≤ R → u3 R = u R := fun R hR => ((z5 R hR).trans (p12 R hR)).trans (fR R hR)
          have tX : XC g.nt u3 u := (z3.trans p13 (Nat.le_refl _)).trans fX (Nat.le_refl _)
          have tW : XW w3 w := (z4.trans p14).trans fWX
          have t1 : w3 1 = w 1 := (z6.trans p15).trans fW1
          rcases z7 with ⟨z8, len3, z9, z10⟩ | z8
          · rw [e0d] at z9
            obtain ⟨m1, m2⟩ := nxO (g := g) (t5 := t5) (y := yc2) (f := fc2 + 1) hb z8
            have hs3 := SK_le (b := b) (n := n) (i := i2 + 1) (by omega)
            refine ⟨w3, rfl, Or.inl ⟨i2 + 1, _, fc2 + 1, yc2 + 1, len3, m1, m2, by omega, z10.dn.fr (FC.up (by omega)) FW.rfl, z9, by omega, by omega, fun R hR => (up_or (by omega)).trans (tR R hR), (FC.up (by omega)).x.trans tX (Nat.le_refl _), tW, t1⟩⟩
          · obtain ⟨u4, k1, k2, k3⟩ := nxE (g := g) (t5 := t5) (y := yc2) (f := fc2) hb z8
            exact ⟨w3, rfl, Or.inr ⟨_, u4, k1, Or.inl k3, fun R hR => (k2.1 R (by omega)).trans (tR R hR), k2.x.trans tX (Nat.le_refl _), tW, t1⟩⟩
        · obtain ⟨w3, z1, yy, u3, z2, z3, z4, z5, z6, z7⟩ := errG (g := g) (t5 := t5) (yc := yc2) (fc := fc2) hb p2 p3 p4 p5 p6 (fun q => absurd q c) p9 p10
          rw [if_neg (show ¬ hv (ch b n i2) = (41 : Int32) from fun q => c ((hv_eq (c := 41) hch (by omega)).mp q)), z1, bS, bS, if_neg z3.ne, bS]
          exact ⟨w3, rfl, Or.inr ⟨yy, u3, z2, z3, fun R hR => ((z4 R hR).trans (p12 R hR)).trans (fR R hR), (z5.trans p13 (Nat.le_refl _)).trans fX (Nat.le_refl _), (z6.trans p14).trans fWX, (z7.trans p15).trans fW1⟩⟩
    · rw [p1, if_neg p2.ne, bS, gtl_e p2.ne]
      exact ⟨w2, rfl, Or.inr ⟨yy, u2, rfl, p2, fun R hR => (p3 R hR).trans (fR R hR), p4.trans fX (Nat.le_refl _), p5.trans fWX, p6.trans fW1⟩⟩
  · obtain ⟨u2, k1, k2, k3⟩ := nxE (g := g) (t5 := t5) (y := yc) (f := fc) hb g3
    refine ⟨w', ?_, Or.inr ⟨_, u2, k1, Or.inl k3, fun R hR => (k2.1 R (by omega)).trans (e4 R hR), k2.x.trans e3 (Nat.le_refl _), g2.w1.x, g2.1 1 (by decide)⟩⟩
    try dsimp only
    rw [g1, bS, gsuf_e g3.ne.1]
theorem GC3 {b : Nat → Int32} {n : Nat} {t5 : Int32 × RS} {g : CG} (hb : BB b n) : GC b n 3 (fun u => F8_group_3 u (nI 3)) t5 g := by
  have := groupC (G' := fun _ => none) (P := F8_pieces_4) (t5 := t5) (g := g) (d := 3) hb (fun q => absurd q (by omega))
  simp only [group3]
  exact this
theorem GC2 {b : Nat → Int32} {n : Nat} {t5 : Int32 × RS} {g : CG} (hb : BB b n) : GC b n 2 (fun u => F8_group_2 u (nI 2)) t5 g := by
  have := groupC (G' := fun u => F8_group_3 u (nI 3)) (P := F8_pieces_3) (t5 := t5) (g := g) (d := 2) hb (fun _ => ⟨GC3 hb, fun u => pP3⟩)
  simp only [group2]
  exact this
theorem GC1 {b : Nat → Int32} {n : Nat} {t5 : Int32 × RS} {g : CG} (hb : BB b n) : GC b n 1 (fun u => F8_group_1 u (nI 1)) t5 g := by
  have := groupC (G' := fun u => F8_group_2 u (nI 2)) (P := F8_pieces_2) (t5 := t5) (g := g) (d := 1) hb (fun _ => ⟨GC2 hb, fun u => pP2⟩)
  simp only [group1]
  exact this
theorem GC0 {b : Nat → Int32} {n : Nat} {t5 : Int32 × RS} {g : CG} (hb : BB b n) : GC b n 0 (fun u => F8_group_0 u (nI 0)) t5 g := by
  have := groupC (G' := fun u => F8_group_1 u (nI 1)) (P := F8_pieces_1) (t5 := t5) (g := g) (d := 0) hb (fun _ => ⟨GC1 hb, fun u => pP1⟩)
  simp only [group0]
  exact this
