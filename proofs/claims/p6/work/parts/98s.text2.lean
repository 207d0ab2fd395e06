theorem bI {α : Type} {x : Option α} : (x.bind fun t => some t) = x := by cases x <;> rfl
noncomputable def rtl (g : CG) (u : RS) : Option RS := (if 0 < (u 0 11) then ((C5_error g u (1) ((u 0 6))).bind fun u17 => some u17) else (if (u 0 10) = 0 then ((C5_error g u (1) ((u 0 6))).bind fun u20 => some u20) else (some u)) : Option (RS)).bind fun t14 => some t14
noncomputable def ppt (t7 : Int32 × RS) : Option RS := (if ((t7.2) 0 11) = 0 then (if (t7.1) = 0 then ((F8_fails (t7.2) (1 : Int32)).bind fun u16 => some u16) else (some (t7.2))) else (some (t7.2)) : Option (RS))
theorem rtl_e {b : Nat → Int32} {n : Nat} {g : CG} {u w : RS} (h : ERs b n u w) : rtl g u = some u := by
  unfold rtl
  rw [h.errC, bS, ite_self, ite_self, bS]
theorem ppt_e {t : Int32 × RS} (h : ¬ t.2 0 11 = (0 : Int32)) : ppt t = some t.2 := by
  unfold ppt
  rw [if_neg h]
noncomputable def PN (b : Nat → Int32) (n : Nat) (u w : RS) : Prop := TC b n u ∧ TW b n w ∧ ∃ i, i ≤ n ∧ ch b n i ≠ 59 ∧ ch b n i ≠ 256 ∧ ch b n i ≠ 32 ∧ u 0 6 = nI i ∧ u 0 7 = nI 1 ∧ u 0 8 = nI i ∧ w 0 9 = nI i ∧ w 0 11 = nI 0
theorem text2 {b : Nat → Int32} {n i : Nat} {g : CG} {u w : RS} (hb : BB b n) (h : OKs b n i u w) (h50 : u 5 0 = nI 0) : ∃ u' w', C5_readText g u = some u' ∧ F8_text w = some w' ∧ XC g.nt u' u ∧ XW w' w ∧ (∀ R, 10 ≤ R → u' R = u R) ∧ w' 1 = w 1 ∧ ((∃ i' len, i ≤ i' ∧ OKs b n i' u' w' ∧ (ch b n i' = 59 ∨ ch b n i' = 256) ∧ 1 ≤ len ∧ RT u' w' 0 len (fun _ => 0) (fun _ => 0)) ∨ ERs b n u' w' ∨ (PN b n u' w' ∧ ∃ len, len ≤ 16 ∧ w' 0 19 = nI len)) := by
  have hn := hb.1
  obtain ⟨o1, o2, o3, o4, o5, o6, o7⟩ := h
  have hs := SK_le (b := b) o3
  have hT0 : TC b n (up (up u 0 10 0) 0 11 0) := ⟨by rw [up_ne (by omega), up_ne (by omega)]; exact o1.1, fun k hk => by rw [up_ne (by omega), up_ne (by omega)]; exact o1.2 k hk⟩
  have h60 : up (up u 0 10 0) 0 11 0 0 6 = nI i := by rw [up_ne (by omega), up_ne (by omega)]; exact o4
  have eC : C5_readText g u = (C5_readText_L17 (nI (SK b n i), up (up (up u 0 10 0) 0 11 0) 0 6 (nI (SK b n i))) g FUEL (nI (SK b n i)) (up (up (up u 0 10 0) 0 11 0) 0 6 (nI (SK b n i)))).bind fun t9 => rtl g t9.2 := by
    unfold C5_readText rtl
    rw [pt_n, bS, pt_n, bS, skipC hb hT0 h60 o3, bS]
  have eW : F8_text w = (pl (fun u => F8_group_0 u (nI 0)) (nI 0) FUEL (nI 0) (up (up w 0 19 0) 8 0 (nI 0))).bind ppt := by
    unfold F8_text
    rw [pt_n, bS, show F8_pieces_0 (up w 0 19 0) (0 : Int32) = pP (fun u => F8_group_0 u (nI 0)) (up w 0 19 0) (nI 0) from pP0, bI]
    unfold pP
    rw [up_eq, ws_n (by omega) (by omega), bS]
    refine congrArg (Option.bind (pl (fun u => F8_group_0 u (nI 0)) (nI 0) FUEL (nI 0) (up (up w 0 19 0) 8 0 (nI 0)))) (funext fun t7 => ?_)
    exact bI
  have hoT : OKn b n i (up (up (up u 0 10 0) 0 11 0) 0 6 (nI (SK b n i))) (up (up w 0 19 0) 8 0 (nI 0)) := by
    refine ⟨hT0.fr (FC.up (by omega)), ⟨?_, fun k hk => ?_⟩, o3, up_eq, ?_, ?_, ?_⟩
    · rw [up_ne (by omega), up_ne (by omega)]; exact o2.1
    · rw [up_ne (by omega), up_ne (by omega)]; exact o2.2 k hk
    · rw [up_ne (by omega), up_ne (by omega)]; exact o5
    · rw [up_ne (by omega), up_ne (by omega), up_ne (by omega)]; exact o6
    · rw [up_ne (by omega), up_ne (by omega)]; exact o7
  have hrt : RT (up (up (up u 0 10 0) 0 11 0) 0 6 (nI (SK b n i))) (up (up w 0 19 0) 8 0 (nI 0)) 0 0 (fun _ => 0) (fun _ => 0) := by
    refine ⟨by omega, ?_, ?_, ?_, rfl, fun k hk => by omega, Nat.le_refl _, by omega, fun k hk => ?_, fun k p q => by omega, fun k hk => by omega⟩
    · rw [up_ne (by omega), up_eq]; rfl
    · rw [up_ne (by omega), up_ne (by omega), up_eq]; rfl
    · rw [up_ne (by omega), up_eq]; rfl
    · have e : k = 0 := by omega
      rw [e, up_ne (by omega), up_ne (by omega), up_ne (by omega), up_eq]
      exact ⟨h50, rfl⟩
  have fX : XC g.nt (up (up (up u 0 10 0) 0 11 0) 0 6 (nI (SK b n i))) u := ⟨fun R p _ _ _ _ _ => by rw [up_or p, up_or p, up_or p], fun j p _ _ q r => by rw [up_ne (by omega), up_ne (by omega), up_ne (by omega)], by rw [up_ne (by omega), up_ne (by omega), up_ne (by omega)]⟩
  have fR : ∀ R, 10 ≤ R → up (up (up u 0 10 0) 0 11 0) 0 6 (nI (SK b n i)) R = u R := fun R hR => by rw [up_or (by omega), up_or (by omega), up_or (by omega)]
  have fW : XW (up (up w 0 19 0) 8 0 (nI 0)) w := ⟨fun R p _ _ q => by rw [up_or q, up_or p], fun j _ _ _ _ _ p => by rw [up_ne (by omega), up_ne (by omega)]⟩
  have fW1 : (up (up w 0 19 0) 8 0 (nI 0)) 1 = w 1 := by rw [up_or (by decide), up_or (by decide)]
  rw [eC, eW]
  generalize up (up (up u 0 10 0) 0 11 0) 0 6 (nI (SK b n i)) = U at *
  generalize up (up w 0 19 0) 8 0 (nI 0) = W at *
  generalize hT5 : (nI (SK b n i), U) = t5
  obtain ⟨y', w2, q1, q2, q3⟩ := piecesC (t5 := t5) (g := g) hb (GC0 hb) 601 i 0 (SK b n i) FUEL FUEL 0 (fun _ => 0) (fun _ => 0) U W (by omega) (by show 601 < 10000; omega) (by omega) hoT hrt ⟨fun _ => rfl, fun _ => rfl⟩ (Nat.le_refl _) (by show n + 2 ≤ 10000 + SK b n i; omega)
  rw [q1, bS]
  rcases q3 with ⟨i2, u2, len2, fc2, yc2, p1, p2, p3, p4, p5, p6, p7, p8, p9, p10, p11, p12, p13, p14, p15⟩ | ⟨yy, u2, p1, p2, p3, p4, p5, p6⟩
  · rw [p1]
    have tX : XC g.nt u2 u := p13.trans fX (Nat.le_refl _)
    have tR : ∀ R, 10 ≤ R → u2 R = u R := fun R hR => (p12 R hR).trans (fR R hR)
    have tW : XW w2 w := p14.trans fW
    have t1 : w2 1 = w 1 := p15.trans fW1
    obtain ⟨z1, z2, z3, z4, z5, z6, z7⟩ := p2
    have h16 : len2 ≤ 16 := by have := p4.2.2.2.2.2.2.2.1; omega
    have h0 : u2 0 11 = nI 0 := p4.2.1
    have h10 : u2 0 10 = nI len2 := p4.2.2.1
    by_cases e : ch b n i2 = 59 ∨ ch b n i2 = 256
    · obtain ⟨fc2, rfl⟩ : ∃ m, fc2 = m + 1 := ⟨fc2 - 1, by omega⟩
      rw [stepN hb z1 z4 z6 z3 e, bS]
      unfold rtl ppt
      dsimp only
      rw [if_neg (show ¬ (0 : Int32) < u2 0 11 by rw [h0]; decide), if_pos (show w2 0 11 = (0 : Int32) from z7)]
      by_cases l : len2 = 0
      · obtain ⟨u', w', e1, e2, e3, e4, e5⟩ := err2 (g := g) (u := u2) (w := w2) (e := 1) (p := i2) z1 z2 z3 z4 z6 z7 p3 (by omega) (by omega) (by omega)
        have e1' : C5_error g u2 (1 : Int32) (nI i2) = some u' := e1
        have e2' : F8_fails w2 (1 : Int32) = some w' := e2
        rw [if_pos (show u2 0 10 = (0 : Int32) by rw [h10, l]; rfl), z4, e1', bS, bS, if_pos (show nI y' = (0 : Int32) by rw [p8.mpr l]; rfl), e2', bS]
        exact ⟨u', w', rfl, rfl, e4.x.trans tX (Nat.le_refl _), e5.w1.x.trans tW, fun R hR => (e4.1 R (by omega)).trans (tR R hR), (e5.1 1 (by decide)).trans t1, Or.inr (Or.inl e3)⟩
      · have hy : ¬ y' = 0 := fun q => l (p8.mp q)
        rw [if_neg (show ¬ u2 0 10 = (0 : Int32) by rw [h10]; exact nI_ne (b := 0) l (by omega) (by omega)), bS, if_neg (show ¬ nI y' = (0 : Int32) from nI_ne (b := 0) hy (by omega) (by omega))]
        exact ⟨u2, w2, rfl, rfl, tX, tW, tR, t1, Or.inl ⟨i2, len2, p11, ⟨z1, z2, z3, z4, z5, z6, z7⟩, e, by omega, p4⟩⟩
    · have hin : i2 < n := by
        by_cases q : i2 < n
        · exact q
        · exact absurd (Or.inr (ch_n (b := b) (by omega))) e
      obtain ⟨fc2, rfl⟩ : ∃ m, fc2 = m + 2 := ⟨fc2 - 2, by omega⟩
      obtain ⟨u', w', e1, e2, e3, e4, e5⟩ := err2 (g := g) (u := u2) (w := w2) (e := 1) (p := i2) z1 z2 z3 z4 z6 z7 p3 (by omega) (by omega) (by omega)
      have e1' : C5_error g u2 (1 : Int32) (nI i2) = some u' := e1
      have e2' : F8_fails w2 (1 : Int32) = some w' := e2
      have e1k := Option.some.inj (e1'.symm.trans (errC0 z6))
      have k6 : u' 0 6 = nI i2 := by rw [e1k, up_ne (by omega), up_ne (by omega)]; exact z4
      have k7 : u' 0 7 = nI 1 := by rw [e1k, up_ne (by omega), up_eq]; rfl
      have k8 : u' 0 8 = nI i2 := by rw [e1k, up_eq]
      have hs : (if ch b n i2 = 41 then ((C5_closeGroup g u2).bind fun u48 => some u48) else ((C5_error g u2 (1 : Int32) (u2 0 6)).bind fun u46 => some u46) : Option RS) = some u' := by
        by_cases c3 : ch b n i2 = 41
        · rw [if_pos c3]
          unfold C5_closeGroup
          rw [if_pos (show u2 0 11 = (0 : Int32) from h0), z4, e1', bS, bS]
        · rw [if_neg c3, z4, e1', bS]
      rw [stepX hb z1 z4 z6 hin (by omega) (fun q => e (Or.inl q)), if_neg p5, if_neg p6, hs]
      unfold nx
      rw [bS, skipC hb e3.1 k6 z3, bS, SK_id p7, up_id k6]
      dsimp only
      rw [stepE e3, bS]
      dsimp only
      rw [rtl_e e3]
      by_cases l : len2 = 0
      · unfold ppt
        dsimp only
        rw [if_pos (show w2 0 11 = (0 : Int32) from z7), if_pos (show nI y' = (0 : Int32) by rw [p8.mpr l]; rfl), e2', bS]
        exact ⟨u', w', rfl, rfl, e4.x.trans tX (Nat.le_refl _), e5.w1.x.trans tW, fun R hR => (e4.1 R (by omega)).trans (tR R hR), (e5.1 1 (by decide)).trans t1, Or.inr (Or.inl e3)⟩
      · have hy : ¬ y' = 0 := fun q => l (p8.mp q)
        unfold ppt
        dsimp only
        rw [if_pos (show w2 0 11 = (0 : Int32) from z7), if_neg (show ¬ nI y' = (0 : Int32) from nI_ne (b := 0) hy (by omega) (by omega))]
        exact ⟨u', w2, rfl, rfl, e4.x.trans tX (Nat.le_refl _), tW, fun R hR => (e4.1 R (by omega)).trans (tR R hR), t1, Or.inr (Or.inr ⟨⟨e3.1, z2, i2, z3, fun q => e (Or.inl q), fun q => e (Or.inr q), p7, k6, k7, k8, z5, z7⟩, len2, h16, p4.2.2.2.1⟩)⟩
  · rw [p1, bS, ppt_e p2.ne]
    dsimp only
    have tX : XC g.nt u2 u := p4.trans fX (Nat.le_refl _)
    have tR : ∀ R, 10 ≤ R → u2 R = u R := fun R hR => (p3 R hR).trans (fR R hR)
    have tW : XW w2 w := p5.trans fW
    have t1 : w2 1 = w 1 := p6.trans fW1
    rcases p2 with p2 | ⟨z1, z2, i2, d2, z3, z4, z5, z6, z7, z8, z9, z10⟩
    · rw [rtl_e p2]
      exact ⟨u2, w2, rfl, rfl, tX, tW, tR, t1, Or.inr (Or.inl p2)⟩
    · have ec := errC0 (g := g) (e := (1 : Int32)) (p := nI i2) z7
      have er : rtl g u2 = some (up (up u2 0 7 1) 0 8 (nI i2)) := by
        unfold rtl
        rw [if_pos (show (0 : Int32) < u2 0 11 by rw [z8]; exact nI_lt (a := 0) (by omega) (by omega)), z6, ec, bS, bS]
      have fc : FC (up (up u2 0 7 1) 0 8 (nI i2)) u2 := (FC.up (by omega)).trans (FC.up (by omega))
      rw [er]
      refine ⟨_, w2, rfl, rfl, fc.x.trans tX (Nat.le_refl _), tW, fun R hR => (fc.1 R (by omega)).trans (tR R hR), t1, Or.inr (Or.inl ⟨z1.fr fc, z2, ⟨i2, z3, ?_⟩, 1, i2, by omega, by omega, by omega, ?_, z9, ?_, z10⟩)⟩
      · rw [up_ne (by omega), up_ne (by omega)]; exact z6
      · rw [up_ne (by omega), up_eq]; rfl
      · rw [up_eq]
