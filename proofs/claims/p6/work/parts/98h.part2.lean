theorem OUT.err {b : Nat → Int32} {n B m : Nat} {g : CG} {u w u' w' : RS} (hc : FC u' u) (hw : XW w' w) (h : ERs b n u' w') (ht : TI g u) : OUT b n B m g u w g u' w' :=
  ⟨hc.x, hw, rfl, Nat.le_refl _, Nat.le_succ _, Or.inr ⟨h, TI_fc ht hc⟩⟩
theorem rest2 {b : Nat → Int32} {n i sm lm cm B : Nat} {g : CG} {u w : RS} (hb : BB b n) (h : OKs b n i u w) (h1i : 1 ≤ i) (hd : DR u w g sm lm cm B) : ∃ u' w', C5_readRest g u 1 = some u' ∧ F8_restPart w = some w' ∧ OUT b n B i g u w g u' w' := by
  have hq := hd.1
  have hsm := hq.a.sm6
  unfold C5_readRest F8_restPart
  rw [hq.n7, hq.v7]
  obtain ⟨u1, w1, y1, x1, e1, e2, e3, e4, e5⟩ := num2 (g := g) (lo := 0) (a2 := nI sm - 1) hb h (by omega) (sb1 (by omega))
  rw [show (0 : Int32) = nI 0 from rfl, e1, e2, bS, bS]
  dsimp only
  rw [show C5_readNumber g u1 (1 : Int32) (99 : Int32) = C5_readNumber g u1 (nI 1) (99 : Int32) from rfl, show F8_number w1 (1 : Int32) (99 : Int32) = F8_number w1 (nI 1) (99 : Int32) from rfl]
  rcases e5 with ⟨i1, V1, q1, q2, rfl, rfl, q5, q6⟩ | ⟨q1, q2⟩
  · obtain ⟨u2, w2, y2, x2, f1, f2, f3, f4, f5⟩ := num2 (g := g) (lo := 1) (a2 := 99) hb q2 (by omega) (by decide)
    rw [f1, f2, bS, bS]
    dsimp only
    rw [show C5_readNumber g u2 (1 : Int32) (99 : Int32) = C5_readNumber g u2 (nI 1) (99 : Int32) from rfl, show F8_number w2 (1 : Int32) (99 : Int32) = F8_number w2 (nI 1) (99 : Int32) from rfl]
    rcases f5 with ⟨i2, V2, r1, r2, rfl, rfl, r5, r6⟩ | ⟨r1, r2⟩
    · obtain ⟨u3, w3, y3, x3, g1, g2, g3, g4, g5⟩ := num2 (g := g) (lo := 1) (a2 := 99) hb r2 (by omega) (by decide)
      rw [g1, g2, bS, bS]
      dsimp only
      have FCu : FC u3 u := g3.trans (f3.trans e3)
      have FWw : FW w3 w := g4.trans (f4.trans e4)
      rcases g5 with ⟨i3, V3, s1, s2, rfl, rfl, s5, s6⟩ | ⟨s1, s2⟩
      · have hd3 := hd.fr FCu FWw
        have hV : V1 < sm := by
          have := sub1_toInt (n := sm) (by omega)
          have q7 : (V1 : Int) ≤ (nI sm - nI 1).toInt := q6
          omega
        rw [s2.fine, bS, if_neg nz0, if_pos (show w3 0 11 = nI 0 from s2.w0), ix_n (show V1 < 6 by omega) (by omega), bS, pt_n, bS, bS, pt_n, bS, bS]
        rw [show F8_sets w3 (nI V1) (9 : Int32) (nI V2) = some (up w3 1 (17 + 16 * V1 + 9) (nI V2)) from F8_sets_n (k := 9) (by omega) (by omega), bS, show F8_sets (up w3 1 (17 + 16 * V1 + 9) (nI V2)) (nI V1) (10 : Int32) (nI V3) = some (up (up w3 1 (17 + 16 * V1 + 9) (nI V2)) 1 (17 + 16 * V1 + 10) (nI V3)) from F8_sets_n (k := 10) (by omega) (by omega), bS, bS]
        have hqn := QR.free (x := nI V3) 10 (by omega) (show V1 < 6 by omega) (QR.free (x := nI V2) 9 (by omega) (show V1 < 6 by omega) hd3.1)
        have hu : up (up u3 (10 + 1) (17 + 16 * V1 + 9) (nI V2)) (10 + 1) (17 + 16 * V1 + 10) (nI V3) = setL u3 1 (upd (upd (u3 (10 + 1)) (17 + 16 * V1 + 9) (nI V2)) (17 + 16 * V1 + 10) (nI V3)) (u3 (400 + 1)) := by
          rw [upC (c := u3), up_setL_w]
        have hw : up (up w3 1 (17 + 16 * V1 + 9) (nI V2)) 1 (17 + 16 * V1 + 10) (nI V3) 1 = upd (upd (w3 1) (17 + 16 * V1 + 9) (nI V2)) (17 + 16 * V1 + 10) (nI V3) := by
          rw [up1, setR_1, up1, setR_1]
        refine ⟨_, _, rfl, rfl, ?_, (FW1.up.trans (FW1.up.trans FWw.w1)).x, rfl, Nat.le_refl _, Nat.le_succ _, Or.inl ⟨i3, sm, lm, cm, by omega, ?_, ?_, ?_, ?_, ?_, ?_⟩⟩
        · refine ⟨fun R p _ _ _ s _ => ?_, fun j p q s _ _ => ?_, ?_⟩
          · have : R ≠ 10 + 1 := fun z => s (Or.inl z)
            rw [up_or this, up_or this]; exact FCu.1 R p
          · rw [up_ne (by omega), up_ne (by omega)]; exact FCu.2 j p q s
          · rw [up_ne (by omega), up_ne (by omega), FCu.1 5 (by omega)]
        · obtain ⟨z1, z2, z3, z4, z5, z6, z7⟩ := (s2.w1 (i := 17 + 16 * V1 + 9) (x := nI V2)).w1 (i := 17 + 16 * V1 + 10) (x := nI V3)
          refine ⟨⟨by rw [up_ne (by omega), up_ne (by omega)]; exact z1.1, fun k hk => by rw [up_ne (by omega), up_ne (by omega)]; exact z1.2 k hk⟩, z2, z3, by rw [up_ne (by omega), up_ne (by omega)]; exact z4, z5, by rw [up_ne (by omega), up_ne (by omega)]; exact z6, z7⟩
        · rw [hu, hw]
          exact QX.toY (by omega) hqn
        · intro s k p q r s' t
          rw [up_ne (by omega), up_ne (by omega)]; exact hd3.2.1 s k p q r s' t
        · intro l k p q r s'
          rw [up_ne (by omega), up_ne (by omega)]; exact hd3.2.2.1 l k p q r s'
        · rw [up_ne (by omega), up_ne (by omega)]; exact hd3.2.2.2.1
        · intro L hL
          by_cases e : L = 1
          · subst e
            refine ⟨fun s hs => ?_, fun q hq => ?_⟩
            · rw [up_ne (by omega), up_ne (by omega)]; exact (hd3.2.2.2.2 1 hL).1 s hs
            · rw [up_ne (by omega), up_ne (by omega)]; exact (hd3.2.2.2.2 1 hL).2 q hq
          · rw [up_or (by omega), up_or (by omega)]; exact hd3.2.2.2.2 L hL
      · rw [s1.fine, bS, if_pos rfl, bS, if_neg (show ¬ w3 0 11 = nI 0 from s1.ne.1), bS]
        exact ⟨u3, w3, rfl, rfl, OUT.err FCu FWw.w1.x s1 hd.2.2.2.2⟩
    · obtain ⟨u3, y3, g1, g2, g3, g4⟩ := numE (g := g) (a1 := nI 1) (a2 := 99) hb r1
      rw [g1, g2, bS, bS]
      dsimp only
      rw [g4.fine, bS, if_pos rfl, bS, if_neg (show ¬ w2 0 11 = nI 0 from g4.ne.1), bS]
      exact ⟨u3, w2, rfl, rfl, OUT.err (g3.trans (f3.trans e3)) (f4.trans e4).w1.x g4 hd.2.2.2.2⟩
  · obtain ⟨u2, y2, f1, f2, f3, f4⟩ := numE (g := g) (a1 := nI 1) (a2 := 99) hb q1
    rw [f1, f2, bS, bS]
    dsimp only
    rw [show C5_readNumber g u2 (1 : Int32) (99 : Int32) = C5_readNumber g u2 (nI 1) (99 : Int32) from rfl, show F8_number w1 (1 : Int32) (99 : Int32) = F8_number w1 (nI 1) (99 : Int32) from rfl]
    obtain ⟨u3, y3, g1, g2, g3, g4⟩ := numE (g := g) (a1 := nI 1) (a2 := 99) hb f4
    rw [g1, g2, bS, bS]
    dsimp only
    rw [g4.fine, bS, if_pos rfl, bS, if_neg (show ¬ w1 0 11 = nI 0 from g4.ne.1), bS]
    exact ⟨u3, w1, rfl, rfl, OUT.err (g3.trans (f3.trans e3)) e4.w1.x g4 hd.2.2.2.2⟩
theorem scrE {b : Nat → Int32} {n st : Nat} {g : CG} {u w : RS} (hb : BB b n) (h : ERs b n u w) : ∃ u', C5_readScript g u = some (0, g, u') ∧ F8_scriptPart w (nI st) = some w ∧ FC u' u ∧ ERs b n u' w := by
  obtain ⟨i, h3, h4⟩ := h.2.2.1
  have h1 := h.1
  have hn := hb.1
  have hs := SK_le (b := b) h3
  have hdl := dg_le (b := b) (n - SK b n i) (SK b n i)
  unfold C5_readScript F8_scriptPart
  rw [skipC hb h1 h4 h3, if_neg h.ne.1, bS, bS, if_neg h.ne.1]
  dsimp only
  have hsc := scrLC (g := g) (t1 := (nI (SK b n i), up u 0 6 (nI (SK b n i)))) hb (n - SK b n i) (SK b n i) FUEL 1 (up u 0 6 (nI (SK b n i))) (by omega) (by show n - SK b n i < 10000; omega) (by omega) (h1.fr (FC.up (by omega))) up_eq
  rw [Nat.one_mul] at hsc
  rw [show (1 : Int32) = nI 1 from rfl, hsc, bS, up_up]
  dsimp only
  have he := h.fc (i := dg b (n - SK b n i) (SK b n i)) (by omega)
  have e0 : ∀ e p, C5_error g (up u 0 6 (nI (dg b (n - SK b n i) (SK b n i)))) e p = some (up u 0 6 (nI (dg b (n - SK b n i) (SK b n i)))) := fun e p => he.errC
  refine ⟨up u 0 6 (nI (dg b (n - SK b n i) (SK b n i))), ?_, rfl, FC.up (by omega), he⟩
  have e1 : ((if up u 0 6 (nI (dg b (n - SK b n i) (SK b n i))) 0 6 = nI (SK b n i) then ((C5_error g (up u 0 6 (nI (dg b (n - SK b n i) (SK b n i)))) (nI 1) (nI (SK b n i))).bind fun u28 => some u28) else (if nI (sfl b (n - SK b n i) (SK b n i)) = 0 then ((C5_error g (up u 0 6 (nI (dg b (n - SK b n i) (SK b n i)))) 2 (nI (SK b n i))).bind fun u23 => some u23) else (if (up u 0 6 (nI (dg b (n - SK b n i) (SK b n i))) 0 6) - nI (SK b n i) ≤ 12 then (some (up u 0 6 (nI (dg b (n - SK b n i) (SK b n i))))) else ((C5_error g (up u 0 6 (nI (dg b (n - SK b n i) (SK b n i)))) 2 (nI (SK b n i))).bind fun u26 => some u26)))) : Option RS) = some (up u 0 6 (nI (dg b (n - SK b n i) (SK b n i)))) := by
    simp only [e0, bS]
    repeat' split
    all_goals rfl
  rw [e1, bS, he.fine, bS, if_pos (show nI 0 = (0 : Int32) from rfl)]
