noncomputable def lineTail (t6 : RS) : Option RS := (F8_number t6 (1 : Int32) (2000 : Int32)).bind fun t9 => (ws t9.2 1 1037 0 t9.1).bind fun u11 => (F8_number u11 (0 : Int32) (999 : Int32)).bind fun t13 => (ws t13.2 1 1037 3 t13.1).bind fun u15 => (ws u15 1 1037 5 (u15 1 3)).bind fun u17 => (F8_number u17 (1 : Int32) (20 : Int32)).bind fun t19 => (ws t19.2 1 1037 1 t19.1).bind fun u21 => (F8_number u21 (1 : Int32) (9 : Int32)).bind fun t23 => (ws t23.2 1 1037 2 t23.1).bind fun u25 => some u25
theorem linePart_t {u0 : RS} : F8_linePart u0 = (F8_reads u0).bind fun u1 => (F8_isWord u1 [108, 105, 110, 101]).bind fun x3 => (if x3 = 0 then ((F8_fails u1 (1 : Int32)).bind fun u27 => some u27) else (some u1) : Option (RS)).bind lineTail := rfl
theorem wsk {w : RS} {k : Nat} {x : Int32} (hk : k < 1037) : ws w 1 1037 (nI k) x = some (up w 1 k x) := ws_n hk (by omega)
theorem line2 {b : Nat → Int32} {n B : Nat} {g : CG} {u w : RS} (hb : BB b n) (h : OKi b n u w) (hB : B < 2000000000) (hti : TI g u) (hz : ∀ i, i < 137 → i ≠ 0 → i ≠ 1 → i ≠ 2 → w 1 i = nI 0) : ∃ u' w', C5_readLine g u 1 = some u' ∧ lineTail w = some w' ∧ OUT b n B 1 g u w g u' w' := by
  unfold C5_readLine lineTail
  obtain ⟨u1, w1, y1, x1, a1, a2, a3, a4, a5⟩ := numP (g := g) (lo := 1) (a2 := 2000) hb (Or.inl h) (by omega) (by decide)
  have z1 : C5_readNumber g u (1 : Int32) (2000 : Int32) = some (y1, u1) := a1
  have z2 : F8_number w (1 : Int32) (2000 : Int32) = some (x1, w1) := a2
  rw [z1, z2, bS, bS]
  dsimp only
  rw [show ws w1 1 1037 (0 : Int32) x1 = some (up w1 1 0 x1) from wsk (k := 0) (by omega), bS]
  obtain ⟨u2, w2, y2, x2, b1, b2, b3, b4, b5⟩ := numP (g := g) (u := u1) (w := up w1 1 0 x1) (lo := 0) (a2 := 999) hb (PS.w1 (a5.elim Or.inr (fun q => Or.inl q.2.1))) (by omega) (by decide)
  have z3 : C5_readNumber g u1 (0 : Int32) (999 : Int32) = some (y2, u2) := b1
  have z4 : F8_number (up w1 1 0 x1) (0 : Int32) (999 : Int32) = some (x2, w2) := b2
  rw [z3, z4, bS, bS]
  dsimp only
  rw [show ws w2 1 1037 (3 : Int32) x2 = some (up w2 1 3 x2) from wsk (k := 3) (by omega), bS, show ws (up w2 1 3 x2) 1 1037 (5 : Int32) (up w2 1 3 x2 1 3) = some (up (up w2 1 3 x2) 1 5 (up w2 1 3 x2 1 3)) from wsk (k := 5) (by omega), bS, up_eq]
  obtain ⟨u3, w3, y3, x3, c1, c2, c3, c4, c5⟩ := numP (g := g) (u := u2) (w := up (up w2 1 3 x2) 1 5 x2) (lo := 1) (a2 := 20) hb (PS.w1 (PS.w1 (b5.elim Or.inr (fun q => Or.inl q.2.1)))) (by omega) (by decide)
  have z5 : C5_readNumber g u2 (1 : Int32) (20 : Int32) = some (y3, u3) := c1
  have z6 : F8_number (up (up w2 1 3 x2) 1 5 x2) (1 : Int32) (20 : Int32) = some (x3, w3) := c2
  rw [z5, z6, bS, bS]
  dsimp only
  rw [show ws w3 1 1037 (1 : Int32) x3 = some (up w3 1 1 x3) from wsk (k := 1) (by omega), bS]
  obtain ⟨u4, w4, y4, x4, d1, d2, d3, d4, d5⟩ := numP (g := g) (u := u3) (w := up w3 1 1 x3) (lo := 1) (a2 := 9) hb (PS.w1 (c5.elim Or.inr (fun q => Or.inl q.2.1))) (by omega) (by decide)
  have z7 : C5_readNumber g u3 (1 : Int32) (9 : Int32) = some (y4, u4) := d1
  have z8 : F8_number (up w3 1 1 x3) (1 : Int32) (9 : Int32) = some (x4, w4) := d2
  rw [z7, z8, bS, bS]
  dsimp only
  rw [show ws w4 1 1037 (2 : Int32) x4 = some (up w4 1 2 x4) from wsk (k := 2) (by omega), bS]
  have FCu : FC u4 u := d3.trans (c3.trans (b3.trans a3))
  have FWw : FW1 (up w4 1 2 x4) w := FW1.up.trans (d4.w1.trans (FW1.up.trans (c4.w1.trans (FW1.up.trans (FW1.up.trans (b4.w1.trans (FW1.up.trans a4.w1)))))))
  have hti4 := TI_fc hti FCu
  rcases d5 with q | ⟨q1, q2, V4, rfl, rfl, q5, q6⟩
  · rw [q.fine, bS, if_pos (show nI 0 = (0 : Int32) from rfl), bS]
    exact ⟨u4, _, rfl, rfl, OUT.err FCu FWw.x q.w1 hti⟩
  · rcases c5 with p | ⟨p1, p2, V3, rfl, rfl, p5, p6⟩
    · exact absurd p.w1 (fun z => OK_ER q1 z)
    rcases b5 with p | ⟨r1, r2, V2, rfl, rfl, r5, r6⟩
    · exact absurd p.w1.w1 (fun z => OK_ER p1 z)
    rcases a5 with p | ⟨s1, s2, V1, rfl, rfl, s5, s6⟩
    · exact absurd p.w1 (fun z => OK_ER r1 z)
    have hV1 : V1 ≤ 2000 := by have : (2000 : Int32).toInt = 2000 := rfl; omega
    obtain ⟨i, hi, hok⟩ := q2
    rw [hok.fine, bS, if_neg (show ¬ nI 1 = (0 : Int32) from nz0)]
    obtain ⟨U, k1, k2, k3, k4, k5, k6, k7, k8, k9, k10, k11, k12⟩ := begin_C (g := g) (u := u4) (L := 1) (d := nI V1) (bl := nI V2) (tr := nI V3) (ti := nI V4) (by omega)
    rw [k1, bS, bS]
    have e1 : w4 1 = up w3 1 1 (nI V3) 1 := d4.1 1 (by decide)
    have e2 : w3 1 = up (up w2 1 3 (nI V2)) 1 5 (nI V2) 1 := c4.1 1 (by decide)
    have e3 : w2 1 = up w1 1 0 (nI V1) 1 := b4.1 1 (by decide)
    have e4 : w1 1 = w 1 := a4.1 1 (by decide)
    have W : ∀ j, j ≠ 0 → j ≠ 1 → j ≠ 2 → j ≠ 3 → j ≠ 5 → up w4 1 2 (nI V4) 1 j = w 1 j := fun j p0 p1 p2 p3 p5 => by
      rw [up_ne (by omega), e1, up_ne (by omega), e2, up_ne (by omega), up_ne (by omega), e3, up_ne (by omega), e4]
    have W0 : up w4 1 2 (nI V4) 1 0 = nI V1 := by rw [up_ne (by omega), e1, up_ne (by omega), e2, up_ne (by omega), up_ne (by omega), e3, up_eq]
    have W1 : up w4 1 2 (nI V4) 1 1 = nI V3 := by rw [up_ne (by omega), e1, up_eq]
    have W2 : up w4 1 2 (nI V4) 1 2 = nI V4 := up_eq
    have W3 : up w4 1 2 (nI V4) 1 3 = nI V2 := by rw [up_ne (by omega), e1, up_ne (by omega), e2, up_ne (by omega), up_eq]
    have W5 : up w4 1 2 (nI V4) 1 5 = nI V2 := by rw [up_ne (by omega), e1, up_ne (by omega), e2, up_eq]
    have tir : TIr (U (10 + 1)) g.nt := by
      refine ⟨fun s hs => ?_, fun q hq => ?_⟩
      · rw [← sS_r (v := U (10 + 1)) hs (by omega), k3 _ (by omega)]; exact (hti4 1 (by omega)).1 s hs
      · rw [← sC_r (v := U (10 + 1)) hq (by omega), k3 _ (by omega)]; exact (hti4 1 (by omega)).2 q hq
    refine ⟨U, _, rfl, rfl, ?_, FWw.x, rfl, Nat.le_refl _, Nat.le_succ _, Or.inl ⟨i, 0, 0, 0, hi, ?_, ?_, ?_, ?_, ?_, ?_⟩⟩
    · refine ⟨fun R p _ _ _ s _ => ?_, fun j p q s _ _ => ?_, ?_⟩
      · rw [k2 R (fun z => s (Or.inl z)) (fun z => s (Or.inr (Or.inl z)))]; exact FCu.1 R p
      · rw [k2 0 (by omega) (by omega)]; exact FCu.2 j p q s
      · rw [k2 5 (by omega) (by omega), FCu.1 5 (by omega)]
    · obtain ⟨y1, y2, y3, y4, y5, y6, y7⟩ := hok.w1 (i := 2) (x := nI V4)
      have ee0 : U 0 = u4 0 := k2 0 (by omega) (by omega)
      have ee3 : U 3 = u4 3 := k2 3 (by omega) (by omega)
      exact ⟨⟨by rw [ee0]; exact y1.1, fun k hk => by rw [ee3]; exact y1.2 k hk⟩, y2, y3, by rw [ee0]; exact y4, y5, by rw [ee0]; exact y6, y7⟩
    · refine QR.fresh (d := V1) hB s5 hV1 k5 (k11 6 (by omega) (by omega)) (k11 7 (by omega) (by omega)) (k11 8 (by omega) (by omega)) (k11 9 (by omega) (by omega)) (fun j p q r => ?_) ?_ ?_ (fun a ha => k4 a ha) tir
      · rcases (show j = 0 ∨ j = 1 ∨ j = 2 ∨ j = 3 ∨ j = 4 ∨ j = 5 ∨ (6 ≤ j ∧ j < 10) ∨ 12 ≤ j by omega) with rfl | rfl | rfl | rfl | rfl | rfl | z | z
        · rw [W0, k5]
        · rw [W1, k6]
        · rw [W2, k7]
        · rw [W3, k8]
        · rw [W 4 (by omega) (by omega) (by omega) (by omega) (by omega), hz 4 (by omega) (by omega) (by omega) (by omega), k9]
        · rw [W5, k10]
        · rw [W j (by omega) (by omega) (by omega) (by omega) (by omega), hz j (by omega) (by omega) (by omega) (by omega), k11 j z.1 z.2]
        · rw [W j (by omega) (by omega) (by omega) (by omega) (by omega), hz j (by omega) (by omega) (by omega) (by omega), k12 j z p]
      · rw [W 10 (by omega) (by omega) (by omega) (by omega) (by omega)]; exact hz 10 (by omega) (by omega) (by omega) (by omega)
      · rw [W 11 (by omega) (by omega) (by omega) (by omega) (by omega)]; exact hz 11 (by omega) (by omega) (by omega) (by omega)
    · intro s k p q r s' t
      rw [W _ (by omega) (by omega) (by omega) (by omega) (by omega)]; exact hz _ (by omega) (by omega) (by omega) (by omega)
    · intro l k p q r s'
      rw [W _ (by omega) (by omega) (by omega) (by omega) (by omega)]; exact hz _ (by omega) (by omega) (by omega) (by omega)
    · exact k11 6 (by omega) (by omega)
    · intro L hL
      by_cases e : L = 1
      · subst e
        refine ⟨fun s hs => ?_, fun q hq => ?_⟩
        · rw [k3 _ (by omega)]; exact (hti4 1 hL).1 s hs
        · rw [k3 _ (by omega)]; exact (hti4 1 hL).2 q hq
      · rw [k2 _ (by omega) (by omega)]; exact hti4 L hL
