noncomputable def gpre (u0 : RS) (a1 : Int32) : Option (Int32 × RS) := (F8_number u0 (2 : Int32) (9 : Int32)).bind fun t1 => (if (t1.2 0 11) = 0 then (if a1 = 3 then ((pt t1.2 0 10 (u0 0 9)).bind fun u37 => (F8_fails u37 (3 : Int32)).bind fun u39 => some u39) else (some t1.2)) else (some t1.2) : Option (RS)).bind fun t4 => (if (t4 0 11) = 0 then ((F8_next t4).bind fun t31 => if t31.1 = 40 then (some t31.2) else ((F8_fails t31.2 (1 : Int32)).bind fun u34 => some u34)) else (some t4) : Option (RS)).bind fun t8 => some (t1.1, t8)
noncomputable def gsuf (P : RS → Int32 → Option RS) (a1 : Int32) (t : Int32 × RS) : Option RS := if (t.2 0 11) = 0 then ((pt t.2 0 9 ((t.2 0 9) + 1)).bind fun u12 => (P u12 ((a1 + 1))).bind fun u14 => (if (u14 0 11) = 0 then ((F8_next u14).bind fun t26 => if t26.1 = 41 then (some t26.2) else ((F8_fails t26.2 (1 : Int32)).bind fun u29 => some u29)) else (some u14) : Option (RS)).bind fun t17 => (if (t17 0 11) = 0 then ((F8_repeats t17 (a1) (t.1)).bind fun u24 => some u24) else (some t17) : Option (RS)).bind fun t21 => some t21) else (some t.2)
theorem group0 {u : RS} {a : Int32} : F8_group_0 u a = (gpre u a).bind (gsuf F8_pieces_1 a) := by
  unfold F8_group_0 gpre gsuf
  simp only [Option.bind_assoc, bS]
theorem group1 {u : RS} {a : Int32} : F8_group_1 u a = (gpre u a).bind (gsuf F8_pieces_2 a) := by
  unfold F8_group_1 gpre gsuf
  simp only [Option.bind_assoc, bS]
theorem group2 {u : RS} {a : Int32} : F8_group_2 u a = (gpre u a).bind (gsuf F8_pieces_3 a) := by
  unfold F8_group_2 gpre gsuf
  simp only [Option.bind_assoc, bS]
theorem group3 {u : RS} {a : Int32} : F8_group_3 u a = (gpre u a).bind (gsuf F8_pieces_4 a) := by
  unfold F8_group_3 gpre gsuf
  simp only [Option.bind_assoc, bS]
theorem openE {b : Nat → Int32} {n d : Nat} {g : CG} {u w : RS} {y p : Int32} (hb : BB b n) (h : ERs b n u w) (hd : u 0 11 = nI d) : ∃ u', C5_openGroup g u y p = some u' ∧ FC u' u ∧ ERs b n u' w := by
  obtain ⟨i, h3, h4⟩ := h.2.2.1
  have hn := hb.1
  have hs := SK_le (b := b) h3
  have he := h.fc (i := SK b n i) hs.2
  have e1 : ((if (u 0 11) < 3 then (some u) else ((C5_error g u (3) p).bind fun u32 => some u32) : Option (RS))) = some u := by
    rw [h.errC, bS]; split <;> rfl
  unfold C5_openGroup
  rw [e1, bS, skipC hb h.1 h4 h3, bS]
  dsimp only
  generalize hu : up u 0 6 (nI (SK b n i)) = u1 at *
  have e6 : u1 0 6 = nI (SK b n i) := by rw [← hu]; exact up_eq
  have fc : FC u1 u := by rw [← hu]; exact FC.up (by omega)
  have e2 : ((if (u1 0 5) ≤ (u1 0 6) then ((C5_error g u1 (1) ((u1 0 6))).bind fun u25 => some u25) else ((rd u1 3 600 (u1 0 6)).bind fun x27 => if x27 = 40 then (some u1) else ((C5_error g u1 (1) ((u1 0 6))).bind fun u30 => some u30)) : Option (RS))) = some u1 := by
    rw [he.errC, bS, he.1.1, e6]
    by_cases c : SK b n i < n
    · rw [if_neg (nI_ge c (by omega)), rd_n (by omega) (by omega), bS]; split <;> rfl
    · rw [if_pos (nI_le (by omega) (by omega))]
  rw [e2, bS, he.fine, bS, if_pos (show nI 0 = (0 : Int32) from rfl), bS]
  exact ⟨u1, rfl, fc, he⟩
noncomputable def ups (f : Nat → Nat) (k x : Nat) : Nat → Nat := fun j => if j = k then x else f j
theorem open2 {b : Nat → Int32} {n i d len : Nat} {st ct : Nat → Nat} {g : CG} {u w : RS} (hb : BB b n) (h : OKs b n i u w) (ht : RT u w d len st ct) : ∃ y u1 u', C5_readNumber g u (2 : Int32) (9 : Int32) = some (y, u1) ∧ C5_openGroup g u1 y (u 0 6) = some u' ∧ XC g.nt u' u ∧ (∀ R, 10 ≤ R → u' R = u R) ∧ ((∃ V i' w', d < 3 ∧ 2 ≤ V ∧ V ≤ 9 ∧ i ≤ i' ∧ gpre w (nI d) = some (nI V, w') ∧ FW w' w ∧ w' 0 11 = nI 0 ∧ w' 0 9 = nI i' ∧ OKs b n (i' + 1) u' (up (up w' 0 9 (nI (i' + 1))) 8 (d + 1) (nI len)) ∧ RT u' (up (up w' 0 9 (nI (i' + 1))) 8 (d + 1) (nI len)) (d + 1) len (ups st (d + 1) len) (ups ct (d + 1) V)) ∨ (∃ x w', gpre w (nI d) = some (x, w') ∧ FW w' w ∧ ERs b n u' w')) := by
  have hn := hb.1
  have hi := h.2.2.1
  have h6u := h.2.2.2.1
  have h9w := h.2.2.2.2.1
  obtain ⟨u1, w1, y, x, e1, e2, e3, e4, e5⟩ := num2 (g := g) (lo := 2) (a2 := 9) hb h (by omega) (by decide)
  have e1' : C5_readNumber g u (2 : Int32) (9 : Int32) = some (y, u1) := e1
  have e2' : F8_number w (2 : Int32) (9 : Int32) = some (x, w1) := e2
  unfold gpre
  rw [e2', bS]
  dsimp only
  have hd3 := ht.1
  have hdep : u1 0 11 = nI d := (e3.2 11 (by decide) (by decide) (by decide)).trans ht.2.1
  rcases e5 with ⟨i1, V, q1, q2, rfl, rfl, q5, q6⟩ | ⟨q1, q2⟩
  · have ht1 := ht.fr e3 e4
    rw [if_pos q2.w0]
    by_cases c : d = 3
    · subst c
      obtain ⟨o1, o2, o3, o4, o5, o6, o7⟩ := q2
      obtain ⟨u2, w2, f1, f2, f3, f4, f5⟩ := err2 (g := g) (u := u1) (w := up w1 0 10 (nI i)) (e := 3) (p := i) o1 (o2.fr (FW.up (by omega))) o3 o4 o6 (by rw [up_ne (by omega)]; exact o7) up_eq (by omega) (by omega) (by omega)
      have f1' : C5_error g u1 (3 : Int32) (nI i) = some u2 := f1
      have f2' : F8_fails (up w1 0 10 (nI i)) (3 : Int32) = some w2 := f2
      rw [if_pos (show nI 3 = (3 : Int32) from rfl), h9w, pt_n, bS, f2', bS, bS, if_neg f3.ne.1, bS]
      obtain ⟨u3, g1, g2, g3⟩ := openE (g := g) (d := 3) (y := nI V) (p := nI i) hb f3 ((f4.2 11 (by decide) (by decide) (by decide)).trans hdep)
      have eo : C5_openGroup g u1 (nI V) (u 0 6) = some u3 := by
        unfold C5_openGroup at g1 ⊢
        rw [hdep, if_neg (show ¬ nI 3 < (3 : Int32) by decide), h6u, f1', bS, bS]
        rw [(f4.2 11 (by decide) (by decide) (by decide)).trans hdep, if_neg (show ¬ nI 3 < (3 : Int32) by decide), f3.errC, bS, bS] at g1
        exact g1
      refine ⟨nI V, u1, u3, e1', eo, (g2.trans (f4.trans e3)).x, fun R hR => (g2.trans (f4.trans e3)).1 R (by omega), Or.inr ⟨nI V, w2, rfl, f5.trans ((FW.up (by omega)).trans e4), g3⟩⟩
    · rw [if_neg (show ¬ nI d = (3 : Int32) from nI_ne (b := 3) c (by omega) (by omega)), bS, if_pos q2.w0]
      obtain ⟨o1, o2, o3, o4, o5, o6, o7⟩ := q2
      have hs := SK_le (b := b) o3
      have hch := ch_le (i := SK b n i1) hb
      rw [nextW hb o2 o5 o3, bS]
      dsimp only
      generalize hs' : SK b n i1 = s at *
      have hT : TC b n (up u1 0 6 (nI s)) := o1.fr (FC.up (by omega))
      have hW : TW b n (up (up w1 0 9 (nI s)) 0 10 (nI s)) := (o2.fr (FW.up (by omega))).fr (FW.up (by omega))
      have fC : FC (up u1 0 6 (nI s)) u := (FC.up (by omega)).trans e3
      have fW : FW (up (up w1 0 9 (nI s)) 0 10 (nI s)) w := ((FW.up (by omega)).trans (FW.up (by omega))).trans e4
      have k6 : up u1 0 6 (nI s) 0 6 = nI s := up_eq
      have k7 : up u1 0 6 (nI s) 0 7 = nI 0 := by rw [up_ne (by omega)]; exact o6
      have k9 : up (up w1 0 9 (nI s)) 0 10 (nI s) 0 9 = nI s := by rw [up_ne (by omega), up_eq]
      have k10 : up (up w1 0 9 (nI s)) 0 10 (nI s) 0 10 = nI s := up_eq
      have k11 : up (up w1 0 9 (nI s)) 0 10 (nI s) 0 11 = nI 0 := by rw [up_ne (by omega), up_ne (by omega)]; exact o7
      have eo : C5_openGroup g u1 (nI V) (u 0 6) = ((if ch b n s = 40 then (some (up u1 0 6 (nI s))) else ((C5_error g (up u1 0 6 (nI s)) (1 : Int32) (nI s)).bind fun u30 => some u30) : Option RS)).bind fun t8 => (C5_isFine g t8).bind fun x11 => (if x11 = 0 then (some t8) else ((pt t8 0 6 ((t8 0 6) + 1)).bind fun u17 => (pt u17 0 11 ((u17 0 11) + 1)).bind fun u19 => (ws u19 5 4 (u19 0 11) (u19 0 10)).bind fun u21 => (ws u21 6 4 (u21 0 11) (nI V)).bind fun u23 => some u23) : Option (RS)).bind fun t14 => some t14 := by
        unfold C5_openGroup
        rw [hdep, if_pos (show nI d < (3 : Int32) from nI_lt (b := 3) (by omega) (by omega)), bS, skipC hb o1 o4 o3, hs', bS]
        dsimp only
        by_cases z : s < n
        · rw [if_neg (show ¬ up u1 0 6 (nI s) 0 5 ≤ up u1 0 6 (nI s) 0 6 by rw [hT.1, k6]; exact nI_ge z (by omega)), k6, rd_n (by omega) (by omega), bS, hT.2 s z]
          have hbz := b_eq (hb.2 s z) (c := 40) (by omega)
          rw [ch_i z]
          by_cases y : cd (b s) = 40
          · rw [if_pos y, if_pos (show b s = (40 : Int32) from hbz.mpr y)]
          · rw [if_neg y, if_neg (show ¬ b s = (40 : Int32) from fun q => y (hbz.mp q))]
        · rw [if_pos (show up u1 0 6 (nI s) 0 5 ≤ up u1 0 6 (nI s) 0 6 by rw [hT.1, k6]; exact nI_le (by omega) (by omega)), k6, ch_n (show n ≤ s by omega), if_neg (show ¬ 256 = 40 by omega)]
      generalize hU : up u1 0 6 (nI s) = U at *
      generalize hWW : up (up w1 0 9 (nI s)) 0 10 (nI s) = W at *
      have htU := ht.fr fC fW
      by_cases z : ch b n s = 40
      · have hsn : s < n := ch_lt (b := b) (by omega)
        rw [if_pos z, bS, fineC0 k7, bS, if_neg (show ¬ nI 1 = (0 : Int32) from nz0), pt_n, bS, pt_n, bS, up_ne (by omega), up_eq, up_ne (by omega), up_ne (by omega), htU.2.1, htU.2.2.1, k6, show nI d + 1 = nI (d + 1) from nI_add _ 1, show nI s + 1 = nI (s + 1) from nI_add _ 1, ws_n (by omega) (by omega), bS, up_ne (by omega), up_eq, ws_n (by omega) (by omega), bS, bS] at eo
        rw [if_pos (show hv (ch b n s) = (40 : Int32) from (hv_eq (c := 40) hch (by omega)).mpr z), bS]
        obtain ⟨g1, g2, g3, g4, g5, g6, g7, g8, g9, g10, g11⟩ := htU
        refine ⟨nI V, u1, _, e1', eo, ?_, fun R hR => ?_, Or.inl ⟨V, s, W, by omega, q5, by have : (9 : Int32).toInt = 9 := rfl; omega, by omega, rfl, fW, k11, k9, ⟨⟨?_, fun k hk => ?_⟩, ⟨?_, fun k hk => ?_⟩, by omega, ?_, ?_, ?_, ?_⟩, ⟨by omega, ?_, ?_, ?_, ?_, fun k hk => ?_, ?_, ?_, fun k hk => ?_, fun k p q => ?_, fun k hk => ?_⟩⟩⟩
        · refine ⟨fun R p _ q r _ _ => by rw [up_or r, up_or q, up_or p, up_or p]; exact fC.1 R p, fun j p q r _ t => by rw [up_ne (by omega), up_ne (by omega), up_ne (by omega), up_ne (by omega)]; exact fC.2 j p q r, by rw [up_ne (by omega), up_ne (by omega), up_ne (by omega), up_ne (by omega), fC.1 5 (by decide)]⟩
        · rw [up_or (by omega), up_or (by omega), up_or (by omega), up_or (by omega)]; exact fC.1 R (by omega)
        · rw [up_ne (by omega), up_ne (by omega), up_ne (by omega), up_ne (by omega)]; exact hT.1
        · rw [up_ne (by omega), up_ne (by omega), up_ne (by omega), up_ne (by omega)]; exact hT.2 k hk
        · rw [up_ne (by omega), up_ne (by omega)]; exact hW.1
        · rw [up_ne (by omega), up_ne (by omega)]; exact hW.2 k hk
        · rw [up_ne (by omega), up_ne (by omega), up_ne (by omega), up_eq]
        · rw [up_ne (by omega), up_eq]
        · rw [up_ne (by omega), up_ne (by omega), up_ne (by omega), up_ne (by omega)]; exact k7
        · rw [up_ne (by omega), up_ne (by omega)]; exact k11
        · rw [up_ne (by omega), up_ne (by omega), up_eq]
        · rw [up_ne (by omega), up_ne (by omega), up_ne (by omega), up_ne (by omega)]; exact g3
        · rw [up_ne (by omega), up_ne (by omega)]; exact g4
        · unfold ups; rw [if_neg (by omega)]; exact g5
        · unfold ups
          by_cases e : k = d
          · subst e; rw [if_neg (by omega), if_pos rfl]; omega
          · rw [if_neg (by omega), if_neg (by omega)]; exact g6 k (by omega)
        · unfold ups; rw [if_pos rfl]; exact Nat.le_refl _
        · unfold ups; rw [if_pos rfl]; omega
        · unfold ups
          by_cases e : k = d + 1
          · subst e; rw [if_pos rfl, up_ne (by omega), up_eq, up_eq]; exact ⟨rfl, rfl⟩
          · rw [if_neg e, up_ne (by omega), up_ne (by omega), up_ne (by omega), up_ne (by omega), up_ne (by omega), up_ne (by omega)]; exact g9 k (by omega)
        · unfold ups
          by_cases e : k = d + 1
          · subst e; rw [if_pos rfl, up_eq]; have : (9 : Int32).toInt = 9 := rfl; exact ⟨rfl, q5, by omega⟩
          · rw [if_neg e, up_ne (by omega), up_ne (by omega), up_ne (by omega), up_ne (by omega)]; exact g10 k p (by omega)
        · rw [up_ne (by omega), up_ne (by omega), up_ne (by omega), up_ne (by omega), up_ne (by omega), up_ne (by omega)]; exact g11 k hk
      · obtain ⟨u2, w2, f1, f2, f3, f4, f5⟩ := err2 (g := g) (u := U) (w := W) (e := 1) hT hW hs.2 k6 k7 k11 k10 (by omega) (by omega) (by omega)
        have f1' : C5_error g U (1 : Int32) (nI s) = some u2 := f1
        have f2' : F8_fails W (1 : Int32) = some w2 := f2
        rw [if_neg z, f1', bS, bS, f3.fine, bS, if_pos (show nI 0 = (0 : Int32) from rfl), bS] at eo
        rw [if_neg (show ¬ hv (ch b n s) = (40 : Int32) from fun q => z ((hv_eq (c := 40) hch (by omega)).mp q)), f2', bS, bS]
        exact ⟨nI V, u1, u2, e1', eo, (f4.trans fC).x, fun R hR => (f4.trans fC).1 R (by omega), Or.inr ⟨nI V, w2, rfl, f5.trans fW, f3⟩⟩
  · rw [if_neg q1.ne.1, bS, if_neg q1.ne.1, bS]
    obtain ⟨u3, g1, g2, g3⟩ := openE (g := g) (d := d) (y := y) (p := u 0 6) hb q1 hdep
    exact ⟨y, u1, u3, e1', g1, (g2.trans e3).x, fun R hR => (g2.trans e3).1 R (by omega), Or.inr ⟨x, w1, rfl, e4, g3⟩⟩
