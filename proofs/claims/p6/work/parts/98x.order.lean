theorem remF {r c c2 : RS} {g g2 : CG} {B T : Nat} (h : GI r c g B T) (e : C7_remember g c = some (g2, c2)) : (∀ R, R ≠ 0 → R < 10 → c2 R = c R) ∧ ∀ i, i ≠ 3 → i ≠ 4 → c2 0 i = c 0 i := by
  obtain ⟨sm, lm, cm, h0⟩ := h.l
  unfold C7_remember at e
  obtain ⟨t2, a1, e⟩ := ob e
  have f2 : (∀ R, R ≠ 0 → t2 R = c R) ∧ ∀ i, i ≠ 3 → i ≠ 4 → t2 0 i = c 0 i := by
    split at a1
    · obtain ⟨x, -, a1⟩ := ob a1
      rw [pt_n, bS, pt_n, bS] at a1
      rw [← Option.some.inj a1]
      exact ⟨fun R hR => by rw [up_or hR, up_or hR], fun i p q => by rw [up_ne (by omega), up_ne (by omega)]⟩
    · rw [← Option.some.inj a1]
      exact ⟨fun _ _ => rfl, fun _ _ _ => rfl⟩
  obtain ⟨x5, -, e⟩ := ob e
  obtain ⟨n7, a2, e⟩ := ob e
  have hn7 := ix_lt a2
  have hq : QY t2 g 0 (r 1) sm lm cm B B := QY.frame (by omega) h0 (Nat.le_refl _) (fun R hR => f2.1 R (by unfold OWN at hR; omega)) (fun t _ _ => f2.1 _ (by omega))
  split at e
  · obtain ⟨u10, a3, e⟩ := ob e
    rw [pt_n, bS] at e
    obtain ⟨c3, k1, k2, k3⟩ := copyFrom_ok (L := 2 + n7) (L2 := 0) (by omega) (by omega) (by omega) hq (by rw [f2.1 _ (by omega)]; exact h.ti _ (by omega))
    have e3 : c3 = u10 := Option.some.inj (k1.symm.trans a3)
    have ec := (Prod.mk.inj (Option.some.inj e)).2
    rw [← ec, ← e3]
    exact ⟨fun R p q => by rw [up_or p, k2 R (by unfold OWN; omega)]; exact f2.1 R p, fun i p q => by rw [up_ne (by omega), k2 0 (by unfold OWN; omega)]; exact f2.2 i p q⟩
  · rw [bS, bS] at e
    obtain ⟨u10, a3, e⟩ := ob e
    rw [pt_n, bS] at e
    have hq2 : QY (ul t2 (2 + n7)) (gl g (2 + n7)) 0 (r 1) sm lm cm B B := QY.frame (by omega) hq (Nat.le_refl _) (fun R hR => ul_row (by omega) (by unfold OWN at hR ⊢; omega)) (fun t _ _ => ul_row (by omega) (by unfold OWN; omega))
    obtain ⟨c3, k1, k2, k3⟩ := copyFrom_ok (L := 2 + n7) (L2 := 0) (by omega) (by omega) (by omega) hq2 (ul_tir (by omega))
    have e3 : c3 = u10 := Option.some.inj (k1.symm.trans a3)
    have ec := (Prod.mk.inj (Option.some.inj e)).2
    rw [← ec, ← e3]
    exact ⟨fun R p q => by rw [up_or p, k2 R (by unfold OWN; omega), ul_row (by omega) (by unfold OWN; omega)]; exact f2.1 R p, fun i p q => by rw [up_ne (by omega), k2 0 (by unfold OWN; omega), ul_row (by omega) (by unfold OWN; omega)]; exact f2.2 i p q⟩
theorem GI.read {r c r2 c2 : RS} {g : CG} {B T : Nat} (h : GI r c g B T) (hR : ∀ R, R ≠ 0 → R ≠ 7 → R ≠ 8 → r2 R = r R) (h5 : r2 0 5 = r 0 5) (h22 : r2 0 22 = r 0 22) (h8 : r2 0 8 = nI 0) (hC : ∀ R, R ≠ 0 → R ≠ 4 → R ≠ 5 → R ≠ 6 → c2 R = c R) (c50 : c2 5 0 = nI 0) (c3 : c2 0 3 = c 0 3) (c4 : c2 0 4 = c 0 4) (c00 : c2 0 0 = c 0 0) (c5 : c2 0 5 = nI 0) (e1 : c2 0 1 = r2 0 15) (e2 : c2 0 2 = r2 0 16) : GI r2 c2 g B T := by
  have ox : ∀ L R, L < 12 → OWN L R → c2 R = c R := fun L R b hR' => hC R (by unfold OWN at hR'; omega) (by unfold OWN at hR'; omega) (by unfold OWN at hR'; omega) (by unfold OWN at hR'; omega)
  have tx : ∀ t, 1 ≤ t → t ≤ g.nt → c2 (500 + t) = c (500 + t) := fun t _ _ => hC _ (by omega) (by omega) (by omega) (by omega)
  refine ⟨?_, fun L hL => ?_, ?_, ?_, ⟨c50, 0, by omega, c5, h8, fun k hk => by omega⟩, ⟨e1, e2⟩, h.o.frame c00 h22, h.n⟩
  · rw [hR 1 (by decide) (by decide) (by decide)]
    exact h.l.frame (by omega) (Nat.le_refl _) (fun R q => ox 0 R (by omega) q) tx
  · rw [hC _ (by omega) (by omega) (by omega) (by omega)]; exact h.ti L hL
  · exact h.p.frame (Nat.le_refl _) (fun _ _ _ q => q) c3 c4 h5 (hR 3 (by decide) (by decide) (by decide)) (fun L R a b q => ox L R (by omega) q) tx
  · exact h.s.frame (Nat.le_refl _) (fun _ _ _ => rfl) (hR 5 (by decide) (by decide) (by decide)) (hR 4 (by decide) (by decide) (by decide)) (fun L R a b q => ox L R (by omega) q) tx
noncomputable def ordC (g : CG) (a1 : Int32) (u1 : RS) : Option RS := (C5_readText g u1).bind fun u3 => (if (u3 0 5) ≤ (u3 0 6) then (some u3) else ((C5_error g u3 (1) ((u3 0 6))).bind fun u17 => some u17) : Option (RS)).bind fun t6 => (if a1 < 30 then (some t6) else ((C5_error g t6 (4) ((t6 0 5))).bind fun u15 => some u15) : Option (RS))
noncomputable def ordW (u6 : RS) : Option RS := (F8_text u6).bind fun u8 => (if (u8 0 11) = 0 then ((F8_next u8).bind fun t30 => if t30.1 < 0 then (some t30.2) else ((F8_fails t30.2 (1 : Int32)).bind fun u33 => some u33)) else (some u8) : Option (RS)).bind fun t11 => (if (t11 0 11) = 0 then (if (t11 1 9) = 30 then ((pt t11 0 10 (t11 0 8)).bind fun u26 => (F8_fails u26 (4 : Int32)).bind fun u28 => some u28) else (some t11)) else (some t11) : Option (RS))
theorem ord_C2 {g : CG} {a1 : Int32} {u : RS} {e : Nat} (h : u 0 7 = nI e) (h1 : 1 ≤ e) (h4 : e ≤ 4) : (if a1 < 30 then (some u) else ((C5_error g u (4) ((u 0 5))).bind fun u15 => some u15) : Option (RS)) = some u := by
  rw [errC1 h h1 h4, bS, ite_self]
theorem ord_W2 {w : RS} (h : ¬ w 0 11 = (0 : Int32)) : (if (w 0 11) = 0 then (if (w 1 9) = 30 then ((pt w 0 10 (w 0 8)).bind fun u26 => (F8_fails u26 (4 : Int32)).bind fun u28 => some u28) else (some w)) else (some w) : Option (RS)) = some w := if_neg h
theorem ord2 {b : Nat → Int32} {n cm : Nat} {g : CG} {u w : RS} (hb : BB b n) (h : OKs b n 0 u w) (h50 : u 5 0 = nI 0) (hcm : cm ≤ 30) (h19 : w 1 9 = nI cm) : ∃ u' w', ordC g (nI cm) u = some u' ∧ ordW w = some w' ∧ XC g.nt u' u ∧ XW w' w ∧ (∀ R, 10 ≤ R → u' R = u R) ∧ w' 1 = w 1 ∧ ((u' 0 7 = nI 0 ∧ w' 0 11 = nI 0 ∧ cm < 30 ∧ ∃ len, 1 ≤ len ∧ RT u' w' 0 len (fun _ => 0) (fun _ => 0)) ∨ EE u' w') := by
  have hn := hb.1
  obtain ⟨u1, w1, f1, f2, f3, f4, f5, f6, f7⟩ := text2 (g := g) hb h h50
  unfold ordC ordW
  rw [f1, f2, bS, bS]
  rcases f7 with ⟨i', len, r1, r2, r3, r4, r5⟩ | q | ⟨⟨z1, z2, i2, z3, z4, z5, z6, z7, z8, z9, z10, z11⟩, len, r2, r3⟩
  · obtain ⟨o1, o2, o3, o4, o5, o6, o7⟩ := r2
    have hsk : SK b n i' = i' := SK_id (by omega)
    have hch := ch_le (i := i') hb
    have k2 := nextW hb o2 o5 o3
    rw [hsk, up_id o5] at k2
    have fw : FW (up w1 0 10 (nI i')) w1 := FW.up (by omega)
    have hW : TW b n (up w1 0 10 (nI i')) := o2.fr fw
    have w10 : up w1 0 10 (nI i') 0 10 = nI i' := up_eq
    have w11 : up w1 0 10 (nI i') 0 11 = nI 0 := by rw [up_ne (by omega)]; exact o7
    have w19 : up w1 0 10 (nI i') 1 9 = nI cm := by rw [up_ne (by omega), f6]; exact h19
    rw [if_pos (show w1 0 11 = (0 : Int32) from o7), k2, bS]
    dsimp only
    have rtW := r5.fr FC.rfl fw
    generalize up w1 0 10 (nI i') = W at *
    by_cases c : ch b n i' = 256
    · have hin : n ≤ i' := by
        by_cases q : i' < n
        · have := (cd_spec (hb.2 i' q)).2.1
          rw [ch_i q] at c; omega
        · omega
      rw [if_pos (show u1 0 5 ≤ u1 0 6 by rw [o1.1, o4]; exact nI_le hin (by omega)), bS, c, if_pos (show hv 256 < (0 : Int32) by decide), bS]
      rw [if_pos (show W 0 11 = (0 : Int32) from w11), w19]
      by_cases d : cm < 30
      · rw [if_pos (show nI cm < (30 : Int32) from nI_lt (b := 30) d (by omega)), if_neg (show ¬ nI cm = (30 : Int32) from nI_ne (b := 30) (by omega) (by omega) (by omega))]
        exact ⟨u1, W, rfl, rfl, f3, fw.w1.x.trans f4, f5, (fw.1 1 (by decide)).trans f6, Or.inl ⟨o6, w11, d, len, r4, rtW⟩⟩
      · have e30 : cm = 30 := by omega
        obtain ⟨u', w', e1, e2, e3, e4, e5⟩ := err2 (g := g) (u := u1) (w := up W 0 10 (nI n)) (e := 4) (p := n) o1 (hW.fr (FW.up (by omega))) o3 o4 o6 (by rw [up_ne (by omega)]; exact w11) up_eq (by omega) (by omega) (by omega)
        have e1' : C5_error g u1 (4 : Int32) (nI n) = some u' := e1
        have e2' : F8_fails (up W 0 10 (nI n)) (4 : Int32) = some w' := e2
        rw [e30, if_neg (show ¬ nI 30 < (30 : Int32) by decide), o1.1, e1', bS, if_pos (show nI 30 = (30 : Int32) from rfl), hW.1, pt_n, bS, e2', bS]
        have fw2 : FW w' w1 := e5.trans ((FW.up (by omega)).trans fw)
        exact ⟨u', w', rfl, rfl, e4.x.trans f3 (Nat.le_refl _), fw2.w1.x.trans f4, fun R hR => (e4.1 R (by omega)).trans (f5 R hR), (fw2.1 1 (by decide)).trans f6, Or.inr e3.ee⟩
    · have c59 : ch b n i' = 59 := by omega
      have hin : i' < n := ch_lt (b := b) (by omega)
      obtain ⟨u', w', e1, e2, e3, e4, e5⟩ := err2 (g := g) (u := u1) (w := W) (e := 1) (p := i') o1 hW o3 o4 o6 w11 w10 (by omega) (by omega) (by omega)
      have e1' : C5_error g u1 (1 : Int32) (nI i') = some u' := e1
      have e2' : F8_fails W (1 : Int32) = some w' := e2
      obtain ⟨e, p, q1, q4, -, q7, -⟩ := e3.ee
      rw [if_neg (show ¬ u1 0 5 ≤ u1 0 6 by rw [o1.1, o4]; exact nI_ge hin (by omega)), o4, e1', bS, bS, ord_C2 q7 q1 q4, c59, if_neg (show ¬ hv 59 < (0 : Int32) by decide), e2', bS, bS, ord_W2 e3.ne.1]
      have fw2 : FW w' w1 := e5.trans fw
      exact ⟨u', w', rfl, rfl, e4.x.trans f3 (Nat.le_refl _), fw2.w1.x.trans f4, fun R hR => (e4.1 R (by omega)).trans (f5 R hR), (fw2.1 1 (by decide)).trans f6, Or.inr e3.ee⟩
  · obtain ⟨e, p, q1, q4, -, q7, -⟩ := q.ee
    rw [if_neg q.ne.1, bS, ord_W2 q.ne.1, errC1 q7 q1 q4, bS, ite_self, bS, ord_C2 q7 q1 q4]
    exact ⟨u1, w1, rfl, rfl, f3, f4, f5, f6, Or.inr q.ee⟩
  · have k2 := nextW hb z2 z10 z3
    have hch := ch_le (i := i2) hb
    rw [SK_id z6, up_id z10] at k2
    have hh : hv (ch b n i2) = nI (ch b n i2) := (hv_eq hch (by omega)).mpr rfl
    have w11 : up w1 0 10 (nI i2) 0 11 = nI 0 := by rw [up_ne (by omega)]; exact z11
    have ef := failW0 (e := (1 : Int32)) w11
    rw [up_eq] at ef
    have fw : FW (up (up (up w1 0 10 (nI i2)) 0 11 1) 0 12 (nI i2)) w1 := (FW.up (by omega)).trans ((FW.up (by omega)).trans (FW.up (by omega)))
    have x11 : up (up (up w1 0 10 (nI i2)) 0 11 1) 0 12 (nI i2) 0 11 = nI 1 := by rw [up_ne (by omega), up_eq]; rfl
    have x12 : up (up (up w1 0 10 (nI i2)) 0 11 1) 0 12 (nI i2) 0 12 = nI i2 := up_eq
    rw [if_pos (show w1 0 11 = (0 : Int32) from z11), k2, bS]
    dsimp only
    rw [hh, if_neg (show ¬ nI (ch b n i2) < (0 : Int32) from nI_nlt (a := ch b n i2) (b := 0) (by omega) (by omega)), ef, bS, bS]
    generalize up (up (up w1 0 10 (nI i2)) 0 11 1) 0 12 (nI i2) = W at *
    rw [ord_W2 (show ¬ W 0 11 = (0 : Int32) by rw [x11]; exact nz0), errC1 z8 (by omega) (by omega), bS, ite_self, bS, ord_C2 z8 (by omega) (by omega)]
    exact ⟨u1, W, rfl, rfl, f3, fw.w1.x.trans f4, f5, (fw.1 1 (by decide)).trans f6, Or.inr ⟨1, i2, by omega, by omega, by omega, z8, x11, z9, x12⟩⟩
theorem a_order {r c : RS} {g : CG} {B T : Nat} {a : Int32} (h : GI r c g B T) (hT : T + 1 ≤ 999999) : AT (F8_order r a) (C7_order g c a) r 0 B (T + 1) := by
  obtain ⟨sm, lm, cm, h0⟩ := h.l
  have hlm := h0.a.lm6
  have hcm := h0.a.cm30
  have hgn := h.n
  obtain ⟨z5, n, b1, b2, b3, b4⟩ := h.b
  have hb : BB (c 3) n := ⟨b1, fun k hk => (b4 k hk).2⟩
  unfold F8_order C7_order
  rcases argLo (r := r) (c := c) (g := g) (a := a) (n := lm) (by omega) h0.v8 h0.n8 with ⟨l, s1, rfl, s2, s3⟩ | ⟨s2, s3⟩
  · have i1 : F8_isThrown r (nI 1) (1 : Int32) = some (nI 0, th r 0) := isThrown_1
    rw [s2, bS, i1, bS, s3, bS, trR]
    dsimp only
    rw [if_pos (show nI 0 = (0 : Int32) from rfl)]
    have eS : F8_starts (th r 0) = some (up (up (up (up (th r 0) 0 6 0) 0 9 0) 0 11 0) 0 13 0) := by
      unfold F8_starts
      rw [pt_n, bS, pt_n, bS, pt_n, bS, pt_n, bS]
    have s6 : up (up (up (up (th r 0) 0 6 0) 0 9 0) 0 11 0) 0 13 0 0 6 = nI 0 := by rw [up_ne (by omega), up_ne (by omega), up_ne (by omega), up_eq]; rfl
    have s9 : up (up (up (up (th r 0) 0 6 0) 0 9 0) 0 11 0) 0 13 0 0 9 = nI 0 := by rw [up_ne (by omega), up_ne (by omega), up_eq]; rfl
    have s11 : up (up (up (up (th r 0) 0 6 0) 0 9 0) 0 11 0) 0 13 0 0 11 = nI 0 := by rw [up_ne (by omega), up_eq]; rfl
    have s13 : up (up (up (up (th r 0) 0 6 0) 0 9 0) 0 11 0) 0 13 0 0 13 = nI 0 := by rw [up_eq]; rfl
    have sR : ∀ R, R ≠ 0 → up (up (up (up (th r 0) 0 6 0) 0 9 0) 0 11 0) 0 13 0 R = r R := fun R hR => by rw [up_or hR, up_or hR, up_or hR, up_or hR, th_o hR]
    have s0 : ∀ i, i ≠ 6 → i ≠ 9 → i ≠ 11 → i ≠ 13 → up (up (up (up (th r 0) 0 6 0) 0 9 0) 0 11 0) 0 13 0 0 i = r 0 i := fun i p q s t => by rw [up_ne (by omega), up_ne (by omega), up_ne (by omega), up_ne (by omega), th_0 p]
    generalize up (up (up (up (th r 0) 0 6 0) 0 9 0) 0 11 0) 0 13 0 = w1 at *
    have eT : C5_start g c = some (up (up (up (up c 0 6 0) 0 7 0) 0 8 0) 0 9 0) := by
      unfold C5_start
      rw [pt_n, bS, pt_n, bS, pt_n, bS, pt_n, bS]
    have c6 : up (up (up (up c 0 6 0) 0 7 0) 0 8 0) 0 9 0 0 6 = nI 0 := by rw [up_ne (by omega), up_ne (by omega), up_ne (by omega), up_eq]; rfl
    have c7 : up (up (up (up c 0 6 0) 0 7 0) 0 8 0) 0 9 0 0 7 = nI 0 := by rw [up_ne (by omega), up_ne (by omega), up_eq]; rfl
    have c9 : up (up (up (up c 0 6 0) 0 7 0) 0 8 0) 0 9 0 0 9 = nI 0 := by rw [up_eq]; rfl
    have cR : ∀ R, R ≠ 0 → up (up (up (up c 0 6 0) 0 7 0) 0 8 0) 0 9 0 R = c R := fun R hR => by rw [up_or hR, up_or hR, up_or hR, up_or hR]
    have c0 : ∀ i, i ≠ 6 → i ≠ 7 → i ≠ 8 → i ≠ 9 → up (up (up (up c 0 6 0) 0 7 0) 0 8 0) 0 9 0 0 i = c 0 i := fun i p q s t => by rw [up_ne (by omega), up_ne (by omega), up_ne (by omega), up_ne (by omega)]
    generalize up (up (up (up c 0 6 0) 0 7 0) 0 8 0) 0 9 0 = u1 at *
    have hok : OKs (c 3) n 0 u1 w1 := by
      refine ⟨⟨by rw [c0 5 (by decide) (by decide) (by decide) (by decide)]; exact b2, fun k hk => by rw [cR 3 (by decide)]⟩, ⟨?_, fun k hk => ?_⟩, Nat.zero_le _, c6, s9, c7, s11⟩
      · rw [s0 8 (by decide) (by decide) (by decide) (by decide)]; exact b3
      · rw [sR 6 (by decide)]; exact (b4 k hk).1.symm
    have w19 : w1 1 9 = nI cm := by rw [sR 1 (by decide)]; exact h0.v9
    obtain ⟨u', w', x1, x2, x3, x4, x5, x6, x7⟩ := ord2 (g := g) (cm := cm) hb hok (by rw [cR 5 (by decide)]; exact z5) hcm w19
    have k9 : c (10 + 0) 9 = nI cm := h0.n9
    have eO : C5_readOrder g c (c (10 + 0) 9) = some (up u' 0 5 0) := by
      unfold C5_readOrder
      rw [eT, bS, k9]
      unfold ordC at x1
      obtain ⟨u3, y1, x1⟩ := ob x1
      obtain ⟨u4, y2, x1⟩ := ob x1
      rw [y1, bS, y2, bS, x1, bS, pt_n, bS]
    have eX : ∀ {α : Type} (K : RS → Option α), ((F8_text w1).bind fun u8 => (if (u8 0 11) = 0 then ((F8_next u8).bind fun t30 => if t30.1 < 0 then (some t30.2) else ((F8_fails t30.2 (1 : Int32)).bind fun u33 => some u33)) else (some u8) : Option (RS)).bind fun t11 => (if (t11 0 11) = 0 then (if (t11 1 9) = 30 then ((pt t11 0 10 (t11 0 8)).bind fun u26 => (F8_fails u26 (4 : Int32)).bind fun u28 => some u28) else (some t11)) else (some t11) : Option (RS)).bind K) = K w' := fun K => by
      unfold ordW at x2
      obtain ⟨u3, y1, x2⟩ := ob x2
      obtain ⟨u4, y2, x2⟩ := ob x2
      rw [y1, bS, y2, bS, x2, bS]
    rw [eS, bS, eX, eO, bS]
    have cr : ∀ R, R ≠ 0 → R ≠ 4 → R ≠ 5 → R ≠ 6 → u' R = c R := fun R p q s t => by
      by_cases e : 10 ≤ R
      · exact (x5 R e).trans (cR R p)
      · exact (x3.1 R p q s t (by unfold OWN; omega) (by omega)).trans (cR R p)
    have cz : ∀ i, i ≠ 6 → i ≠ 7 → i ≠ 8 → i ≠ 9 → i ≠ 10 → i ≠ 11 → u' 0 i = c 0 i := fun i p q s t a b => (x3.2.1 i p q s a b).trans (c0 i p q s t)
    have u50 : u' 5 0 = nI 0 := by rw [x3.2.2, cR 5 (by decide)]; exact z5
    have wr : ∀ R, R ≠ 0 → R ≠ 7 → R ≠ 8 → w' R = r R := fun R p q s => by
      by_cases e : R = 1
      · rw [e, x6]; exact sR 1 (by decide)
      · exact (x4.1 R p e q s).trans (sR R p)
    have wz : ∀ i, i ≠ 6 → i ≠ 9 → i ≠ 10 → i ≠ 11 → i ≠ 12 → i ≠ 13 → i ≠ 14 → i ≠ 19 → w' 0 i = r 0 i := fun i o p q s t a b d => by rw [x4.2 i p q s t b d]; exact s0 i o p s a
    have w6 : w' 0 6 = nI 0 := by rw [x4.2 6 (by decide) (by decide) (by decide) (by decide) (by decide) (by decide)]; exact s6
    have w13 : w' 0 13 = nI 0 := by rw [x4.2 13 (by decide) (by decide) (by decide) (by decide) (by decide) (by decide)]; exact s13
    have u9 : u' 0 9 = nI 0 := by rw [x3.2.1 9 (by decide) (by decide) (by decide) (by decide) (by decide)]; exact c9
    rcases x7 with ⟨y1, y2, y3, len, y4, y5⟩ | ⟨e, p, e1, e2, e3, e4, e5, e6, e7⟩
    · have eN : F8_settles w' = some (up (up (up w' 0 8 0) 0 15 (nI 0)) 0 16 (-1)) := by
        unfold F8_settles
        rw [pt_n, bS, up_ne (show ¬ (0 = 0 ∧ 11 = 8) by omega), y2, pt_n, bS, up_ne (show ¬ (0 = 0 ∧ 11 = 15) by omega), up_ne (show ¬ (0 = 0 ∧ 11 = 8) by omega), y2, if_pos (show nI 0 = (0 : Int32) from rfl), bS, pt_n, bS]
      have eK : C7_keepResult g (up u' 0 5 0) = some (up (up (up u' 0 5 0) 0 1 (nI 0)) 0 2 (-1)) := by
        unfold C7_keepResult
        rw [up_ne (show ¬ (0 = 0 ∧ 7 = 5) by omega), y1, pt_n, bS, up_eq, if_pos (show nI 0 = (0 : Int32) from rfl), bS, pt_n, bS]
      have kR : ∀ R, R ≠ 0 → up (up (up u' 0 5 0) 0 1 (nI 0)) 0 2 (-1) R = u' R := fun R hR => by rw [up_or hR, up_or hR, up_or hR]
      have k1 : up (up (up u' 0 5 0) 0 1 (nI 0)) 0 2 (-1) 0 1 = nI 0 := by rw [up_ne (by omega), up_eq]
      have k2 : up (up (up u' 0 5 0) 0 1 (nI 0)) 0 2 (-1) 0 2 = -1 := up_eq
      have k5 : up (up (up u' 0 5 0) 0 1 (nI 0)) 0 2 (-1) 0 5 = nI 0 := by rw [up_ne (by omega), up_ne (by omega), up_eq]; rfl
      have k0 : ∀ i, i ≠ 1 → i ≠ 2 → i ≠ 5 → up (up (up u' 0 5 0) 0 1 (nI 0)) 0 2 (-1) 0 i = u' 0 i := fun i p q s => by rw [up_ne (by omega), up_ne (by omega), up_ne (by omega)]
      generalize up (up (up u' 0 5 0) 0 1 (nI 0)) 0 2 (-1) = U at *
      have v11 : up (up (up w' 0 8 0) 0 15 (nI 0)) 0 16 (-1) 0 11 = nI 0 := by rw [up_ne (by omega), up_ne (by omega), up_ne (by omega)]; exact y2
      have v15 : up (up (up w' 0 8 0) 0 15 (nI 0)) 0 16 (-1) 0 15 = nI 0 := by rw [up_ne (by omega), up_eq]
      have v16 : up (up (up w' 0 8 0) 0 15 (nI 0)) 0 16 (-1) 0 16 = -1 := up_eq
      have v8 : up (up (up w' 0 8 0) 0 15 (nI 0)) 0 16 (-1) 0 8 = nI 0 := by rw [up_ne (by omega), up_ne (by omega), up_eq]; rfl
      have vR : ∀ R, R ≠ 0 → up (up (up w' 0 8 0) 0 15 (nI 0)) 0 16 (-1) R = w' R := fun R hR => by rw [up_or hR, up_or hR, up_or hR]
      have v0 : ∀ i, i ≠ 8 → i ≠ 15 → i ≠ 16 → up (up (up w' 0 8 0) 0 15 (nI 0)) 0 16 (-1) 0 i = w' 0 i := fun i p q s => by rw [up_ne (by omega), up_ne (by omega), up_ne (by omega)]
      generalize up (up (up w' 0 8 0) 0 15 (nI 0)) 0 16 (-1) = W at *
      have hG : GI W U g B T := h.read (fun R p q s => (vR R p).trans (wr R p q s)) (by rw [v0 5 (by decide) (by decide) (by decide)]; exact wz 5 (by decide) (by decide) (by decide) (by decide) (by decide) (by decide) (by decide) (by decide)) (by rw [v0 22 (by decide) (by decide) (by decide)]; exact wz 22 (by decide) (by decide) (by decide) (by decide) (by decide) (by decide) (by decide) (by decide)) v8 (fun R p q s t => (kR R p).trans (cr R p q s t)) (by rw [kR 5 (by decide)]; exact u50) (by rw [k0 3 (by decide) (by decide) (by decide)]; exact cz 3 (by decide) (by decide) (by decide) (by decide) (by decide) (by decide)) (by rw [k0 4 (by decide) (by decide) (by decide)]; exact cz 4 (by decide) (by decide) (by decide) (by decide) (by decide) (by decide)) (by rw [k0 0 (by decide) (by decide) (by decide)]; exact cz 0 (by decide) (by decide) (by decide) (by decide) (by decide) (by decide)) k5 (by rw [k1, v15]) (by rw [k2, v16])
      have hq : QY U g 0 (W 1) sm lm cm B B := by
        rw [vR 1 (by decide), wr 1 (by decide) (by decide) (by decide)]
        exact QY.frame (by omega) h0 (Nat.le_refl _) (fun R hR => (kR R (by unfold OWN at hR; omega)).trans (cr R (by unfold OWN at hR; omega) (by unfold OWN at hR; omega) (by unfold OWN at hR; omega) (by unfold OWN at hR; omega))) (fun t _ _ => (kR _ (by omega)).trans (cr _ (by omega) (by omega) (by omega) (by omega)))
      obtain ⟨r3, c3, g3, m1', m2', m3, m4, m5⟩ := keeps_ok hG hq
      have rf := remF hG m2'
      have h16 : len ≤ 16 := by have := y5.2.2.2.2.2.2.2.1; omega
      have hlet := y5.2.2.2.2.2.2.2.2.2.2
      have l10 : c3 0 10 = nI len := by rw [rf.2 10 (by decide) (by decide), k0 10 (by decide) (by decide) (by decide)]; exact y5.2.2.1
      have l19 : r3 0 19 = nI len := by rw [m5.2.2.1 19 (by decide), v0 19 (by decide) (by decide) (by decide)]; exact y5.2.2.2.1
      have c34 : c3 4 = u' 4 := (rf.1 4 (by decide) (by decide)).trans (kR 4 (by decide))
      have r37 : r3 7 = w' 7 := (m5.2.1 7 (by decide) (by decide)).trans (vR 7 (by decide))
      have hTI3 : TI g3 c3 := TI_n.mpr m3.ti
      have hn3 : g3.nt = g.nt := m5.1
      obtain ⟨c4, n1, n2⟩ := copyText (g := g3) (u := c3) (len := len) h16 l10 (fun k hk => by
        obtain ⟨q1, a, q2, q3⟩ := hlet k hk
        exact ⟨a, q2, by rw [c34]; exact q1.trans q3⟩) (by omega) hTI3
      have hq4 : QY c4 (ga g3) 0 (r3 1) sm lm cm B B := QY.frame (g2 := ga g3) (by omega) m4 (Nat.le_succ _) (fun R hR => n2.2.2 R (by unfold OWN at hR; omega)) (fun t _ z => n2.2.2 _ (by omega))
      have gn : (ga g3).nt = g3.nt + 1 := rfl
      have gp : (ga g3).pl = g3.pl := rfl
      obtain ⟨r4, c5, a1, a2, a3, a4, a5, a6, a7, a8, a9, a10⟩ := add_ok2 (r := r3) (c := c4) (g := ga g3) (L := 0) (l := l) (t := g3.nt + 1) (len := len) (by omega) hq4 y3 s1 y4 h16 l19 (by omega) (Nat.le_refl _) (by omega) n2.1 (fun k hk => by rw [n2.2.1 k hk, c34, r37]; exact hlet k hk)
      rw [eN, bS, eK, bS, if_pos (show W 0 11 = (0 : Int32) from v11), if_pos (show U 0 1 = (0 : Int32) from k1), m1', bS, a1, bS, m2', bS]
      dsimp only
      rw [n1, bS]
      dsimp only
      rw [a2, bS]
      have n0 : ¬ OWN 0 0 := by unfold OWN; omega
      have cc : ∀ R, ¬ OWN 0 R → R ≠ 500 + (g3.nt + 1) → c5 R = c3 R := fun R p q => (a4 R p).trans (n2.2.2 R q)
      have ox : ∀ L R, L ≠ 0 → L < 12 → OWN L R → c5 R = c3 R := fun L R p q hR => cc R (by unfold OWN at hR ⊢; omega) (by unfold OWN at hR; omega)
      have tx : ∀ t, 1 ≤ t → t ≤ g3.nt → c5 (500 + t) = c3 (500 + t) := fun t p q => cc _ (by unfold OWN; omega) (by omega)
      have c5z : c5 0 = c3 0 := cc 0 n0 (by omega)
      have r4z : r4 0 = r3 0 := a3 0 (by decide)
      refine Or.inl ⟨_, r4, c5, ga g3, rfl, by rw [a6, a7], ⟨⟨sm, lm, cm + 1, a5⟩, fun L hL => ?_, ?_, ?_, ?_, ?_, ?_, ?_⟩, ?_⟩
      · rw [gn]
        by_cases e : L = 0
        · subst e
          exact TIr_of a5
        · rw [ox L _ e hL (by unfold OWN; omega)]; exact (m3.ti L hL).mono (Nat.le_succ _)
      · exact m3.p.frame (Nat.le_succ _) (fun _ _ _ q => q) (by rw [c5z]) (by rw [c5z]) (by rw [r4z]) (a3 3 (by decide)) (fun L R p q hR => ox L R (by omega) (by omega) hR) tx
      · exact m3.s.frame (Nat.le_succ _) (fun _ _ _ => rfl) (a3 5 (by decide)) (a3 4 (by decide)) (fun L R p q hR => ox L R (by omega) (by omega) hR) tx
      · exact m3.b.frame (by rw [c5z]) (by rw [r4z]) (cc 3 (by unfold OWN; omega) (by omega)) (a3 6 (by decide)) (cc 5 (by unfold OWN; omega) (by omega))
      · exact m3.e.frame (by rw [c5z]) (by rw [c5z]) (by rw [r4z]) (by rw [r4z])
      · exact m3.o.frame (by rw [c5z]) (by rw [r4z])
      · rw [gn]; have := m3.n; omega
      · rw [r4z, m5.2.2.1 6 (by decide), v0 6 (by decide) (by decide) (by decide)]; exact w6
    · have en0 : ¬ nI e = (0 : Int32) := nI_ne (b := 0) (by omega) (by omega) (by omega)
      have eN : F8_settles w' = some (up (up (up w' 0 8 0) 0 15 (nI e)) 0 16 (nI 0)) := by
        unfold F8_settles
        rw [pt_n, bS, up_ne (show ¬ (0 = 0 ∧ 11 = 8) by omega), e5, pt_n, bS, up_ne (show ¬ (0 = 0 ∧ 11 = 15) by omega), up_ne (show ¬ (0 = 0 ∧ 11 = 8) by omega), e5, if_neg en0, bS, up_ne (show ¬ (0 = 0 ∧ 13 = 15) by omega), up_ne (show ¬ (0 = 0 ∧ 13 = 8) by omega), w13, pt_n, bS]
      have eK : C7_keepResult g (up u' 0 5 0) = some (up (up (up u' 0 5 0) 0 1 (nI e)) 0 2 (nI 0)) := by
        unfold C7_keepResult
        rw [up_ne (show ¬ (0 = 0 ∧ 7 = 5) by omega), e4, pt_n, bS, up_eq, if_neg en0, bS, up_ne (show ¬ (0 = 0 ∧ 9 = 1) by omega), up_ne (show ¬ (0 = 0 ∧ 9 = 5) by omega), u9, pt_n, bS]
      have kR : ∀ R, R ≠ 0 → up (up (up u' 0 5 0) 0 1 (nI e)) 0 2 (nI 0) R = u' R := fun R hR => by rw [up_or hR, up_or hR, up_or hR]
      have k1 : up (up (up u' 0 5 0) 0 1 (nI e)) 0 2 (nI 0) 0 1 = nI e := by rw [up_ne (by omega), up_eq]
      have k2 : up (up (up u' 0 5 0) 0 1 (nI e)) 0 2 (nI 0) 0 2 = nI 0 := up_eq
      have k5 : up (up (up u' 0 5 0) 0 1 (nI e)) 0 2 (nI 0) 0 5 = nI 0 := by rw [up_ne (by omega), up_ne (by omega), up_eq]; rfl
      have k8 : up (up (up u' 0 5 0) 0 1 (nI e)) 0 2 (nI 0) 0 8 = nI p := by rw [up_ne (by omega), up_ne (by omega), up_ne (by omega)]; exact e6
      have k0 : ∀ i, i ≠ 1 → i ≠ 2 → i ≠ 5 → up (up (up u' 0 5 0) 0 1 (nI e)) 0 2 (nI 0) 0 i = u' 0 i := fun i p q s => by rw [up_ne (by omega), up_ne (by omega), up_ne (by omega)]
      generalize up (up (up u' 0 5 0) 0 1 (nI e)) 0 2 (nI 0) = U at *
      have v11 : up (up (up w' 0 8 0) 0 15 (nI e)) 0 16 (nI 0) 0 11 = nI e := by rw [up_ne (by omega), up_ne (by omega), up_ne (by omega)]; exact e5
      have v12 : up (up (up w' 0 8 0) 0 15 (nI e)) 0 16 (nI 0) 0 12 = nI p := by rw [up_ne (by omega), up_ne (by omega), up_ne (by omega)]; exact e7
      have v15 : up (up (up w' 0 8 0) 0 15 (nI e)) 0 16 (nI 0) 0 15 = nI e := by rw [up_ne (by omega), up_eq]
      have v16 : up (up (up w' 0 8 0) 0 15 (nI e)) 0 16 (nI 0) 0 16 = nI 0 := up_eq
      have v8 : up (up (up w' 0 8 0) 0 15 (nI e)) 0 16 (nI 0) 0 8 = nI 0 := by rw [up_ne (by omega), up_ne (by omega), up_eq]; rfl
      have vR : ∀ R, R ≠ 0 → up (up (up w' 0 8 0) 0 15 (nI e)) 0 16 (nI 0) R = w' R := fun R hR => by rw [up_or hR, up_or hR, up_or hR]
      have v0 : ∀ i, i ≠ 8 → i ≠ 15 → i ≠ 16 → up (up (up w' 0 8 0) 0 15 (nI e)) 0 16 (nI 0) 0 i = w' 0 i := fun i p q s => by rw [up_ne (by omega), up_ne (by omega), up_ne (by omega)]
      generalize up (up (up w' 0 8 0) 0 15 (nI e)) 0 16 (nI 0) = W at *
      have hG : GI W U g B T := h.read (fun R p q s => (vR R p).trans (wr R p q s)) (by rw [v0 5 (by decide) (by decide) (by decide)]; exact wz 5 (by decide) (by decide) (by decide) (by decide) (by decide) (by decide) (by decide) (by decide)) (by rw [v0 22 (by decide) (by decide) (by decide)]; exact wz 22 (by decide) (by decide) (by decide) (by decide) (by decide) (by decide) (by decide) (by decide)) v8 (fun R p q s t => (kR R p).trans (cr R p q s t)) (by rw [kR 5 (by decide)]; exact u50) (by rw [k0 3 (by decide) (by decide) (by decide)]; exact cz 3 (by decide) (by decide) (by decide) (by decide) (by decide) (by decide)) (by rw [k0 4 (by decide) (by decide) (by decide)]; exact cz 4 (by decide) (by decide) (by decide) (by decide) (by decide) (by decide)) (by rw [k0 0 (by decide) (by decide) (by decide)]; exact cz 0 (by decide) (by decide) (by decide) (by decide) (by decide) (by decide)) k5 (by rw [k1, v15]) (by rw [k2, v16])
      rw [eN, bS, eK, bS, if_neg (show ¬ W 0 11 = (0 : Int32) by rw [v11]; exact en0), if_neg (show ¬ U 0 1 = (0 : Int32) by rw [k1]; exact en0)]
      exact Or.inl ⟨_, W, U, g, rfl, by rw [v12, k8], hG.mono (Nat.le_refl _) h0.a.bb (Nat.le_succ _), by rw [v0 6 (by decide) (by decide) (by decide)]; exact w6⟩
  · have i0 : F8_isThrown r (nI 0) (1 : Int32) = some (nI 1, th r 1) := isThrown_0 (n := 1)
    rw [s2, bS, i0, bS, s3, bS, trL]
    dsimp only
    rw [if_neg (show ¬ nI 1 = (0 : Int32) from nz0)]
    exact Or.inr ⟨1, by omega, by omega, rfl, rfl⟩
