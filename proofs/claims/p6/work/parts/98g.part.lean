noncomputable def XC (nt : Nat) (u' u : RS) : Prop := (∀ R, R ≠ 0 → R ≠ 4 → R ≠ 5 → R ≠ 6 → ¬ OWN 1 R → R ≤ 500 + nt → u' R = u R) ∧ (∀ i, i ≠ 6 → i ≠ 7 → i ≠ 8 → i ≠ 10 → i ≠ 11 → u' 0 i = u 0 i) ∧ u' 5 0 = u 5 0
noncomputable def XW (w' w : RS) : Prop := (∀ R, R ≠ 0 → R ≠ 1 → R ≠ 7 → R ≠ 8 → w' R = w R) ∧ ∀ i, i ≠ 9 → i ≠ 10 → i ≠ 11 → i ≠ 12 → i ≠ 14 → i ≠ 19 → w' 0 i = w 0 i
theorem FC.x {u' u : RS} {nt : Nat} (h : FC u' u) : XC nt u' u := ⟨fun R a _ _ _ _ _ => h.1 R a, fun i a b c _ _ => h.2 i a b c, by rw [h.1 5 (by decide)]⟩
theorem FW1.x {w' w : RS} (h : FW1 w' w) : XW w' w := ⟨fun R a b _ _ => h.1 R a b, fun i a b c d _ _ => h.2 i a b c d⟩
theorem XC.trans {a b c : RS} {n m : Nat} (h : XC n a b) (h2 : XC m b c) (hm : m ≤ n) : XC m a c := ⟨fun R p q r s t z => (h.1 R p q r s t (by omega)).trans (h2.1 R p q r s t z), fun i p q r s t => (h.2.1 i p q r s t).trans (h2.2.1 i p q r s t), h.2.2.trans h2.2.2⟩
theorem XW.trans {a b c : RS} (h : XW a b) (h2 : XW b c) : XW a c := ⟨fun R p q r s => (h.1 R p q r s).trans (h2.1 R p q r s), fun i p q r s t z => (h.2 i p q r s t z).trans (h2.2 i p q r s t z)⟩
noncomputable def DR (u w : RS) (g : CG) (sm lm cm B : Nat) : Prop := QY u g 1 (w 1) sm lm cm B B ∧ (∀ s k, sm ≤ s → s < 6 → 3 ≤ k → k < 14 → k ≠ 8 → w 1 (17 + 16 * s + k) = nI 0) ∧ (∀ l k, lm ≤ l → l < 6 → 1 ≤ k → k < 4 → w 1 (113 + 4 * l + k) = nI 0) ∧ u (10 + 1) 6 = nI 0 ∧ TI g u
theorem DR.fr {u w u' w' : RS} {g : CG} {sm lm cm B : Nat} (h : DR u w g sm lm cm B) (fc : FC u' u) (fw : FW w' w) : DR u' w' g sm lm cm B := by
  obtain ⟨h1, h2, h3, h4, h5⟩ := h
  have e1 : w' 1 = w 1 := fw.1 1 (by decide)
  refine ⟨?_, by rw [e1]; exact h2, by rw [e1]; exact h3, by rw [fc.1 _ (by omega)]; exact h4, TI_fc h5 fc⟩
  rw [e1]
  exact QY.frame (by omega) h1 (Nat.le_refl _) (fun R hR => fc.1 R (by unfold OWN at hR; omega)) (fun t _ _ => fc.1 _ (by omega))
noncomputable def OUT (b : Nat → Int32) (n B m : Nat) (g : CG) (u w : RS) (g' : CG) (u' w' : RS) : Prop := XC g.nt u' u ∧ XW w' w ∧ g'.1 = g.1 ∧ g.nt ≤ g'.nt ∧ g'.nt ≤ g.nt + 1 ∧ ((∃ i sm lm cm, m ≤ i ∧ OKs b n i u' w' ∧ DR u' w' g' sm lm cm B) ∨ (ERs b n u' w' ∧ TI g' u'))
theorem TI.xl {g : CG} {u u' : RS} (h : TI g u) (hr : ∀ R, 10 ≤ R → R < 22 → u' R = u R) : TI g u' := fun L hL => by rw [hr _ (by omega) (by omega)]; exact h L hL
theorem many0 {w : RS} : F8_tooMany w (0 : Int32) = some w := by
  unfold F8_tooMany
  rw [if_pos rfl, bS]
theorem many1 {b : Nat → Int32} {n i s : Nat} {g : CG} {u w : RS} (h : OKs b n i u w) (h14 : w 0 14 = nI s) (hs : s ≤ 600) : ∃ u' w', C5_error g u (4 : Int32) (nI s) = some u' ∧ F8_tooMany w (1 : Int32) = some w' ∧ ERs b n u' w' ∧ FC u' u ∧ FW w' w := by
  obtain ⟨h1, h2, h3, h4, h5, h6, h7⟩ := h
  obtain ⟨u', w', e1, e2, e3, e4, e5⟩ := err2 (g := g) (u := u) (w := up w 0 10 (nI s)) (i := i) (e := 4) (p := s) h1 (h2.fr (FW.up (by omega))) h3 h4 h6 (by rw [up_ne (by omega)]; exact h7) up_eq hs (by omega) (by omega)
  refine ⟨u', w', e1, ?_, e3, e4, e5.trans (FW.up (by omega))⟩
  unfold F8_tooMany
  rw [if_neg (show ¬ (1 : Int32) = 0 by decide), h14, pt_n, bS, show (4 : Int32) = nI 4 from rfl, e2, bS, bS]
theorem sb1 {n : Nat} (hn : n ≤ 100) : (nI n - (1 : Int32)).toInt ≤ 2000 := by
  have := sub1_toInt (n := n) (by omega)
  show (nI n - nI 1).toInt ≤ 2000
  omega
theorem lot2 {b : Nat → Int32} {n i s sm lm cm B : Nat} {g : CG} {u w : RS} (hb : BB b n) (h : OKs b n i u w) (h1i : 1 ≤ i) (hd : DR u w g sm lm cm B) (h14 : w 0 14 = nI s) (hs : s ≤ 600) : ∃ u' w', C5_readLot g u 1 (nI s) = some u' ∧ F8_lotPart w = some w' ∧ OUT b n B i g u w g u' w' := by
  have hq := hd.1
  have hlm := hq.a.lm6
  unfold C5_readLot F8_lotPart
  rw [hq.n8, hq.v8]
  by_cases c : lm < 6
  · rw [if_pos (show nI lm < (6 : Int32) from nI_lt (b := 6) c (by omega)), if_neg (show ¬ nI lm = (6 : Int32) from nI_ne (b := 6) (by omega) (by omega) (by omega)), bS, many0, bS]
    obtain ⟨u1, w1, y, x, e1, e2, e3, e4, e5⟩ := num2 (g := g) (lo := 0) (a2 := 9) hb h (by omega) (by decide)
    rw [show (0 : Int32) = nI 0 from rfl, e1, e2, bS, bS]
    dsimp only
    rcases e5 with ⟨i', V, q1, q2, rfl, rfl, q5, q6⟩ | ⟨q1, q2⟩
    · have hd1 := hd.fr e3 e4
      have hq1 := hd1.1
      have hV : V ≤ 9 := by
        have : (9 : Int32).toInt = 9 := rfl
        omega
      rw [q2.fine, bS, if_neg nz0, if_pos (show w1 0 11 = nI 0 from q2.w0)]
      unfold C3_addLot C4_begin
      simp only [pt_n, bS]
      rw [hq1.n8, if_neg (show ¬ (6 : Int32) ≤ nI lm from nI_ge (b := 6) c (by omega)), ix_n c (by omega), bS]
      rw [hq1.v8, show (113 : Int32) + 4 * nI lm + nI 0 = nI (113 + 4 * lm + 0) by
        show nI 113 + nI 4 * nI lm + nI 0 = _
        rw [nI_mul, nI_add, nI_add], ws_n (by omega) (by omega)]
      simp only [bS]
      rw [show (8 : Int32) = nI 8 from rfl, ws_n (by omega) (by omega), up_ne (k := 1) (r := 1) (by omega), hq1.v8, show nI lm + 1 = nI (lm + 1) from nI_add _ 1]
      simp only [bS]
      generalize hU : up (up (up (up (up (up (up (up (up u1 (10 + 1) (113 + 4 * lm + 0) (nI V)) (10 + 1) (113 + 4 * lm + 1) (0 : Int32)) (10 + 1) (1100 + 8 * lm + 0) (0 : Int32)) (10 + 1) (1100 + 8 * lm + 1) (0 : Int32)) (10 + 1) (1100 + 8 * lm + 2) (0 : Int32)) (10 + 1) (1100 + 8 * lm + 3) (0 : Int32)) (10 + 1) (1100 + 8 * lm + 4) (0 : Int32)) (10 + 1) (113 + 4 * lm + 2) (0 : Int32)) (10 + 1) (113 + 4 * lm + 3) (0 : Int32) = U
      have ur : ∀ R, R ≠ 10 + 1 → U R = u1 R := fun R hR => by rw [← hU]; simp only [up_or hR]
      have ui : ∀ j, (j < 113 + 4 * lm ∨ 117 + 4 * lm ≤ j) → (j < 1100 + 8 * lm ∨ 1108 + 8 * lm ≤ j) → U (10 + 1) j = u1 (10 + 1) j := fun j p q => by rw [← hU]; simp (disch := omega) only [up_ne]
      have u0 : U (10 + 1) (113 + 4 * lm + 0) = nI V := by rw [← hU]; simp (disch := omega) only [up_ne, up_eq]
      have uk : ∀ k, 1 ≤ k → k < 4 → U (10 + 1) (113 + 4 * lm + k) = nI 0 := fun k p q => by
        rw [← hU]
        rcases (show k = 1 ∨ k = 2 ∨ k = 3 by omega) with rfl | rfl | rfl <;> (simp (disch := omega) only [up_ne, up_eq]; rfl)
      have ue : ∀ k, k < 5 → U (10 + 1) (1100 + 8 * lm + k) = nI 0 := fun k p => by
        rw [← hU]
        rcases (show k = 0 ∨ k = 1 ∨ k = 2 ∨ k = 3 ∨ k = 4 by omega) with rfl | rfl | rfl | rfl | rfl <;> (simp (disch := omega) only [up_ne, up_eq]; rfl)
      clear hU
      rw [ui 8 (by omega) (by omega), hq1.n8, show nI lm + 1 = nI (lm + 1) from nI_add _ 1]
      obtain ⟨d0, d1, d2, d3⟩ := hq1.a.day
      rw [← sA_r (v := u1 (10 + 1)) (by omega)] at d3
      have hqn := QR.lot (v2 := up (up w1 1 (113 + 4 * lm + 0) (nI V)) 1 8 (nI (lm + 1)) 1) (w2 := up U (10 + 1) 8 (nI (lm + 1)) (10 + 1)) (p := V) hq1 c hV (fun j p q => by rw [up_ne (by omega), up_ne (by omega)]) up_eq (by rw [up_ne (by omega), up_eq]) (fun k p q => by rw [up_ne (by omega), up_ne (by omega)]; exact hd1.2.2.1 lm k (Nat.le_refl _) c p q) (fun j p q s => by rw [up_ne (by omega)]; exact ui j q s) up_eq (by rw [up_ne (by omega)]; exact u0) (fun k p q => by rw [up_ne (by omega)]; exact uk k p q) (fun k p => by rw [up_ne (by omega)]; exact ue k p) hd1.2.2.2.1 ⟨d0, d1, d2, d3⟩
      refine ⟨_, _, rfl, rfl, ?_, ?_, rfl, Nat.le_refl _, Nat.le_succ _, Or.inl ⟨i', sm, lm + 1, cm, by omega, ?_, ?_, ?_, ?_, ?_, ?_⟩⟩
      · refine ⟨fun R p _ _ _ s _ => ?_, fun j p q s _ _ => ?_, ?_⟩
        · have : R ≠ 10 + 1 := fun z => s (Or.inl z)
          rw [up_or this, ur R this]; exact e3.1 R p
        · rw [up_ne (by omega), ur 0 (by omega)]; exact e3.2 j p q s
        · rw [up_ne (by omega), ur 5 (by omega), e3.1 5 (by omega)]
      · exact (FW1.up.trans (FW1.up.trans e4.w1)).x
      · obtain ⟨z1, z2, z3, z4, z5, z6, z7⟩ := (q2.w1 (i := 113 + 4 * lm + 0) (x := nI V)).w1 (i := 8) (x := nI (lm + 1))
        have e0 : up U (10 + 1) 8 (nI (lm + 1)) 0 = u1 0 := by rw [up_or (by omega), ur 0 (by omega)]
        have e03 : up U (10 + 1) 8 (nI (lm + 1)) 3 = u1 3 := by rw [up_or (by omega), ur 3 (by omega)]
        exact ⟨⟨by rw [e0]; exact z1.1, fun k hk => by rw [e03]; exact z1.2 k hk⟩, z2, z3, by rw [e0]; exact z4, z5, by rw [e0]; exact z6, z7⟩
      · have : up U (10 + 1) 8 (nI (lm + 1)) (400 + 1) = u1 (400 + 1) := by rw [up_or (by omega), ur _ (by omega)]
        unfold QY
        rw [this]
        exact hqn.congr (Nat.le_refl _) (fun l hl => by rw [up_or (by omega), ur _ (by omega)]) (fun l hl => by rw [up_or (by omega), ur _ (by omega)]) (fun l hl => by rw [up_or (by omega), ur _ (by omega)]) (fun t _ _ => by rw [up_or (by omega), ur _ (by omega)])
      · intro s k p q r s' t
        rw [up_ne (by omega), up_ne (by omega)]; exact hd1.2.1 s k p q r s' t
      · intro l k p q r s'
        rw [up_ne (by omega), up_ne (by omega)]; exact hd1.2.2.1 l k (by omega) q r s'
      · rw [up_ne (by omega), ui 6 (by omega) (by omega)]; exact hd1.2.2.2.1
      · intro L hL
        by_cases e : L = 1
        · subst e
          refine ⟨fun s hs => ?_, fun q hq => ?_⟩
          · rw [up_ne (by omega), ui _ (by omega) (by omega)]; exact (hd1.2.2.2.2 1 hL).1 s hs
          · rw [up_ne (by omega), ui _ (by omega) (by omega)]; exact (hd1.2.2.2.2 1 hL).2 q hq
        · rw [up_or (by omega), ur _ (by omega)]; exact hd1.2.2.2.2 L hL
    · rw [q1.fine, bS, if_pos rfl, bS, if_neg (show ¬ w1 0 11 = nI 0 from q1.ne.1), bS]
      exact ⟨u1, w1, rfl, rfl, e3.x, e4.w1.x, rfl, Nat.le_refl _, Nat.le_succ _, Or.inr ⟨q1, TI_fc hd.2.2.2.2 e3⟩⟩
  · obtain ⟨u', w', e1, e2, e3, e4, e5⟩ := many1 (g := g) h h14 hs
    obtain ⟨x, y⟩ := e3.ne
    have hl : lm = 6 := by omega
    rw [hl, if_neg (show ¬ nI 6 < (6 : Int32) by decide), if_pos (show nI 6 = (6 : Int32) from rfl), e1, bS, bS, e2, bS]
    unfold F8_number
    rw [if_neg x, bS]
    dsimp only
    rw [if_neg x, bS]
    exact ⟨u', w', rfl, rfl, e4.x, e5.w1.x, rfl, Nat.le_refl _, Nat.le_succ _, Or.inr ⟨e3, TI_fc hd.2.2.2.2 e4⟩⟩
