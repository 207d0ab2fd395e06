theorem beginsL : ∀ (d y f : Nat) (u : RS), y + d = 1037 → d < f → ∃ u2, F8_begins_L2 f (nI y) u = some (nI 1037, u2) ∧ (∀ R, R ≠ 1 → u2 R = u R) ∧ (∀ i, i < y → u2 1 i = u 1 i) ∧ ∀ i, y ≤ i → i < 1037 → u2 1 i = nI 0
  | 0, y, f, u, h1, h2 => by
    obtain ⟨f, rfl⟩ : ∃ m, f = m + 1 := ⟨f - 1, by omega⟩
    refine ⟨u, ?_, fun _ _ => rfl, fun _ _ => rfl, fun i p q => by omega⟩
    rw [F8_begins_L2, if_pos (show (1037 : Int32) ≤ nI y from nI_le (a := 1037) (by omega) (by omega)), show y = 1037 by omega]
  | d + 1, y, f, u, h1, h2 => by
    obtain ⟨f, rfl⟩ : ∃ m, f = m + 1 := ⟨f - 1, by omega⟩
    obtain ⟨u2, k1, k2, k3, k4⟩ := beginsL d (y + 1) f (up u 1 y (0 : Int32)) (by omega) (by omega)
    refine ⟨u2, ?_, fun R hR => (k2 R hR).trans (up_or hR), fun i p => ?_, fun i p q => ?_⟩
    · rw [F8_begins_L2, if_neg (show ¬ (1037 : Int32) ≤ nI y from nI_ge (b := 1037) (by omega) (by omega)), wsk (by omega), bS, show nI y + 1 = nI (y + 1) from nI_add _ 1]
      exact k1
    · rw [k3 i (by omega), up_ne (by omega)]
    · by_cases e : i = y
      · rw [e, k3 y (by omega), up_eq]; rfl
      · exact k4 i (by omega) q
theorem begins_ok {u : RS} : ∃ u2, F8_begins u = some u2 ∧ (∀ R, R ≠ 1 → u2 R = u R) ∧ u2 1 0 = nI 480 ∧ u2 1 1 = nI 1 ∧ u2 1 2 = nI 1 ∧ ∀ i, i < 1037 → i ≠ 0 → i ≠ 1 → i ≠ 2 → u2 1 i = nI 0 := by
  obtain ⟨u2, k1, k2, k3, k4⟩ := beginsL 1037 0 FUEL u (by omega) (by show 1037 < 10000; omega)
  have k1' : F8_begins_L2 FUEL (0 : Int32) u = some (nI 1037, u2) := k1
  refine ⟨up (up (up u2 1 0 480) 1 1 1) 1 2 1, ?_, fun R hR => ?_, ?_, ?_, ?_, fun i p q r s => ?_⟩
  · unfold F8_begins
    rw [k1', bS]
    dsimp only
    rw [show ws u2 1 1037 (0 : Int32) (480 : Int32) = some (up u2 1 0 480) from wsk (k := 0) (by omega), bS, show ws (up u2 1 0 480) 1 1037 (1 : Int32) (1 : Int32) = some (up (up u2 1 0 480) 1 1 1) from wsk (k := 1) (by omega), bS, show ws (up (up u2 1 0 480) 1 1 1) 1 1037 (2 : Int32) (1 : Int32) = some (up (up (up u2 1 0 480) 1 1 1) 1 2 1) from wsk (k := 2) (by omega), bS]
  · rw [up_or hR, up_or hR, up_or hR]; exact k2 R hR
  · rw [up_ne (by omega), up_ne (by omega), up_eq]; rfl
  · rw [up_ne (by omega), up_eq]; rfl
  · rw [up_eq]; rfl
  · rw [up_ne (by omega), up_ne (by omega), up_ne (by omega)]; exact k4 i (by omega) p
noncomputable def ET (F : Option (Int32 × RS)) (C : Option (Int32 × CG × RS)) (B T : Nat) : Prop := ∃ x r2 c2 g2, F = some (x, r2) ∧ C = some (x, g2, c2) ∧ GI r2 c2 g2 B T ∧ r2 0 6 = nI 0
theorem TIr_of {c : RS} {g : CG} {L sm lm cm B U : Nat} {v : Nat → Int32} (h : QY c g L v sm lm cm B U) : TIr (c (10 + L)) g.nt := ⟨h.s.ti, h.c.ti⟩
theorem PAi.pa {r c : RS} {g : CG} {B o n : Nat} (h : PAi r c g B o n) : PA r c g B := ⟨o, n, h⟩
theorem a_load {r c : RS} {g : CG} {B T : Nat} (h : GI r c g B T) (hT : T + 602 ≤ 999999) (hB : B < 2000000000) : ET (F8_load r) (C7_load g c) B (T + 602) := by
  have hgn := h.n
  obtain ⟨z5, n, b1, b2, b3, b4⟩ := h.b
  have hb : BB (c 3) n := ⟨b1, fun k hk => (b4 k hk).2⟩
  have hTI : TI g c := TI_n.mpr h.ti
  have eS : F8_starts r = some (up (up (up (up r 0 6 0) 0 9 0) 0 11 0) 0 13 0) := by
    unfold F8_starts
    rw [pt_n, bS, pt_n, bS, pt_n, bS, pt_n, bS]
  have s6 : up (up (up (up r 0 6 0) 0 9 0) 0 11 0) 0 13 0 0 6 = nI 0 := by rw [up_ne (by omega), up_ne (by omega), up_ne (by omega), up_eq]; rfl
  have s9 : up (up (up (up r 0 6 0) 0 9 0) 0 11 0) 0 13 0 0 9 = nI 0 := by rw [up_ne (by omega), up_ne (by omega), up_eq]; rfl
  have s11 : up (up (up (up r 0 6 0) 0 9 0) 0 11 0) 0 13 0 0 11 = nI 0 := by rw [up_ne (by omega), up_eq]; rfl
  have s13 : up (up (up (up r 0 6 0) 0 9 0) 0 11 0) 0 13 0 0 13 = nI 0 := by rw [up_eq]; rfl
  have sR : ∀ R, R ≠ 0 → up (up (up (up r 0 6 0) 0 9 0) 0 11 0) 0 13 0 R = r R := fun R hR => by rw [up_or hR, up_or hR, up_or hR, up_or hR]
  have s0 : ∀ i, i ≠ 6 → i ≠ 9 → i ≠ 11 → i ≠ 13 → up (up (up (up r 0 6 0) 0 9 0) 0 11 0) 0 13 0 0 i = r 0 i := fun i p q s t => by rw [up_ne (by omega), up_ne (by omega), up_ne (by omega), up_ne (by omega)]
  generalize up (up (up (up r 0 6 0) 0 9 0) 0 11 0) 0 13 0 = w1 at *
  have eC : F8_copies_1_2 w1 (0 : Int32) (0 : Int32) = some (cpA w1 1 0 2 0) := cp_1_2 (i := 0) (k := 0) (by omega) (by omega)
  obtain ⟨w3, eB, w3R, w30, w31, w32, w3z⟩ := begins_ok (u := cpA w1 1 0 2 0)
  have w3o : ∀ R, R ≠ 1 → R ≠ 2 → w3 R = w1 R := fun R p q => (w3R R p).trans (cpA_o q)
  have w3c : ∀ j, j < 1037 → w3 2 j = r 1 j := fun j hj => by
    have h2 := cpA_n (u := w1) (A := 1) (i := 0) (B := 2) (k := 0) hj
    simp only [Nat.mul_zero, Nat.zero_add] at h2
    rw [w3R 2 (by decide), h2, sR 1 (by decide)]
  have eT : C5_start g c = some (up (up (up (up c 0 6 0) 0 7 0) 0 8 0) 0 9 0) := by
    unfold C5_start
    rw [pt_n, bS, pt_n, bS, pt_n, bS, pt_n, bS]
  have c6 : up (up (up (up c 0 6 0) 0 7 0) 0 8 0) 0 9 0 0 6 = nI 0 := by rw [up_ne (by omega), up_ne (by omega), up_ne (by omega), up_eq]; rfl
  have c7 : up (up (up (up c 0 6 0) 0 7 0) 0 8 0) 0 9 0 0 7 = nI 0 := by rw [up_ne (by omega), up_ne (by omega), up_eq]; rfl
  have c9 : up (up (up (up c 0 6 0) 0 7 0) 0 8 0) 0 9 0 0 9 = nI 0 := by rw [up_eq]; rfl
  have cR : ∀ R, R ≠ 0 → up (up (up (up c 0 6 0) 0 7 0) 0 8 0) 0 9 0 R = c R := fun R hR => by rw [up_or hR, up_or hR, up_or hR, up_or hR]
  have c0 : ∀ i, i ≠ 6 → i ≠ 7 → i ≠ 8 → i ≠ 9 → up (up (up (up c 0 6 0) 0 7 0) 0 8 0) 0 9 0 0 i = c 0 i := fun i p q s t => by rw [up_ne (by omega), up_ne (by omega), up_ne (by omega), up_ne (by omega)]
  generalize up (up (up (up c 0 6 0) 0 7 0) 0 8 0) 0 9 0 = u1 at *
  have hok : OKs (c 3) n 0 u1 w3 := by
    refine ⟨⟨by rw [c0 5 (by decide) (by decide) (by decide) (by decide)]; exact b2, fun k hk => by rw [cR 3 (by decide)]⟩, ⟨?_, fun k hk => ?_⟩, Nat.zero_le _, c6, ?_, c7, ?_⟩
    · rw [w3o 0 (by decide) (by decide), s0 8 (by decide) (by decide) (by decide) (by decide)]; exact b3
    · rw [w3o 6 (by decide) (by decide), sR 6 (by decide)]; exact (b4 k hk).1.symm
    · rw [w3o 0 (by decide) (by decide)]; exact s9
    · rw [w3o 0 (by decide) (by decide)]; exact s11
  obtain ⟨y, g', u', w', x1, x2, x3, x4, x5, x6, x7, x8, ⟨k, x9, x10, x11⟩, x12⟩ := desc2 (g := g) (B := B) hb hok hB (fun L hL => by rw [cR _ (by omega)]; exact hTI L hL) c9 (by rw [w3o 0 (by decide) (by decide)]; exact s13) (by rw [cR 5 (by decide)]; exact z5) (by omega) (fun i p q s t => w3z i (by omega) q s t)
  have hn' : g'.nt ≤ T + 602 := by omega
  have plE : g'.pl = g.pl := x5
  have eW : F8_load r = (F8_settles w').bind fun u15 => if (u15 0 11) = 0 then ((pt u15 0 5 0).bind fun u18 => some ((u18 1 7), u18)) else ((F8_copies_2_1 u15 (0 : Int32) (0 : Int32)).bind fun u20 => some (((-100) - (u20 0 12)), u20)) := by
    unfold F8_load
    rw [eS, bS, eC, bS, eB, bS]
    rw [← Option.bind_assoc, x2, bS]
  have eU : C7_load g c = (C7_keepResult g' (up u' 0 5 0)).bind fun u7 => if (u7 0 1) = 0 then ((C3_copyFrom g' u7 0 1).bind fun u10 => (pt u10 0 4 (0)).bind fun u12 => (pt u12 0 0 (0)).bind fun u14 => some ((u14 (10 + 0) 7), g', u14)) else (some (((-100) - (u7 0 8)), g', u7)) := by
    unfold C7_load C5_readDescription
    rw [eT, bS, x1, bS, pt_n, bS, bS]
  have cr : ∀ R, R ≠ 0 → R ≠ 4 → R ≠ 5 → R ≠ 6 → ¬ OWN 1 R → R ≤ 500 + g.nt → u' R = c R := fun R p q s t a b => (x3.1 R p q s t a b).trans (cR R p)
  have cz : ∀ i, i ≠ 6 → i ≠ 7 → i ≠ 8 → i ≠ 9 → i ≠ 10 → i ≠ 11 → u' 0 i = c 0 i := fun i p q s t a b => (x3.2.1 i p q s t a b).trans (c0 i p q s t)
  have wr : ∀ R, R ≠ 0 → R ≠ 1 → R ≠ 2 → R ≠ 7 → R ≠ 8 → w' R = r R := fun R p q s t a => (x4.1 R p q t a).trans ((w3o R q s).trans (sR R p))
  have wz : ∀ i, i ≠ 6 → i ≠ 9 → i ≠ 10 → i ≠ 11 → i ≠ 12 → i ≠ 13 → i ≠ 14 → i ≠ 19 → w' 0 i = r 0 i := fun i o p q s t a b d => by rw [x4.2 i p q s t a b d, w3o 0 (by decide) (by decide), s0 i o p s a]
  have w6 : w' 0 6 = nI 0 := by rw [x4.2 6 (by decide) (by decide) (by decide) (by decide) (by decide) (by decide) (by decide), w3o 0 (by decide) (by decide)]; exact s6
  have w2 : ∀ j, j < 1037 → w' 2 j = r 1 j := fun j hj => by rw [x4.1 2 (by decide) (by decide) (by decide) (by decide)]; exact w3c j hj
  have u50 : u' 5 0 = nI 0 := by rw [x3.2.2, cR 5 (by decide)]; exact z5
  obtain ⟨o, np, p1, p2, p3, p4, p5, p6⟩ := h.p
  obtain ⟨oa, ob, o1, o2, o3, o4⟩ := h.o
  rw [eW, eU]
  rcases x12 with ⟨y1, y2, sm, lm, cm, y3⟩ | ⟨e, p, e1, e2, e3, e4, e5, e6, e7⟩
  · -- no error
    have eN : F8_settles w' = some (up (up (up w' 0 8 0) 0 15 (nI 0)) 0 16 (-1)) := by
      unfold F8_settles
      rw [pt_n, bS, up_ne (show ¬ (0 = 0 ∧ 11 = 8) by omega), y2, pt_n, bS, up_ne (show ¬ (0 = 0 ∧ 11 = 15) by omega), up_ne (show ¬ (0 = 0 ∧ 11 = 8) by omega), y2, if_pos (show nI 0 = (0 : Int32) from rfl), bS, pt_n, bS]
    have eK : C7_keepResult g' (up u' 0 5 0) = some (up (up (up u' 0 5 0) 0 1 (nI 0)) 0 2 (-1)) := by
      unfold C7_keepResult
      rw [up_ne (show ¬ (0 = 0 ∧ 7 = 5) by omega), y1, pt_n, bS, up_eq, if_pos (show nI 0 = (0 : Int32) from rfl), bS, pt_n, bS]
    have kR : ∀ R, R ≠ 0 → up (up (up u' 0 5 0) 0 1 (nI 0)) 0 2 (-1) R = u' R := fun R hR => by rw [up_or hR, up_or hR, up_or hR]
    have k1 : up (up (up u' 0 5 0) 0 1 (nI 0)) 0 2 (-1) 0 1 = nI 0 := by rw [up_ne (by omega), up_eq]
    have k2 : up (up (up u' 0 5 0) 0 1 (nI 0)) 0 2 (-1) 0 2 = -1 := up_eq
    have k5 : up (up (up u' 0 5 0) 0 1 (nI 0)) 0 2 (-1) 0 5 = nI 0 := by rw [up_ne (by omega), up_ne (by omega), up_eq]; rfl
    have k3 : up (up (up u' 0 5 0) 0 1 (nI 0)) 0 2 (-1) 0 3 = c 0 3 := by rw [up_ne (by omega), up_ne (by omega), up_ne (by omega)]; exact cz 3 (by decide) (by decide) (by decide) (by decide) (by decide) (by decide)
    generalize up (up (up u' 0 5 0) 0 1 (nI 0)) 0 2 (-1) = U at *
    have v11 : up (up (up w' 0 8 0) 0 15 (nI 0)) 0 16 (-1) 0 11 = nI 0 := by rw [up_ne (by omega), up_ne (by omega), up_ne (by omega)]; exact y2
    have v15 : up (up (up w' 0 8 0) 0 15 (nI 0)) 0 16 (-1) 0 15 = nI 0 := by rw [up_ne (by omega), up_eq]
    have v16 : up (up (up w' 0 8 0) 0 15 (nI 0)) 0 16 (-1) 0 16 = -1 := up_eq
    have v8 : up (up (up w' 0 8 0) 0 15 (nI 0)) 0 16 (-1) 0 8 = nI 0 := by rw [up_ne (by omega), up_ne (by omega), up_eq]; rfl
    have vR : ∀ R, R ≠ 0 → up (up (up w' 0 8 0) 0 15 (nI 0)) 0 16 (-1) R = w' R := fun R hR => by rw [up_or hR, up_or hR, up_or hR]
    have v0 : ∀ i, i ≠ 8 → i ≠ 15 → i ≠ 16 → up (up (up w' 0 8 0) 0 15 (nI 0)) 0 16 (-1) 0 i = w' 0 i := fun i p q s => by rw [up_ne (by omega), up_ne (by omega), up_ne (by omega)]
    generalize up (up (up w' 0 8 0) 0 15 (nI 0)) 0 16 (-1) = W at *
    have hq : QY U g' 1 (w' 1) sm lm cm B B := QY.frame (by omega) y3.1 (Nat.le_refl _) (fun R hR => kR R (by unfold OWN at hR; omega)) (fun t _ _ => kR _ (by omega))
    obtain ⟨c2, q1, q2, q3⟩ := copyFrom_ok (L := 0) (L2 := 1) (by omega) (by omega) (by omega) hq (by
      have := (TI_n.mp x8) 0 (by omega)
      rw [kR _ (by omega)]; exact this)
    have n0 : ¬ OWN 0 0 := by unfold OWN; omega
    rw [eN, bS, eK, bS, if_pos (show W 0 11 = (0 : Int32) from v11), pt_n, bS, if_pos (show U 0 1 = (0 : Int32) from k1), q1, bS, pt_n, bS, pt_n, bS]
    have e17 : up W 0 5 0 1 7 = up (up c2 0 4 0) 0 0 0 (10 + 0) 7 := by
      rw [up_or (show ¬ 1 = 0 by omega), up_or (show ¬ 10 + 0 = 0 by omega), up_or (show ¬ 10 + 0 = 0 by omega), vR 1 (by decide), q3.n7, q3.v7]
    have cc : ∀ R, R ≠ 0 → up (up c2 0 4 0) 0 0 0 R = c2 R := fun R hR => by rw [up_or hR, up_or hR]
    refine ⟨_, _, _, g', rfl, by rw [e17], ⟨?_, ?_, ⟨o, 0, p1, by omega, ?_, ?_, ?_, fun i hi => by omega⟩, ?_, ⟨?_, 0, by omega, ?_, ?_, fun k hk => by omega⟩, ⟨?_, ?_⟩, ⟨0, ob, by omega, o2, ?_, ?_⟩, hn'⟩, ?_⟩
    · rw [up_or (show ¬ 1 = 0 by omega), vR 1 (by decide)]
      exact ⟨sm, lm, cm, QY.frame (by omega) q3 (Nat.le_refl _) (fun R hR => cc R (by unfold OWN at hR; omega)) (fun t _ _ => cc _ (by omega))⟩
    · intro L hL
      rw [cc _ (by omega)]
      by_cases e : L = 0
      · subst e; exact TIr_of q3
      · rw [q2 _ (by unfold OWN; omega), kR _ (by omega)]; exact (TI_n.mp x8) L hL
    · rw [up_ne (by omega), up_ne (by omega), q2 0 n0, k3]; exact p3
    · rw [up_ne (by omega), up_eq]; rfl
    · rw [up_eq]; rfl
    · exact h.s.frame x6 (fun i _ _ => by rw [plE]) (by rw [up_or (show ¬ 5 = 0 by omega), vR 5 (by decide)]; exact wr 5 (by decide) (by decide) (by decide) (by decide) (by decide)) (by rw [up_or (show ¬ 4 = 0 by omega), vR 4 (by decide)]; exact wr 4 (by decide) (by decide) (by decide) (by decide) (by decide)) (fun L R a b hR => by rw [cc R (by unfold OWN at hR; omega), q2 R (by unfold OWN at hR ⊢; omega), kR R (by unfold OWN at hR; omega)]; exact cr R (by unfold OWN at hR; omega) (by unfold OWN at hR; omega) (by unfold OWN at hR; omega) (by unfold OWN at hR; omega) (by unfold OWN at hR ⊢; omega) (by unfold OWN at hR; omega)) (fun t t1 t2 => by rw [cc _ (by omega), q2 _ (by unfold OWN; omega), kR _ (by omega)]; exact cr _ (by omega) (by omega) (by omega) (by omega) (by unfold OWN; omega) (by omega))
    · rw [cc 5 (by decide), q2 5 (by unfold OWN; omega), kR 5 (by decide)]; exact u50
    · rw [up_ne (by omega), up_ne (by omega), q2 0 n0]; exact k5
    · rw [up_ne (by omega)]; exact v8
    · rw [up_ne (by omega), up_ne (by omega), q2 0 n0, k1, up_ne (by omega), v15]
    · rw [up_ne (by omega), up_ne (by omega), q2 0 n0, k2, up_ne (by omega), v16]
    · rw [up_eq]; rfl
    · rw [up_ne (by omega), v0 22 (by decide) (by decide) (by decide), wz 22 (by decide) (by decide) (by decide) (by decide) (by decide) (by decide) (by decide) (by decide)]; exact o4
    · rw [up_ne (by omega), v0 6 (by decide) (by decide) (by decide)]; exact w6
  · -- an error
    have en0 : ¬ nI e = (0 : Int32) := nI_ne (b := 0) (by omega) (by omega) (by omega)
    have eN : F8_settles w' = some (up (up (up w' 0 8 0) 0 15 (nI e)) 0 16 (nI k)) := by
      unfold F8_settles
      rw [pt_n, bS, up_ne (show ¬ (0 = 0 ∧ 11 = 8) by omega), e5, pt_n, bS, up_ne (show ¬ (0 = 0 ∧ 11 = 15) by omega), up_ne (show ¬ (0 = 0 ∧ 11 = 8) by omega), e5, if_neg en0, bS, up_ne (show ¬ (0 = 0 ∧ 13 = 15) by omega), up_ne (show ¬ (0 = 0 ∧ 13 = 8) by omega), x11, pt_n, bS]
    have eK : C7_keepResult g' (up u' 0 5 0) = some (up (up (up u' 0 5 0) 0 1 (nI e)) 0 2 (nI k)) := by
      unfold C7_keepResult
      rw [up_ne (show ¬ (0 = 0 ∧ 7 = 5) by omega), e4, pt_n, bS, up_eq, if_neg en0, bS, up_ne (show ¬ (0 = 0 ∧ 9 = 1) by omega), up_ne (show ¬ (0 = 0 ∧ 9 = 5) by omega), x10, pt_n, bS]
    have kR : ∀ R, R ≠ 0 → up (up (up u' 0 5 0) 0 1 (nI e)) 0 2 (nI k) R = u' R := fun R hR => by rw [up_or hR, up_or hR, up_or hR]
    have k1 : up (up (up u' 0 5 0) 0 1 (nI e)) 0 2 (nI k) 0 1 = nI e := by rw [up_ne (by omega), up_eq]
    have k2 : up (up (up u' 0 5 0) 0 1 (nI e)) 0 2 (nI k) 0 2 = nI k := up_eq
    have k5 : up (up (up u' 0 5 0) 0 1 (nI e)) 0 2 (nI k) 0 5 = nI 0 := by rw [up_ne (by omega), up_ne (by omega), up_eq]; rfl
    have k8 : up (up (up u' 0 5 0) 0 1 (nI e)) 0 2 (nI k) 0 8 = nI p := by rw [up_ne (by omega), up_ne (by omega), up_ne (by omega)]; exact e6
    have k0 : ∀ i, i ≠ 1 → i ≠ 2 → i ≠ 5 → up (up (up u' 0 5 0) 0 1 (nI e)) 0 2 (nI k) 0 i = u' 0 i := fun i p q s => by rw [up_ne (by omega), up_ne (by omega), up_ne (by omega)]
    generalize up (up (up u' 0 5 0) 0 1 (nI e)) 0 2 (nI k) = U at *
    have v11 : up (up (up w' 0 8 0) 0 15 (nI e)) 0 16 (nI k) 0 11 = nI e := by rw [up_ne (by omega), up_ne (by omega), up_ne (by omega)]; exact e5
    have v12 : up (up (up w' 0 8 0) 0 15 (nI e)) 0 16 (nI k) 0 12 = nI p := by rw [up_ne (by omega), up_ne (by omega), up_ne (by omega)]; exact e7
    have v15 : up (up (up w' 0 8 0) 0 15 (nI e)) 0 16 (nI k) 0 15 = nI e := by rw [up_ne (by omega), up_eq]
    have v16 : up (up (up w' 0 8 0) 0 15 (nI e)) 0 16 (nI k) 0 16 = nI k := up_eq
    have v8 : up (up (up w' 0 8 0) 0 15 (nI e)) 0 16 (nI k) 0 8 = nI 0 := by rw [up_ne (by omega), up_ne (by omega), up_eq]; rfl
    have vR : ∀ R, R ≠ 0 → up (up (up w' 0 8 0) 0 15 (nI e)) 0 16 (nI k) R = w' R := fun R hR => by rw [up_or hR, up_or hR, up_or hR]
    have v0 : ∀ i, i ≠ 8 → i ≠ 15 → i ≠ 16 → up (up (up w' 0 8 0) 0 15 (nI e)) 0 16 (nI k) 0 i = w' 0 i := fun i p q s => by rw [up_ne (by omega), up_ne (by omega), up_ne (by omega)]
    generalize up (up (up w' 0 8 0) 0 15 (nI e)) 0 16 (nI k) = W at *
    have eD : F8_copies_2_1 W (0 : Int32) (0 : Int32) = some (cpA W 2 0 1 0) := cp_2_1 (i := 0) (k := 0) (by omega) (by omega)
    rw [eN, bS, eK, bS, if_neg (show ¬ W 0 11 = (0 : Int32) by rw [v11]; exact en0), eD, bS, if_neg (show ¬ U 0 1 = (0 : Int32) by rw [k1]; exact en0)]
    have dR : ∀ R, R ≠ 1 → cpA W 2 0 1 0 R = W R := fun R hR => cpA_o hR
    have d1 : ∀ j, j < 1037 → cpA W 2 0 1 0 1 j = r 1 j := fun j hj => by
      have h2 := cpA_n (u := W) (A := 2) (i := 0) (B := 1) (k := 0) hj
      simp only [Nat.mul_zero, Nat.zero_add] at h2
      rw [h2, vR 2 (by decide)]; exact w2 j hj
    have cu : ∀ R, R ≠ 0 → R ≠ 4 → R ≠ 5 → R ≠ 6 → ¬ OWN 1 R → R ≤ 500 + g.nt → U R = c R := fun R p q s t a b => (kR R p).trans (cr R p q s t a b)
    have kz : ∀ i, i ≠ 1 → i ≠ 2 → i ≠ 5 → i ≠ 6 → i ≠ 7 → i ≠ 8 → i ≠ 9 → i ≠ 10 → i ≠ 11 → U 0 i = c 0 i := fun i a1 a2 a5 p q s t a b => (k0 i a1 a2 a5).trans (cz i p q s t a b)
    have dz : ∀ i, i ≠ 6 → i ≠ 8 → i ≠ 9 → i ≠ 10 → i ≠ 11 → i ≠ 12 → i ≠ 13 → i ≠ 14 → i ≠ 15 → i ≠ 16 → i ≠ 19 → cpA W 2 0 1 0 0 i = r 0 i := fun i o a8 p q s t a b a15 a16 d => by rw [dR 0 (by decide), v0 i a8 a15 a16]; exact wz i o p q s t a b d
    have dr : ∀ R, R ≠ 0 → R ≠ 1 → R ≠ 2 → R ≠ 7 → R ≠ 8 → cpA W 2 0 1 0 R = r R := fun R p q s t a => by rw [dR R q, vR R p]; exact wr R p q s t a
    have ox : ∀ L R, L ≠ 1 → L < 12 → OWN L R → U R = c R := fun L R a b hR => cu R (by unfold OWN at hR; omega) (by unfold OWN at hR; omega) (by unfold OWN at hR; omega) (by unfold OWN at hR; omega) (by unfold OWN at hR ⊢; omega) (by unfold OWN at hR; omega)
    have tx : ∀ t, 1 ≤ t → t ≤ g.nt → U (500 + t) = c (500 + t) := fun t t1 t2 => cu _ (by omega) (by omega) (by omega) (by omega) (by unfold OWN; omega) (by omega)
    refine ⟨_, _, _, g', rfl, by rw [dR 0 (by decide), v12, k8], ⟨?_, ?_, ?_, ?_, ⟨?_, 0, by omega, k5, ?_, fun k hk => by omega⟩, ⟨?_, ?_⟩, ⟨oa, ob, o1, o2, ?_, ?_⟩, hn'⟩, ?_⟩
    · exact LQ.ext (h.l.frame (by omega) x6 (fun R hR => ox 0 R (by omega) (by omega) hR) tx) d1
    · intro L hL
      rw [kR _ (by omega)]; exact (TI_n.mp x8) L hL
    · exact PAi.pa (PAi.frame ⟨p1, p2, p3, p4, p5, p6⟩ x6 (fun i _ _ q => by rw [plE]; exact q) (kz 3 (by decide) (by decide) (by decide) (by decide) (by decide) (by decide) (by decide) (by decide) (by decide)) (kz 4 (by decide) (by decide) (by decide) (by decide) (by decide) (by decide) (by decide) (by decide) (by decide)) (dz 5 (by decide) (by decide) (by decide) (by decide) (by decide) (by decide) (by decide) (by decide) (by decide) (by decide) (by decide)) (dr 3 (by decide) (by decide) (by decide) (by decide) (by decide)) (fun L R a b hR => ox L R (by omega) (by omega) hR) tx)
    · exact h.s.frame x6 (fun i _ _ => by rw [plE]) (dr 5 (by decide) (by decide) (by decide) (by decide) (by decide)) (dr 4 (by decide) (by decide) (by decide) (by decide) (by decide)) (fun L R a b hR => ox L R (by omega) (by omega) hR) tx
    · rw [kR 5 (by decide)]; exact u50
    · rw [dR 0 (by decide)]; exact v8
    · rw [k1, dR 0 (by decide), v15]
    · rw [k2, dR 0 (by decide), v16]
    · rw [kz 0 (by decide) (by decide) (by decide) (by decide) (by decide) (by decide) (by decide) (by decide) (by decide)]; exact o3
    · rw [dz 22 (by decide) (by decide) (by decide) (by decide) (by decide) (by decide) (by decide) (by decide) (by decide) (by decide) (by decide)]; exact o4
    · rw [dR 0 (by decide), v0 6 (by decide) (by decide) (by decide)]; exact w6
