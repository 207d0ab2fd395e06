theorem ul_row {u : RS} {L R : Nat} (hL : L < 12) (h : ¬ OWN L R) : ul u L R = u R := by
  funext I
  unfold ul
  refine if_neg fun e => h ?_
  obtain ⟨k, hk, hl⟩ := Option.bind_eq_some_iff.mp e
  unfold own at hk
  unfold OWN
  by_cases c0 : R = 0
  · rw [if_pos c0] at hk
    by_cases cx0 : I < 5
    · rw [if_pos cx0] at hk
      obtain rfl := Option.some.inj hk; exact absurd hl (fun q => by cases q)
    rw [if_neg cx0] at hk
    obtain rfl := Option.some.inj hk; exact absurd hl (fun q => by cases q)
  rw [if_neg c0] at hk
  by_cases c1 : R = 1
  · rw [if_pos c1] at hk
    obtain rfl := Option.some.inj hk; exact absurd hl (fun q => by cases q)
  rw [if_neg c1] at hk
  by_cases c2 : R = 2
  · rw [if_pos c2] at hk
    obtain rfl := Option.some.inj hk; exact absurd hl (fun q => by cases q)
  rw [if_neg c2] at hk
  by_cases c3 : R = 3
  · rw [if_pos c3] at hk
    obtain rfl := Option.some.inj hk; exact absurd hl (fun q => by cases q)
  rw [if_neg c3] at hk
  by_cases c4 : R = 4
  · rw [if_pos c4] at hk
    obtain rfl := Option.some.inj hk; exact absurd hl (fun q => by cases q)
  rw [if_neg c4] at hk
  by_cases c5 : R = 5
  · rw [if_pos c5] at hk
    obtain rfl := Option.some.inj hk; exact absurd hl (fun q => by cases q)
  rw [if_neg c5] at hk
  by_cases c6 : R = 6
  · rw [if_pos c6] at hk
    obtain rfl := Option.some.inj hk; exact absurd hl (fun q => by cases q)
  rw [if_neg c6] at hk
  by_cases c7 : R < 10
  · rw [if_pos c7] at hk
    cases hk
  rw [if_neg c7] at hk
  by_cases c8 : R < 22
  · rw [if_pos c8] at hk
    by_cases cx0 : I < 10
    · rw [if_pos cx0] at hk
      obtain rfl := Option.some.inj hk; have q : R - 10 = L := Option.some.inj hl; omega
    rw [if_neg cx0] at hk
    by_cases cx1 : I < 12
    · rw [if_pos cx1] at hk
      cases hk
    rw [if_neg cx1] at hk
    by_cases cx2 : I < 17
    · rw [if_pos cx2] at hk
      obtain rfl := Option.some.inj hk; have q : R - 10 = L := Option.some.inj hl; omega
    rw [if_neg cx2] at hk
    by_cases cx3 : I < 113
    · rw [if_pos cx3] at hk
      obtain rfl := Option.some.inj hk; have q : R - 10 = L := Option.some.inj hl; omega
    rw [if_neg cx3] at hk
    by_cases cx4 : I < 137
    · rw [if_pos cx4] at hk
      obtain rfl := Option.some.inj hk; have q : R - 10 = L := Option.some.inj hl; omega
    rw [if_neg cx4] at hk
    by_cases cx5 : I < 887
    · rw [if_pos cx5] at hk
      obtain rfl := Option.some.inj hk; have q : R - 10 = L := Option.some.inj hl; omega
    rw [if_neg cx5] at hk
    by_cases cx6 : I < 917
    · rw [if_pos cx6] at hk
      obtain rfl := Option.some.inj hk; have q : R - 10 = L := Option.some.inj hl; omega
    rw [if_neg cx6] at hk
    by_cases cx7 : I = 1060
    · rw [if_pos cx7] at hk
      obtain rfl := Option.some.inj hk; have q : R - 10 = L := Option.some.inj hl; omega
    rw [if_neg cx7] at hk
    by_cases cx8 : 1100 ≤ I ∧ I < 1148
    · rw [if_pos cx8] at hk
      obtain rfl := Option.some.inj hk; have q : R - 10 = L := Option.some.inj hl; omega
    rw [if_neg cx8] at hk
    cases hk
  rw [if_neg c8] at hk
  by_cases c9 : R < 100
  · rw [if_pos c9] at hk
    cases hk
  rw [if_neg c9] at hk
  by_cases c10 : R < 172
  · rw [if_pos c10] at hk
    obtain rfl := Option.some.inj hk; have q : (R - 100) / 6 = L := Option.some.inj hl; omega
  rw [if_neg c10] at hk
  by_cases c11 : R < 200
  · rw [if_pos c11] at hk
    cases hk
  rw [if_neg c11] at hk
  by_cases c12 : R < 272
  · rw [if_pos c12] at hk
    obtain rfl := Option.some.inj hk; have q : (R - 200) / 6 = L := Option.some.inj hl; omega
  rw [if_neg c12] at hk
  by_cases c13 : R < 300
  · rw [if_pos c13] at hk
    cases hk
  rw [if_neg c13] at hk
  by_cases c14 : R < 372
  · rw [if_pos c14] at hk
    obtain rfl := Option.some.inj hk; have q : (R - 300) / 6 = L := Option.some.inj hl; omega
  rw [if_neg c14] at hk
  by_cases c15 : R < 400
  · rw [if_pos c15] at hk
    cases hk
  rw [if_neg c15] at hk
  by_cases c16 : R < 412
  · rw [if_pos c16] at hk
    obtain rfl := Option.some.inj hk; have q : R - 400 = L := Option.some.inj hl; omega
  rw [if_neg c16] at hk
  by_cases c17 : R < 501
  · rw [if_pos c17] at hk
    cases hk
  rw [if_neg c17] at hk
  obtain rfl := Option.some.inj hk; exact absurd hl (fun q => by cases q)
theorem ul_tir {u : RS} {L nt : Nat} (hL : L < 12) : TIr (ul u L (10 + L)) nt := by
  refine ⟨fun s hs => ?_, fun q hq => ?_⟩
  · rw [← sS_r (v := ul u L (10 + L)) hs (by omega), ul_z (own_st hL hs (k := 14) (by omega)) rfl (by omega)]
    exact Nat.zero_le _
  · rw [← sC_r (v := ul u L (10 + L)) hq (by omega), ul_z (own_cd hL hq (k := 2) (by omega)) rfl (by omega)]
    exact Nat.zero_le _
noncomputable def shK (r : RS) (y : Nat) : RS := fun R j => if R = 3 ∧ j < y then r 3 (j + 1037) else r R j
theorem shK_o {r : RS} {y R : Nat} (h : R ≠ 3) : shK r y R = r R := by funext j; exact if_neg fun q => h q.1
theorem keep_L {r : RS} : ∀ (d y fu : Nat), y + d = 7259 → d < fu → F8_keeps_L11 fu (nI y) (shK r y) = some (nI 7259, shK r 7259) := by
  intro d
  induction d with
  | zero =>
    intro y fu hy hfu
    obtain ⟨fu, rfl⟩ : ∃ m, fu = m + 1 := ⟨fu - 1, by omega⟩
    obtain rfl : y = 7259 := by omega
    rw [F8_keeps_L11]
    simp only [lit32]
    rw [if_pos (nI_le (by omega) (by omega))]
  | succ d ih =>
    intro y fu hy hfu
    obtain ⟨fu, rfl⟩ : ∃ m, fu = m + 1 := ⟨fu - 1, by omega⟩
    have e1 : shK r y 3 (y + 1037) = r 3 (y + 1037) := if_neg (by omega)
    have e2 : up (shK r y) 3 y (r 3 (y + 1037)) = shK r (y + 1) := by
      funext R j
      rw [up_at]
      unfold shK
      by_cases h : R = 3 ∧ j = y
      · rw [if_pos h, if_pos (by omega), h.2]
      · rw [if_neg h]
        by_cases h2 : R = 3 ∧ j < y
        · rw [if_pos h2, if_pos (by omega)]
        · rw [if_neg h2, if_neg (by omega)]
    rw [F8_keeps_L11]
    simp only [lit32, nI_add]
    rw [if_neg (nI_ge (by omega) (by omega)), rd_n (by omega) (by omega), bS, ws_n (by omega) (by omega), bS, e1, e2]
    exact ih (y + 1) fu (by omega) (by omega)
theorem QY.ext {c : RS} {g : CG} {L sm lm cm B U : Nat} {v v2 : Nat → Int32} (h : QY c g L v sm lm cm B U) (e : ∀ j, j < 1037 → v2 j = v j) : QY c g L v2 sm lm cm B U := by
  have eA : sA v2 = sA v := by
    funext i; unfold sA; split
    · exact e _ (by omega)
    · rfl
  have eS : sS v2 = sS v := by
    funext i j; unfold sS; split
    · exact e _ (by omega)
    · rfl
  have eC : sC v2 = sC v := by
    funext i j; unfold sC; split
    · exact e _ (by omega)
    · rfl
  have eF : sF v2 = sF v := by
    funext i; unfold sF; split
    · exact e _ (by omega)
    · rfl
  have eL : sL v2 = sL v := by
    funext i j; unfold sL; split
    · exact e _ (by omega)
    · rfl
  have eP : sP v2 = sP v := by
    funext i; unfold sP; split
    · exact e _ (by omega)
    · rfl
  obtain ⟨a, s, q, n, l, d, z⟩ := h
  exact ⟨by rw [eA]; exact a, by rw [eS]; exact s, by rw [eC]; exact q, by rw [eA, eF]; exact n, by rw [eL]; exact l, by rw [eA, eP]; exact d, z⟩
theorem LQ.ext {c : RS} {g : CG} {L B : Nat} {v v2 : Nat → Int32} (h : LQ c g L v B) (e : ∀ j, j < 1037 → v2 j = v j) : LQ c g L v2 B := by
  obtain ⟨sm, lm, cm, h⟩ := h
  exact ⟨sm, lm, cm, QY.ext h e⟩
theorem keep8 {r c : RS} {g : CG} {B o : Nat} (h : PAi r c g B o 8) : PAi (up (shK r 7259) 0 5 (nI 7)) (up (up c 0 3 (nI ((o + 1) % 8))) 0 4 (nI 7)) g B ((o + 1) % 8) 7 := by
  obtain ⟨h1, h2, h3, h4, h5, h6⟩ := h
  refine ⟨Nat.mod_lt _ (by omega), by omega, ?_, up_eq, up_eq, fun i hi => ?_⟩
  · rw [up_ne (by omega), up_eq]
  · have e : ((o + 1) % 8 + i) % 8 = (o + (i + 1)) % 8 := by omega
    obtain ⟨a, b⟩ := h6 (i + 1) (by omega)
    rw [e]
    refine ⟨a, ?_⟩
    have hb := b.ext (v2 := ROW (up (shK r 7259) 0 5 (nI 7)) 3 i) (fun j hj => by
      show up (shK r 7259) 0 5 (nI 7) 3 (1037 * i + j) = r 3 (1037 * (i + 1) + j)
      rw [up_ne (by omega)]
      unfold shK
      rw [if_pos (by omega)]
      exact congrArg (r 3) (by omega))
    exact hb.frame (by omega) (Nat.le_refl _) (fun R hR => by unfold OWN at hR; rw [up_or (by omega), up_or (by omega)]) (fun t _ _ => by rw [up_or (by omega), up_or (by omega)])
noncomputable def KP (r c : RS) (g : CG) (r2 c2 : RS) (g2 : CG) : Prop := g2.nt = g.nt ∧ (∀ R, R ≠ 3 → R ≠ 0 → r2 R = r R) ∧ (∀ i, i ≠ 5 → r2 0 i = r 0 i) ∧ (∀ R, OWN 0 R → c2 R = c R) ∧ (∀ R, 500 ≤ R → c2 R = c R)
theorem keep7 {r c : RS} {g : CG} {B T o n sm lm cm : Nat} (h : GI r c g B T) (hp : PAi r c g B o n) (hn : n ≤ 7) (h0 : QY c g 0 (r 1) sm lm cm B B) :
    ∃ r2 c2 g2, (F8_copies_1_3 r (nI 0) (nI n)).bind (fun u5 => (pt u5 0 5 ((u5 0 5) + nI 1)).bind fun u7 => some u7) = some r2 ∧
      ((rm (c 0 3 + c 0 4) (nI 8)).bind fun x5 => (ix 8 x5).bind fun n7 => if g.pl (2 + n7) = true then ((C3_copyFrom g c (2 + n7) 0).bind fun u10 => (pt u10 0 4 ((u10 0 4) + nI 1)).bind fun u12 => some (g, u12)) else ((some (gl g (2 + n7))).bind fun g21 => (some (ul c (2 + n7))).bind fun u19 => (C3_copyFrom g21 u19 (2 + n7) 0).bind fun u23 => (pt u23 0 4 ((u23 0 4) + nI 1)).bind fun u25 => some (g21, u25))) = some (g2, c2) ∧
      GI r2 c2 g2 B T ∧ QY c2 g2 0 (r2 1) sm lm cm B B ∧ KP r c g r2 c2 g2 := by
  obtain ⟨p1, p2, p3, p4, p5, p6⟩ := hp
  have hm : (o + n) % 8 < 8 := Nat.mod_lt _ (by omega)
  generalize hL : 2 + (o + n) % 8 = L at *
  -- the class: the same step out of an old Line or a new one
  obtain ⟨g2, c1, e1, e2, e3, e4, e5⟩ : ∃ g2 c1, (∀ X : CG → RS → Option (CG × RS), (if g.pl L = true then X g c else X (gl g L) (ul c L)) = X g2 c1) ∧ (∀ R, ¬ OWN L R → c1 R = c R) ∧ TIr (c1 (10 + L)) g.nt ∧ g2.nt = g.nt ∧ (∀ j, g2.pl j = if j = L then true else g.pl j) := by
    by_cases q : g.pl L = true
    · refine ⟨g, c, fun X => if_pos q, fun _ _ => rfl, h.ti L (by omega), rfl, fun j => ?_⟩
      by_cases e : j = L
      · rw [if_pos e, e]; exact q
      · rw [if_neg e]
    · refine ⟨gl g L, ul c L, fun X => if_neg q, fun R hR => ul_row (by omega) hR, ul_tir (by omega), rfl, fun j => ?_⟩
      by_cases e : j = L
      · rw [if_pos e, e]; exact gl_pl
      · rw [if_neg e]; exact gl_ne e
  have h01 : QY c1 g2 0 (r 1) sm lm cm B B := h0.frame (by omega) (Nat.le_of_eq e4.symm) (fun R hR => e2 R (by unfold OWN at hR ⊢; omega)) (fun t q1 q2 => e2 _ (by unfold OWN; omega))
  obtain ⟨c2, k1, k2, k3⟩ := copyFrom_ok (L := L) (L2 := 0) (by omega) (by omega) (by omega) h01 (by rw [e4]; exact e3)
  have cc : ∀ R, ¬ OWN L R → c2 R = c R := fun R hR => (k2 R hR).trans (e2 R hR)
  refine ⟨up (cpA r 1 0 3 n) 0 5 (nI (n + 1)), up c2 0 4 (nI (n + 1)), g2, ?_, ?_, ?_, ?_, e4, ?_, ?_, ?_, ?_⟩
  · rw [cp_1_3 (by omega) (by omega), bS, cpA_o (by decide), p5, nI_add, pt_n, bS]
  · rw [p3, p4, nI_add, rm_n (by omega) (by omega) (by omega), bS, ix_n hm (by omega), bS, hL]
    have X1 := e1 (fun g3 c3 => (C3_copyFrom g3 c3 L 0).bind fun u10 => (pt u10 0 4 ((u10 0 4) + nI 1)).bind fun u12 => some (g3, u12))
    rw [k1, bS, cc 0 (by unfold OWN; omega), p4, nI_add, pt_n, bS] at X1
    exact X1
  · have r1 : (up (cpA r 1 0 3 n) 0 5 (nI (n + 1))) 1 = r 1 := by rw [up_or (by decide), cpA_o (by decide)]
    have cu : ∀ R, ¬ OWN L R → R ≠ 0 → up c2 0 4 (nI (n + 1)) R = c R := fun R a b => by rw [up_or b, cc R a]
    have c0 : ∀ i, i ≠ 4 → up c2 0 4 (nI (n + 1)) 0 i = c 0 i := fun i hi => by rw [up_ne (by omega), cc 0 (by unfold OWN; omega)]
    have r0 : ∀ i, i ≠ 5 → up (cpA r 1 0 3 n) 0 5 (nI (n + 1)) 0 i = r 0 i := fun i hi => by rw [up_ne (by omega), cpA_o (by decide)]
    refine ⟨⟨sm, lm, cm, ?_⟩, fun L' hL' => ?_, ⟨o, n + 1, p1, by omega, (c0 3 (by omega)).trans p3, up_eq, up_eq, fun i hi => ?_⟩, ?_, ?_, ?_, ?_, ?_⟩
    · rw [r1]
      exact h0.frame (by omega) (Nat.le_of_eq e4.symm) (fun R hR => cu R (by unfold OWN at hR ⊢; omega) (by unfold OWN at hR; omega)) (fun t q1 q2 => cu _ (by unfold OWN; omega) (by omega))
    · rw [up_or (by omega), e4]
      by_cases e : L' = L
      · rw [e]; have := k3.tir; rw [e4] at this; exact this
      · rw [cc _ (by unfold OWN; omega)]; exact h.ti L' hL'
    · by_cases e : i = n
      · subst e
        rw [hL]
        refine ⟨by rw [e5, if_pos rfl], ?_⟩
        refine (LQ.ext (v := r 1) ⟨sm, lm, cm, QY.frame (c2 := up c2 0 4 (nI (i + 1))) (g2 := g2) (by omega) k3 (Nat.le_refl _) (fun R hR => up_or (by unfold OWN at hR; omega)) (fun t _ _ => up_or (by omega))⟩ fun j hj => ?_)
        show up (cpA r 1 0 3 i) 0 5 (nI (i + 1)) 3 (1037 * i + j) = r 1 j
        rw [up_ne (by omega), cpA_n hj]
        exact congrArg (r 1) (by omega)
      · obtain ⟨a, b⟩ := p6 i (by omega)
        have hne : 2 + (o + i) % 8 ≠ L := by omega
        refine ⟨by rw [e5, if_neg hne]; exact a, ?_⟩
        refine LQ.ext (v := ROW r 3 i) (b.frame (by omega) (Nat.le_of_eq e4.symm) (fun R hR => cu R (by unfold OWN at hR ⊢; omega) (by unfold OWN at hR; omega)) (fun t q1 q2 => cu _ (by unfold OWN; omega) (by omega))) fun j hj => ?_
        show up (cpA r 1 0 3 n) 0 5 (nI (n + 1)) 3 (1037 * i + j) = r 3 (1037 * i + j)
        rw [up_ne (by omega), cpA_s (by omega)]
    · exact h.s.frame (Nat.le_of_eq e4.symm) (fun i a b => by rw [e5, if_neg (by omega)]) (by rw [up_or (by decide), cpA_o (by decide)]) (by rw [up_or (by decide), cpA_o (by decide)]) (fun L' R a b hR => cu R (by unfold OWN at hR ⊢; omega) (by unfold OWN at hR; omega)) (fun t q1 q2 => cu _ (by unfold OWN; omega) (by omega))
    · exact h.b.frame (c0 5 (by omega)) (r0 8 (by omega)) (cu 3 (by unfold OWN; omega) (by omega)) (by rw [up_or (by decide), cpA_o (by decide)]) (cu 5 (by unfold OWN; omega) (by omega))
    · exact h.e.frame (c0 1 (by omega)) (c0 2 (by omega)) (r0 15 (by omega)) (r0 16 (by omega))
    · exact h.o.frame (c0 0 (by omega)) (r0 22 (by omega))
    · rw [e4]; exact h.n
  · have r1 : (up (cpA r 1 0 3 n) 0 5 (nI (n + 1))) 1 = r 1 := by rw [up_or (by decide), cpA_o (by decide)]
    rw [r1]
    exact h0.frame (by omega) (Nat.le_of_eq e4.symm) (fun R hR => by rw [up_or (by unfold OWN at hR; omega)]; exact cc R (by unfold OWN at hR ⊢; omega)) (fun t q1 q2 => by rw [up_or (by omega)]; exact cc _ (by unfold OWN; omega))
  · intro R a b; rw [up_or b, cpA_o a]
  · intro i hi; rw [up_ne (by omega), cpA_o (by decide)]
  · intro R hR; rw [up_or (by unfold OWN at hR; omega)]; exact cc R (by unfold OWN at hR ⊢; omega)
  · intro R hR; rw [up_or (by omega)]; exact cc R (by unfold OWN; omega)
theorem keeps_ok {r c : RS} {g : CG} {B T sm lm cm : Nat} (h : GI r c g B T) (h0 : QY c g 0 (r 1) sm lm cm B B) :
    ∃ r2 c2 g2, F8_keeps r = some r2 ∧ C7_remember g c = some (g2, c2) ∧ GI r2 c2 g2 B T ∧ QY c2 g2 0 (r2 1) sm lm cm B B ∧ KP r c g r2 c2 g2 := by
  obtain ⟨o, n, hp⟩ := h.p
  have hp' := hp
  obtain ⟨p1, p2, p3, p4, p5, p6⟩ := hp'
  unfold F8_keeps C7_remember
  simp only [lit32]
  by_cases h8 : n = 8
  · subst h8
    have k8 := keep8 hp
    have hsk : r = shK r 0 := by funext R j; exact (if_neg (by omega)).symm
    have kl := keep_L (r := r) 7259 0 FUEL (by omega) (by show 7259 < 10000; omega)
    rw [← hsk] at kl
    have hG : GI (up (shK r 7259) 0 5 (nI 7)) (up (up c 0 3 (nI ((o + 1) % 8))) 0 4 (nI 7)) g B T := by
      have cu : ∀ R, R ≠ 0 → up (up c 0 3 (nI ((o + 1) % 8))) 0 4 (nI 7) R = c R := fun R a => by rw [up_or a, up_or a]
      have ru : ∀ R, R ≠ 0 → R ≠ 3 → up (shK r 7259) 0 5 (nI 7) R = r R := fun R a b => by rw [up_or a, shK_o b]
      have c0 : ∀ i, i ≠ 3 → i ≠ 4 → up (up c 0 3 (nI ((o + 1) % 8))) 0 4 (nI 7) 0 i = c 0 i := fun i a b => by rw [up_ne (by omega), up_ne (by omega)]
      have r0 : ∀ i, i ≠ 5 → up (shK r 7259) 0 5 (nI 7) 0 i = r 0 i := fun i a => by rw [up_ne (by omega), shK_o (by decide)]
      refine ⟨?_, fun L hL => by rw [cu _ (by omega)]; exact h.ti L hL, ⟨_, _, k8⟩, ?_, ?_, ?_, ?_, h.n⟩
      · rw [ru 1 (by decide) (by decide)]
        exact h.l.frame (by omega) (Nat.le_refl _) (fun R hR => cu R (by unfold OWN at hR; omega)) (fun t _ _ => cu _ (by omega))
      · exact h.s.frame (Nat.le_refl _) (fun _ _ _ => rfl) (ru 5 (by decide) (by decide)) (ru 4 (by decide) (by decide)) (fun L R _ _ hR => cu R (by unfold OWN at hR; omega)) (fun t _ _ => cu _ (by omega))
      · exact h.b.frame (c0 5 (by decide) (by decide)) (r0 8 (by decide)) (cu 3 (by decide)) (ru 6 (by decide) (by decide)) (cu 5 (by decide))
      · exact h.e.frame (c0 1 (by decide) (by decide)) (c0 2 (by decide) (by decide)) (r0 15 (by decide)) (r0 16 (by decide))
      · exact h.o.frame (c0 0 (by decide) (by decide)) (r0 22 (by decide))
    have h0' : QY (up (up c 0 3 (nI ((o + 1) % 8))) 0 4 (nI 7)) g 0 ((up (shK r 7259) 0 5 (nI 7)) 1) sm lm cm B B := by
      rw [up_or (r := 1) (by decide), shK_o (by decide)]
      exact h0.frame (by omega) (Nat.le_refl _) (fun R hR => by rw [up_or (by unfold OWN at hR; omega), up_or (by unfold OWN at hR; omega)]) (fun t _ _ => by rw [up_or (by omega), up_or (by omega)])
    obtain ⟨r2, c2, g2, k1, k2, k3, k4, q1, q2, q3, q4, q5⟩ := keep7 hG k8 (by omega) h0'
    refine ⟨r2, c2, g2, ?_, ?_, k3, k4, q1, fun R a b => ?_, fun i hi => ?_, fun R hR => ?_, fun R hR => ?_⟩
    · rw [p5, if_pos rfl, kl, bS]
      simp only
      rw [shK_o (by decide), p5, nI_sub (by omega), pt_n, bS, bS, up_eq]
      exact k1
    · rw [p4, if_pos rfl, p3, nI_add, rm_n (by omega) (by omega) (by omega), bS, pt_n, bS, up_ne (by omega), p4, nI_sub (by omega), pt_n, bS, bS]
      exact k2
    · rw [q2 R a b, up_or b, shK_o a]
    · rw [q3 i hi, up_ne (by omega), shK_o (by decide)]
    · rw [q4 R hR, up_or (by unfold OWN at hR; omega), up_or (by unfold OWN at hR; omega)]
    · rw [q5 R hR, up_or (by omega), up_or (by omega)]
  · obtain ⟨r2, c2, g2, k1, k2, k3, k4, k5⟩ := keep7 h hp (by omega) h0
    refine ⟨r2, c2, g2, ?_, ?_, k3, k4, k5⟩
    · rw [p5, if_neg (nI_ne h8 (by omega) (by omega)), bS, p5]
      exact k1
    · rw [p4, if_neg (nI_ne h8 (by omega) (by omega)), bS]
      rw [p4] at k2
      rw [p4]
      exact k2
