noncomputable def BT (F : Option (Int32 × RS)) (C : Option (Int32 × RS)) (g : CG) (B T : Nat) : Prop := ∃ x r2 c2, F = some (x, r2) ∧ C = some (x, c2) ∧ GI r2 c2 g B T ∧ r2 0 6 = nI 0
theorem GI.mk2 {r c r2 c2 : RS} {g : CG} {B T : Nat} (h : GI r c g B T) (hl : LQ c2 g 0 (r2 1) B) (hr : ∀ R, R ≠ 0 → R ≠ 1 → r2 R = r R) (hc : ∀ R, ¬ OWN 0 R → R ≠ 0 → c2 R = c R) (hp : PA r2 c2 g B) (h8 : r2 0 8 = r 0 8) (h15 : r2 0 15 = r 0 15) (h16 : r2 0 16 = r 0 16) (h22 : r2 0 22 = r 0 22) (c5 : c2 0 5 = c 0 5) (c1 : c2 0 1 = c 0 1) (c2' : c2 0 2 = c 0 2) (c0 : c2 0 0 = c 0 0) : GI r2 c2 g B T := by
  refine ⟨hl, fun L hL => ?_, hp, ?_, ?_, ?_, ?_, h.n⟩
  · by_cases e : L = 0
    · subst e
      obtain ⟨sm, lm, cm, q⟩ := hl
      exact q.tir
    · rw [hc _ (by unfold OWN; omega) (by omega)]; exact h.ti L hL
  · exact h.s.frame (Nat.le_refl _) (fun _ _ _ => rfl) (hr 5 (by decide) (by decide)) (hr 4 (by decide) (by decide)) (fun L R a b hR => hc R (by unfold OWN at hR ⊢; omega) (by unfold OWN at hR; omega)) (fun t _ _ => hc _ (by unfold OWN; omega) (by omega))
  · exact h.b.frame c5 h8 (hc 3 (by unfold OWN; omega) (by decide)) (hr 6 (by decide) (by decide)) (hc 5 (by unfold OWN; omega) (by decide))
  · exact h.e.frame c1 c2' h15 h16
  · exact h.o.frame c0 h22
theorem a_undo {r c : RS} {g : CG} {B T : Nat} (h : GI r c g B T) : BT (F8_undo r) (C7_undo g c) g B T := by
  obtain ⟨o, n, hp⟩ := h.p
  obtain ⟨p1, p2, p3, p4, p5, p6⟩ := hp
  unfold F8_undo C7_undo
  simp only [lit32, neg1]
  rw [zth, bS, th_0 (by decide), p5, p4]
  by_cases hn : n = 0
  · rw [if_pos (congrArg nI hn), if_pos (congrArg nI hn)]
    exact ⟨m1, th r 0, c, rfl, rfl, h.thr, th_6⟩
  · rw [if_neg (nI_ne hn (by omega) (by omega)), if_neg (nI_ne hn (by omega) (by omega)), nI_sub (by omega), pt_n, bS, pt_n, bS]
    rw [up_eq, cp_3_1 (by omega) (by omega), bS, up_eq, up_ne (by omega), p3, nI_add, rm_n (by omega) (by omega) (by omega), bS, ix_n (Nat.mod_lt _ (by omega)) (by omega), bS]
    have hm : (o + (n - 1)) % 8 < 8 := Nat.mod_lt _ (by omega)
    obtain ⟨a, sm, lm, cm, b⟩ := p6 (n - 1) (by omega)
    rw [if_pos a]
    have cu : ∀ R, R ≠ 0 → up c 0 4 (nI (n - 1)) R = c R := fun R hR => up_or hR
    have b' : QY (up c 0 4 (nI (n - 1))) g (2 + (o + (n - 1)) % 8) (ROW r 3 (n - 1)) sm lm cm B B := b.frame (by omega) (Nat.le_refl _) (fun R hR => cu R (by unfold OWN at hR; omega)) (fun t _ _ => cu _ (by omega))
    obtain ⟨c2, k1, k2, k3⟩ := copyFrom_ok (L := 0) (L2 := 2 + (o + (n - 1)) % 8) (by omega) (by omega) (by omega) b' (by rw [cu _ (by decide)]; exact h.ti 0 (by omega))
    rw [k1, bS]
    have e0 : ∀ i, i ≠ 4 → c2 0 i = c 0 i := fun i hi => by rw [k2 0 (by unfold OWN; omega), up_ne (by omega)]
    have e4 : c2 0 4 = nI (n - 1) := by rw [k2 0 (by unfold OWN; omega), up_eq]
    have r0 : ∀ i, i ≠ 5 → i ≠ 6 → cpA (up (th r 0) 0 5 (nI (n - 1))) 3 (n - 1) 1 0 0 i = r 0 i := fun i a b => by rw [cpA_o (by decide), up_ne (by omega), th_0 b]
    have r5 : cpA (up (th r 0) 0 5 (nI (n - 1))) 3 (n - 1) 1 0 0 5 = nI (n - 1) := by rw [cpA_o (by decide), up_eq]
    have rR : ∀ R, R ≠ 0 → R ≠ 1 → cpA (up (th r 0) 0 5 (nI (n - 1))) 3 (n - 1) 1 0 R = r R := fun R a b => by rw [cpA_o b, up_or a, th_o a]
    refine ⟨nI (n - 1), _, c2, by rw [r5], by rw [e4], h.mk2 ⟨sm, lm, cm, QY.ext k3 fun j hj => ?_⟩ rR (fun R a b => (k2 R a).trans (cu R b)) ⟨o, n - 1, p1, by omega, (e0 3 (by decide)).trans p3, e4, r5, fun i hi => ?_⟩ (r0 8 (by decide) (by decide)) (r0 15 (by decide) (by decide)) (r0 16 (by decide) (by decide)) (r0 22 (by decide) (by decide)) (e0 5 (by decide)) (e0 1 (by decide)) (e0 2 (by decide)) (e0 0 (by decide)), ?_⟩
    · have := cpA_n (u := up (th r 0) 0 5 (nI (n - 1))) (A := 3) (i := n - 1) (B := 1) (k := 0) hj
      rw [show 1037 * 0 + j = j by omega] at this
      rw [this, up_or (by decide), th_o (by decide)]
    · obtain ⟨a1, b1⟩ := p6 i (by omega)
      have e : ROW (cpA (up (th r 0) 0 5 (nI (n - 1))) 3 (n - 1) 1 0) 3 i = ROW r 3 i := by
        funext j; show cpA _ _ _ _ _ 3 _ = r 3 _; rw [rR 3 (by decide) (by decide)]
      refine ⟨a1, ?_⟩
      rw [e]
      exact b1.frame (by omega) (Nat.le_refl _) (fun R hR => (k2 R (by unfold OWN at hR ⊢; omega)).trans (cu R (by unfold OWN at hR; omega))) (fun t _ _ => (k2 _ (by unfold OWN; omega)).trans (cu _ (by omega)))
    · rw [cpA_o (by decide), up_ne (by omega), th_6]
theorem a_save {r c : RS} {g : CG} {B T : Nat} {a : Int32} (h : GI r c g B T) : AT (F8_saveSnapshot r a) (C7_saveSnapshot g c a) r 1 B T := by
  obtain ⟨sm, lm, cm, h0⟩ := h.l
  unfold F8_saveSnapshot C7_saveSnapshot
  simp only [lit32]
  rcases argR (a := a) (lo := 0) (hi := 1) (by omega) (by omega) (l := 0) (h := 1) rfl rfl with ⟨s, k1, k2, rfl, k3, k4⟩ | ⟨k3, k4, k5⟩
  · have hs : s < 2 := by omega
    rw [k3, k4, isThrown_1, bS, bS, trR, ix_n hs (by omega), bS]
    simp only [if_true]
    rw [cp_1_4 (by omega) hs, bS, ws_n hs (by omega), bS, show vp_nar .boolean (nI 1) = nI 1 from rfl]
    generalize hL : 10 + s = L at *
    obtain ⟨g2, c1, e1, e2, e3, e4, e5⟩ : ∃ g2 c1, (∀ X : CG → RS → Option (Sum Int32 (Int32 × CG × RS)), (if g.pl L = true then X g c else X (gl g L) (ul c L)) = X g2 c1) ∧ (∀ R, ¬ OWN L R → c1 R = c R) ∧ TIr (c1 (10 + L)) g.nt ∧ g2.nt = g.nt ∧ (∀ j, g2.pl j = if j = L then true else g.pl j) := by
      by_cases q : g.pl L = true
      · refine ⟨g, c, fun X => if_pos q, fun _ _ => rfl, h.ti L (by omega), rfl, fun j => ?_⟩
        by_cases e : j = L
        · rw [if_pos e, e]; exact q
        · rw [if_neg e]
      · refine ⟨gl g L, ul c L, fun X => if_neg q, fun R hR => ul_row (by omega) hR, ul_tir (by omega), rfl, fun j => ?_⟩
        by_cases e : j = L
        · rw [if_pos e, e]; exact gl_pl
        · rw [if_neg e]; exact gl_ne e
    have h01 : QY c1 g2 0 (r 1) sm lm cm B B := h0.frame (by omega) (Nat.le_of_eq e4.symm) (fun R hR => e2 R (by unfold OWN at hR ⊢; omega)) (fun t q1 q2 => e2 _ (by unfold OWN; omega))
    obtain ⟨c2, j1, j2, j3⟩ := copyFrom_ok (L := L) (L2 := 0) (by omega) (by omega) (by omega) h01 (by rw [e4]; exact e3)
    have cc : ∀ R, ¬ OWN L R → c2 R = c R := fun R hR => (j2 R hR).trans (e2 R hR)
    have X1 := e1 (fun g3 c3 => (C3_copyFrom g3 c3 L 0).bind fun u7 => some (.inr ((u7 (10 + 0) 6), g3, u7)))
    rw [j1, bS] at X1
    have ev : c2 (10 + 0) 6 = r 1 6 := by
      rw [cc (10 + 0) (by unfold OWN; omega)]; exact (QR.ra h0 (by omega) (by omega) (by omega)).symm
    have rR : ∀ R, R ≠ 4 → R ≠ 5 → up (cpA (th r 0) 1 0 4 s) 5 s (nI 1) R = th r 0 R := fun R a b => by rw [up_or b, cpA_o a]
    refine Or.inl ⟨r 1 6, up (cpA (th r 0) 1 0 4 s) 5 s (nI 1), c2, g2, ?_, ?_, ?_, ?_⟩
    · rw [rR 1 (by decide) (by decide), th1]
    · rw [← ev]; exact X1
    · refine ⟨?_, fun L' hL' => ?_, ?_, fun s' hs' => ?_, ?_, ?_, ?_, ?_⟩
      · rw [rR 1 (by decide) (by decide), th_o (by decide)]
        exact ⟨sm, lm, cm, h0.frame (by omega) (Nat.le_of_eq e4.symm) (fun R hR => cc R (by unfold OWN at hR ⊢; omega)) (fun t _ _ => cc _ (by unfold OWN; omega))⟩
      · rw [e4]
        by_cases e : L' = L
        · rw [e]; have := j3.tir; rw [e4] at this; exact this
        · rw [cc _ (by unfold OWN; omega)]; exact h.ti L' hL'
      · exact h.p.frame (Nat.le_of_eq e4.symm) (fun i a b q => by rw [e5, if_neg (by omega)]; exact q) (by rw [cc 0 (by unfold OWN; omega)]) (by rw [cc 0 (by unfold OWN; omega)]) (by rw [rR 0 (by decide) (by decide), th_0 (by decide)]) (by rw [rR 3 (by decide) (by decide), th_o (by decide)]) (fun L' R a b hR => cc R (by unfold OWN at hR ⊢; omega)) (fun t _ _ => cc _ (by unfold OWN; omega))
      · by_cases e : s' = s
        · subst e
          rw [hL]
          refine Or.inr ⟨up_eq, by rw [e5, if_pos rfl], LQ.ext (v := r 1) ⟨sm, lm, cm, j3⟩ fun j hj => ?_⟩
          show up (cpA (th r 0) 1 0 4 s') 5 s' (nI 1) 4 (1037 * s' + j) = r 1 j
          rw [up_ne (by omega), cpA_n hj, th1]
          exact congrArg (r 1) (by omega)
        · have v5 : up (cpA (th r 0) 1 0 4 s) 5 s (nI 1) 5 s' = r 5 s' := by rw [up_ne (by omega), cpA_o (by decide), th_o (by decide)]
          rw [v5, e5, if_neg (by omega)]
          rcases h.s s' hs' with q | ⟨q1, q2, q3⟩
          · exact Or.inl q
          · refine Or.inr ⟨q1, q2, LQ.ext (v := ROW r 4 s') (q3.frame (by omega) (Nat.le_of_eq e4.symm) (fun R hR => cc R (by unfold OWN at hR ⊢; omega)) (fun t _ _ => cc _ (by unfold OWN; omega))) fun j hj => ?_⟩
            show up (cpA (th r 0) 1 0 4 s) 5 s (nI 1) 4 (1037 * s' + j) = r 4 (1037 * s' + j)
            rw [up_ne (by omega), cpA_s (by omega), th_o (by decide)]
      · exact h.b.frame (by rw [cc 0 (by unfold OWN; omega)]) (by rw [rR 0 (by decide) (by decide), th_0 (by decide)]) (cc 3 (by unfold OWN; omega)) (by rw [rR 6 (by decide) (by decide), th_o (by decide)]) (cc 5 (by unfold OWN; omega))
      · exact h.e.frame (by rw [cc 0 (by unfold OWN; omega)]) (by rw [cc 0 (by unfold OWN; omega)]) (by rw [rR 0 (by decide) (by decide), th_0 (by decide)]) (by rw [rR 0 (by decide) (by decide), th_0 (by decide)])
      · exact h.o.frame (by rw [cc 0 (by unfold OWN; omega)]) (by rw [rR 0 (by decide) (by decide), th_0 (by decide)])
      · rw [e4]; exact h.n
    · rw [rR 0 (by decide) (by decide), th_6]
  · rw [k3, k4, isThrown_0, bS, bS, trL]
    refine Or.inr ⟨1, by omega, by omega, ?_, rfl⟩
    simp only [nz0, if_false]
noncomputable def CT (F : Option (Int32 × RS)) (C : Option (Sum Int32 (Int32 × RS))) (r : RS) (g : CG) (sh B T : Nat) : Prop := (∃ x r2 c2, F = some (x, r2) ∧ C = some (.inr (x, c2)) ∧ GI r2 c2 g B T ∧ r2 0 6 = nI 0) ∨ (∃ k, 1 ≤ k ∧ k ≤ 2 ∧ F = some (nI 0, th r k) ∧ C = some (.inl (nI (k + sh))))
theorem a_restore {r c : RS} {g : CG} {B T : Nat} {a : Int32} (h : GI r c g B T) : CT (F8_restoreSnapshot r a) (C7_restoreSnapshot g c a) r g 1 B T := by
  unfold F8_restoreSnapshot C7_restoreSnapshot
  simp only [lit32, neg1]
  rcases argR (a := a) (lo := 0) (hi := 1) (by omega) (by omega) (l := 0) (h := 1) rfl rfl with ⟨s, k1, k2, rfl, k3, k4⟩ | ⟨k3, k4, k5⟩
  · have hs : s < 2 := by omega
    rw [k3, k4, isThrown_1, bS, bS, trR, ix_n hs (by omega), bS]
    simp only [if_true]
    rw [rd_n hs (by omega), bS, th_o (by decide)]
    rcases h.s s hs with ⟨q1, q2⟩ | ⟨q1, q2, sm, lm, cm, b⟩
    · rw [q1, if_pos rfl, if_neg (by rw [q2]; decide)]
      exact Or.inl ⟨m1, th r 0, c, rfl, rfl, h.thr, th_6⟩
    · rw [q1, if_neg nz0, if_pos q2, cp_4_1 hs (by omega), bS, pt_n, bS]
      obtain ⟨c2, j1, j2, j3⟩ := copyFrom_ok (L := 0) (L2 := 10 + s) (by omega) (by omega) (by omega) b (h.ti 0 (by omega))
      rw [j1, bS, pt_n, bS]
      have rR : ∀ R, R ≠ 0 → R ≠ 1 → up (cpA (th r 0) 4 s 1 0) 0 5 (nI 0) R = r R := fun R a b => by rw [up_or a, cpA_o b, th_o a]
      have r0 : ∀ i, i ≠ 5 → i ≠ 6 → up (cpA (th r 0) 4 s 1 0) 0 5 (nI 0) 0 i = r 0 i := fun i a b => by rw [up_ne (by omega), cpA_o (by decide), th_0 b]
      have e0 : ∀ i, i ≠ 4 → up c2 0 4 (nI 0) 0 i = c 0 i := fun i hi => by rw [up_ne (by omega), j2 0 (by unfold OWN; omega)]
      have j3' : QY (up c2 0 4 (nI 0)) g 0 (ROW r 4 s) sm lm cm B B := j3.frame (by omega) (Nat.le_refl _) (fun R hR => up_or (by unfold OWN at hR; omega)) (fun t _ _ => up_or (by omega))
      have e1 : ∀ j, j < 1037 → up (cpA (th r 0) 4 s 1 0) 0 5 (nI 0) 1 j = ROW r 4 s j := fun j hj => by
        rw [up_ne (by omega)]
        have := cpA_n (u := th r 0) (A := 4) (i := s) (B := 1) (k := 0) hj
        rw [show 1037 * 0 + j = j by omega] at this
        rw [this, th_o (by decide)]
      have j4 := QY.ext j3' e1
      have ev : up (cpA (th r 0) 4 s 1 0) 0 5 (nI 0) 1 6 = up c2 0 4 (nI 0) (10 + 0) 6 := QR.ra j4 (by omega) (by omega) (by omega)
      obtain ⟨o, n, p1, p2, p3, p4, p5, p6⟩ := h.p
      refine Or.inl ⟨_, _, _, rfl, by rw [ev], h.mk2 ⟨sm, lm, cm, j4⟩ rR (fun R a b => (up_or b).trans (j2 R a)) ⟨o, 0, p1, by omega, (e0 3 (by decide)).trans p3, up_eq, up_eq, fun i hi => by omega⟩ (r0 8 (by decide) (by decide)) (r0 15 (by decide) (by decide)) (r0 16 (by decide) (by decide)) (r0 22 (by decide) (by decide)) (e0 5 (by decide)) (e0 1 (by decide)) (e0 2 (by decide)) (e0 0 (by decide)), ?_⟩
      rw [up_ne (by omega), cpA_o (by decide), th_6]
  · rw [k3, k4, isThrown_0, bS, bS, trL]
    refine Or.inr ⟨1, by omega, by omega, ?_, rfl⟩
    simp only [nz0, if_false]
theorem write_F {r : RS} {q n : Nat} (hq : q < 30) (hn : n ≤ 16) : ∀ (d y fu : Nat) (u : RS), y + d = n → d < fu → u 0 22 = nI n → (∀ R, R ≠ 0 → R ≠ 10 → u R = r R) → ∃ u2, F8_writeCard_L27 (nI q) fu (nI y) u = some (nI n, u2) ∧ ∀ R, R ≠ 10 → u2 R = u R := by
  intro d
  induction d with
  | zero =>
    intro y fu u hy hfu h22 hr
    obtain ⟨fu, rfl⟩ : ∃ m, fu = m + 1 := ⟨fu - 1, by omega⟩
    obtain rfl : y = n := by omega
    rw [F8_writeCard_L27, h22, if_pos (nI_le (by omega) (by omega))]
    exact ⟨u, rfl, fun _ _ => rfl⟩
  | succ d ih =>
    intro y fu u hy hfu h22 hr
    obtain ⟨fu, rfl⟩ : ∃ m, fu = m + 1 := ⟨fu - 1, by omega⟩
    rw [F8_writeCard_L27]
    simp only [lit32]
    rw [h22, if_neg (nI_ge (by omega) (by omega)), nI_add, F8_ofCard_n hq (by omega), bS, ws_n (by omega) (by omega), bS, nI_add]
    obtain ⟨u2, k1, k2⟩ := ih (y + 1) fu (up u 10 y (vp_nar .byte (nI 97 + u 1 (137 + 25 * q + (9 + y))).toInt8.toInt32)) (by omega) (by omega) (by rw [up_ne (by omega)]; exact h22) (fun R a b => by rw [up_or b]; exact hr R a b)
    exact ⟨u2, k1, fun R hR => (k2 R hR).trans (up_or hR)⟩
theorem write_C {c : RS} {g : CG} {x t n q : Nat} {f : Nat → Nat} {a1 : Int32} (ht : TXc c g t n f) (hc : c (10 + 0) (137 + 25 * q + 2) = nI t) : ∀ (d y fu : Nat) (u : RS), y + d = n → d < fu → u 0 0 = nI n → (∀ R, R ≠ 0 → R ≠ 1 → u R = c R) → ∃ u2, C7_writeCard_L34 c q a1 g fu (nI y) u = some (nI n, u2) ∧ ∀ R, R ≠ 1 → u2 R = u R := by
  have hn := ht.n16
  intro d
  induction d with
  | zero =>
    intro y fu u hy hfu h0 hr
    obtain ⟨fu, rfl⟩ : ∃ m, fu = m + 1 := ⟨fu - 1, by omega⟩
    obtain rfl : y = n := by omega
    rw [C7_writeCard_L34, h0, if_pos (nI_le (by omega) (by omega))]
    exact ⟨u, rfl, fun _ _ => rfl⟩
  | succ d ih =>
    intro y fu u hy hfu h0 hr
    obtain ⟨fu, rfl⟩ : ∃ m, fu = m + 1 := ⟨fu - 1, by omega⟩
    have ht' : TXc u g t n f := ⟨ht.t1, ht.tg, ht.t31, ht.n1, ht.n16, by rw [hr _ (by omega) (by omega)]; exact ht.len, fun k hk => by rw [hr _ (by omega) (by omega)]; exact ht.lets k hk⟩
    rw [C7_writeCard_L34]
    simp only [lit32]
    rw [h0, if_neg (nI_ge (by omega) (by omega)), hc, ht'.tbt (by omega), bS, ws_n (by omega) (by omega), bS, nI_add]
    obtain ⟨u2, k1, k2⟩ := ih (y + 1) fu (up u 1 y (vp_nar .byte (nI 97 + nI (f y)).toInt8.toInt32)) (by omega) (by omega) (by rw [up_ne (by omega)]; exact h0) (fun R a b => by rw [up_or b]; exact hr R a b)
    exact ⟨u2, k1, fun R hR => (k2 R hR).trans (up_or hR)⟩
theorem a_writeCard {r c : RS} {g : CG} {B T : Nat} {a : Int32} (h : GI r c g B T) (hT : T < 2 ^ 31) : CT (F8_writeCard r a) (C7_writeCard g c a) r g 0 B T := by
  obtain ⟨sm, lm, cm, h0⟩ := h.l
  have hcm := h0.a.cm30
  have hg : g.nt < 2 ^ 31 := Nat.lt_of_le_of_lt h.n hT
  unfold F8_writeCard C7_writeCard
  simp only [lit32]
  rcases argCd (r := r) (c := c) (g := g) (a := a) (n := cm) (by omega) h0.v9 h0.n9 with ⟨q, s1, rfl, s2, s3⟩ | ⟨s2, s3⟩
  · have hq : q < 30 := by omega
    obtain ⟨t, n, f, t1, t2, t3⟩ := tx_c hg h0 s1
    have hn := t1.n16
    rw [s2, s3, bS, bS, isThrown_1, bS, trR, ix_n hq (by omega), bS]
    simp only [if_true]
    have e2 : F8_ofCard (th r 0) (nI q) (nI 2) = some (nI n) := by rw [thR, F8_ofCard_v hq (by omega), t1.len]
    have e16 : (if nI 16 < nI n then nI 16 else nI n) = nI n := if_neg (nI_nlt hn (by omega))
    rw [e2, bS, pt_n, bS, t3, t2.tln, bS, e16, pt_n, bS]
    obtain ⟨u2, k1, k2⟩ := write_F (r := r) hq hn n 0 FUEL (up (th r 0) 0 22 (nI n)) (by omega) (by show n < 10000; omega) up_eq (fun R a b => by rw [up_or a, th_o a])
    obtain ⟨z2, j1, j2⟩ := write_C (x := 0) (a1 := nI q) t2 t3 n 0 FUEL (up c 0 0 (nI n)) (by omega) (by show n < 10000; omega) up_eq (fun R a b => by rw [up_or a])
    rw [k1, bS, j1, bS]
    have rR : ∀ R, R ≠ 0 → R ≠ 10 → u2 R = r R := fun R a b => by rw [k2 R b, up_or a, th_o a]
    have r0 : ∀ i, i ≠ 22 → i ≠ 6 → u2 0 i = r 0 i := fun i a b => by rw [k2 0 (by decide), up_ne (by omega), th_0 b]
    have r22 : u2 0 22 = nI n := by rw [k2 0 (by decide), up_eq]
    have cR : ∀ R, R ≠ 0 → R ≠ 1 → z2 R = c R := fun R a b => by rw [j2 R b, up_or a]
    have c0 : ∀ i, i ≠ 0 → z2 0 i = c 0 i := fun i a => by rw [j2 0 (by decide), up_ne (by omega)]
    have c00 : z2 0 0 = nI n := by rw [j2 0 (by decide), up_eq]
    refine Or.inl ⟨nI n, u2, z2, by dsimp only; rw [r22], by dsimp only; rw [c00], ⟨?_, fun L hL => ?_, ?_, ?_, ?_, ?_, ⟨n, n, hn, hn, c00, r22⟩, h.n⟩, ?_⟩
    · rw [rR 1 (by decide) (by decide)]
      exact ⟨sm, lm, cm, h0.frame (by omega) (Nat.le_refl _) (fun R hR => cR R (by unfold OWN at hR; omega) (by unfold OWN at hR; omega)) (fun t _ _ => cR _ (by omega) (by omega))⟩
    · rw [cR _ (by omega) (by omega)]; exact h.ti L hL
    · exact h.p.frame (Nat.le_refl _) (fun _ _ _ q => q) (c0 3 (by decide)) (c0 4 (by decide)) (r0 5 (by decide) (by decide)) (rR 3 (by decide) (by decide)) (fun L R a b hR => cR R (by unfold OWN at hR; omega) (by unfold OWN at hR; omega)) (fun t _ _ => cR _ (by omega) (by omega))
    · exact h.s.frame (Nat.le_refl _) (fun _ _ _ => rfl) (rR 5 (by decide) (by decide)) (rR 4 (by decide) (by decide)) (fun L R a b hR => cR R (by unfold OWN at hR; omega) (by unfold OWN at hR; omega)) (fun t _ _ => cR _ (by omega) (by omega))
    · exact h.b.frame (c0 5 (by decide)) (r0 8 (by decide) (by decide)) (cR 3 (by decide) (by decide)) (rR 6 (by decide) (by decide)) (cR 5 (by decide) (by decide))
    · exact h.e.frame (c0 1 (by decide)) (c0 2 (by decide)) (r0 15 (by decide) (by decide)) (r0 16 (by decide) (by decide))
    · rw [k2 0 (by decide), up_ne (by omega), th_6]
  · rw [s2, s3, bS, bS, isThrown_0, bS, trL]
    refine Or.inr ⟨1, by omega, by omega, ?_, rfl⟩
    simp only [nz0, if_false]
