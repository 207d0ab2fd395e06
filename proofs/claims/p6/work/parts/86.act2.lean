theorem a_setRest {r c : RS} {g : CG} {B T : Nat} {a b d : Int32} (h : GI r c g B T) : AT (F8_setRest r a b d) (C7_setRest g c a b d) r 0 B T := by
  obtain ⟨sm, lm, cm, h0⟩ := h.l
  have hsm := h0.a.sm6
  unfold F8_setRest C7_setRest
  simp only [lit32]
  have hF : ∀ x t, (if b = nI 0 then some (nI 1) else (if inB b.toInt64 1 99 = nI 0 then some (nI 0) else (if inB d.toInt64 1 99 = nI 0 then some (nI 0) else some (nI 1))) : Option Int32) = some x → F8_isThrown (th r 0) x (nI 2) = some t → True := fun _ _ _ _ => trivial
  rcases argSt (r := r) (c := c) (g := g) (a := a) (n := sm) (by omega) h0.v7 h0.n7 with ⟨s, s1, rfl, s2, s3⟩ | ⟨s2, s3⟩
  · have hs6 : s < 6 := by omega
    have h1 : QY c g 0 (th r 0 1) sm lm cm B B := by rw [th_o (by decide)]; exact h0
    rcases argR (a := b) (lo := 0) (hi := 99) (by omega) (by omega) (l := 0) (h := 99) rfl rfl with ⟨k, k1, k2, rfl, k3, k4⟩ | ⟨k3, k4, k5⟩
    · by_cases z : k = 0
      · subst z
        obtain ⟨r2, c2, g2, e1, e2, e3, e4, e5⟩ := keeps_ok h.thr h1
        have ev : r2 1 (17 + 16 * s + 9) = c2 (10 + 0) (17 + 16 * s + 9) := QR.rs e4 s1 (by omega) (by omega)
        have hK : F8_keeps (th r 0) = some (setR r2 (r2 1)) := by rw [← setR_self]; exact e1
        rw [if_pos rfl, bS, s2, s3, bS, bS, isThrown_1, bS, trR, k4, bS, trR, if_pos (nI_le (Nat.le_refl 0) (by omega)), e2, bS, ix_n hs6 (by omega), bS, if_pos (nI_le (Nat.le_refl 0) (by omega))]
        simp only [if_true]
        rw [isThrown_1, bS, th_th]
        simp only [if_true]
        rw [hK, bS, F8_of_v hs6 (by omega), bS, F8_sets_s hs6 (by omega), bS, bS, F8_sets_s hs6 (by omega), bS, pt_n, bS, bS, pt_n, bS, upC (c := c2), up_setL_w, ev]
        exact AT.act (r2 := r2) (c2 := c2) (c' := c2) (g2 := g2) rfl rfl e3 (fun _ _ => rfl) (QR.free 10 (by omega) hs6 (QR.free 9 (by omega) hs6 e4)) e5.t (Nat.le_refl _)
      · have n0 : ¬ nI k = nI 0 := nI_ne z (by omega) (by omega)
        have nle : ¬ nI k ≤ nI 0 := nI_ge (by omega) (by omega)
        have k6 : inB (nI k).toInt64 1 99 = nI 1 := inB_pos (p := 1) (q := 99) rfl rfl (by rw [nI_toInt (by omega)]; omega)
        rw [if_neg n0, k6, if_neg nz0, s2, s3, bS, trR, k4, bS, trR, if_neg nle]
        rcases argR (a := d) (lo := 1) (hi := 99) (by omega) (by omega) (l := 1) (h := 99) rfl rfl with ⟨j, j1, j2, rfl, j3, j4⟩ | ⟨j3, j4, j5⟩
        · obtain ⟨r2, c2, g2, e1, e2, e3, e4, e5⟩ := keeps_ok h.thr h1
          have ev : r2 1 (17 + 16 * s + 9) = c2 (10 + 0) (17 + 16 * s + 9) := QR.rs e4 s1 (by omega) (by omega)
          have hK : F8_keeps (th r 0) = some (setR r2 (r2 1)) := by rw [← setR_self]; exact e1
          rw [j3, if_neg nz0, bS, bS, isThrown_1, bS, j4, bS, trR, e2, bS, ix_n hs6 (by omega), bS, if_neg nle]
          simp only [if_true]
          rw [isThrown_1, bS, th_th]
          simp only [if_true]
          rw [hK, bS, F8_of_v hs6 (by omega), bS, F8_sets_s hs6 (by omega), bS, if_neg n0, bS, F8_sets_s hs6 (by omega), bS, pt_n, bS, bS, pt_n, bS, upC (c := c2), up_setL_w, ev]
          exact AT.act (r2 := r2) (c2 := c2) (c' := c2) (g2 := g2) rfl rfl e3 (fun _ _ => rfl) (QR.free 10 (by omega) hs6 (QR.free 9 (by omega) hs6 e4)) e5.t (Nat.le_refl _)
        · rw [j3, if_pos rfl, bS, bS, isThrown_1, bS, j4, bS, trL]
          simp only [if_true]
          rw [isThrown_0, bS, th_th]
          refine Or.inr ⟨2, by omega, by omega, ?_, rfl⟩
          simp only [nz0, if_false]
    · have n0 : ¬ b = nI 0 := fun e => by rw [e, nI_toInt (by omega)] at k5; omega
      have k6 : inB b.toInt64 1 99 = nI 0 := inB_neg (p := 1) (q := 99) rfl rfl (by omega)
      rw [if_neg n0, k6, if_pos rfl, bS, s2, s3, bS, bS, isThrown_1, bS, trR, k4, bS, trL]
      simp only [if_true]
      rw [isThrown_0, bS, th_th]
      refine Or.inr ⟨2, by omega, by omega, ?_, rfl⟩
      simp only [nz0, if_false]
  · rw [s2, s3, bS, trL]
    have hX : ∃ x, (if b = nI 0 then some (nI 1) else (if inB b.toInt64 1 99 = nI 0 then some (nI 0) else (if inB d.toInt64 1 99 = nI 0 then some (nI 0) else some (nI 1))) : Option Int32) = some x := by
      split
      · exact ⟨_, rfl⟩
      · split
        · exact ⟨_, rfl⟩
        · split <;> exact ⟨_, rfl⟩
    obtain ⟨x, hx⟩ := hX
    rw [hx, bS, bS, isThrown_0, bS]
    refine Or.inr ⟨1, by omega, by omega, ?_, rfl⟩
    simp only [nz0, if_false]
theorem rush_L {r c : RS} {g : CG} {sm lm cm B U : Nat} {v : Nat → Int32} {x1 : Int32} {t4 : CG × RS} (h : QY c g 0 v sm lm cm B U) : ∀ (d y fu fu2 s : Nat), y + d = cm → d < fu → d < fu2 → s ≤ y → ∃ z, F8_rush_L43 x1 (setR r v) fu (nI y) (nI s) = some (nI cm, z) ∧ C7_rush_L37 x1 t4 c fu2 (nI y) (nI s) = some (nI cm, z) := by
  have hcm := h.a.cm30
  have h9 : v 9 = nI cm := h.v9
  intro d
  induction d with
  | zero =>
    intro y fu fu2 s hy hfu hfu2 hs
    obtain ⟨fu, rfl⟩ : ∃ m, fu = m + 1 := ⟨fu - 1, by omega⟩
    obtain ⟨fu2, rfl⟩ : ∃ m, fu2 = m + 1 := ⟨fu2 - 1, by omega⟩
    obtain rfl : y = cm := by omega
    rw [F8_rush_L43, C7_rush_L37, setR_1, h9, h.n9, if_pos (nI_le (by omega) (by omega)), if_pos (nI_le (by omega) (by omega))]
    exact ⟨_, rfl, rfl⟩
  | succ d ih =>
    intro y fu fu2 s hy hfu hfu2 hs
    obtain ⟨fu, rfl⟩ : ∃ m, fu = m + 1 := ⟨fu - 1, by omega⟩
    obtain ⟨fu2, rfl⟩ : ∃ m, fu2 = m + 1 := ⟨fu2 - 1, by omega⟩
    have e8 : v (137 + 25 * y + 8) = c (10 + 0) (137 + 25 * y + 8) := QR.rc h (by omega) (by omega) (by omega)
    have e8c : c (10 + 0) (137 + 25 * y + 8) = sC (c (10 + 0)) y 8 := sC_r (v := c (10 + 0)) (by omega) (by omega)
    rw [F8_rush_L43, C7_rush_L37]
    simp only [lit32]
    rw [setR_1, h9, h.n9, if_neg (nI_ge (by omega) (by omega)), if_neg (nI_ge (by omega) (by omega)), F8_ofCard_v (by omega) (by omega), bS, ix_n (by omega) (by omega), bS, e8, nI_add]
    rcases h.c.rush y (by omega) with q | ⟨q, -⟩
    · rw [e8c, q, if_pos rfl, bS, nI_z]; exact ih (y + 1) fu fu2 s (by omega) (by omega) (by omega) (by omega)
    · rw [e8c, q, if_neg nz0, bS, nI_add]; exact ih (y + 1) fu fu2 (s + 1) (by omega) (by omega) (by omega) (by omega)
theorem waits_ok {r c : RS} {g : CG} {sm lm cm B U q : Nat} {v : Nat → Int32} (h : QY c g 0 v sm lm cm B U) (hq : q < cm) : F8_ofCard (setR r v) (nI q) (nI 3) = some (c (10 + 0) (137 + 25 * q + 3)) ∧ C7_waits g c (nI q) = some (if c (10 + 0) (137 + 25 * q + 3) = nI 0 then nI 1 else nI 0) := by
  have hcm := h.a.cm30
  refine ⟨by rw [F8_ofCard_v (by omega) (by omega), QR.rc h hq (by omega) (by omega)], ?_⟩
  unfold C7_waits
  simp only [lit32]
  rw [ix_n (by omega) (by omega), bS]
  by_cases e : c (10 + 0) (137 + 25 * q + 3) = nI 0
  · rw [if_pos e, if_pos e, bS, nz_1, bS]
  · rw [if_neg e, if_neg e, bS, nz_0, bS]
theorem a_rush {r c : RS} {g : CG} {B T : Nat} {a : Int32} (h : GI r c g B T) : AT (F8_rush r a) (C7_rush g c a) r 0 B T := by
  obtain ⟨sm, lm, cm, h0⟩ := h.l
  have hcm := h0.a.cm30
  unfold F8_rush C7_rush
  simp only [lit32, neg1]
  rcases argCd (r := r) (c := c) (g := g) (a := a) (n := cm) (by omega) h0.v9 h0.n9 with ⟨q, s1, rfl, s2, s3⟩ | ⟨s2, s3⟩
  · have hq : q < 30 := by omega
    obtain ⟨w1, w2⟩ := waits_ok (r := th r 0) h0 s1
    rw [s2, s3, bS, bS, isThrown_1, bS, trR, w2, bS]
    simp only [if_true]
    have w1' : F8_ofCard (th r 0) (nI q) (nI 3) = some (c (10 + 0) (137 + 25 * q + 3)) := by rw [thR]; exact w1
    rw [w1', bS]
    by_cases e : c (10 + 0) (137 + 25 * q + 3) = nI 0
    · rw [if_pos e, if_pos e, if_neg nz0]
      have h1 : QY c g 0 (th r 0 1) sm lm cm B B := by rw [th_o (by decide)]; exact h0
      obtain ⟨r2, c2, g2, e1, e2, e3, e4, e5⟩ := keeps_ok h.thr h1
      have es : sC (c2 (10 + 0)) q 3 = nI 0 := by
        rw [← sC_r (v := c2 (10 + 0)) hq (by omega), e5.2.2.2.1 (10 + 0) (Or.inl rfl)]; exact e
      have q4 := QR.rush (x := nI 1) (Or.inr ⟨rfl, es⟩) e4 s1
      have q5 := QX.toY (by omega) q4
      obtain ⟨z, z1, z2⟩ := rush_L (r := r2) (x1 := nI q) (t4 := (g2, c2)) q5 cm 0 FUEL FUEL 0 (by omega) (by show cm < 10000; omega) (by show cm < 10000; omega) (by omega)
      have hK : F8_keeps (th r 0) = some (setR r2 (r2 1)) := by rw [← setR_self]; exact e1
      rw [hK, bS, F8_setsCard_s hq (by omega), bS, z1, bS, e2, bS, ix_n hq (by omega), bS, pt_n, bS]
      simp only
      rw [upC, z2, bS]
      exact AT.act (r2 := r2) (c2 := c2) (c' := c2) (g2 := g2) rfl rfl e3 (fun _ _ => rfl) q4 e5.t (Nat.le_refl _)
    · rw [if_neg e, if_neg e, if_pos rfl]
      exact AT.same h rfl rfl
  · rw [s2, s3, bS, bS, isThrown_0, bS, trL]
    refine Or.inr ⟨1, by omega, by omega, ?_, rfl⟩
    simp only [nz0, if_false]
theorem give_ok {c : RS} {g : CG} {L sm lm cm B U q : Nat} {v w iv : Nat → Int32} (hL : L < 12) (h : QX c g L v w iv sm lm cm B U) (hq : q < cm) (es : sC w q 3 = nI 0) :
    ∃ w' iv', C3_abandon g (setL c L w iv) L (nI q) = some (setL c L w' iv') ∧ QX c g L (upd (upd v (137 + 25 * q + 3) (nI 4)) (137 + 25 * q + 8) (nI 0)) w' iv' sm lm cm B U := by
  have hcm := h.a.cm30; have hlm := h.a.lm6
  have hq30 : q < 30 := by omega
  obtain ⟨l, hl, e0⟩ := h.c.lot q hq
  have hl6 : l < 6 := by omega
  obtain ⟨q0, f1, f2, f3, f4⟩ := h.l.next l hl
  have hz30 : cnt cm (loC (sC w) l) ≤ 30 := Nat.le_trans cnt_le hcm
  obtain ⟨q2, k1, k2, k3, k4, k5⟩ := abandon_w (c := c) (g := g) (iv := iv) (w := w) (z := cnt cm (loC (sC w) l)) (q0 := q0) (a := 0) (l := l) hL hq30 hq hl6 hz30 hcm f1 (by rw [sC_r (v := w) (by omega) (by omega)]; exact e0) (by omega) (by rw [sC_r (v := w) (by omega) (by omega)]; exact es) (by rw [sL_r (v := w) (by omega) (by omega)]; exact h.l.size l hl) (by rw [sE_r (v := w) (by omega) (by omega)]; exact f2) (fun p hp => by obtain ⟨k, m1, m2, -⟩ := h.l.byp l hl p hp; exact ⟨k, m1, m2⟩) (fun k hk => by obtain ⟨a, m1, m2⟩ := h.c.state k hk; exact ⟨a, m1, by rw [sC_r (v := w) (by omega) (by omega)]; exact m2⟩)
  have nf := not_fin (a := 0) (by omega) es
  have w4 : sC w q 4 = m1 := by
    rcases h.wh q hq with p | p
    · rw [es] at p; exact absurd p (nI_ne (by omega) (by omega) (by omega))
    · exact p
  have nh := h.s.nh1 hcm hq (by rw [es]; exact nI_ne (by omega) (by omega) (by omega))
  have eE : w (1100 + 8 * l + 2) = sE w l (4 - 2) := sE_r (v := w) (by omega) (by omega)
  refine ⟨_, _, k3, ?_⟩
  have C1 : sC (upd (upd v (137 + 25 * q + 3) (nI 4)) (137 + 25 * q + 8) (nI 0)) = up2 (up2 (sC v) q 3 (nI 4)) q 8 (nI 0) := by simp (disch := omega) only [sA_A, sA_S, sA_L, sA_C, sA_F, sA_P, sA_E, sA_M, sS_A, sS_S, sS_L, sS_C, sS_F, sS_P, sS_E, sS_M, sL_A, sL_S, sL_L, sL_C, sL_F, sL_P, sL_E, sL_M, sC_A, sC_S, sC_L, sC_C, sC_F, sC_P, sC_E, sC_M, sF_A, sF_S, sF_L, sF_C, sF_F, sF_P, sF_E, sF_M, sP_A, sP_S, sP_L, sP_C, sP_F, sP_P, sP_E, sP_M, sE_A, sE_S, sE_L, sE_C, sE_F, sE_P, sE_E, sE_M]
  have C2 : sC (upd (upd (upd (upd (upd w (137 + 25 * q + 8) (nI 0)) (137 + 25 * q + 3) (nI 4)) (137 + 25 * q + 4) m1) (1100 + 8 * l + 2) (w (1100 + 8 * l + 2) + nI 1)) (1100 + 8 * l + 0) (nI q2)) = up2 (up2 (sC w) q 8 (nI 0)) q 3 (nI 4) := by
    simp (disch := omega) only [sA_A, sA_S, sA_L, sA_C, sA_F, sA_P, sA_E, sA_M, sS_A, sS_S, sS_L, sS_C, sS_F, sS_P, sS_E, sS_M, sL_A, sL_S, sL_L, sL_C, sL_F, sL_P, sL_E, sL_M, sC_A, sC_S, sC_L, sC_C, sC_F, sC_P, sC_E, sC_M, sF_A, sF_S, sF_L, sF_C, sF_F, sF_P, sF_E, sF_M, sP_A, sP_S, sP_L, sP_C, sP_F, sP_P, sP_E, sP_M, sE_A, sE_S, sE_L, sE_C, sE_F, sE_P, sE_E, sE_M]
    refine up2_s ?_
    rw [up2_ne (by decide), up2_ne (by decide)]; exact w4
  have C3 : up2 (up2 (sC v) q 3 (nI 4)) q 8 (nI 0) = up2 (up2 (sC v) q 8 (nI 0)) q 3 (nI 4) := by
    (funext a b; simp only [up2_at]; repeat' split)
    all_goals (first | rfl | (exfalso; omega))
  have r8 : up2 (sC w) q 8 (nI 0) q 8 = nI 0 := up2_eq
  have es8 : up2 (sC w) q 8 (nI 0) q 3 = nI 0 := by rw [up2_ne (by decide)]; exact es
  have e08 : up2 (sC w) q 8 (nI 0) q 0 = nI l := by rw [up2_ne (by decide)]; exact e0
  have nf8 : ¬ fin (up2 (sC w) q 8 (nI 0)) q := not_fin (a := 0) (by omega) es8
  have lz : cnt cm (loC (up2 (sC w) q 8 (nI 0)) l) = cnt cm (loC (sC w) l) := by rw [loC_at (by decide)]
  have fe : ∀ k, fin (up2 (up2 (sC w) q 8 (nI 0)) q 3 (nI 4)) k ↔ fin (up2 (sC w) q 3 (nI 4)) k := fun k => by
    unfold fin
    by_cases e : k = q
    · rw [e, up2_eq, up2_eq]
    · rw [up2_ne1 e, up2_ne1 e, up2_ne1 e]
  refine ⟨?_, ?_, ?_, ?_, ?_, ?_, ?_⟩
  · simp (disch := omega) only [sA_A, sA_S, sA_L, sA_C, sA_F, sA_P, sA_E, sA_M, sS_A, sS_S, sS_L, sS_C, sS_F, sS_P, sS_E, sS_M, sL_A, sL_S, sL_L, sL_C, sL_F, sL_P, sL_E, sL_M, sC_A, sC_S, sC_L, sC_C, sC_F, sC_P, sC_E, sC_M, sF_A, sF_S, sF_L, sF_C, sF_F, sF_P, sF_E, sF_M, sP_A, sP_S, sP_L, sP_C, sP_F, sP_P, sP_E, sP_M, sE_A, sE_S, sE_L, sE_C, sE_F, sE_P, sE_E, sE_M]; exact h.a
  · rw [C2]; simp (disch := omega) only [sA_A, sA_S, sA_L, sA_C, sA_F, sA_P, sA_E, sA_M, sS_A, sS_S, sS_L, sS_C, sS_F, sS_P, sS_E, sS_M, sL_A, sL_S, sL_L, sL_C, sL_F, sL_P, sL_E, sL_M, sC_A, sC_S, sC_L, sC_C, sC_F, sC_P, sC_E, sC_M, sF_A, sF_S, sF_L, sF_C, sF_F, sF_P, sF_E, sF_M, sP_A, sP_S, sP_L, sP_C, sP_F, sP_P, sP_E, sP_M, sE_A, sE_S, sE_L, sE_C, sE_F, sE_P, sE_E, sE_M]; exact (h.s.cardk (by decide) (by decide)).card hq hcm nh
  · rw [C1, C2, C3]; exact QC.uState (by omega) (Or.inr r8) (QC.rushed (Or.inl rfl) h.c)
  · rw [C2]; simp (disch := omega) only [sA_A, sA_S, sA_L, sA_C, sA_F, sA_P, sA_E, sA_M, sS_A, sS_S, sS_L, sS_C, sS_F, sS_P, sS_E, sS_M, sL_A, sL_S, sL_L, sL_C, sL_F, sL_P, sL_E, sL_M, sC_A, sC_S, sC_L, sC_C, sC_F, sC_P, sC_E, sC_M, sF_A, sF_S, sF_L, sF_C, sF_F, sF_P, sF_E, sF_M, sP_A, sP_S, sP_L, sP_C, sP_F, sP_P, sP_E, sP_M, sE_A, sE_S, sE_L, sE_C, sE_F, sE_P, sE_E, sE_M]; exact QN.move hcm hq (by omega) (by omega) (by omega) (by omega) (by omega) es8 (h.n.cardk (by decide))
  · rw [C2]; simp (disch := omega) only [sA_A, sA_S, sA_L, sA_C, sA_F, sA_P, sA_E, sA_M, sS_A, sS_S, sS_L, sS_C, sS_F, sS_P, sS_E, sS_M, sL_A, sL_S, sL_L, sL_C, sL_F, sL_P, sL_E, sL_M, sC_A, sC_S, sC_L, sC_C, sC_F, sC_P, sC_E, sC_M, sF_A, sF_S, sF_L, sF_C, sF_F, sF_P, sF_E, sF_M, sP_A, sP_S, sP_L, sP_C, sP_F, sP_P, sP_E, sP_M, sE_A, sE_S, sE_L, sE_C, sE_F, sE_P, sE_E, sE_M, eE]
    refine QL.finish (b := 4) hcm hlm hq hl e08 nf8 (Or.inr rfl) (by rw [lz]; exact k2) (fun p c' hp hc' e => ?_) (by rw [lz]; exact fun k a b d => fun f => k5 k a b d ((fe k).mp f)) (h.l.cardk (by omega))
    refine (fe c').mpr ?_
    by_cases hp0 : p < q0
    · have := f3 p c' hp0 hc' e
      by_cases ec : c' = q
      · rw [ec] at this; exact absurd this nf
      · exact (fin_at (Or.inr ec)).mpr this
    · exact k4 p c' (by omega) hp hc' e
  · simp (disch := omega) only [sA_A, sA_S, sA_L, sA_C, sA_F, sA_P, sA_E, sA_M, sS_A, sS_S, sS_L, sS_C, sS_F, sS_P, sS_E, sS_M, sL_A, sL_S, sL_L, sL_C, sL_F, sL_P, sL_E, sL_M, sC_A, sC_S, sC_L, sC_C, sC_F, sC_P, sC_E, sC_M, sF_A, sF_S, sF_L, sF_C, sF_F, sF_P, sF_E, sF_M, sP_A, sP_S, sP_L, sP_C, sP_F, sP_P, sP_E, sP_M, sE_A, sE_S, sE_L, sE_C, sE_F, sE_P, sE_E, sE_M]; exact h.d
  · rw [C2]
    intro k hk
    by_cases e : k = q
    · right; rw [e, up2_ne (by decide), up2_ne (by decide)]; exact w4
    · rw [up2_ne1 e, up2_ne1 e, up2_ne1 e, up2_ne1 e]; exact h.wh k hk
theorem a_giveUp {r c : RS} {g : CG} {B T : Nat} {a : Int32} (h : GI r c g B T) : AT (F8_giveUp r a) (C7_giveUp g c a) r 0 B T := by
  obtain ⟨sm, lm, cm, h0⟩ := h.l
  have hcm := h0.a.cm30
  unfold F8_giveUp C7_giveUp
  simp only [lit32, neg1]
  rcases argCd (r := r) (c := c) (g := g) (a := a) (n := cm) (by omega) h0.v9 h0.n9 with ⟨q, s1, rfl, s2, s3⟩ | ⟨s2, s3⟩
  · have hq : q < 30 := by omega
    obtain ⟨w1, w2⟩ := waits_ok (r := th r 0) h0 s1
    rw [s2, s3, bS, bS, isThrown_1, bS, trR, w2, bS]
    simp only [if_true]
    have w1' : F8_ofCard (th r 0) (nI q) (nI 3) = some (c (10 + 0) (137 + 25 * q + 3)) := by rw [thR]; exact w1
    rw [w1', bS]
    by_cases e : c (10 + 0) (137 + 25 * q + 3) = nI 0
    · rw [if_pos e, if_pos e, if_neg nz0]
      have h1 : QY c g 0 (th r 0 1) sm lm cm B B := by rw [th_o (by decide)]; exact h0
      obtain ⟨r2, c2, g2, e1, e2, e3, e4, e5⟩ := keeps_ok h.thr h1
      have es : sC (c2 (10 + 0)) q 3 = nI 0 := by
        rw [← sC_r (v := c2 (10 + 0)) hq (by omega), e5.2.2.2.1 (10 + 0) (Or.inl rfl)]; exact e
      obtain ⟨w', iv', j1, j2⟩ := give_ok (L := 0) (by omega) e4 s1 es
      rw [← cL (L := 0)] at j1
      have hK : F8_keeps (th r 0) = some (setR r2 (r2 1)) := by rw [← setR_self]; exact e1
      have iS := inState_ok (r := r2) (a := 0) j2 (by omega)
      rw [hK, bS, F8_setsCard_s hq (by omega), bS, F8_setsCard_s hq (by omega), bS, iS, bS, e2, bS]
      simp only
      rw [j1, bS]
      have e400 : setL c2 0 w' iv' (400 + 0) 0 = iv' 0 := by rw [setL_iv]
      rw [e400]
      exact AT.act (r2 := r2) (c2 := c2) (c' := c2) (g2 := g2) rfl rfl e3 (fun _ _ => rfl) j2 e5.t (Nat.le_refl _)
    · rw [if_neg e, if_neg e, if_pos rfl]
      exact AT.same h rfl rfl
  · rw [s2, s3, bS, bS, isThrown_0, bS, trL]
    refine Or.inr ⟨1, by omega, by omega, ?_, rfl⟩
    simp only [nz0, if_false]
