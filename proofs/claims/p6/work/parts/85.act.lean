theorem QX.toY {c : RS} {g : CG} {L sm lm cm B U : Nat} {v w iv : Nat → Int32} (hL : L < 12) (h : QX c g L v w iv sm lm cm B U) : QY (setL c L w iv) g L v sm lm cm B U := by
  unfold QY
  rw [setL_w, setL_iv]
  exact QX.frame hL h (Nat.le_refl _) (fun R h1 h2 hR => setL_o (by omega) (by omega)) (fun t _ _ => setL_o (by omega) (by omega))
theorem GI.line {r c c' : RS} {g : CG} {B B2 T sm lm cm : Nat} {v' w' iv' : Nat → Int32} (h : GI r c g B T) (hc : ∀ R, ¬ OWN 0 R → c' R = c R) (hq : QX c' g 0 v' w' iv' sm lm cm B2 B2) (hB : B ≤ B2) : GI (setR r v') (setL c' 0 w' iv') g B2 T := by
  have hbb := hq.a.bb
  have cu : ∀ R, ¬ OWN 0 R → setL c' 0 w' iv' R = c R := fun R hR => by
    rw [setL_o (by unfold OWN at hR; omega) (by unfold OWN at hR; omega)]; exact hc R hR
  have c0 : setL c' 0 w' iv' 0 = c 0 := cu 0 (by unfold OWN; omega)
  have r0 : setR r v' 0 = r 0 := setR_o (by decide)
  refine ⟨?_, fun L hL => ?_, ?_, ?_, ?_, ?_, ?_, h.n⟩
  · rw [setR_1]; exact ⟨sm, lm, cm, QX.toY (by omega) hq⟩
  · by_cases e : L = 0
    · subst e; rw [setL_w]; exact hq.tir
    · rw [cu _ (by unfold OWN; omega)]; exact h.ti L hL
  · exact (h.p.mono hB hbb).frame (Nat.le_refl _) (fun _ _ _ q => q) (by rw [c0]) (by rw [c0]) (by rw [r0]) (setR_o (by decide)) (fun L R a b hR => cu R (by unfold OWN at hR ⊢; omega)) (fun t _ _ => cu _ (by unfold OWN; omega))
  · exact (h.s.mono hB hbb).frame (Nat.le_refl _) (fun _ _ _ => rfl) (setR_o (by decide)) (setR_o (by decide)) (fun L R a b hR => cu R (by unfold OWN at hR ⊢; omega)) (fun t _ _ => cu _ (by unfold OWN; omega))
  · exact h.b.frame (by rw [c0]) (by rw [r0]) (cu 3 (by unfold OWN; omega)) (setR_o (by decide)) (cu 5 (by unfold OWN; omega))
  · exact h.e.frame (by rw [c0]) (by rw [c0]) (by rw [r0]) (by rw [r0])
  · exact h.o.frame (by rw [c0]) (by rw [r0])
theorem up1 {r : RS} {i : Nat} {x : Int32} : up r 1 i x = setR r (upd (r 1) i x) := by
  have h := up_setR (r := r) (v := r 1) (i := i) (x := x)
  rw [← setR_self] at h; exact h
theorem upC {c : RS} {L i : Nat} {x : Int32} : up c (10 + L) i x = setL c L (upd (c (10 + L)) i x) (c (400 + L)) := by
  have h := up_setL_w (c := c) (L := L) (w := c (10 + L)) (iv := c (400 + L)) (i := i) (x := x)
  rw [← setL_self] at h; exact h
noncomputable def AT (F : Option (Int32 × RS)) (C : Option (Sum Int32 (Int32 × CG × RS))) (r : RS) (sh B T : Nat) : Prop := (∃ x r2 c2 g2, F = some (x, r2) ∧ C = some (.inr (x, g2, c2)) ∧ GI r2 c2 g2 B T ∧ r2 0 6 = nI 0) ∨ (∃ k, 1 ≤ k ∧ k ≤ 2 ∧ F = some (nI 0, th r k) ∧ C = some (.inl (nI (k + sh))))
theorem AT.same {F : Option (Int32 × RS)} {C : Option (Sum Int32 (Int32 × CG × RS))} {r c : RS} {g : CG} {sh B T : Nat} {x : Int32} (h : GI r c g B T) (h1 : F = some (x, th r 0)) (h2 : C = some (.inr (x, g, c))) : AT F C r sh B T := Or.inl ⟨x, th r 0, c, g, h1, h2, h.thr, th_6⟩
theorem KP.t {r c r2 c2 : RS} {g g2 : CG} (h : KP (th r 0) c g r2 c2 g2) : r2 0 6 = nI 0 := (h.2.2.1 6 (by decide)).trans th_6
theorem puts_v {r r2 : RS} {i : Nat} {x : Int32} (h : F8_keeps r = some r2) (hi : i < 1037) : F8_puts r (nI i) x = some (r2 1 i, setR r2 (upd (r2 1) i x)) := by
  unfold F8_puts
  rw [h, bS, rd_n hi (by omega), bS, ws_n hi (by omega), bS, up1]
theorem setR0 {r : RS} {v : Nat → Int32} {i : Nat} : setR r v 0 i = r 0 i := by rw [setR_o (by decide)]
theorem AT.act {F : Option (Int32 × RS)} {C : Option (Sum Int32 (Int32 × CG × RS))} {r r2 c2 c' : RS} {g2 : CG} {sh B B2 T sm lm cm : Nat} {x : Int32} {v' w' iv' : Nat → Int32} (hF : F = some (x, setR r2 v')) (hC : C = some (.inr (x, g2, setL c' 0 w' iv'))) (h : GI r2 c2 g2 B T) (hc : ∀ R, ¬ OWN 0 R → c' R = c2 R) (hq : QX c' g2 0 v' w' iv' sm lm cm B2 B2) (ht : r2 0 6 = nI 0) (hB : B ≤ B2) : AT F C r sh B2 T :=
  Or.inl ⟨x, setR r2 v', setL c' 0 w' iv', g2, hF, hC, h.line hc hq hB, setR0.trans ht⟩
theorem a_setTries {r c : RS} {g : CG} {B T : Nat} {a : Int32} (h : GI r c g B T) : AT (F8_setTries r a) (C7_setTries g c a) r 1 B T := by
  unfold F8_setTries C7_setTries
  simp only [lit32]
  rcases argR (a := a) (lo := 1) (hi := 9) (by omega) (by omega) (l := 1) (h := 9) rfl rfl with ⟨k, k1, k2, rfl, k3, k4⟩ | ⟨k3, k4, k5⟩
  · obtain ⟨sm, lm, cm, h0⟩ := (h.thr (k := 0)).l
    obtain ⟨r2, c2, g2, e1, e2, e3, e4, e5⟩ := keeps_ok h.thr h0
    have ev : r2 1 2 = c2 (10 + 0) 2 := QR.ra e4 (by omega) (by omega) (by omega)
    rw [k3, k4, isThrown_1, bS, bS, trR]
    simp only [if_true]
    rw [puts_v e1 (by omega), bS, bS, e2, bS, pt_n, bS, upC, ev]
    exact AT.act (r2 := r2) (c2 := c2) (c' := c2) (g2 := g2) rfl rfl e3 (fun _ _ => rfl) (QR.tot (by omega) e4) e5.t (Nat.le_refl _)
  · rw [k3, k4, isThrown_0, bS, bS, trL]
    refine Or.inr ⟨1, by omega, by omega, ?_, rfl⟩
    simp only [nz0, if_false, bS]
theorem a_setTray {r c : RS} {g : CG} {B T : Nat} {a : Int32} (h : GI r c g B T) : AT (F8_setTray r a) (C7_setTray g c a) r 1 B T := by
  unfold F8_setTray C7_setTray
  simp only [lit32]
  rcases argR (a := a) (lo := 1) (hi := 20) (by omega) (by omega) (l := 1) (h := 20) rfl rfl with ⟨k, k1, k2, rfl, k3, k4⟩ | ⟨k3, k4, k5⟩
  · obtain ⟨sm, lm, cm, h0⟩ := (h.thr (k := 0)).l
    obtain ⟨r2, c2, g2, e1, e2, e3, e4, e5⟩ := keeps_ok h.thr h0
    have ev : r2 1 1 = c2 (10 + 0) 1 := QR.ra e4 (by omega) (by omega) (by omega)
    rw [k3, k4, isThrown_1, bS, bS, trR]
    simp only [if_true]
    rw [puts_v e1 (by omega), bS, bS, e2, bS, pt_n, bS, upC, ev]
    exact AT.act (r2 := r2) (c2 := c2) (c' := c2) (g2 := g2) rfl rfl e3 (fun _ _ => rfl) (QR.tot (by omega) e4) e5.t (Nat.le_refl _)
  · rw [k3, k4, isThrown_0, bS, bS, trL]
    refine Or.inr ⟨1, by omega, by omega, ?_, rfl⟩
    simp only [nz0, if_false, bS]
theorem a_refill {r c : RS} {g : CG} {B T : Nat} {a : Int32} (h : GI r c g B T) : AT (F8_refill r a) (C7_refill g c a) r 1 B T := by
  unfold F8_refill C7_refill
  simp only [lit32, neg1]
  rcases argR (a := a) (lo := 1) (hi := 999) (by omega) (by omega) (l := 1) (h := 999) rfl rfl with ⟨k, k1, k2, rfl, k3, k4⟩ | ⟨k3, k4, k5⟩
  · obtain ⟨sm, lm, cm, h0⟩ := (h.thr (k := 0)).l
    have ev5 : th r 0 1 5 = c (10 + 0) 5 := QR.ra h0 (by omega) (by omega) (by omega)
    rw [k3, k4, isThrown_1, bS, bS, trR]
    simp only [if_true]
    rw [ev5]
    by_cases q : c (10 + 0) 5 + nI k ≤ nI 9999
    · obtain ⟨r2, c2, g2, e1, e2, e3, e4, e5⟩ := keeps_ok h.thr h0
      have w5 : r2 1 5 = c2 (10 + 0) 5 := QR.ra e4 (by omega) (by omega) (by omega)
      have w4 : r2 1 4 = c2 (10 + 0) 4 := QR.ra e4 (by omega) (by omega) (by omega)
      rw [if_pos q, if_pos q, e1, e2, bS, bS, ws_n (by omega) (by omega), bS, pt_n, bS, ws_n (by omega) (by omega), bS, pt_n, bS]
      refine Or.inl ⟨c2 (10 + 0) 5 + nI k, setR r2 (upd (upd (r2 1) 5 (c2 (10 + 0) 5 + nI k)) 4 (c2 (10 + 0) 4 + nI k)), setL c2 0 (upd (upd (c2 (10 + 0)) 5 (c2 (10 + 0) 5 + nI k)) 4 (c2 (10 + 0) 4 + nI k)) (c2 (400 + 0)), g2, ?_, ?_, e3.line (fun _ _ => rfl) (QR.tot (by omega) (QR.tot (by omega) e4)) (Nat.le_refl _), setR0.trans e5.t⟩
      · simp only [up1 (r := r2), up_setR, setR_1]
        rw [upd_n (i := 5) (j := 4) (by decide), upd_n (i := 4) (j := 5) (by decide), upd_e, w5, w4]
      · simp only [upC (c := c2) (L := 0), up_setL_w, setL_w]
        rw [upd_n (i := 5) (j := 4) (by decide), upd_n (i := 4) (j := 5) (by decide), upd_e]
    · rw [if_neg q, if_neg q]
      exact AT.same h rfl rfl
  · rw [k3, k4, isThrown_0, bS, bS, trL]
    refine Or.inr ⟨1, by omega, by omega, ?_, rfl⟩
    simp only [nz0, if_false]
theorem QL.rk {vl wl we wc bp : Nat → Nat → Int32} {lm cm l p : Nat} (hp : p ≤ 9) (h : QL vl wl we wc bp lm cm) : QL (up2 vl l 0 (nI p)) (up2 wl l 0 (nI p)) we wc bp lm cm := by
  obtain ⟨b1, b2, b3, b4, b5, b6, b7, b8, b9, b10⟩ := h
  refine ⟨fun l' k hl hk => ?_, fun l' hl => ?_, b3, b4, b5, b6, fun l' hl => ?_, b8, b9, b10⟩
  · rw [up2_at, up2_at]; split
    · rfl
    · exact b1 l' k hl hk
  · rw [up2_at]; split
    · exact ⟨p, hp, rfl⟩
    · exact b2 l' hl
  · rw [up2_ne (by decide)]; exact b7 l' hl
theorem QR.rank {v w iv : Nat → Int32} {bp dl df tx : Nat → Nat → Int32} {nt sm lm cm B U l p : Nat} (hp : p ≤ 9) (hl : l < 6) (h : QR v w iv bp dl df tx nt sm lm cm B U) : QR (upd v (113 + 4 * l + 0) (nI p)) (upd w (113 + 4 * l + 0) (nI p)) iv bp dl df tx nt sm lm cm B U := by
  refine ⟨?_, ?_, ?_, ?_, ?_, ?_, ?_⟩
  · simp (disch := omega) only [sA_A, sA_S, sA_L, sA_C, sA_F, sA_P, sA_E, sA_M, sS_A, sS_S, sS_L, sS_C, sS_F, sS_P, sS_E, sS_M, sL_A, sL_S, sL_L, sL_C, sL_F, sL_P, sL_E, sL_M, sC_A, sC_S, sC_L, sC_C, sC_F, sC_P, sC_E, sC_M, sF_A, sF_S, sF_L, sF_C, sF_F, sF_P, sF_E, sF_M, sP_A, sP_S, sP_L, sP_C, sP_F, sP_P, sP_E, sP_M, sE_A, sE_S, sE_L, sE_C, sE_F, sE_P, sE_E, sE_M]; exact h.a
  · simp (disch := omega) only [sA_A, sA_S, sA_L, sA_C, sA_F, sA_P, sA_E, sA_M, sS_A, sS_S, sS_L, sS_C, sS_F, sS_P, sS_E, sS_M, sL_A, sL_S, sL_L, sL_C, sL_F, sL_P, sL_E, sL_M, sC_A, sC_S, sC_L, sC_C, sC_F, sC_P, sC_E, sC_M, sF_A, sF_S, sF_L, sF_C, sF_F, sF_P, sF_E, sF_M, sP_A, sP_S, sP_L, sP_C, sP_F, sP_P, sP_E, sP_M, sE_A, sE_S, sE_L, sE_C, sE_F, sE_P, sE_E, sE_M]; exact h.s
  · simp (disch := omega) only [sA_A, sA_S, sA_L, sA_C, sA_F, sA_P, sA_E, sA_M, sS_A, sS_S, sS_L, sS_C, sS_F, sS_P, sS_E, sS_M, sL_A, sL_S, sL_L, sL_C, sL_F, sL_P, sL_E, sL_M, sC_A, sC_S, sC_L, sC_C, sC_F, sC_P, sC_E, sC_M, sF_A, sF_S, sF_L, sF_C, sF_F, sF_P, sF_E, sF_M, sP_A, sP_S, sP_L, sP_C, sP_F, sP_P, sP_E, sP_M, sE_A, sE_S, sE_L, sE_C, sE_F, sE_P, sE_E, sE_M]; exact h.c
  · simp (disch := omega) only [sA_A, sA_S, sA_L, sA_C, sA_F, sA_P, sA_E, sA_M, sS_A, sS_S, sS_L, sS_C, sS_F, sS_P, sS_E, sS_M, sL_A, sL_S, sL_L, sL_C, sL_F, sL_P, sL_E, sL_M, sC_A, sC_S, sC_L, sC_C, sC_F, sC_P, sC_E, sC_M, sF_A, sF_S, sF_L, sF_C, sF_F, sF_P, sF_E, sF_M, sP_A, sP_S, sP_L, sP_C, sP_F, sP_P, sP_E, sP_M, sE_A, sE_S, sE_L, sE_C, sE_F, sE_P, sE_E, sE_M]; exact h.n
  · simp (disch := omega) only [sA_A, sA_S, sA_L, sA_C, sA_F, sA_P, sA_E, sA_M, sS_A, sS_S, sS_L, sS_C, sS_F, sS_P, sS_E, sS_M, sL_A, sL_S, sL_L, sL_C, sL_F, sL_P, sL_E, sL_M, sC_A, sC_S, sC_L, sC_C, sC_F, sC_P, sC_E, sC_M, sF_A, sF_S, sF_L, sF_C, sF_F, sF_P, sF_E, sF_M, sP_A, sP_S, sP_L, sP_C, sP_F, sP_P, sP_E, sP_M, sE_A, sE_S, sE_L, sE_C, sE_F, sE_P, sE_E, sE_M]; exact h.l.rk hp
  · simp (disch := omega) only [sA_A, sA_S, sA_L, sA_C, sA_F, sA_P, sA_E, sA_M, sS_A, sS_S, sS_L, sS_C, sS_F, sS_P, sS_E, sS_M, sL_A, sL_S, sL_L, sL_C, sL_F, sL_P, sL_E, sL_M, sC_A, sC_S, sC_L, sC_C, sC_F, sC_P, sC_E, sC_M, sF_A, sF_S, sF_L, sF_C, sF_F, sF_P, sF_E, sF_M, sP_A, sP_S, sP_L, sP_C, sP_F, sP_P, sP_E, sP_M, sE_A, sE_S, sE_L, sE_C, sE_F, sE_P, sE_E, sE_M]; exact h.d
  · simp (disch := omega) only [sA_A, sA_S, sA_L, sA_C, sA_F, sA_P, sA_E, sA_M, sS_A, sS_S, sS_L, sS_C, sS_F, sS_P, sS_E, sS_M, sL_A, sL_S, sL_L, sL_C, sL_F, sL_P, sL_E, sL_M, sC_A, sC_S, sC_L, sC_C, sC_F, sC_P, sC_E, sC_M, sF_A, sF_S, sF_L, sF_C, sF_F, sF_P, sF_E, sF_M, sP_A, sP_S, sP_L, sP_C, sP_F, sP_P, sP_E, sP_M, sE_A, sE_S, sE_L, sE_C, sE_F, sE_P, sE_E, sE_M]; exact h.wh
theorem a_setRank {r c : RS} {g : CG} {B T : Nat} {a b : Int32} (h : GI r c g B T) : AT (F8_setRank r a b) (C7_setRank g c a b) r 0 B T := by
  obtain ⟨sm, lm, cm, h0⟩ := h.l
  have hlm := h0.a.lm6
  unfold F8_setRank C7_setRank
  simp only [lit32]
  rcases argLo (r := r) (c := c) (g := g) (a := a) (n := lm) (by omega) h0.v8 h0.n8 with ⟨l, s1, rfl, s2, s3⟩ | ⟨s2, s3⟩
  · have hl6 : l < 6 := by omega
    rw [s2, s3, bS, bS, isThrown_1, bS, trR]
    simp only [if_true]
    rcases argR (a := b) (lo := 0) (hi := 9) (by omega) (by omega) (l := 0) (h := 9) rfl rfl with ⟨k, k1, k2, rfl, k3, k4⟩ | ⟨k3, k4, k5⟩
    · rw [k3, k4, isThrown_1, bS, bS, trR, th_th]
      simp only [if_true]
      have h1 : QY c g 0 (th r 0 1) sm lm cm B B := by rw [th_o (by decide)]; exact h0
      obtain ⟨r2, c2, g2, e1, e2, e3, e4, e5⟩ := keeps_ok h.thr h1
      have ev : r2 1 (113 + 4 * l + 0) = c2 (10 + 0) (113 + 4 * l + 0) := by
        rw [sL_r (v := r2 1) hl6 (by omega), sL_r (v := c2 (10 + 0)) hl6 (by omega)]; exact e4.l.eql l 0 s1 (by omega)
      simp only [nI_add, nI_mul]
      rw [puts_v e1 (by omega), bS, e2, bS, ix_n hl6 (by omega), bS, bS, pt_n, bS, upC, ev]
      exact AT.act (r2 := r2) (c2 := c2) (c' := c2) (g2 := g2) rfl rfl e3 (fun _ _ => rfl) (QR.rank k2 hl6 e4) e5.t (Nat.le_refl _)
    · rw [k3, k4, isThrown_0, bS, bS, trL, th_th]
      refine Or.inr ⟨2, by omega, by omega, ?_, rfl⟩
      simp only [nz0, if_false]
  · rw [s2, s3, bS, bS, isThrown_0, bS, trL]
    refine Or.inr ⟨1, by omega, by omega, ?_, rfl⟩
    simp only [nz0, if_false]
theorem QS.uPace {vs ws wc tx : Nat → Nat → Int32} {nt sm cm U s p : Nat} (hp : 1 ≤ p) (hp2 : p ≤ 99) (h : QS vs ws wc tx nt sm cm U) : QS (up2 vs s 1 (nI p)) (up2 ws s 1 (nI p)) wc tx nt sm cm U := by
  obtain ⟨b1, b2, b3, b4, b5, b6, b7, b8, b9, b10⟩ := h
  refine ⟨fun s' k' h1 h2 h3 => ?_, fun s' h1 => ?_, fun s' h1 => ?_, fun s' h1 => ?_, fun s' h1 => ?_, fun s' h1 => ?_, fun s' h1 => ?_, fun s' h1 => ?_, fun s' h1 => ?_, fun s' h1 => ?_⟩
  · rw [up2_at, up2_at]; split
    · rfl
    · exact b1 s' k' h1 h2 h3
  · simpa [up2_at] using b2 s' h1
  · simpa [up2_at] using b3 s' h1
  · rw [up2_at]; split
    · exact ⟨p, hp, hp2, rfl⟩
    · exact b4 s' h1
  · simpa [up2_at] using b5 s' h1
  · simpa [up2_at] using b6 s' h1
  · simpa [up2_at] using b7 s' h1
  · simpa [up2_at] using b8 s' h1
  · simpa [up2_at] using b9 s' h1
  · simpa [up2_at] using b10 s' h1
theorem QS.uStop {vs ws wc tx : Nat → Nat → Int32} {nt sm cm U s : Nat} {x : Int32} (hx : x = nI 0 ∨ x = nI 1) (h : QS vs ws wc tx nt sm cm U) : QS (up2 vs s 7 x) (up2 ws s 7 x) wc tx nt sm cm U := by
  obtain ⟨b1, b2, b3, b4, b5, b6, b7, b8, b9, b10⟩ := h
  refine ⟨fun s' k' h1 h2 h3 => ?_, fun s' h1 => ?_, fun s' h1 => ?_, fun s' h1 => ?_, fun s' h1 => ?_, fun s' h1 => ?_, fun s' h1 => ?_, fun s' h1 => ?_, fun s' h1 => ?_, fun s' h1 => ?_⟩
  · rw [up2_at, up2_at]; split
    · rfl
    · exact b1 s' k' h1 h2 h3
  · simpa [up2_at] using b2 s' h1
  · simpa [up2_at] using b3 s' h1
  · simpa [up2_at] using b4 s' h1
  · simpa [up2_at] using b5 s' h1
  · simpa [up2_at] using b6 s' h1
  · simpa [up2_at] using b7 s' h1
  · rw [up2_at]; split
    · exact hx
    · exact b8 s' h1
  · simpa [up2_at] using b9 s' h1
  · simpa [up2_at] using b10 s' h1
theorem a_setPace {r c : RS} {g : CG} {B T : Nat} {a b : Int32} (h : GI r c g B T) : AT (F8_setPace r a b) (C7_setPace g c a b) r 0 B T := by
  obtain ⟨sm, lm, cm, h0⟩ := h.l
  have hsm := h0.a.sm6
  unfold F8_setPace C7_setPace
  simp only [lit32]
  rcases argSt (r := r) (c := c) (g := g) (a := a) (n := sm) (by omega) h0.v7 h0.n7 with ⟨s, s1, rfl, s2, s3⟩ | ⟨s2, s3⟩
  · have hs6 : s < 6 := by omega
    rw [s2, s3, bS, bS, isThrown_1, bS, trR, ix_n hs6 (by omega), bS]
    simp only [if_true]
    have ek : r 1 (17 + 16 * s + 0) = c (10 + 0) (17 + 16 * s + 0) := QR.rs h0 s1 (by omega) (by omega)
    obtain ⟨m, m0, mF, mC⟩ : ∃ m, 1 ≤ m ∧ m ≤ 99 ∧ F8_mostPace (c (10 + 0) (17 + 16 * s + 0)) = some (nI m) ∧ C7_mostPace (c (10 + 0) (17 + 16 * s + 0)) = some (nI m) := by
      unfold F8_mostPace C7_mostPace
      simp only [lit32]
      by_cases q : c (10 + 0) (17 + 16 * s + 0) = nI 3
      · rw [if_pos q, bS]; exact ⟨9, by omega, by omega, rfl, rfl⟩
      · rw [if_neg q, bS]; exact ⟨99, by omega, by omega, rfl, rfl⟩
    have hF0 : F8_of (th r 0) (nI s) (nI 0) = some (c (10 + 0) (17 + 16 * s + 0)) := by rw [thR, F8_of_v hs6 (by omega), ek]
    rw [hF0, bS, mC.1, bS, mC.2, bS]
    rcases argR (a := b) (lo := 1) (hi := m) (by omega) m0 (l := 1) (h := (nI m).toInt64) rfl (by rw [Int32.toInt_toInt64, nI_toInt (by omega)]) with ⟨k, k1, k2, rfl, k3, k4⟩ | ⟨k3, k4, k5⟩
    · rw [k3, k4, isThrown_1, bS, bS, trR, th_th]
      simp only [if_true]
      have h1 : QY c g 0 (th r 0 1) sm lm cm B B := by rw [th_o (by decide)]; exact h0
      obtain ⟨r2, c2, g2, e1, e2, e3, e4, e5⟩ := keeps_ok h.thr h1
      have ev : r2 1 (17 + 16 * s + 1) = c2 (10 + 0) (17 + 16 * s + 1) := QR.rs e4 s1 (by omega) (by omega)
      simp only [nI_add, nI_mul]
      rw [puts_v e1 (by omega), bS, e2, bS, pt_n, bS, upC, ev]
      exact AT.act (r2 := r2) (c2 := c2) (c' := c2) (g2 := g2) rfl rfl e3 (fun _ _ => rfl) (QR.upS e4 hs6 (by omega) (QS.uPace k1 (by omega) e4.s)) e5.t (Nat.le_refl _)
    · rw [k3, k4, isThrown_0, bS, bS, trL, th_th]
      refine Or.inr ⟨2, by omega, by omega, ?_, rfl⟩
      simp only [nz0, if_false]
  · rw [s2, s3, bS, bS, isThrown_0, bS, trL]
    refine Or.inr ⟨1, by omega, by omega, ?_, rfl⟩
    simp only [nz0, if_false]
theorem stop_L {r c : RS} {g : CG} {sm lm cm B U : Nat} {v : Nat → Int32} {x1 x2 : Int32} {t4 : CG × RS} (h : QY c g 0 v sm lm cm B U) : ∀ (d y fu fu2 s : Nat), y + d = sm → d < fu → d < fu2 → s ≤ y → ∃ z, F8_stop_L40 x1 x2 (setR r v) fu (nI y) (nI s) = some (nI sm, z) ∧ C7_stop_L27 x1 x2 t4 c fu2 (nI y) (nI s) = some (nI sm, z) := by
  have hsm := h.a.sm6
  have h7 : v 7 = nI sm := h.v7
  intro d
  induction d with
  | zero =>
    intro y fu fu2 s hy hfu hfu2 hs
    obtain ⟨fu, rfl⟩ : ∃ m, fu = m + 1 := ⟨fu - 1, by omega⟩
    obtain ⟨fu2, rfl⟩ : ∃ m, fu2 = m + 1 := ⟨fu2 - 1, by omega⟩
    obtain rfl : y = sm := by omega
    rw [F8_stop_L40, C7_stop_L27, setR_1, h7, h.n7, if_pos (nI_le (by omega) (by omega)), if_pos (nI_le (by omega) (by omega))]
    exact ⟨_, rfl, rfl⟩
  | succ d ih =>
    intro y fu fu2 s hy hfu hfu2 hs
    obtain ⟨fu, rfl⟩ : ∃ m, fu = m + 1 := ⟨fu - 1, by omega⟩
    obtain ⟨fu2, rfl⟩ : ∃ m, fu2 = m + 1 := ⟨fu2 - 1, by omega⟩
    have e7 : v (17 + 16 * y + 7) = c (10 + 0) (17 + 16 * y + 7) := QR.rs h (by omega) (by omega) (by omega)
    have e7c : c (10 + 0) (17 + 16 * y + 7) = sS (c (10 + 0)) y 7 := sS_r (v := c (10 + 0)) (by omega) (by omega)
    rw [F8_stop_L40, C7_stop_L27]
    simp only [lit32]
    rw [setR_1, h7, h.n7, if_neg (nI_ge (by omega) (by omega)), if_neg (nI_ge (by omega) (by omega)), F8_of_v (by omega) (by omega), bS, ix_n (by omega) (by omega), bS, e7, nI_add]
    rcases h.s.stop y (by omega) with q | q
    · rw [e7c, q, if_pos rfl, bS, nI_z]; exact ih (y + 1) fu fu2 s (by omega) (by omega) (by omega) (by omega)
    · rw [e7c, q, if_neg nz0, bS, nI_add]; exact ih (y + 1) fu fu2 (s + 1) (by omega) (by omega) (by omega) (by omega)
theorem a_stop {r c : RS} {g : CG} {B T : Nat} {a b : Int32} (hb : b = nI 0 ∨ b = nI 1) (h : GI r c g B T) : AT (F8_stop r a b) (C7_stop g c a b) r 0 B T := by
  obtain ⟨sm, lm, cm, h0⟩ := h.l
  have hsm := h0.a.sm6
  unfold F8_stop C7_stop
  simp only [lit32]
  rcases argSt (r := r) (c := c) (g := g) (a := a) (n := sm) (by omega) h0.v7 h0.n7 with ⟨s, s1, rfl, s2, s3⟩ | ⟨s2, s3⟩
  · have hs6 : s < 6 := by omega
    rw [s2, s3, bS, bS, isThrown_1, bS, trR]
    simp only [if_true]
    have h1 : QY c g 0 (th r 0 1) sm lm cm B B := by rw [th_o (by decide)]; exact h0
    obtain ⟨r2, c2, g2, e1, e2, e3, e4, e5⟩ := keeps_ok h.thr h1
    have hb2 : (if b = nI 0 then some (nI 0) else some (nI 1) : Option Int32) = some b := by
      rcases hb with rfl | rfl
      · exact if_pos rfl
      · exact if_neg nz0
    have q4 := QR.upS e4 hs6 (by omega) (QS.uStop (s := s) hb e4.s)
    have q5 := QX.toY (by omega) q4
    obtain ⟨z, z1, z2⟩ := stop_L (r := r2) (x1 := nI s) (x2 := b) (t4 := (g2, c2)) q5 sm 0 FUEL FUEL 0 (by omega) (by show sm < 10000; omega) (by show sm < 10000; omega) (by omega)
    rw [e1, bS, hb2, bS, setR_self (r := r2), F8_sets_s hs6 (by omega), bS, z1, bS, e2, bS, ix_n hs6 (by omega), bS, nz_of hb, bS, pt_n, bS]
    simp only
    rw [upC, z2, bS]
    exact AT.act (r2 := r2) (c2 := c2) (c' := c2) (g2 := g2) rfl rfl e3 (fun _ _ => rfl) q4 e5.t (Nat.le_refl _)
  · rw [s2, s3, bS, bS, isThrown_0, bS, trL]
    refine Or.inr ⟨1, by omega, by omega, ?_, rfl⟩
    simp only [nz0, if_false]
