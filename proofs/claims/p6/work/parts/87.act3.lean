theorem QL.swap {vl wl we wc bp bp2 : Nat → Nat → Int32} {lm cm l c d p q : Nat} (h : QL vl wl we wc bp lm cm) (hcm : cm ≤ 30) (hl : l < lm) (hlm : lm ≤ 6) (hc : c < cm) (hd : d < cm) (hne : c ≠ d) (lc : wc c 0 = nI l) (ld : wc d 0 = nI l) (nc : ¬ fin wc c) (nd : ¬ fin wc d) (pc : wc c 1 = nI p) (pd : wc d 1 = nI q) (bc : bp l p = nI c) (bd : bp l q = nI d) (hp : p < cnt cm (loC wc l)) (hq : q < cnt cm (loC wc l)) (hb : ∀ l', l' < lm → bp2 l' = if l' = l then upd (upd (bp l) p (nI d)) q (nI c) else bp l') : QL vl wl we (up2 (up2 wc c 1 (nI q)) d 1 (nI p)) bp2 lm cm := by
  have hle := cnt_le (n := cm) (p := loC wc l)
  have hpq : p ≠ q := fun e => hne ((nI_eq (by omega) (by omega)).mp (by rw [← bc, ← bd, e]))
  generalize hW : up2 (up2 wc c 1 (nI q)) d 1 (nI p) = W
  have W0 : ∀ k j, j ≠ 1 → W k j = wc k j := fun k j hj => by rw [← hW, up2_ne hj, up2_ne hj]
  have Wo : ∀ k, k ≠ c → k ≠ d → W k 1 = wc k 1 := fun k a b => by rw [← hW, up2_ne1 b, up2_ne1 a]
  have Wc : W c 1 = nI q := by rw [← hW, up2_ne1 hne, up2_eq]
  have Wd : W d 1 = nI p := by rw [← hW, up2_eq]
  have hls : ∀ l a, lsC W l a = lsC wc l a := fun l a => funext fun i => by unfold lsC; rw [W0 i 0 (by decide), W0 i 3 (by decide)]
  have hlo : ∀ a, loC W a = loC wc a := fun a => funext fun i => by unfold loC; rw [W0 i 0 (by decide)]
  have hsu : ∀ l k, k ≠ 1 → suC W l k = suC wc l k := fun l k hk => funext fun i => by unfold suC; rw [W0 i 0 (by decide), W0 i k hk]
  have hfn : ∀ i, fin W i ↔ fin wc i := fun i => by unfold fin; rw [W0 i 3 (by decide)]
  have bq : bp2 l q = nI c := by rw [hb l hl, if_pos rfl, upd_e]
  have bp' : bp2 l p = nI d := by rw [hb l hl, if_pos rfl, upd_n hpq, upd_e]
  have bo : ∀ x, x ≠ p → x ≠ q → bp2 l x = bp l x := fun x a b => by rw [hb l hl, if_pos rfl, upd_n b, upd_n a]
  have bl : ∀ l', l' < lm → l' ≠ l → bp2 l' = bp l' := fun l' a b => by rw [hb l' a, if_neg b]
  obtain ⟨b1, b2, b3, b4, b5, b6, b7, b8, b9, b10⟩ := h
  refine ⟨b1, b2, fun l' hl' => ?_, fun l' hl' => ?_, fun l' hl' => ?_, fun l' hl' => ?_, fun l' hl' => ?_, fun l' hl' x hx => ?_, fun l' k hl' hk e => ?_, fun l' hl' => ?_⟩
  · rw [hls]; exact b3 l' hl'
  · rw [hls]; exact b4 l' hl'
  · rw [hsu l' 5 (by decide)]; exact b5 l' hl'
  · rw [hsu l' 6 (by decide)]; exact b6 l' hl'
  · rw [hlo]; exact b7 l' hl'
  · rw [hlo] at hx
    by_cases el : l' = l
    · subst el
      by_cases e1 : x = q
      · rw [e1]; exact ⟨c, hc, bq, by rw [W0 c 0 (by decide)]; exact lc, Wc⟩
      · by_cases e2 : x = p
        · rw [e2]; exact ⟨d, hd, bp', by rw [W0 d 0 (by decide)]; exact ld, Wd⟩
        · obtain ⟨k, k1, k2, k3, k4⟩ := b8 l' hl x hx
          have n1 : k ≠ c := fun e => e2 ((nI_eq (by omega) (by omega)).mp (by rw [← k4, e, pc]))
          have n2 : k ≠ d := fun e => e1 ((nI_eq (by omega) (by omega)).mp (by rw [← k4, e, pd]))
          exact ⟨k, k1, by rw [bo x e2 e1]; exact k2, by rw [W0 k 0 (by decide)]; exact k3, by rw [Wo k n1 n2]; exact k4⟩
    · obtain ⟨k, k1, k2, k3, k4⟩ := b8 l' hl' x hx
      have n1 : k ≠ c := fun e => el ((nI_eq (by omega) (by omega)).mp (by rw [← k3, e, lc]))
      have n2 : k ≠ d := fun e => el ((nI_eq (by omega) (by omega)).mp (by rw [← k3, e, ld]))
      exact ⟨k, k1, by rw [bl l' hl' el]; exact k2, by rw [W0 k 0 (by decide)]; exact k3, by rw [Wo k n1 n2]; exact k4⟩
  · rw [W0 k 0 (by decide)] at e
    rw [hlo]
    by_cases e1 : k = c
    · subst e1
      obtain rfl : l' = l := (nI_eq (by omega) (by omega)).mp (e.symm.trans lc)
      exact ⟨q, hq, Wc, bq⟩
    · by_cases e2 : k = d
      · subst e2
        obtain rfl : l' = l := (nI_eq (by omega) (by omega)).mp (e.symm.trans ld)
        exact ⟨p, hp, Wd, bp'⟩
      · obtain ⟨x, x1, x2, x3⟩ := b9 l' k hl' hk e
        refine ⟨x, x1, by rw [Wo k e1 e2]; exact x2, ?_⟩
        by_cases el : l' = l
        · subst el
          rw [bo x (fun q => e1 ((nI_eq (by omega) (by omega)).mp (by rw [← x3, q, bc]))) (fun q => e2 ((nI_eq (by omega) (by omega)).mp (by rw [← x3, q, bd])))]
          exact x3
        · rw [bl l' hl' el]; exact x3
  · obtain ⟨z, z1, z2, z3, z4⟩ := b10 l' hl'
    refine ⟨z, by rw [hlo]; exact z1, z2, fun x k h1 h2 h3 => (hfn k).mpr ?_, fun k h1 h2 h3 f => ?_⟩
    · by_cases el : l' = l
      · subst el
        have a1 : x ≠ p := fun e => nc (z3 p c (by omega) hc bc)
        have a2 : x ≠ q := fun e => nd (z3 q d (by omega) hd bd)
        rw [bo x a1 a2] at h3
        exact z3 x k h1 h2 h3
      · rw [bl l' hl' el] at h3
        exact z3 x k h1 h2 h3
    · rw [hlo] at h1
      have f' := (hfn k).mp f
      by_cases el : l' = l
      · subst el
        by_cases a1 : z = p
        · subst a1
          rw [bp'] at h3
          obtain rfl : d = k := (nI_eq (by omega) (by omega)).mp h3
          exact nd f'
        · by_cases a2 : z = q
          · subst a2
            rw [bq] at h3
            obtain rfl : c = k := (nI_eq (by omega) (by omega)).mp h3
            exact nc f'
          · rw [bo z a1 a2] at h3
            exact z4 k h1 h2 h3 f'
      · rw [bl l' hl' el] at h3
        exact z4 k h1 h2 h3 f'
theorem putAt_w {c : RS} {g : CG} {L n a l : Nat} {w iv : Nat → Int32} (hL : L < 12) (hn : n < 30) (ha : a < 30) (hl : l < 6) (e : w (137 + 25 * n + 0) = nI l) : C3_putAt g (setL c L w iv) L (nI n) (nI a) = some (setL (up c (100 + 6 * L + l) a (nI n)) L (upd w (137 + 25 * n + 1) (nI a)) iv) := by
  unfold C3_putAt
  rw [ix_n hn (by omega), bS, pt_n, bS, up_setL_w, bS, setL_w, upd_n (by omega), e, ix_n hl (by omega), bS, ws_n ha (by omega), bS, up_setL_o (by omega) (by omega)]
theorem QR.swap {v w iv : Nat → Int32} {bp dl df tx bp2 : Nat → Nat → Int32} {nt sm lm cm B U l c d p q : Nat} (h : QR v w iv bp dl df tx nt sm lm cm B U) (hl : l < lm) (hc : c < cm) (hd : d < cm) (hne : c ≠ d) (lc : sC w c 0 = nI l) (ld : sC w d 0 = nI l) (ec : sC w c 3 = nI 0) (ed : sC w d 3 = nI 0) (pc : sC w c 1 = nI p) (pd : sC w d 1 = nI q) (bc : bp l p = nI c) (bd : bp l q = nI d) (hp : p < cnt cm (loC (sC w) l)) (hq : q < cnt cm (loC (sC w) l)) (hb : ∀ l', l' < lm → bp2 l' = if l' = l then upd (upd (bp l) p (nI d)) q (nI c) else bp l') : QR (upd (upd v (137 + 25 * c + 1) (nI q)) (137 + 25 * d + 1) (nI p)) (upd (upd w (137 + 25 * d + 1) (nI p)) (137 + 25 * c + 1) (nI q)) iv bp2 dl df tx nt sm lm cm B U := by
  have hcm := h.a.cm30; have hlm := h.a.lm6
  have hC : sC (upd (upd w (137 + 25 * d + 1) (nI p)) (137 + 25 * c + 1) (nI q)) = up2 (up2 (sC w) c 1 (nI q)) d 1 (nI p) := by
    simp (disch := omega) only [sA_A, sA_S, sA_L, sA_C, sA_F, sA_P, sA_E, sA_M, sS_A, sS_S, sS_L, sS_C, sS_F, sS_P, sS_E, sS_M, sL_A, sL_S, sL_L, sL_C, sL_F, sL_P, sL_E, sL_M, sC_A, sC_S, sC_L, sC_C, sC_F, sC_P, sC_E, sC_M, sF_A, sF_S, sF_L, sF_C, sF_F, sF_P, sF_E, sF_M, sP_A, sP_S, sP_L, sP_C, sP_F, sP_P, sP_E, sP_M, sE_A, sE_S, sE_L, sE_C, sE_F, sE_P, sE_E, sE_M]
    (funext a b; simp only [up2_at]; repeat' split)
    all_goals (first | rfl | (exfalso; omega))
  refine ⟨?_, ?_, ?_, ?_, ?_, ?_, ?_⟩
  · simp (disch := omega) only [sA_A, sA_S, sA_L, sA_C, sA_F, sA_P, sA_E, sA_M, sS_A, sS_S, sS_L, sS_C, sS_F, sS_P, sS_E, sS_M, sL_A, sL_S, sL_L, sL_C, sL_F, sL_P, sL_E, sL_M, sC_A, sC_S, sC_L, sC_C, sC_F, sC_P, sC_E, sC_M, sF_A, sF_S, sF_L, sF_C, sF_F, sF_P, sF_E, sF_M, sP_A, sP_S, sP_L, sP_C, sP_F, sP_P, sP_E, sP_M, sE_A, sE_S, sE_L, sE_C, sE_F, sE_P, sE_E, sE_M]; exact h.a
  · rw [hC]; simp (disch := omega) only [sA_A, sA_S, sA_L, sA_C, sA_F, sA_P, sA_E, sA_M, sS_A, sS_S, sS_L, sS_C, sS_F, sS_P, sS_E, sS_M, sL_A, sL_S, sL_L, sL_C, sL_F, sL_P, sL_E, sL_M, sC_A, sC_S, sC_L, sC_C, sC_F, sC_P, sC_E, sC_M, sF_A, sF_S, sF_L, sF_C, sF_F, sF_P, sF_E, sF_M, sP_A, sP_S, sP_L, sP_C, sP_F, sP_P, sP_E, sP_M, sE_A, sE_S, sE_L, sE_C, sE_F, sE_P, sE_E, sE_M]; exact (h.s.cardk (by decide) (by decide)).cardk (by decide) (by decide)
  · rw [hC]; simp (disch := omega) only [sA_A, sA_S, sA_L, sA_C, sA_F, sA_P, sA_E, sA_M, sS_A, sS_S, sS_L, sS_C, sS_F, sS_P, sS_E, sS_M, sL_A, sL_S, sL_L, sL_C, sL_F, sL_P, sL_E, sL_M, sC_A, sC_S, sC_L, sC_C, sC_F, sC_P, sC_E, sC_M, sF_A, sF_S, sF_L, sF_C, sF_F, sF_P, sF_E, sF_M, sP_A, sP_S, sP_L, sP_C, sP_F, sP_P, sP_E, sP_M, sE_A, sE_S, sE_L, sE_C, sE_F, sE_P, sE_E, sE_M]; exact (h.c.set (by omega)).set (by omega)
  · rw [hC]; simp (disch := omega) only [sA_A, sA_S, sA_L, sA_C, sA_F, sA_P, sA_E, sA_M, sS_A, sS_S, sS_L, sS_C, sS_F, sS_P, sS_E, sS_M, sL_A, sL_S, sL_L, sL_C, sL_F, sL_P, sL_E, sL_M, sC_A, sC_S, sC_L, sC_C, sC_F, sC_P, sC_E, sC_M, sF_A, sF_S, sF_L, sF_C, sF_F, sF_P, sF_E, sF_M, sP_A, sP_S, sP_L, sP_C, sP_F, sP_P, sP_E, sP_M, sE_A, sE_S, sE_L, sE_C, sE_F, sE_P, sE_E, sE_M]; exact (h.n.cardk (by decide)).cardk (by decide)
  · rw [hC]; simp (disch := omega) only [sA_A, sA_S, sA_L, sA_C, sA_F, sA_P, sA_E, sA_M, sS_A, sS_S, sS_L, sS_C, sS_F, sS_P, sS_E, sS_M, sL_A, sL_S, sL_L, sL_C, sL_F, sL_P, sL_E, sL_M, sC_A, sC_S, sC_L, sC_C, sC_F, sC_P, sC_E, sC_M, sF_A, sF_S, sF_L, sF_C, sF_F, sF_P, sF_E, sF_M, sP_A, sP_S, sP_L, sP_C, sP_F, sP_P, sP_E, sP_M, sE_A, sE_S, sE_L, sE_C, sE_F, sE_P, sE_E, sE_M]; exact h.l.swap hcm hl hlm hc hd hne lc ld (not_fin (a := 0) (by omega) ec) (not_fin (a := 0) (by omega) ed) pc pd bc bd hp hq hb
  · simp (disch := omega) only [sA_A, sA_S, sA_L, sA_C, sA_F, sA_P, sA_E, sA_M, sS_A, sS_S, sS_L, sS_C, sS_F, sS_P, sS_E, sS_M, sL_A, sL_S, sL_L, sL_C, sL_F, sL_P, sL_E, sL_M, sC_A, sC_S, sC_L, sC_C, sC_F, sC_P, sC_E, sC_M, sF_A, sF_S, sF_L, sF_C, sF_F, sF_P, sF_E, sF_M, sP_A, sP_S, sP_L, sP_C, sP_F, sP_P, sP_E, sP_M, sE_A, sE_S, sE_L, sE_C, sE_F, sE_P, sE_E, sE_M]; exact h.d
  · rw [hC]; exact (h.wh.up (by decide) (by decide)).up (by decide) (by decide)
theorem a_swap {r c : RS} {g : CG} {B T : Nat} {a b : Int32} (h : GI r c g B T) : AT (F8_swap r a b) (C7_swap g c a b) r 0 B T := by
  obtain ⟨sm, lm, cm, h0⟩ := h.l
  have hcm := h0.a.cm30; have hlm := h0.a.lm6
  unfold F8_swap C7_swap
  simp only [lit32, neg1]
  rcases argCd (r := r) (c := c) (g := g) (a := a) (n := cm) (by omega) h0.v9 h0.n9 with ⟨x, s1, rfl, s2, s3⟩ | ⟨s2, s3⟩
  · have hx : x < 30 := by omega
    rw [s2, s3, bS, bS, trR, if_neg nz0]
    rcases argCd (r := r) (c := c) (g := g) (a := b) (n := cm) (by omega) h0.v9 h0.n9 with ⟨y, t1, rfl, t2, t3⟩ | ⟨t2, t3⟩
    · have hy : y < 30 := by omega
      rw [t2, t3, bS, bS, trR, if_neg nz0, bS, isThrown_1, bS]
      simp only [if_true]
      by_cases hxy : x = y
      · rw [if_pos (congrArg nI hxy), if_pos (congrArg nI hxy), bS, isThrown_0, bS, th_th]
        refine Or.inr ⟨2, by omega, by omega, ?_, rfl⟩
        simp only [nz0, if_false]
      · rw [if_neg (nI_ne hxy (by omega) (by omega)), if_neg (nI_ne hxy (by omega) (by omega)), ix_n hx (by omega), bS, ix_n hy (by omega), bS]
        have ex : F8_ofCard (th r 0) (nI x) (nI 0) = some (c (10 + 0) (137 + 25 * x + 0)) := by rw [thR, F8_ofCard_v hx (by omega), QR.rc h0 s1 (by omega) (by omega)]
        have ey : F8_ofCard (th r 0) (nI y) (nI 0) = some (c (10 + 0) (137 + 25 * y + 0)) := by rw [thR, F8_ofCard_v hy (by omega), QR.rc h0 t1 (by omega) (by omega)]
        rw [ex, bS, ey, bS]
        by_cases hlt : c (10 + 0) (137 + 25 * x + 0) = c (10 + 0) (137 + 25 * y + 0)
        · rw [if_pos hlt, if_pos hlt, bS, isThrown_1, bS, th_th]
          simp only [if_true]
          obtain ⟨w1, w2⟩ := waits_ok (r := th r 0) h0 s1
          obtain ⟨w3, w4⟩ := waits_ok (r := th r 0) h0 t1
          have w1' : F8_ofCard (th r 0) (nI x) (nI 3) = some (c (10 + 0) (137 + 25 * x + 3)) := by rw [thR]; exact w1
          have w3' : F8_ofCard (th r 0) (nI y) (nI 3) = some (c (10 + 0) (137 + 25 * y + 3)) := by rw [thR]; exact w3
          rw [w1', bS, w2, bS]
          by_cases e : c (10 + 0) (137 + 25 * x + 3) = nI 0
          · rw [if_pos e, if_pos e, if_neg nz0, w3', bS, w4, bS]
            by_cases f : c (10 + 0) (137 + 25 * y + 3) = nI 0
            · rw [if_pos f, if_pos f, if_neg nz0]
              have h1 : QY c g 0 (th r 0 1) sm lm cm B B := by rw [th_o (by decide)]; exact h0
              obtain ⟨r2, c2, g2, e1, e2, e3, e4, e5⟩ := keeps_ok h.thr h1
              have c10 : c2 (10 + 0) = c (10 + 0) := e5.2.2.2.1 (10 + 0) (Or.inl rfl)
              have esx : sC (c2 (10 + 0)) x 3 = nI 0 := by rw [← sC_r (v := c2 (10 + 0)) hx (by omega), c10]; exact e
              have esy : sC (c2 (10 + 0)) y 3 = nI 0 := by rw [← sC_r (v := c2 (10 + 0)) hy (by omega), c10]; exact f
              obtain ⟨l, l1, l2⟩ := e4.c.lot x s1
              have l3 : sC (c2 (10 + 0)) y 0 = nI l := by
                rw [← sC_r (v := c2 (10 + 0)) hy (by omega), c10, ← hlt, ← c10, sC_r (v := c2 (10 + 0)) hx (by omega)]; exact l2
              obtain ⟨p, p1, p2, p3⟩ := e4.l.place l x l1 s1 l2
              obtain ⟨q, q1, q2, q3⟩ := e4.l.place l y l1 t1 l3
              have hle := cnt_le (n := cm) (p := loC (sC (c2 (10 + 0))) l)
              have hl6 : l < 6 := by omega
              have wx0 : c2 (10 + 0) (137 + 25 * x + 0) = nI l := by rw [sC_r (v := c2 (10 + 0)) hx (by omega)]; exact l2
              have wy0 : c2 (10 + 0) (137 + 25 * y + 0) = nI l := by rw [sC_r (v := c2 (10 + 0)) hy (by omega)]; exact l3
              have wx1 : c2 (10 + 0) (137 + 25 * x + 1) = nI p := by rw [sC_r (v := c2 (10 + 0)) hx (by omega)]; exact p2
              have wy1 : c2 (10 + 0) (137 + 25 * y + 1) = nI q := by rw [sC_r (v := c2 (10 + 0)) hy (by omega)]; exact q2
              have vx1 : r2 1 (137 + 25 * x + 1) = nI p := (QR.rc e4 s1 (by omega) (by omega)).trans wx1
              have vy1 : r2 1 (137 + 25 * y + 1) = nI q := (QR.rc e4 t1 (by omega) (by omega)).trans wy1
              have hK : F8_keeps (th r 0) = some (setR r2 (r2 1)) := by rw [← setR_self]; exact e1
              have hC1 := putAt_w (c := c2) (g := g2) (L := 0) (iv := c2 (400 + 0)) (w := c2 (10 + 0)) (n := y) (a := p) (l := l) (by omega) hy (by omega) hl6 wy0
              rw [← cL (L := 0)] at hC1
              have hC2 := putAt_w (c := up c2 (100 + 6 * 0 + l) p (nI y)) (g := g2) (L := 0) (iv := c2 (400 + 0)) (w := upd (c2 (10 + 0)) (137 + 25 * y + 1) (nI p)) (n := x) (a := q) (l := l) (by omega) hx (by omega) hl6 (by rw [upd_n (by omega)]; exact wx0)
              have q4 : QX (up (up c2 (100 + 6 * 0 + l) p (nI y)) (100 + 6 * 0 + l) q (nI x)) g2 0 (upd (upd (r2 1) (137 + 25 * x + 1) (nI q)) (137 + 25 * y + 1) (nI p)) (upd (upd (c2 (10 + 0)) (137 + 25 * y + 1) (nI p)) (137 + 25 * x + 1) (nI q)) (c2 (400 + 0)) sm lm cm B B := by
                have qs := QR.swap (bp2 := fun l' => (up (up c2 (100 + 6 * 0 + l) p (nI y)) (100 + 6 * 0 + l) q (nI x)) (100 + 6 * 0 + l')) e4 l1 s1 t1 hxy l2 l3 esx esy p2 q2 p3 q3 p1 q1 (fun l' hl' => by
                  by_cases el : l' = l
                  · rw [if_pos el, el]
                    funext j
                    rw [up_at, up_at]
                    unfold upd
                    by_cases j1 : j = q
                    · rw [if_pos ⟨rfl, j1⟩, if_pos j1]
                    · rw [if_neg (fun z => j1 z.2), if_neg j1]
                      by_cases j2 : j = p
                      · rw [if_pos ⟨rfl, j2⟩, if_pos j2]
                      · rw [if_neg (fun z => j2 z.2), if_neg j2]
                  · rw [if_neg el]
                    show up (up c2 _ _ _) _ _ _ (100 + 6 * 0 + l') = _
                    rw [up_or (by omega), up_or (by omega)])
                exact qs.congr (Nat.le_refl _) (fun _ _ => rfl) (fun l' hl' => by show up (up c2 _ _ _) _ _ _ (200 + 6 * 0 + l') = _; rw [up_or (by omega), up_or (by omega)]) (fun l' hl' => by show up (up c2 _ _ _) _ _ _ (300 + 6 * 0 + l') = _; rw [up_or (by omega), up_or (by omega)]) (fun t _ _ => by show up (up c2 _ _ _) _ _ _ (500 + t) = _; rw [up_or (by omega), up_or (by omega)])
              rw [hK, bS, F8_ofCard_v hx (by omega), bS, F8_ofCard_v hy (by omega), bS, vx1, vy1, F8_setsCard_s hx (by omega), bS, F8_setsCard_s hy (by omega), bS, F8_ofCard_v hx (by omega), bS, upd_n (by omega), upd_e, e2, bS, bS, bS]
              dsimp only
              rw [wx1, wy1, hC1, bS, hC2, bS]
              exact AT.act (r2 := r2) (c2 := c2) (g2 := g2) rfl rfl e3 (fun R hR => by unfold OWN at hR; rw [up_or (by omega), up_or (by omega)]) q4 e5.t (Nat.le_refl _)
            · rw [if_neg f, if_neg f, if_pos rfl]
              exact AT.same h rfl rfl
          · rw [if_neg e, if_neg e, if_pos rfl]
            exact AT.same h rfl rfl
        · rw [if_neg hlt, if_neg hlt, bS, isThrown_0, bS, th_th]
          refine Or.inr ⟨2, by omega, by omega, ?_, rfl⟩
          simp only [nz0, if_false]
    · rw [t2, t3, bS, bS, trL, if_pos rfl, bS, isThrown_0, bS]
      refine Or.inr ⟨1, by omega, by omega, ?_, rfl⟩
      simp only [nz0, if_false]
  · rw [s2, s3, bS, bS, trL, if_pos rfl, bS, isThrown_0, bS]
    refine Or.inr ⟨1, by omega, by omega, ?_, rfl⟩
    simp only [nz0, if_false]
