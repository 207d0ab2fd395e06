section
theorem QL.swap {vl wl we wc bp bp2 : Nat → Nat → Int32} {lm cm l c d p q : Nat} (h : QL vl wl we wc bp lm cm) (hcm : cm ≤ 30) (hl : l < lm) (hlm : lm ≤ 6) (hc : c < cm) (hd : d < cm) (hne : c ≠ d) (lc : wc c 0 = nI l) (ld : wc d 0 = nI l) (nc : ¬ fin wc c) (nd : ¬ fin wc d) (pc : wc c 1 = nI p) (pd : wc d 1 = nI q) (bc : bp l p = nI c) (bd : bp l q = nI d) (hp : p < cnt cm (loC wc l)) (hq : q < cnt cm (loC wc l)) (hb : ∀ l', l' < lm → bp2 l' = if l' = l then upd (upd (bp l) p (nI d)) q (nI c) else bp l') : QL vl wl we (up2 (up2 wc c 1 (nI q)) d 1 (nI p)) bp2 lm cm := by
  have hle := cnt_le (n := cm) (p := loC wc l)
  have hpq : p ≠ q := fun e => hne ((nI_eq (by omega) (by omega)).mp (by rw [← bc, ← bd, e]))
  generalize hW : up2 (up2 wc c 1 (nI q)) d 1 (nI p) = W
  have W0 : ∀ k j, j ≠ 1 → W k j = wc k j := fun k j hj => by rw [← hW, up2_ne hj, up2_ne hj]
  have Wo : ∀ k, k ≠ c → k ≠ d → W k 1 = wc k 1 := fun k a b => by rw [← hW, up2_ne1 b, up2_ne1 a]
  have Wc : W c 1 = nI q := by rw [← hW, up2_ne1 hne, up2_eq]
  have Wd : W d 1 = nI p := by rw [← hW, up2_eq]
  have hls : ∀ l a, lsC W l a = lsC wc l a := fun l a => funext fun i => by unfold lsC; rw [W0 i 0 (by decide), W0 i 3 (by decide)]
  have hlo : ∀ a, loC W a = loC wc a := fun a => funext fun i => by unfold loC; rw [W0 i 0 (by decide)]
  have hsu : ∀ l k, k ≠ 1 → suC W l k = suC wc l k := fun l k hk => funext fun i => by unfold suC; rw [W0 i 0 (by decide), W0 i k hk]
  have hfn : ∀ i, fin W i ↔ fin wc i := fun i => by unfold fin; rw [W0 i 3 (by decide)]
  have bq : bp2 l q = nI c := by rw [hb l hl, if_pos rfl, upd_e]
  have bp' : bp2 l p = nI d := by rw [hb l hl, if_pos rfl, upd_n hpq, upd_e]
  have bo : ∀ x, x ≠ p → x ≠ q → bp2 l x = bp l x := fun x a b => by rw [hb l hl, if_pos rfl, upd_n b, upd_n a]
  have bl : ∀ l', l' < lm → l' ≠ l → bp2 l' = bp l' := fun l' a b => by rw [hb l' a, if_neg b]
  obtain ⟨b1, b2, b3, b4, b5, b6, b7, b8, b9, b10⟩ := h
  refine ⟨b1, b2, fun l' hl' => ?_, fun l' hl' => ?_, fun l' hl' => ?_, fun l' hl' => ?_, fun l' hl' => ?_, fun l' hl' x hx => ?_, fun l' k hl' hk e => ?_, fun l' hl' => ?_⟩
  · rw [hls]; exact b3 l' hl'
  · rw [hls]; exact b4 l' hl'
  · rw [hsu l' 5 (by decide)]; exact b5 l' hl'
  · rw [hsu l' 6 (by decide)]; exact b6 l' hl'
  · rw [hlo]; exact b7 l' hl'
  · rw [hlo] at hx
    by_cases el : l' = l
    · subst el
      by_cases e1 : x = q
      · rw [e1]; exact ⟨c, hc, bq, by rw [W0 c 0 (by decide)]; exact lc, Wc⟩
      · by_cases e2 : x = p
        · rw [e2]; exact ⟨d, hd, bp', by rw [W0 d 0 (by decide)]; exact ld, Wd⟩
        · obtain ⟨k, k1, k2, k3, k4⟩ := b8 l' hl x hx
          have n1 : k ≠ c := fun e => e2 ((nI_eq (by omega) (by omega)).mp (by rw [← k4, e, pc]))
          have n2 : k ≠ d := fun e => e1 ((nI_eq (by omega) (by omega)).mp (by rw [← k4, e, pd]))
          exact ⟨k, k1, by rw [bo x e2 e1]; exact k2, by rw [W0 k 0 (by decide)]; exact k3, by rw [Wo k n1 n2]; exact k4⟩
    · obtain ⟨k, k1, k2, k3, k4⟩ := b8 l' hl' x hx
      have n1 : k ≠ c := fun e => el ((nI_eq (by omega) (by omega)).mp (by rw [← k3, e, lc]))
      have n2 : k ≠ d := fun e => el ((nI_eq (by omega) (by omega)).mp (by rw [← k3, e, ld]))
      exact ⟨k, k1, by rw [bl l' hl' el]; exact k2, by rw [W0 k 0 (by decide)]; exact k3, by rw [Wo k n1 n2]; exact k4⟩
  · rw [W0 k 0 (by decide)] at e
    rw [hlo]
    by_cases e1 : k = c
    · subst e1
      obtain rfl : l' = l := (nI_eq (by omega) (by omega)).mp (e.symm.trans lc)
      exact ⟨q, hq, Wc, bq⟩
    · by_cases e2 : k = d
      · subst e2
        obtain rfl : l' = l := (nI_eq (by omega) (by omega)).mp (e.symm.trans ld)
        exact ⟨p, hp, Wd, bp'⟩
      · obtain ⟨x, x1, x2, x3⟩ := b9 l' k hl' hk e
        refine ⟨x, x1, by rw [Wo k e1 e2]; exact x2, ?_⟩
        by_cases el : l' = l
        · subst el
          rw [bo x (fun q => e1 ((nI_eq (by omega) (by omega)).mp (by rw [← x3, q, bc]))) (fun q => e2 ((nI_eq (by omega) (by omega)).mp (by rw [← x3, q, bd])))]
          exact x3
        · rw [bl l' hl' el]; exact x3
  · obtain ⟨z, z1, z2, z3, z4⟩ := b10 l' hl'
    refine ⟨z, by rw [hlo]; exact z1, z2, fun x k h1 h2 h3 => (hfn k).mpr ?_, fun k h1 h2 h3 f => ?_⟩
    · by_cases el : l' = l
      · subst el
        have a1 : x ≠ p := fun e => nc (z3 p c (by omega) hc bc)
        have a2 : x ≠ q := fun e => nd (z3 q d (by omega) hd bd)
        rw [bo x a1 a2] at h3
        exact z3 x k h1 h2 h3
      · rw [bl l' hl' el] at h3
        exact z3 x k h1 h2 h3
    · rw [hlo] at h1
      have f' := (hfn k).mp f
      by_cases el : l' = l
      · subst el
        by_cases a1 : z = p
        · subst a1
          rw [bp'] at h3
          obtain rfl : d = k := (nI_eq (by omega) (by omega)).mp h3
          exact nd f'
        · by_cases a2 : z = q
          · subst a2
            rw [bq] at h3
            obtain rfl : c = k := (nI_eq (by omega) (by omega)).mp h3
            exact nc f'
          · rw [bo z a1 a2] at h3
            exact z4 k h1 h2 h3 f'
      · rw [bl l' hl' el] at h3
        exact z4 k h1 h2 h3 f'
theorem putAt_w {c : RS} {g : CG} {L n a l : Nat} {w iv : Nat → Int32} (hL : L < 12) (hn : n < 30) (ha : a < 30) (hl : l < 6) (e : w (137 + 25 * n + 0) = nI l) : C3_putAt g (setL c L w iv) L (nI n) (nI a) = some (setL (up c (100 + 6 * L + l) a (nI n)) L (upd w (137 + 25 * n + 1) (nI a)) iv) := by
  unfold C3_putAt
  rw [ix_n hn (by omega), bS, pt_n, bS, up_setL_w, bS, setL_w, upd_n (by omega), e, ix_n hl (by omega), bS, ws_n ha (by omega), bS, up_setL_o (by omega) (by omega)]
theorem QR.swap {v w iv : Nat → Int32} {bp dl df tx bp2 : Nat → Nat → Int32} {nt sm lm cm B U l c d p q : Nat} (h : QR v w iv bp dl df tx nt sm lm cm B U) (hl : l < lm) (hc : c < cm) (hd : d < cm) (hne : c ≠ d) (lc : sC w c 0 = nI l) (ld : sC w d 0 = nI l) (ec : sC w c 3 = nI 0) (ed : sC w d 3 = nI 0) (pc : sC w c 1 = nI p) (pd : sC w d 1 = nI q) (bc : bp l p = nI c) (bd : bp l q = nI d) (hp : p < cnt cm (loC (sC w) l)) (hq : q < cnt cm (loC (sC w) l)) (hb : ∀ l', l' < lm → bp2 l' = if l' = l then upd (upd (bp l) p (nI d)) q (nI c) else bp l') : QR (upd (upd v (137 + 25 * c + 1) (nI q)) (137 + 25 * d + 1) (nI p)) (upd (upd w (137 + 25 * d + 1) (nI p)) (137 + 25 * c + 1) (nI q)) iv bp2 dl df tx nt sm lm cm B U := by
  have hcm := h.a.cm30; have hlm := h.a.lm6
  have hC : sC (upd (upd w (137 + 25 * d + 1) (nI p)) (137 + 25 * c + 1) (nI q)) = up2 (up2 (sC w) c 1 (nI q)) d 1 (nI p) := by
    simp (disch := omega) only [sA_A, sA_S, sA_L, sA_C, sA_F, sA_P, sA_E, sA_M, sS_A, sS_S, sS_L, sS_C, sS_F, sS_P, sS_E, sS_M, sL_A, sL_S, sL_L, sL_C, sL_F, sL_P, sL_E, sL_M, sC_A, sC_S, sC_L, sC_C, sC_F, sC_P, sC_E, sC_M, sF_A, sF_S, sF_L, sF_C, sF_F, sF_P, sF_E, sF_M, sP_A, sP_S, sP_L, sP_C, sP_F, sP_P, sP_E, sP_M, sE_A, sE_S, sE_L, sE_C, sE_F, sE_P, sE_E, sE_M]
    (funext a b; simp only [up2_at]; repeat' split)
    all_goals (first | rfl | (exfalso; omega))
  refine ⟨?_, ?_, ?_, ?_, ?_, ?_, ?_⟩
  · simp (disch := omega) only [sA_A, sA_S, sA_L, sA_C, sA_F, sA_P, sA_E, sA_M, sS_A, sS_S, sS_L, sS_C, sS_F, sS_P, sS_E, sS_M, sL_A, sL_S, sL_L, sL_C, sL_F, sL_P, sL_E, sL_M, sC_A, sC_S, sC_L, sC_C, sC_F, sC_P, sC_E, sC_M, sF_A, sF_S, sF_L, sF_C, sF_F, sF_P, sF_E, sF_M, sP_A, sP_S, sP_L, sP_C, sP_F, sP_P, sP_E, sP_M, sE_A, sE_S, sE_L, sE_C, sE_F, sE_P, sE_E, sE_M]; exact h.a
  · rw [hC]; simp (disch := omega) only [sA_A, sA_S, sA_L, sA_C, sA_F, sA_P, sA_E, sA_M, sS_A, sS_S, sS_L, sS_C, sS_F, sS_P, sS_E, sS_M, sL_A, sL_S, sL_L, sL_C, sL_F, sL_P, sL_E, sL_M, sC_A, sC_S, sC_L, sC_C, sC_F, sC_P, sC_E, sC_M, sF_A, sF_S, sF_L, sF_C, sF_F, sF_P, sF_E, sF_M, sP_A, sP_S, sP_L, sP_C, sP_F, sP_P, sP_E, sP_M, sE_A, sE_S, sE_L, sE_C, sE_F, sE_P, sE_E, sE_M]; exact (h.s.cardk (by decide) (by decide)).cardk (by decide) (by decide)
  · rw [hC]; simp (disch := omega) only [sA_A, sA_S, sA_L, sA_C, sA_F, sA_P, sA_E, sA_M, sS_A, sS_S, sS_L, sS_C, sS_F, sS_P, sS_E, sS_M, sL_A, sL_S, sL_L, sL_C, sL_F, sL_P, sL_E, sL_M, sC_A, sC_S, sC_L, sC_C, sC_F, sC_P, sC_E, sC_M, sF_A, sF_S, sF_L, sF_C, sF_F, sF_P, sF_E, sF_M, sP_A, sP_S, sP_L, sP_C, sP_F, sP_P, sP_E, sP_M, sE_A, sE_S, sE_L, sE_C, sE_F, sE_P, sE_E, sE_M]; exact (h.c.set (by omega)).set (by omega)
  · rw [hC]; simp (disch := omega) only [sA_A, sA_S, sA_L, sA_C, sA_F, sA_P, sA_E, sA_M, sS_A, sS_S, sS_L, sS_C, sS_F, sS_P, sS_E, sS_M, sL_A, sL_S, sL_L, sL_C, sL_F, sL_P, sL_E, sL_M, sC_A, sC_S, sC_L, sC_C, sC_F, sC_P, sC_E, sC_M, sF_A, sF_S, sF_L, sF_C, sF_F, sF_P, sF_E, sF_M, sP_A, sP_S, sP_L, sP_C, sP_F, sP_P, sP_E, sP_M, sE_A, sE_S, sE_L, sE_C, sE_F, sE_P, sE_E, sE_M]; exact (h.n.cardk (by decide)).cardk (by decide)
  · rw [hC]; simp (disch := omega) only [sA_A, sA_S, sA_L, sA_C, sA_F, sA_P, sA_E, sA_M, sS_A, sS_S, sS_L, sS_C, sS_F, sS_P, sS_E, sS_M, sL_A, sL_S, sL_L, sL_C, sL_F, sL_P, sL_E, sL_M, sC_A, sC_S, sC_L, sC_C, sC_F, sC_P, sC_E, sC_M, sF_A, sF_S, sF_L, sF_C, sF_F, sF_P, sF_E, sF_M, sP_A, sP_S, sP_L, sP_C, sP_F, sP_P, sP_E, sP_M, sE_A, sE_S, sE_L, sE_C, sE_F, sE_P, sE_E, sE_M]; exact h.l.swap hcm hl hlm hc hd hne lc ld (not_fin (a := 0) (by omega) ec) (not_fin (a := 0) (by omega) ed) pc pd bc bd hp hq hb
  · simp (disch := omega) only [sA_A, sA_S, sA_L, sA_C, sA_F, sA_P, sA_E, sA_M, sS_A, sS_S, sS_L, sS_C, sS_F, sS_P, sS_E, sS_M, sL_A, sL_S, sL_L, sL_C, sL_F, sL_P, sL_E, sL_M, sC_A, sC_S, sC_L, sC_C, sC_F, sC_P, sC_E, sC_M, sF_A, sF_S, sF_L, sF_C, sF_F, sF_P, sF_E, sF_M, sP_A, sP_S, sP_L, sP_C, sP_F, sP_P, sP_E, sP_M, sE_A, sE_S, sE_L, sE_C, sE_F, sE_P, sE_E, sE_M]; exact h.d
  · rw [hC]; exact (h.wh.up (by decide) (by decide)).up (by decide) (by decide)
theorem a_swap {r c : RS} {g : CG} {B T : Nat} {a b : Int32} (h : GI r c g B T) : AT (F8_swap r a b) (C7_swap g c a b) r 0 B T := by
  obtain ⟨sm, lm, cm, h0⟩ := h.l
  have hcm := h0.a.cm30; have hlm := h0.a.lm6
  unfold F8_swap C7_swap
  simp only [lit32, neg1]
  rcases argCd (r := r) (c := c) (g := g) (a := a) (n := cm) (by omega) h0.v9 h0.n9 with ⟨x, s1, rfl, s2, s3⟩ | ⟨s2, s3⟩
  · have hx : x < 30 := by omega
    rw [s2, s3, bS, bS, trR, if_neg nz0]
    rcases argCd (r := r) (c := c) (g := g) (a := b) (n := cm) (by omega) h0.v9 h0.n9 with ⟨y, t1, rfl, t2, t3⟩ | ⟨t2, t3⟩
    · have hy : y < 30 := by omega
      rw [t2, t3, bS, bS, trR, if_neg nz0, bS, isThrown_1, bS]
      simp only [if_true]
      by_cases hxy : x = y
      · rw [if_pos (congrArg nI hxy), if_pos (congrArg nI hxy), bS, isThrown_0, bS, th_th]
        refine Or.inr ⟨2, by omega, by omega, ?_, rfl⟩
        simp only [nz0, if_false]
      · rw [if_neg (nI_ne hxy (by omega) (by omega)), if_neg (nI_ne hxy (by omega) (by omega)), ix_n hx (by omega), bS, ix_n hy (by omega), bS]
        have ex : F8_ofCard (th r 0) (nI x) (nI 0) = some (c (10 + 0) (137 + 25 * x + 0)) := by rw [thR, F8_ofCard_v hx (by omega), QR.rc h0 s1 (by omega) (by omega)]
        have ey : F8_ofCard (th r 0) (nI y) (nI 0) = some (c (10 + 0) (137 + 25 * y + 0)) := by rw [thR, F8_ofCard_v hy (by omega), QR.rc h0 t1 (by omega) (by omega)]
        rw [ex, bS, ey, bS]
        by_cases hlt : c (10 + 0) (137 + 25 * x + 0) = c (10 + 0) (137 + 25 * y + 0)
        · rw [if_pos hlt, if_pos hlt, bS, isThrown_1, bS, th_th]
          simp only [if_true]
          obtain ⟨w1, w2⟩ := waits_ok (r := th r 0) h0 s1
          obtain ⟨w3, w4⟩ := waits_ok (r := th r 0) h0 t1
          have w1' : F8_ofCard (th r 0) (nI x) (nI 3) = some (c (10 + 0) (137 + 25 * x + 3)) := by rw [thR]; exact w1
          have w3' : F8_ofCard (th r 0) (nI y) (nI 3) = some (c (10 + 0) (137 + 25 * y + 3)) := by rw [thR]; exact w3
          rw [w1', bS, w2, bS]
          by_cases e : c (10 + 0) (137 + 25 * x + 3) = nI 0
          · rw [if_pos e, if_pos e, if_neg nz0, w3', bS, w4, bS]
            by_cases f : c (10 + 0) (137 + 25 * y + 3) = nI 0
            · rw [if_pos f, if_pos f, if_neg nz0]
              have h1 : QY c g 0 (th r 0 1) sm lm cm B B := by rw [th_o (by decide)]; exact h0
              obtain ⟨r2, c2, g2, e1, e2, e3, e4, e5⟩ := keeps_ok h.thr h1
              have c10 : c2 (10 + 0) = c (10 + 0) := e5.2.2.2.1 (10 + 0) (Or.inl rfl)
              have esx : sC (c2 (10 + 0)) x 3 = nI 0 := by rw [← sC_r (v := c2 (10 + 0)) hx (by omega), c10]; exact e
              have esy : sC (c2 (10 + 0)) y 3 = nI 0 := by rw [← sC_r (v := c2 (10 + 0)) hy (by omega), c10]; exact f
              obtain ⟨l, l1, l2⟩ := e4.c.lot x s1
              have l3 : sC (c2 (10 + 0)) y 0 = nI l := by
                rw [← sC_r (v := c2 (10 + 0)) hy (by omega), c10, ← hlt, ← c10, sC_r (v := c2 (10 + 0)) hx (by omega)]; exact l2
              obtain ⟨p, p1, p2, p3⟩ := e4.l.place l x l1 s1 l2
              obtain ⟨q, q1, q2, q3⟩ := e4.l.place l y l1 t1 l3
              have hle := cnt_le (n := cm) (p := loC (sC (c2 (10 + 0))) l)
              have hl6 : l < 6 := by omega
              have wx0 : c2 (10 + 0) (137 + 25 * x + 0) = nI l := by rw [sC_r (v := c2 (10 + 0)) hx (by omega)]; exact l2
              have wy0 : c2 (10 + 0) (137 + 25 * y + 0) = nI l := by rw [sC_r (v := c2 (10 + 0)) hy (by omega)]; exact l3
              have wx1 : c2 (10 + 0) (137 + 25 * x + 1) = nI p := by rw [sC_r (v := c2 (10 + 0)) hx (by omega)]; exact p2
              have wy1 : c2 (10 + 0) (137 + 25 * y + 1) = nI q := by rw [sC_r (v := c2 (10 + 0)) hy (by omega)]; exact q2
              have vx1 : r2 1 (137 + 25 * x + 1) = nI p := (QR.rc e4 s1 (by omega) (by omega)).trans wx1
              have vy1 : r2 1 (137 + 25 * y + 1) = nI q := (QR.rc e4 t1 (by omega) (by omega)).trans wy1
              have hK : F8_keeps (th r 0) = some (setR r2 (r2 1)) := by rw [← setR_self]; exact e1
              have hC1 := putAt_w (c := c2) (g := g2) (L := 0) (iv := c2 (400 + 0)) (w := c2 (10 + 0)) (n := y) (a := p) (l := l) (by omega) hy (by omega) hl6 wy0
              rw [← cL (L := 0)] at hC1
              have hC2 := putAt_w (c := up c2 (100 + 6 * 0 + l) p (nI y)) (g := g2) (L := 0) (iv := c2 (400 + 0)) (w := upd (c2 (10 + 0)) (137 + 25 * y + 1) (nI p)) (n := x) (a := q) (l := l) (by omega) hx (by omega) hl6 (by rw [upd_n (by omega)]; exact wx0)
              have q4 : QX (up (up c2 (100 + 6 * 0 + l) p (nI y)) (100 + 6 * 0 + l) q (nI x)) g2 0 (upd (upd (r2 1) (137 + 25 * x + 1) (nI q)) (137 + 25 * y + 1) (nI p)) (upd (upd (c2 (10 + 0)) (137 + 25 * y + 1) (nI p)) (137 + 25 * x + 1) (nI q)) (c2 (400 + 0)) sm lm cm B B := by
                have qs := QR.swap (bp2 := fun l' => (up (up c2 (100 + 6 * 0 + l) p (nI y)) (100 + 6 * 0 + l) q (nI x)) (100 + 6 * 0 + l')) e4 l1 s1 t1 hxy l2 l3 esx esy p2 q2 p3 q3 p1 q1 (fun l' hl' => by
                  by_cases el : l' = l
                  · rw [if_pos el, el]
                    funext j
                    rw [up_at, up_at]
                    unfold upd
                    by_cases j1 : j = q
                    · rw [if_pos ⟨rfl, j1⟩, if_pos j1]
                    · rw [if_neg (fun z => j1 z.2), if_neg j1]
                      by_cases j2 : j = p
                      · rw [if_pos ⟨rfl, j2⟩, if_pos j2]
                      · rw [if_neg (fun z => j2 z.2), if_neg j2]
                  · rw [if_neg el]
                    show up (up c2 _ _ _) _ _ _ (100 + 6 * 0 + l') = _
                    rw [up_or (by omega), up_or (by omega)])
                exact qs.congr (Nat.le_refl _) (fun _ _ => rfl) (fun l' hl' => by show up (up c2 _ _ _) _ _ _ (200 + 6 * 0 + l') = _; rw [up_or (by omega), up_or (by omega)]) (fun l' hl' => by show up (up c2 _ _ _) _ _ _ (300 + 6 * 0 + l') = _; rw [up_or (by omega), up_or (by omega)]) (fun t _ _ => by show up (up c2 _ _ _) _ _ _ (500 + t) = _; rw [up_or (by omega), up_or (by omega)])
              rw [hK, bS, F8_ofCard_v hx (by omega), bS, F8_ofCard_v hy (by omega), bS, vx1, vy1, F8_setsCard_s hx (by omega), bS, F8_setsCard_s hy (by omega), bS, F8_ofCard_v hx (by omega), bS, upd_n (by omega), upd_e, e2, bS, bS, bS]
              dsimp only
              rw [wx1, wy1, hC1, bS, hC2, bS]
              exact AT.act (r2 := r2) (c2 := c2) (g2 := g2) rfl rfl e3 (fun R hR => by unfold OWN at hR; rw [up_or (by omega), up_or (by omega)]) q4 e5.t (Nat.le_refl _)
            · rw [if_neg f, if_neg f, if_pos rfl]
              exact AT.same h rfl rfl
          · rw [if_neg e, if_neg e, if_pos rfl]
            exact AT.same h rfl rfl
        · rw [if_neg hlt, if_neg hlt, bS, isThrown_0, bS, th_th]
          refine Or.inr ⟨2, by omega, by omega, ?_, rfl⟩
          simp only [nz0, if_false]
    · rw [t2, t3, bS, bS, trL, if_pos rfl, bS, isThrown_0, bS]
      refine Or.inr ⟨1, by omega, by omega, ?_, rfl⟩
      simp only [nz0, if_false]
  · rw [s2, s3, bS, bS, trL, if_pos rfl, bS, isThrown_0, bS]
    refine Or.inr ⟨1, by omega, by omega, ?_, rfl⟩
    simp only [nz0, if_false]
end
section
noncomputable def BT (F : Option (Int32 × RS)) (C : Option (Int32 × RS)) (g : CG) (B T : Nat) : Prop := ∃ x r2 c2, F = some (x, r2) ∧ C = some (x, c2) ∧ GI r2 c2 g B T ∧ r2 0 6 = nI 0
theorem GI.mk2 {r c r2 c2 : RS} {g : CG} {B T : Nat} (h : GI r c g B T) (hl : LQ c2 g 0 (r2 1) B) (hr : ∀ R, R ≠ 0 → R ≠ 1 → r2 R = r R) (hc : ∀ R, ¬ OWN 0 R → R ≠ 0 → c2 R = c R) (hp : PA r2 c2 g B) (h8 : r2 0 8 = r 0 8) (h15 : r2 0 15 = r 0 15) (h16 : r2 0 16 = r 0 16) (h22 : r2 0 22 = r 0 22) (c5 : c2 0 5 = c 0 5) (c1 : c2 0 1 = c 0 1) (c2' : c2 0 2 = c 0 2) (c0 : c2 0 0 = c 0 0) : GI r2 c2 g B T := by
  refine ⟨hl, fun L hL => ?_, hp, ?_, ?_, ?_, ?_, h.n⟩
  · by_cases e : L = 0
    · subst e
      obtain ⟨sm, lm, cm, q⟩ := hl
      exact q.tir
    · rw [hc _ (by unfold OWN; omega) (by omega)]; exact h.ti L hL
  · exact h.s.frame (Nat.le_refl _) (fun _ _ _ => rfl) (hr 5 (by decide) (by decide)) (hr 4 (by decide) (by decide)) (fun L R a b hR => hc R (by unfold OWN at hR ⊢; omega) (by unfold OWN at hR; omega)) (fun t _ _ => hc _ (by unfold OWN; omega) (by omega))
  · exact h.b.frame c5 h8 (hc 3 (by unfold OWN; omega) (by decide)) (hr 6 (by decide) (by decide)) (hc 5 (by unfold OWN; omega) (by decide))
  · exact h.e.frame c1 c2' h15 h16
  · exact h.o.frame c0 h22
theorem a_undo {r c : RS} {g : CG} {B T : Nat} (h : GI r c g B T) : BT (F8_undo r) (C7_undo g c) g B T := by
  obtain ⟨o, n, hp⟩ := h.p
  obtain ⟨p1, p2, p3, p4, p5, p6⟩ := hp
  unfold F8_undo C7_undo
  simp only [lit32, neg1]
  rw [zth, bS, th_0 (by decide), p5, p4]
  by_cases hn : n = 0
  · rw [if_pos (congrArg nI hn), if_pos (congrArg nI hn)]
    exact ⟨m1, th r 0, c, rfl, rfl, h.thr, th_6⟩
  · rw [if_neg (nI_ne hn (by omega) (by omega)), if_neg (nI_ne hn (by omega) (by omega)), nI_sub (by omega), pt_n, bS, pt_n, bS]
    rw [up_eq, cp_3_1 (by omega) (by omega), bS, up_eq, up_ne (by omega), p3, nI_add, rm_n (by omega) (by omega) (by omega), bS, ix_n (Nat.mod_lt _ (by omega)) (by omega), bS]
    have hm : (o + (n - 1)) % 8 < 8 := Nat.mod_lt _ (by omega)
    obtain ⟨a, sm, lm, cm, b⟩ := p6 (n - 1) (by omega)
    rw [if_pos a]
    have cu : ∀ R, R ≠ 0 → up c 0 4 (nI (n - 1)) R = c R := fun R hR => up_or hR
    have b' : QY (up c 0 4 (nI (n - 1))) g (2 + (o + (n - 1)) % 8) (ROW r 3 (n - 1)) sm lm cm B B := b.frame (by omega) (Nat.le_refl _) (fun R hR => cu R (by unfold OWN at hR; omega)) (fun t _ _ => cu _ (by omega))
    obtain ⟨c2, k1, k2, k3⟩ := copyFrom_ok (L := 0) (L2 := 2 + (o + (n - 1)) % 8) (by omega) (by omega) (by omega) b' (by rw [cu _ (by decide)]; exact h.ti 0 (by omega))
    rw [k1, bS]
    have e0 : ∀ i, i ≠ 4 → c2 0 i = c 0 i := fun i hi => by rw [k2 0 (by unfold OWN; omega), up_ne (by omega)]
    have e4 : c2 0 4 = nI (n - 1) := by rw [k2 0 (by unfold OWN; omega), up_eq]
    have r0 : ∀ i, i ≠ 5 → i ≠ 6 → cpA (up (th r 0) 0 5 (nI (n - 1))) 3 (n - 1) 1 0 0 i = r 0 i := fun i a b => by rw [cpA_o (by decide), up_ne (by omega), th_0 b]
    have r5 : cpA (up (th r 0) 0 5 (nI (n - 1))) 3 (n - 1) 1 0 0 5 = nI (n - 1) := by rw [cpA_o (by decide), up_eq]
    have rR : ∀ R, R ≠ 0 → R ≠ 1 → cpA (up (th r 0) 0 5 (nI (n - 1))) 3 (n - 1) 1 0 R = r R := fun R a b => by rw [cpA_o b, up_or a, th_o a]
    refine ⟨nI (n - 1), _, c2, by rw [r5], by rw [e4], h.mk2 ⟨sm, lm, cm, QY.ext k3 fun j hj => ?_⟩ rR (fun R a b => (k2 R a).trans (cu R b)) ⟨o, n - 1, p1, by omega, (e0 3 (by decide)).trans p3, e4, r5, fun i hi => ?_⟩ (r0 8 (by decide) (by decide)) (r0 15 (by decide) (by decide)) (r0 16 (by decide) (by decide)) (r0 22 (by decide) (by decide)) (e0 5 (by decide)) (e0 1 (by decide)) (e0 2 (by decide)) (e0 0 (by decide)), ?_⟩
    · have := cpA_n (u := up (th r 0) 0 5 (nI (n - 1))) (A := 3) (i := n - 1) (B := 1) (k := 0) hj
      rw [show 1037 * 0 + j = j by omega] at this
      rw [this, up_or (by decide), th_o (by decide)]
    · obtain ⟨a1, b1⟩ := p6 i (by omega)
      have e : ROW (cpA (up (th r 0) 0 5 (nI (n - 1))) 3 (n - 1) 1 0) 3 i = ROW r 3 i := by
        funext j; show cpA _ _ _ _ _ 3 _ = r 3 _; rw [rR 3 (by decide) (by decide)]
      refine ⟨a1, ?_⟩
      rw [e]
      exact b1.frame (by omega) (Nat.le_refl _) (fun R hR => (k2 R (by unfold OWN at hR ⊢; omega)).trans (cu R (by unfold OWN at hR; omega))) (fun t _ _ => (k2 _ (by unfold OWN; omega)).trans (cu _ (by omega)))
    · rw [cpA_o (by decide), up_ne (by omega), th_6]
theorem a_save {r c : RS} {g : CG} {B T : Nat} {a : Int32} (h : GI r c g B T) : AT (F8_saveSnapshot r a) (C7_saveSnapshot g c a) r 1 B T := by
  obtain ⟨sm, lm, cm, h0⟩ := h.l
  unfold F8_saveSnapshot C7_saveSnapshot
  simp only [lit32]
  rcases argR (a := a) (lo := 0) (hi := 1) (by omega) (by omega) (l := 0) (h := 1) rfl rfl with ⟨s, k1, k2, rfl, k3, k4⟩ | ⟨k3, k4, k5⟩
  · have hs : s < 2 := by omega
    rw [k3, k4, isThrown_1, bS, bS, trR, ix_n hs (by omega), bS]
    simp only [if_true]
    rw [cp_1_4 (by omega) hs, bS, ws_n hs (by omega), bS, show vp_nar .boolean (nI 1) = nI 1 from rfl]
    generalize hL : 10 + s = L at *
    obtain ⟨g2, c1, e1, e2, e3, e4, e5⟩ : ∃ g2 c1, (∀ X : CG → RS → Option (Sum Int32 (Int32 × CG × RS)), (if g.pl L = true then X g c else X (gl g L) (ul c L)) = X g2 c1) ∧ (∀ R, ¬ OWN L R → c1 R = c R) ∧ TIr (c1 (10 + L)) g.nt ∧ g2.nt = g.nt ∧ (∀ j, g2.pl j = if j = L then true else g.pl j) := by
      by_cases q : g.pl L = true
      · refine ⟨g, c, fun X => if_pos q, fun _ _ => rfl, h.ti L (by omega), rfl, fun j => ?_⟩
        by_cases e : j = L
        · rw [if_pos e, e]; exact q
        · rw [if_neg e]
      · refine ⟨gl g L, ul c L, fun X => if_neg q, fun R hR => ul_row (by omega) hR, ul_tir (by omega), rfl, fun j => ?_⟩
        by_cases e : j = L
        · rw [if_pos e, e]; exact gl_pl
        · rw [if_neg e]; exact gl_ne e
    have h01 : QY c1 g2 0 (r 1) sm lm cm B B := h0.frame (by omega) (Nat.le_of_eq e4.symm) (fun R hR => e2 R (by unfold OWN at hR ⊢; omega)) (fun t q1 q2 => e2 _ (by unfold OWN; omega))
    obtain ⟨c2, j1, j2, j3⟩ := copyFrom_ok (L := L) (L2 := 0) (by omega) (by omega) (by omega) h01 (by rw [e4]; exact e3)
    have cc : ∀ R, ¬ OWN L R → c2 R = c R := fun R hR => (j2 R hR).trans (e2 R hR)
    have X1 := e1 (fun g3 c3 => (C3_copyFrom g3 c3 L 0).bind fun u7 => some (.inr ((u7 (10 + 0) 6), g3, u7)))
    rw [j1, bS] at X1
    have ev : c2 (10 + 0) 6 = r 1 6 := by
      rw [cc (10 + 0) (by unfold OWN; omega)]; exact (QR.ra h0 (by omega) (by omega) (by omega)).symm
    have rR : ∀ R, R ≠ 4 → R ≠ 5 → up (cpA (th r 0) 1 0 4 s) 5 s (nI 1) R = th r 0 R := fun R a b => by rw [up_or b, cpA_o a]
    refine Or.inl ⟨r 1 6, up (cpA (th r 0) 1 0 4 s) 5 s (nI 1), c2, g2, ?_, ?_, ?_, ?_⟩
    · rw [rR 1 (by decide) (by decide), th1]
    · rw [← ev]; exact X1
    · refine ⟨?_, fun L' hL' => ?_, ?_, fun s' hs' => ?_, ?_, ?_, ?_, ?_⟩
      · rw [rR 1 (by decide) (by decide), th_o (by decide)]
        exact ⟨sm, lm, cm, h0.frame (by omega) (Nat.le_of_eq e4.symm) (fun R hR => cc R (by unfold OWN at hR ⊢; omega)) (fun t _ _ => cc _ (by unfold OWN; omega))⟩
      · rw [e4]
        by_cases e : L' = L
        · rw [e]; have := j3.tir; rw [e4] at this; exact this
        · rw [cc _ (by unfold OWN; omega)]; exact h.ti L' hL'
      · exact h.p.frame (Nat.le_of_eq e4.symm) (fun i a b q => by rw [e5, if_neg (by omega)]; exact q) (by rw [cc 0 (by unfold OWN; omega)]) (by rw [cc 0 (by unfold OWN; omega)]) (by rw [rR 0 (by decide) (by decide), th_0 (by decide)]) (by rw [rR 3 (by decide) (by decide), th_o (by decide)]) (fun L' R a b hR => cc R (by unfold OWN at hR ⊢; omega)) (fun t _ _ => cc _ (by unfold OWN; omega))
      · by_cases e : s' = s
        · subst e
          rw [hL]
          refine Or.inr ⟨up_eq, by rw [e5, if_pos rfl], LQ.ext (v := r 1) ⟨sm, lm, cm, j3⟩ fun j hj => ?_⟩
          show up (cpA (th r 0) 1 0 4 s') 5 s' (nI 1) 4 (1037 * s' + j) = r 1 j
          rw [up_ne (by omega), cpA_n hj, th1]
          exact congrArg (r 1) (by omega)
        · have v5 : up (cpA (th r 0) 1 0 4 s) 5 s (nI 1) 5 s' = r 5 s' := by rw [up_ne (by omega), cpA_o (by decide), th_o (by decide)]
          rw [v5, e5, if_neg (by omega)]
          rcases h.s s' hs' with q | ⟨q1, q2, q3⟩
          · exact Or.inl q
          · refine Or.inr ⟨q1, q2, LQ.ext (v := ROW r 4 s') (q3.frame (by omega) (Nat.le_of_eq e4.symm) (fun R hR => cc R (by unfold OWN at hR ⊢; omega)) (fun t _ _ => cc _ (by unfold OWN; omega))) fun j hj => ?_⟩
            show up (cpA (th r 0) 1 0 4 s) 5 s (nI 1) 4 (1037 * s' + j) = r 4 (1037 * s' + j)
            rw [up_ne (by omega), cpA_s (by omega), th_o (by decide)]
      · exact h.b.frame (by rw [cc 0 (by unfold OWN; omega)]) (by rw [rR 0 (by decide) (by decide), th_0 (by decide)]) (cc 3 (by unfold OWN; omega)) (by rw [rR 6 (by decide) (by decide), th_o (by decide)]) (cc 5 (by unfold OWN; omega))
      · exact h.e.frame (by rw [cc 0 (by unfold OWN; omega)]) (by rw [cc 0 (by unfold OWN; omega)]) (by rw [rR 0 (by decide) (by decide), th_0 (by decide)]) (by rw [rR 0 (by decide) (by decide), th_0 (by decide)])
      · exact h.o.frame (by rw [cc 0 (by unfold OWN; omega)]) (by rw [rR 0 (by decide) (by decide), th_0 (by decide)])
      · rw [e4]; exact h.n
    · rw [rR 0 (by decide) (by decide), th_6]
  · rw [k3, k4, isThrown_0, bS, bS, trL]
    refine Or.inr ⟨1, by omega, by omega, ?_, rfl⟩
    simp only [nz0, if_false]
noncomputable def CT (F : Option (Int32 × RS)) (C : Option (Sum Int32 (Int32 × RS))) (r : RS) (g : CG) (sh B T : Nat) : Prop := (∃ x r2 c2, F = some (x, r2) ∧ C = some (.inr (x, c2)) ∧ GI r2 c2 g B T ∧ r2 0 6 = nI 0) ∨ (∃ k, 1 ≤ k ∧ k ≤ 2 ∧ F = some (nI 0, th r k) ∧ C = some (.inl (nI (k + sh))))
theorem a_restore {r c : RS} {g : CG} {B T : Nat} {a : Int32} (h : GI r c g B T) : CT (F8_restoreSnapshot r a) (C7_restoreSnapshot g c a) r g 1 B T := by
  unfold F8_restoreSnapshot C7_restoreSnapshot
  simp only [lit32, neg1]
  rcases argR (a := a) (lo := 0) (hi := 1) (by omega) (by omega) (l := 0) (h := 1) rfl rfl with ⟨s, k1, k2, rfl, k3, k4⟩ | ⟨k3, k4, k5⟩
  · have hs : s < 2 := by omega
    rw [k3, k4, isThrown_1, bS, bS, trR, ix_n hs (by omega), bS]
    simp only [if_true]
    rw [rd_n hs (by omega), bS, th_o (by decide)]
    rcases h.s s hs with ⟨q1, q2⟩ | ⟨q1, q2, sm, lm, cm, b⟩
    · rw [q1, if_pos rfl, if_neg (by rw [q2]; decide)]
      exact Or.inl ⟨m1, th r 0, c, rfl, rfl, h.thr, th_6⟩
    · rw [q1, if_neg nz0, if_pos q2, cp_4_1 hs (by omega), bS, pt_n, bS]
      obtain ⟨c2, j1, j2, j3⟩ := copyFrom_ok (L := 0) (L2 := 10 + s) (by omega) (by omega) (by omega) b (h.ti 0 (by omega))
      rw [j1, bS, pt_n, bS]
      have rR : ∀ R, R ≠ 0 → R ≠ 1 → up (cpA (th r 0) 4 s 1 0) 0 5 (nI 0) R = r R := fun R a b => by rw [up_or a, cpA_o b, th_o a]
      have r0 : ∀ i, i ≠ 5 → i ≠ 6 → up (cpA (th r 0) 4 s 1 0) 0 5 (nI 0) 0 i = r 0 i := fun i a b => by rw [up_ne (by omega), cpA_o (by decide), th_0 b]
      have e0 : ∀ i, i ≠ 4 → up c2 0 4 (nI 0) 0 i = c 0 i := fun i hi => by rw [up_ne (by omega), j2 0 (by unfold OWN; omega)]
      have j3' : QY (up c2 0 4 (nI 0)) g 0 (ROW r 4 s) sm lm cm B B := j3.frame (by omega) (Nat.le_refl _) (fun R hR => up_or (by unfold OWN at hR; omega)) (fun t _ _ => up_or (by omega))
      have e1 : ∀ j, j < 1037 → up (cpA (th r 0) 4 s 1 0) 0 5 (nI 0) 1 j = ROW r 4 s j := fun j hj => by
        rw [up_ne (by omega)]
        have := cpA_n (u := th r 0) (A := 4) (i := s) (B := 1) (k := 0) hj
        rw [show 1037 * 0 + j = j by omega] at this
        rw [this, th_o (by decide)]
      have j4 := QY.ext j3' e1
      have ev : up (cpA (th r 0) 4 s 1 0) 0 5 (nI 0) 1 6 = up c2 0 4 (nI 0) (10 + 0) 6 := QR.ra j4 (by omega) (by omega) (by omega)
      obtain ⟨o, n, p1, p2, p3, p4, p5, p6⟩ := h.p
      refine Or.inl ⟨_, _, _, rfl, by rw [ev], h.mk2 ⟨sm, lm, cm, j4⟩ rR (fun R a b => (up_or b).trans (j2 R a)) ⟨o, 0, p1, by omega, (e0 3 (by decide)).trans p3, up_eq, up_eq, fun i hi => by omega⟩ (r0 8 (by decide) (by decide)) (r0 15 (by decide) (by decide)) (r0 16 (by decide) (by decide)) (r0 22 (by decide) (by decide)) (e0 5 (by decide)) (e0 1 (by decide)) (e0 2 (by decide)) (e0 0 (by decide)), ?_⟩
      rw [up_ne (by omega), cpA_o (by decide), th_6]
  · rw [k3, k4, isThrown_0, bS, bS, trL]
    refine Or.inr ⟨1, by omega, by omega, ?_, rfl⟩
    simp only [nz0, if_false]
theorem write_F {r : RS} {q n : Nat} (hq : q < 30) (hn : n ≤ 16) : ∀ (d y fu : Nat) (u : RS), y + d = n → d < fu → u 0 22 = nI n → (∀ R, R ≠ 0 → R ≠ 10 → u R = r R) → ∃ u2, F8_writeCard_L27 (nI q) fu (nI y) u = some (nI n, u2) ∧ ∀ R, R ≠ 10 → u2 R = u R := by
  intro d
  induction d with
  | zero =>
    intro y fu u hy hfu h22 hr
    obtain ⟨fu, rfl⟩ : ∃ m, fu = m + 1 := ⟨fu - 1, by omega⟩
    obtain rfl : y = n := by omega
    rw [F8_writeCard_L27, h22, if_pos (nI_le (by omega) (by omega))]
    exact ⟨u, rfl, fun _ _ => rfl⟩
  | succ d ih =>
    intro y fu u hy hfu h22 hr
    obtain ⟨fu, rfl⟩ : ∃ m, fu = m + 1 := ⟨fu - 1, by omega⟩
    rw [F8_writeCard_L27]
    simp only [lit32]
    rw [h22, if_neg (nI_ge (by omega) (by omega)), nI_add, F8_ofCard_n hq (by omega), bS, ws_n (by omega) (by omega), bS, nI_add]
    obtain ⟨u2, k1, k2⟩ := ih (y + 1) fu (up u 10 y (vp_nar .byte (nI 97 + u 1 (137 + 25 * q + (9 + y))).toInt8.toInt32)) (by omega) (by omega) (by rw [up_ne (by omega)]; exact h22) (fun R a b => by rw [up_or b]; exact hr R a b)
    exact ⟨u2, k1, fun R hR => (k2 R hR).trans (up_or hR)⟩
theorem write_C {c : RS} {g : CG} {x t n q : Nat} {f : Nat → Nat} {a1 : Int32} (ht : TXc c g t n f) (hc : c (10 + 0) (137 + 25 * q + 2) = nI t) : ∀ (d y fu : Nat) (u : RS), y + d = n → d < fu → u 0 0 = nI n → (∀ R, R ≠ 0 → R ≠ 1 → u R = c R) → ∃ u2, C7_writeCard_L34 c q a1 g fu (nI y) u = some (nI n, u2) ∧ ∀ R, R ≠ 1 → u2 R = u R := by
  have hn := ht.n16
  intro d
  induction d with
  | zero =>
    intro y fu u hy hfu h0 hr
    obtain ⟨fu, rfl⟩ : ∃ m, fu = m + 1 := ⟨fu - 1, by omega⟩
    obtain rfl : y = n := by omega
    rw [C7_writeCard_L34, h0, if_pos (nI_le (by omega) (by omega))]
    exact ⟨u, rfl, fun _ _ => rfl⟩
  | succ d ih =>
    intro y fu u hy hfu h0 hr
    obtain ⟨fu, rfl⟩ : ∃ m, fu = m + 1 := ⟨fu - 1, by omega⟩
    have ht' : TXc u g t n f := ⟨ht.t1, ht.tg, ht.t31, ht.n1, ht.n16, by rw [hr _ (by omega) (by omega)]; exact ht.len, fun k hk => by rw [hr _ (by omega) (by omega)]; exact ht.lets k hk⟩
    rw [C7_writeCard_L34]
    simp only [lit32]
    rw [h0, if_neg (nI_ge (by omega) (by omega)), hc, ht'.tbt (by omega), bS, ws_n (by omega) (by omega), bS, nI_add]
    obtain ⟨u2, k1, k2⟩ := ih (y + 1) fu (up u 1 y (vp_nar .byte (nI 97 + nI (f y)).toInt8.toInt32)) (by omega) (by omega) (by rw [up_ne (by omega)]; exact h0) (fun R a b => by rw [up_or b]; exact hr R a b)
    exact ⟨u2, k1, fun R hR => (k2 R hR).trans (up_or hR)⟩
theorem a_writeCard {r c : RS} {g : CG} {B T : Nat} {a : Int32} (h : GI r c g B T) (hT : T < 2 ^ 31) : CT (F8_writeCard r a) (C7_writeCard g c a) r g 0 B T := by
  obtain ⟨sm, lm, cm, h0⟩ := h.l
  have hcm := h0.a.cm30
  have hg : g.nt < 2 ^ 31 := Nat.lt_of_le_of_lt h.n hT
  unfold F8_writeCard C7_writeCard
  simp only [lit32]
  rcases argCd (r := r) (c := c) (g := g) (a := a) (n := cm) (by omega) h0.v9 h0.n9 with ⟨q, s1, rfl, s2, s3⟩ | ⟨s2, s3⟩
  · have hq : q < 30 := by omega
    obtain ⟨t, n, f, t1, t2, t3⟩ := tx_c hg h0 s1
    have hn := t1.n16
    rw [s2, s3, bS, bS, isThrown_1, bS, trR, ix_n hq (by omega), bS]
    simp only [if_true]
    have e2 : F8_ofCard (th r 0) (nI q) (nI 2) = some (nI n) := by rw [thR, F8_ofCard_v hq (by omega), t1.len]
    have e16 : (if nI 16 < nI n then nI 16 else nI n) = nI n := if_neg (nI_nlt hn (by omega))
    rw [e2, bS, pt_n, bS, t3, t2.tln, bS, e16, pt_n, bS]
    obtain ⟨u2, k1, k2⟩ := write_F (r := r) hq hn n 0 FUEL (up (th r 0) 0 22 (nI n)) (by omega) (by show n < 10000; omega) up_eq (fun R a b => by rw [up_or a, th_o a])
    obtain ⟨z2, j1, j2⟩ := write_C (x := 0) (a1 := nI q) t2 t3 n 0 FUEL (up c 0 0 (nI n)) (by omega) (by show n < 10000; omega) up_eq (fun R a b => by rw [up_or a])
    rw [k1, bS, j1, bS]
    have rR : ∀ R, R ≠ 0 → R ≠ 10 → u2 R = r R := fun R a b => by rw [k2 R b, up_or a, th_o a]
    have r0 : ∀ i, i ≠ 22 → i ≠ 6 → u2 0 i = r 0 i := fun i a b => by rw [k2 0 (by decide), up_ne (by omega), th_0 b]
    have r22 : u2 0 22 = nI n := by rw [k2 0 (by decide), up_eq]
    have cR : ∀ R, R ≠ 0 → R ≠ 1 → z2 R = c R := fun R a b => by rw [j2 R b, up_or a]
    have c0 : ∀ i, i ≠ 0 → z2 0 i = c 0 i := fun i a => by rw [j2 0 (by decide), up_ne (by omega)]
    have c00 : z2 0 0 = nI n := by rw [j2 0 (by decide), up_eq]
    refine Or.inl ⟨nI n, u2, z2, by dsimp only; rw [r22], by dsimp only; rw [c00], ⟨?_, fun L hL => ?_, ?_, ?_, ?_, ?_, ⟨n, n, hn, hn, c00, r22⟩, h.n⟩, ?_⟩
    · rw [rR 1 (by decide) (by decide)]
      exact ⟨sm, lm, cm, h0.frame (by omega) (Nat.le_refl _) (fun R hR => cR R (by unfold OWN at hR; omega) (by unfold OWN at hR; omega)) (fun t _ _ => cR _ (by omega) (by omega))⟩
    · rw [cR _ (by omega) (by omega)]; exact h.ti L hL
    · exact h.p.frame (Nat.le_refl _) (fun _ _ _ q => q) (c0 3 (by decide)) (c0 4 (by decide)) (r0 5 (by decide) (by decide)) (rR 3 (by decide) (by decide)) (fun L R a b hR => cR R (by unfold OWN at hR; omega) (by unfold OWN at hR; omega)) (fun t _ _ => cR _ (by omega) (by omega))
    · exact h.s.frame (Nat.le_refl _) (fun _ _ _ => rfl) (rR 5 (by decide) (by decide)) (rR 4 (by decide) (by decide)) (fun L R a b hR => cR R (by unfold OWN at hR; omega) (by unfold OWN at hR; omega)) (fun t _ _ => cR _ (by omega) (by omega))
    · exact h.b.frame (c0 5 (by decide)) (r0 8 (by decide) (by decide)) (cR 3 (by decide) (by decide)) (rR 6 (by decide) (by decide)) (cR 5 (by decide) (by decide))
    · exact h.e.frame (c0 1 (by decide)) (c0 2 (by decide)) (r0 15 (by decide) (by decide)) (r0 16 (by decide) (by decide))
    · rw [k2 0 (by decide), up_ne (by omega), th_6]
  · rw [s2, s3, bS, bS, isThrown_0, bS, trL]
    refine Or.inr ⟨1, by omega, by omega, ?_, rfl⟩
    simp only [nz0, if_false]
end
section
theorem tickY {r c : RS} {g : CG} {L sm lm cm B U : Nat} {v : Nat → Int32} (hL : L < 12) (hg : g.nt < 2 ^ 31) (h : QY c g L v sm lm cm B U) (hB : B + 1 < 2000000000) (hU : U + 1 < 2000000000) :
    ∃ v' c' m, F8_passes (setR r v) = some (setR r v') ∧ C3_tick g c L = some (m, c') ∧ QY c' g L v' sm lm cm (B + 1) (U + 1) ∧ (∀ R, ¬ OWN L R → c' R = c R) ∧
      ((¬ STL c g L sm lm cm (c (10 + L)) (c (400 + L)) ∧ m = nI 1) ∨ (STL c g L sm lm cm (c (10 + L)) (c (400 + L)) ∧ m = nI 0 ∧ SM v (c (10 + L)) (c (400 + L)) v' (c' (10 + L)) (c' (400 + L)) ∧ STL c' g L sm lm cm (c' (10 + L)) (c' (400 + L)))) := by
  have hlm := h.a.lm6
  obtain ⟨v', w', iv', c1, k1, k2, k3, k4⟩ := tick_ok (r := r) hL hg h hB hU
  rw [← cL (L := L)] at k4
  have hrow : ∀ R, ¬ OWN L R → setL c1 L w' iv' R = c R := fun R hR => by
    rw [setL_o (by unfold OWN at hR; omega) (by unfold OWN at hR; omega)]
    exact k3 R (by unfold NDY; unfold OWN at hR; omega)
  rcases k4 with ⟨k4, k5⟩ | ⟨k4, k5, k6⟩
  · exact ⟨v', _, _, k1, k5, QX.toY hL k2, hrow, Or.inl ⟨k4, rfl⟩⟩
  · refine ⟨v', _, _, k1, k5, QX.toY hL k2, hrow, Or.inr ⟨k4, rfl, ?_, ?_⟩⟩
    · rw [setL_w, setL_iv]; exact k6
    · rw [setL_w, setL_iv]
      exact (STL.sm hL hlm k4 k6 k3).congr hL hlm rfl rfl rfl rfl (fun _ _ => rfl) (fun l hl => setL_o (by omega) (by omega))
theorem run_L {r : RS} {g g' : CG} {sm lm cm n : Nat} {cc : RS} (hg : g.nt < 2 ^ 31) (hn : n ≤ 2000) : ∀ (d y fu fu2 B U : Nat) (v : Nat → Int32) (c : RS), y + d = n → d < fu → d < fu2 → QY c g 0 v sm lm cm B U → B + d < 2000000000 → U + d < 2000000000 → ∃ v' c', F8_run_L25 (nI n) fu (nI y) (setR r v) = some (nI n, setR r v') ∧ C7_run_L14 (nI n) (g, cc) fu2 (nI y) c = some (nI n, c') ∧ QY c' g 0 v' sm lm cm (B + d) (U + d) ∧ (∀ R, ¬ OWN 0 R → c' R = c R) := by
  intro d
  induction d with
  | zero =>
    intro y fu fu2 B U v c hy hfu hfu2 h hB hU
    obtain ⟨fu, rfl⟩ : ∃ m, fu = m + 1 := ⟨fu - 1, by omega⟩
    obtain ⟨fu2, rfl⟩ : ∃ m, fu2 = m + 1 := ⟨fu2 - 1, by omega⟩
    obtain rfl : y = n := by omega
    rw [F8_run_L25, C7_run_L14, if_pos (nI_le (by omega) (by omega)), if_pos (nI_le (by omega) (by omega))]
    exact ⟨v, c, rfl, rfl, h, fun _ _ => rfl⟩
  | succ d ih =>
    intro y fu fu2 B U v c hy hfu hfu2 h hB hU
    obtain ⟨fu, rfl⟩ : ∃ m, fu = m + 1 := ⟨fu - 1, by omega⟩
    obtain ⟨fu2, rfl⟩ : ∃ m, fu2 = m + 1 := ⟨fu2 - 1, by omega⟩
    obtain ⟨v1, c1, m, k1, k2, k3, k4, -⟩ := tickY (r := r) (by omega : 0 < 12) hg h (by omega) (by omega)
    obtain ⟨v2, c2, j1, j2, j3, j4⟩ := ih (y + 1) fu fu2 (B + 1) (U + 1) v1 c1 (by omega) (by omega) (by omega) k3 (by omega) (by omega)
    rw [F8_run_L25, C7_run_L14, if_neg (nI_ge (by omega) (by omega)), if_neg (nI_ge (by omega) (by omega)), k1, bS]
    simp only [lit32]
    rw [k2, bS, nI_add]
    exact ⟨v2, c2, j1, j2, by rw [show B + (d + 1) = B + 1 + d by omega, show U + (d + 1) = U + 1 + d by omega]; exact j3, fun R hR => (j4 R hR).trans (k4 R hR)⟩
theorem GI.line' {r c c' : RS} {g : CG} {B B2 T sm lm cm : Nat} {v' : Nat → Int32} (h : GI r c g B T) (hc : ∀ R, ¬ OWN 0 R → c' R = c R) (hq : QY c' g 0 v' sm lm cm B2 B2) (hB : B ≤ B2) : GI (setR r v') c' g B2 T := by
  have := h.line hc hq hB
  rw [← cL (L := 0)] at this
  exact this
theorem a_run {r c : RS} {g : CG} {B T : Nat} {a : Int32} (h : GI r c g B T) (hT : T < 2 ^ 31) (hB : B + 2000 < 2000000000) : AT (F8_run r a) (C7_run g c a) r 1 (B + 2000) T := by
  unfold F8_run C7_run
  simp only [lit32]
  rcases argR (a := a) (lo := 1) (hi := 2000) (by omega) (by omega) (l := 1) (h := 2000) rfl rfl with ⟨k, k1, k2, rfl, k3, k4⟩ | ⟨k3, k4, k5⟩
  · obtain ⟨sm, lm, cm, h0⟩ := (h.thr (k := 0)).l
    obtain ⟨r2, c2, g2, e1, e2, e3, e4, e5⟩ := keeps_ok h.thr h0
    rw [k3, k4, isThrown_1, bS, bS, trR]
    simp only [if_true]
    obtain ⟨v', c', j1, j2, j3, j4⟩ := run_L (r := r2) (g' := g2) (cc := c2) (Nat.lt_of_le_of_lt e3.n hT) k2 k 0 FUEL FUEL B B (r2 1) c2 (by omega) (by show k < 10000; omega) (by show k < 10000; omega) e4 (by omega) (by omega)
    rw [← setR_self] at j1
    have hl : setR r2 v' 1 10 = c' (400 + 0) 3 := by
      rw [setR_1, sA_r (v := v') (by omega), j3.n.nl]
    rw [e1, bS, j1, bS, e2, bS, j2, bS]
    dsimp only
    rw [hl]
    have j3' : QY c' g2 0 v' sm lm cm (B + 2000) (B + 2000) := j3.mono (by omega) (by omega) (by omega)
    exact Or.inl ⟨_, _, _, _, rfl, rfl, e3.line' j4 j3' (by omega), setR0.trans e5.t⟩
  · rw [k3, k4, isThrown_0, bS, bS, trL]
    refine Or.inr ⟨1, by omega, by omega, ?_, rfl⟩
    simp only [nz0, if_false]
theorem toLeave_L {r r4 : RS} {g : CG} {sm lm cm n : Nat} {c4 : RS} (hg : g.nt < 2 ^ 31) (hn : n ≤ 2000) (h4 : r4 1 10 = c4 (400 + 0) 3) : ∀ (d y fu fu2 B U : Nat) (v : Nat → Int32) (c : RS), y + d = n + 1 → d < fu → d < fu2 → QY c g 0 v sm lm cm B U → B + d < 2000000000 → U + d < 2000000000 → ∃ v' c' b b2, QY c' g 0 v' sm lm cm (B + d) (U + d) ∧ (∀ R, ¬ OWN 0 R → c' R = c R) ∧
    ((F8_runToLeave_L33 r4 (nI n) fu (nI y) (setR r v) = some (.inl (b, setR r v')) ∧ C7_runToLeave_L24 (g, c4) (nI n) fu2 (nI y) c = some (.inl (.inr (b, g, c')))) ∨ (F8_runToLeave_L33 r4 (nI n) fu (nI y) (setR r v) = some (.inr (b2, setR r v')) ∧ C7_runToLeave_L24 (g, c4) (nI n) fu2 (nI y) c = some (.inr (b2, c')))) := by
  intro d
  induction d with
  | zero =>
    intro y fu fu2 B U v c hy hfu hfu2 h hB hU
    obtain ⟨fu, rfl⟩ : ∃ m, fu = m + 1 := ⟨fu - 1, by omega⟩
    obtain ⟨fu2, rfl⟩ : ∃ m, fu2 = m + 1 := ⟨fu2 - 1, by omega⟩
    rw [F8_runToLeave_L33, C7_runToLeave_L24, if_pos (nI_lt (by omega) (by omega)), if_pos (nI_lt (by omega) (by omega))]
    exact ⟨v, c, nI y, nI y, h, fun _ _ => rfl, Or.inr ⟨rfl, rfl⟩⟩
  | succ d ih =>
    intro y fu fu2 B U v c hy hfu hfu2 h hB hU
    obtain ⟨fu, rfl⟩ : ∃ m, fu = m + 1 := ⟨fu - 1, by omega⟩
    obtain ⟨fu2, rfl⟩ : ∃ m, fu2 = m + 1 := ⟨fu2 - 1, by omega⟩
    obtain ⟨v1, c1, m, k1, k2, k3, k4, -⟩ := tickY (r := r) (by omega : 0 < 12) hg h (by omega) (by omega)
    have hl : setR r v1 1 10 = c1 (400 + 0) 3 := by
      rw [setR_1, sA_r (v := v1) (by omega), k3.n.nl]
    rw [F8_runToLeave_L33, C7_runToLeave_L24, if_neg (nI_nlt (by omega) (by omega)), if_neg (nI_nlt (by omega) (by omega)), k1, bS]
    simp only [lit32]
    rw [k2, bS, nI_add, hl, h4]
    dsimp only
    by_cases q : c1 (400 + 0) 3 ≤ c4 (400 + 0) 3
    · rw [if_pos q, if_pos q]
      obtain ⟨v2, c2, b, b2, j1, j2, j3⟩ := ih (y + 1) fu fu2 (B + 1) (U + 1) v1 c1 (by omega) (by omega) (by omega) k3 (by omega) (by omega)
      exact ⟨v2, c2, b, b2, by rw [show B + (d + 1) = B + 1 + d by omega, show U + (d + 1) = U + 1 + d by omega]; exact j1, fun R hR => (j2 R hR).trans (k4 R hR), j3⟩
    · rw [if_neg q, if_neg q]
      exact ⟨v1, c1, nI y, nI y, k3.mono (by omega) (by omega) (by omega), k4, Or.inl ⟨rfl, rfl⟩⟩
theorem a_runToLeave {r c : RS} {g : CG} {B T : Nat} {a : Int32} (h : GI r c g B T) (hT : T < 2 ^ 31) (hB : B + 2000 < 2000000000) : AT (F8_runToLeave r a) (C7_runToLeave g c a) r 1 (B + 2000) T := by
  unfold F8_runToLeave C7_runToLeave
  simp only [lit32, neg1]
  rcases argR (a := a) (lo := 1) (hi := 2000) (by omega) (by omega) (l := 1) (h := 2000) rfl rfl with ⟨k, k1, k2, rfl, k3, k4⟩ | ⟨k3, k4, k5⟩
  · obtain ⟨sm, lm, cm, h0⟩ := (h.thr (k := 0)).l
    obtain ⟨r2, c2, g2, e1, e2, e3, e4, e5⟩ := keeps_ok h.thr h0
    have h4 : r2 1 10 = c2 (400 + 0) 3 := by rw [sA_r (v := r2 1) (by omega), e4.n.nl]
    rw [k3, k4, isThrown_1, bS, bS, trR]
    simp only [if_true]
    obtain ⟨v', c', b, b2, j3, j4, j5⟩ := toLeave_L (r := r2) (Nat.lt_of_le_of_lt e3.n hT) k2 h4 k 1 FUEL FUEL B B (r2 1) c2 (by omega) (by show k < 10000; omega) (by show k < 10000; omega) e4 (by omega) (by omega)
    rw [← setR_self] at j5
    have j3' : QY c' g2 0 v' sm lm cm (B + 2000) (B + 2000) := j3.mono (by omega) (by omega) (by omega)
    rw [e1, bS, e2, bS]
    dsimp only
    rcases j5 with ⟨j1, j2⟩ | ⟨j1, j2⟩
    · rw [j1, bS, j2, bS]
      exact Or.inl ⟨_, _, _, _, rfl, rfl, e3.line' j4 j3' (by omega), setR0.trans e5.t⟩
    · rw [j1, bS, j2, bS]
      exact Or.inl ⟨m1, setR r2 v', c', g2, rfl, rfl, e3.line' j4 j3' (by omega), setR0.trans e5.t⟩
  · rw [k3, k4, isThrown_0, bS, bS, trL]
    refine Or.inr ⟨1, by omega, by omega, ?_, rfl⟩
    simp only [nz0, if_false]
end
section
noncomputable def gUn (hap : RS → Option Int32) (L : Nat) (a4 : Int32) (g : CG) : Nat → Int32 → RS → Option (Sum (Int32 × RS) (Int32 × RS))
  | 0, _, _ => none
  | m + 1, y1, u2 => if a4 < y1 then (some (.inr (y1, u2))) else ((hap u2).bind fun x11 => if x11 = 0 then (if y1 = a4 then (some (.inl ((-1 : Int32), u2))) else ((C3_tick g u2 L).bind fun t15 => if (t15.1) = 0 then (some (.inl ((-1 : Int32), (t15.2)))) else (gUn hap L a4 g m ((y1 + 1)) (t15.2)))) else (some (.inl (y1, u2))))
theorem gUn_0 {L : Nat} {a3 a4 : Int32} {g : CG} : ∀ (m : Nat) (y : Int32) (u : RS), C7_ticksUntil_e0_L3 L a3 a4 g m y u = gUn (fun u2 => C3_hasHappened_e0 g u2 L a3) L a4 g m y u := by
  intro m
  induction m with
  | zero => intro y u; rfl
  | succ m ih => intro y u; rw [C7_ticksUntil_e0_L3, gUn]; simp only [ih]
theorem gUn_1 {L : Nat} {a3 a4 : Int32} {g : CG} : ∀ (m : Nat) (y : Int32) (u : RS), C7_ticksUntil_e1_L3 L a3 a4 g m y u = gUn (fun u2 => C3_hasHappened_e1 g u2 L a3) L a4 g m y u := by
  intro m
  induction m with
  | zero => intro y u; rfl
  | succ m ih => intro y u; rw [C7_ticksUntil_e1_L3, gUn]; simp only [ih]
theorem gUn_2 {L : Nat} {a3 a4 : Int32} {g : CG} : ∀ (m : Nat) (y : Int32) (u : RS), C7_ticksUntil_e2_L3 L a3 a4 g m y u = gUn (fun u2 => C3_hasHappened_e2 g u2 L a3) L a4 g m y u := by
  intro m
  induction m with
  | zero => intro y u; rfl
  | succ m ih => intro y u; rw [C7_ticksUntil_e2_L3, gUn]; simp only [ih]
theorem gUn_3 {L : Nat} {a3 a4 : Int32} {g : CG} : ∀ (m : Nat) (y : Int32) (u : RS), C7_ticksUntil_e3_L3 L a3 a4 g m y u = gUn (fun u2 => C3_hasHappened_e3 g u2 L a3) L a4 g m y u := by
  intro m
  induction m with
  | zero => intro y u; rfl
  | succ m ih => intro y u; rw [C7_ticksUntil_e3_L3, gUn]; simp only [ih]
theorem gUn_4 {L : Nat} {a3 a4 : Int32} {g : CG} : ∀ (m : Nat) (y : Int32) (u : RS), C7_ticksUntil_e4_L3 L a3 a4 g m y u = gUn (fun u2 => C3_hasHappened_e4 g u2 L a3) L a4 g m y u := by
  intro m
  induction m with
  | zero => intro y u; rfl
  | succ m ih => intro y u; rw [C7_ticksUntil_e4_L3, gUn]; simp only [ih]
noncomputable def MET (met hap : RS → Option Int32) (r : RS) (g : CG) (sm lm cm : Nat) : Prop := ∀ v c B U, QY c g 1 v sm lm cm B U → (met (setR r v) = some (nI 0) ∧ hap c = some (nI 0)) ∨ (met (setR r v) = some (nI 1) ∧ hap c = some (nI 1))
noncomputable def MSM (met : RS → Option Int32) (r : RS) (g : CG) (sm lm cm : Nat) : Prop := ∀ (v : Nat → Int32) (c : RS) (B U : Nat) (v2 : Nat → Int32) (c2 : RS), QY c g 1 v sm lm cm B U → SM v (c (10 + 1)) (c (400 + 1)) v2 (c2 (10 + 1)) (c2 (400 + 1)) → met (setR r v) = some (nI 0) → met (setR r v2) = some (nI 0)
theorem goes_i {t2 a1 a2 : Int32} {fu y : Nat} {u : RS} (hy : y ≤ 2000) (h : F8_isMet u a1 a2 t2 = some (nI 1)) : F8_goes_L19 t2 a1 a2 (fu + 1) (nI y) u = some (.inl (nI y, u)) := by
  rw [F8_goes_L19]
  simp only [lit32]
  rw [if_neg (nI_nlt hy (by omega)), h, bS, if_neg nz0]
theorem goes_n {t2 a1 a2 : Int32} {fu y : Nat} {u u2 : RS} (hy : y < 2000) (h : F8_isMet u a1 a2 t2 = some (nI 0)) (hp : F8_passes u = some u2) : F8_goes_L19 t2 a1 a2 (fu + 1) (nI y) u = F8_goes_L19 t2 a1 a2 fu (nI (y + 1)) u2 := by
  rw [F8_goes_L19]
  simp only [lit32]
  rw [if_neg (nI_nlt (by omega) (by omega)), h, bS, if_pos rfl, if_neg (nI_ge (by omega) (by omega)), hp, bS, bS, nI_add]
theorem goes_e {t2 a1 a2 : Int32} {fu : Nat} {u : RS} (h : F8_isMet u a1 a2 t2 = some (nI 0)) : F8_goes_L19 t2 a1 a2 (fu + 1) (nI 2000) u = F8_goes_L19 t2 a1 a2 fu (nI 2001) u := by
  rw [F8_goes_L19]
  simp only [lit32]
  rw [if_neg (nI_nlt (by omega) (by omega)), h, bS, if_pos rfl, if_pos (nI_le (by omega) (by omega)), bS, nI_add]
theorem goes_z {t2 a1 a2 : Int32} {fu : Nat} {u : RS} : F8_goes_L19 t2 a1 a2 (fu + 1) (nI 2001) u = some (.inr (nI 2001, u)) := by
  rw [F8_goes_L19]
  simp only [lit32]
  rw [if_pos (nI_lt (by omega) (by omega))]
theorem still_F {r : RS} {g : CG} {sm lm cm : Nat} {t2 a1 a2 : Int32} (hg : g.nt < 2 ^ 31) (hm : MSM (fun u => F8_isMet u a1 a2 t2) r g sm lm cm) : ∀ (d y fu B U : Nat) (v : Nat → Int32) (c : RS), y + d = 2001 → d < fu → QY c g 1 v sm lm cm B U → B + d < 2000000000 → U + d < 2000000000 → STL c g 1 sm lm cm (c (10 + 1)) (c (400 + 1)) → F8_isMet (setR r v) a1 a2 t2 = some (nI 0) → ∃ v', F8_goes_L19 t2 a1 a2 fu (nI y) (setR r v) = some (.inr (nI 2001, setR r v')) := by
  intro d
  induction d with
  | zero =>
    intro y fu B U v c hy hfu h hB hU hs h0
    obtain ⟨fu, rfl⟩ : ∃ m, fu = m + 1 := ⟨fu - 1, by omega⟩
    obtain rfl : y = 2001 := by omega
    exact ⟨v, goes_z⟩
  | succ d ih =>
    intro y fu B U v c hy hfu h hB hU hs h0
    obtain ⟨fu, rfl⟩ : ∃ m, fu = m + 1 := ⟨fu - 1, by omega⟩
    by_cases hy2 : y = 2000
    · subst hy2
      obtain ⟨fu, rfl⟩ : ∃ m, fu = m + 1 := ⟨fu - 1, by omega⟩
      rw [goes_e h0]
      exact ⟨v, goes_z⟩
    · obtain ⟨v1, c1, m, k1, k2, k3, k4, k5⟩ := tickY (r := r) (by omega : 1 < 12) hg h (by omega) (by omega)
      rcases k5 with ⟨k5, -⟩ | ⟨-, -, k6, k7⟩
      · exact absurd hs k5
      · rw [goes_n (by omega) h0 k1]
        exact ih (y + 1) fu (B + 1) (U + 1) v1 c1 (by omega) (by omega) k3 (by omega) (by omega) k7 (hm v c B U v1 c1 h k6 h0)
noncomputable def FRM (c c' : RS) (g : CG) : Prop := (∀ R, ¬ OWN 1 R → c' R = c R) ∧ TIr (c' (10 + 1)) g.nt
theorem pred_L {r : RS} {g : CG} {sm lm cm lim : Nat} {t2 a1 a2 : Int32} {hap : RS → Option Int32} (hg : g.nt < 2 ^ 31) (hlim : lim ≤ 2000) (hm : MET (fun u => F8_isMet u a1 a2 t2) hap r g sm lm cm) (hs : MSM (fun u => F8_isMet u a1 a2 t2) r g sm lm cm) : ∀ (d y fu fu2 B U : Nat) (v : Nat → Int32) (c : RS), y + d = 2001 → d < fu → d < fu2 → QY c g 1 v sm lm cm B U → B + d < 2000000000 → U + d < 2000000000 →
    ∃ v', (∃ k, y ≤ k ∧ k ≤ 2000 ∧ F8_goes_L19 t2 a1 a2 fu (nI y) (setR r v) = some (.inl (nI k, setR r v')) ∧ (y ≤ lim → ∃ c', gUn hap 1 (nI lim) g fu2 (nI y) c = some (.inl (if k ≤ lim then nI k else m1, c')) ∧ FRM c c' g)) ∨ (F8_goes_L19 t2 a1 a2 fu (nI y) (setR r v) = some (.inr (nI 2001, setR r v')) ∧ (y ≤ lim → ∃ c', gUn hap 1 (nI lim) g fu2 (nI y) c = some (.inl (m1, c')) ∧ FRM c c' g)) := by
  intro d
  induction d with
  | zero =>
    intro y fu fu2 B U v c hy hfu hfu2 h hB hU
    obtain ⟨fu, rfl⟩ : ∃ m, fu = m + 1 := ⟨fu - 1, by omega⟩
    obtain rfl : y = 2001 := by omega
    exact ⟨v, Or.inr ⟨goes_z, fun q => by omega⟩⟩
  | succ d ih =>
    intro y fu fu2 B U v c hy hfu hfu2 h hB hU
    obtain ⟨fu, rfl⟩ : ∃ m, fu = m + 1 := ⟨fu - 1, by omega⟩
    obtain ⟨fu2, rfl⟩ : ∃ m, fu2 = m + 1 := ⟨fu2 - 1, by omega⟩
    have fr0 : FRM c c g := ⟨fun _ _ => rfl, h.tir⟩
    rcases hm v c B U h with ⟨m0, h0⟩ | ⟨m0, h0⟩
    · by_cases hy2 : y = 2000
      · subst hy2
        obtain ⟨fu, rfl⟩ : ∃ m, fu = m + 1 := ⟨fu - 1, by omega⟩
        refine ⟨v, Or.inr ⟨by rw [goes_e m0]; exact goes_z, fun q => ⟨c, ?_, fr0⟩⟩⟩
        obtain rfl : lim = 2000 := by omega
        rw [gUn]
        simp only [lit32, neg1]
        rw [if_neg (nI_nlt (by omega) (by omega)), h0, bS, if_pos rfl, if_pos trivial]
      · obtain ⟨v1, c1, m, k1, k2, k3, k4, k5⟩ := tickY (r := r) (by omega : 1 < 12) hg h (by omega) (by omega)
        have hF := goes_n (t2 := t2) (a1 := a1) (a2 := a2) (fu := fu) (y := y) (by omega) m0 k1
        rcases k5 with ⟨k5, rfl⟩ | ⟨k5, rfl, k6, k7⟩
        · obtain ⟨v2, hv2⟩ := ih (y + 1) fu fu2 (B + 1) (U + 1) v1 c1 (by omega) (by omega) (by omega) k3 (by omega) (by omega)
          rw [hF]
          have hC : y < lim → gUn hap 1 (nI lim) g (fu2 + 1) (nI y) c = gUn hap 1 (nI lim) g fu2 (nI (y + 1)) c1 := fun q => by
            rw [gUn]
            simp only [lit32, neg1]
            rw [if_neg (nI_nlt (by omega) (by omega)), h0, bS, if_pos rfl, if_neg (nI_ne (by omega) (by omega) (by omega)), k2, bS, if_neg nz0, nI_add]
          have hE : y = lim → gUn hap 1 (nI lim) g (fu2 + 1) (nI y) c = some (.inl (m1, c)) := fun q => by
            rw [gUn]
            simp only [lit32, neg1]
            rw [if_neg (nI_nlt (by omega) (by omega)), h0, bS, if_pos rfl, if_pos (by rw [q])]
          rcases hv2 with ⟨k, q1, q2, q3, q4⟩ | ⟨q3, q4⟩
          · refine ⟨v2, Or.inl ⟨k, by omega, q2, q3, fun hl => ?_⟩⟩
            by_cases e : y = lim
            · exact ⟨c, by rw [hE e, if_neg (by omega)], fr0⟩
            · obtain ⟨c', j1, j2⟩ := q4 (by omega)
              exact ⟨c', by rw [hC (by omega)]; exact j1, fun R hR => (j2.1 R hR).trans (k4 R hR), j2.2⟩
          · refine ⟨v2, Or.inr ⟨q3, fun hl => ?_⟩⟩
            by_cases e : y = lim
            · exact ⟨c, hE e, fr0⟩
            · obtain ⟨c', j1, j2⟩ := q4 (by omega)
              exact ⟨c', by rw [hC (by omega)]; exact j1, fun R hR => (j2.1 R hR).trans (k4 R hR), j2.2⟩
        · obtain ⟨v2, hv2⟩ := still_F hg hs d (y + 1) fu (B + 1) (U + 1) v1 c1 (by omega) (by omega) k3 (by omega) (by omega) k7 (hs v c B U v1 c1 h k6 m0)
          refine ⟨v2, Or.inr ⟨hF.trans hv2, fun hl => ?_⟩⟩
          by_cases e : y = lim
          · refine ⟨c, ?_, fr0⟩
            rw [gUn]
            simp only [lit32, neg1]
            rw [if_neg (nI_nlt (by omega) (by omega)), h0, bS, if_pos rfl, if_pos (by rw [e])]
          · refine ⟨c1, ?_, k4, k3.tir⟩
            rw [gUn]
            simp only [lit32, neg1]
            rw [if_neg (nI_nlt (by omega) (by omega)), h0, bS, if_pos rfl, if_neg (nI_ne e (by omega) (by omega)), k2, bS, if_pos rfl]
    · refine ⟨v, Or.inl ⟨y, Nat.le_refl y, by omega, goes_i (by omega) m0, fun hl => ⟨c, ?_, fr0⟩⟩⟩
      rw [gUn]
      simp only [lit32, neg1]
      rw [if_neg (nI_nlt (by omega) (by omega)), h0, bS, if_neg nz0, if_pos hl]
theorem cnt_add {n : Nat} {p q s : Nat → Bool} (h : ∀ i, i < n → (p i = true → s i = true) ∧ (q i = true → s i = true) ∧ ¬ (p i = true ∧ q i = true)) : cnt n p + cnt n q ≤ cnt n s ∧ (cnt n p + cnt n q = cnt n s ↔ ∀ i, i < n → s i = true → p i = true ∨ q i = true) := by
  induction n with
  | zero => exact ⟨Nat.le_refl _, fun _ i hi => by omega, fun _ => rfl⟩
  | succ n ih =>
    obtain ⟨a1, a2⟩ := ih fun i hi => h i (by omega)
    obtain ⟨b1, b2, b3⟩ := h n (by omega)
    unfold cnt
    have key : ((∀ i, i < n + 1 → s i = true → p i = true ∨ q i = true) ↔ ((∀ i, i < n → s i = true → p i = true ∨ q i = true) ∧ (s n = true → p n = true ∨ q n = true))) := by
      constructor
      · intro f; exact ⟨fun i hi => f i (by omega), f n (by omega)⟩
      · intro f i hi
        by_cases e : i = n
        · rw [e]; exact f.2
        · exact f.1 i (by omega)
    rw [key]
    cases hp : p n <;> cases hq : q n <;> cases hs : s n <;> simp [hp, hq, hs] at b1 b2 b3 ⊢
    all_goals (constructor)
    all_goals (first | omega | (rw [← a2]; omega))
theorem fin_d {wc : Nat → Nat → Int32} {c : Nat} : ¬ (stC wc 3 c = true ∧ stC wc 4 c = true) := by
  unfold stC
  rintro ⟨a, b⟩
  exact nI_ne (a := 3) (b := 4) (by omega) (by omega) (by omega) ((of_decide_eq_true a).symm.trans (of_decide_eq_true b))
theorem are_L {r : RS} {v : Nat → Int32} {cm : Nat} {a : Int32} (hcm : cm ≤ 30) (h9 : v 9 = nI cm) (hs : ∀ k, k < cm → ∃ a, a < 5 ∧ v (137 + 25 * k + 3) = nI a) : ∀ (d y fu : Nat), y + d = cm → d < fu → (∀ k, k < y → (a = m1 ∨ v (137 + 25 * k + 0) = a) → fin (sC v) k) →
    ((∀ k, k < cm → (a = m1 ∨ v (137 + 25 * k + 0) = a) → fin (sC v) k) ∧ F8_areFinished_L2 a (setR r v) fu (nI y) = some (.inr (nI cm))) ∨ ((∃ k, k < cm ∧ (a = m1 ∨ v (137 + 25 * k + 0) = a) ∧ ¬ fin (sC v) k) ∧ F8_areFinished_L2 a (setR r v) fu (nI y) = some (.inl (nI 0))) := by
  intro d
  induction d with
  | zero =>
    intro y fu hy hfu hn
    obtain ⟨fu, rfl⟩ : ∃ m, fu = m + 1 := ⟨fu - 1, by omega⟩
    obtain rfl : y = cm := by omega
    refine Or.inl ⟨hn, ?_⟩
    rw [F8_areFinished_L2, setR_1, h9, if_pos (nI_le (by omega) (by omega))]
  | succ d ih =>
    intro y fu hy hfu hn
    obtain ⟨fu, rfl⟩ : ∃ m, fu = m + 1 := ⟨fu - 1, by omega⟩
    obtain ⟨b, b1, b2⟩ := hs y (by omega)
    have b3 : sC v y 3 = nI b := by rw [← sC_r (v := v) (by omega) (by omega)]; exact b2
    have fb : fin (sC v) y ↔ 3 ≤ b := by
      unfold fin
      rw [b3, nI_eq (by omega) (by omega), nI_eq (by omega) (by omega)]; omega
    have go : (a = m1 ∨ v (137 + 25 * y + 0) = a) → (F8_isFinished (setR r v) (nI y)).bind (fun x12 => if x12 = nI 0 then (some (.inl (nI 0))) else (F8_areFinished_L2 a (setR r v) fu (nI (y + 1)))) = F8_areFinished_L2 a (setR r v) (fu + 1) (nI y) → ((∀ k, k < cm → (a = m1 ∨ v (137 + 25 * k + 0) = a) → fin (sC v) k) ∧ F8_areFinished_L2 a (setR r v) (fu + 1) (nI y) = some (.inr (nI cm))) ∨ ((∃ k, k < cm ∧ (a = m1 ∨ v (137 + 25 * k + 0) = a) ∧ ¬ fin (sC v) k) ∧ F8_areFinished_L2 a (setR r v) (fu + 1) (nI y) = some (.inl (nI 0))) := fun hc e => by
      rw [← e, isFin_v (by omega) b1 b2, bS]
      by_cases hb : b < 3
      · rw [if_pos hb, if_pos rfl]
        exact Or.inr ⟨⟨y, by omega, hc, fun f => by have := fb.mp f; omega⟩, rfl⟩
      · rw [if_neg hb, if_neg nz0]
        exact ih (y + 1) fu (by omega) (by omega) fun k hk hk2 => by
          by_cases ek : k = y
          · rw [ek]; exact fb.mpr (by omega)
          · exact hn k (by omega) hk2
    by_cases hm : a = m1
    · refine go (Or.inl hm) ?_
      rw [F8_areFinished_L2]
      simp only [lit32, neg1]
      rw [setR_1, h9, if_neg (nI_ge (by omega) (by omega)), if_pos hm, nI_add]
    · by_cases hl : v (137 + 25 * y + 0) = a
      · refine go (Or.inr hl) ?_
        rw [F8_areFinished_L2]
        simp only [lit32, neg1]
        rw [setR_1, h9, if_neg (nI_ge (by omega) (by omega)), if_neg hm, F8_ofCard_v (by omega) (by omega), bS, if_pos hl, nI_add]
      · rw [F8_areFinished_L2]
        simp only [lit32, neg1]
        rw [setR_1, h9, if_neg (nI_ge (by omega) (by omega)), if_neg hm, F8_ofCard_v (by omega) (by omega), bS, if_neg hl, nI_add]
        exact ih (y + 1) fu (by omega) (by omega) fun k hk hk2 => by
          by_cases ek : k = y
          · rw [ek] at hk2
            rcases hk2 with q | q
            · exact absurd q hm
            · exact absurd q hl
          · exact hn k (by omega) hk2
theorem are_ok {r c : RS} {g : CG} {L sm lm cm B U : Nat} {v : Nat → Int32} {a : Int32} (h : QY c g L v sm lm cm B U) : ((∀ k, k < cm → (a = m1 ∨ v (137 + 25 * k + 0) = a) → fin (sC v) k) ∧ F8_areFinished (setR r v) a = some (nI 1)) ∨ ((∃ k, k < cm ∧ (a = m1 ∨ v (137 + 25 * k + 0) = a) ∧ ¬ fin (sC v) k) ∧ F8_areFinished (setR r v) a = some (nI 0)) := by
  have hcm := h.a.cm30
  have := are_L (r := r) (v := v) (a := a) hcm h.v9 (fun k hk => by
    obtain ⟨b, b1, b2⟩ := h.c.state k hk
    exact ⟨b, b1, by rw [QR.rc h hk (by omega) (by omega), sC_r (v := c (10 + L)) (by omega) (by omega)]; exact b2⟩) cm 0 FUEL (by omega) (by show cm < 10000; omega) (fun k hk => by omega)
  unfold F8_areFinished
  simp only [lit32]
  rcases this with ⟨a1, a2⟩ | ⟨a1, a2⟩
  · exact Or.inl ⟨a1, by rw [a2, bS]⟩
  · exact Or.inr ⟨a1, by rw [a2, bS]⟩
theorem are_sm {r c c2 : RS} {g : CG} {sm lm cm B U : Nat} {v v2 : Nat → Int32} {a : Int32} (h : QY c g 1 v sm lm cm B U) (k : SM v (c (10 + 1)) (c (400 + 1)) v2 (c2 (10 + 1)) (c2 (400 + 1))) : F8_areFinished (setR r v2) a = F8_areFinished (setR r v) a := by
  have hcm := h.a.cm30
  have h9 : v2 9 = v 9 := k.2.2.2.2.2.2.2.1 9 (by omega) (by omega) (by omega) (by omega)
  have hC : ∀ q j, q < 30 → j < 25 → v2 (137 + 25 * q + j) = v (137 + 25 * q + j) := fun q j a b => by rw [sC_r (v := v2) a b, sC_r (v := v) a b, k.2.2.2.1]
  have hL : ∀ (d y fu : Nat), y + d = cm → F8_areFinished_L2 a (setR r v2) fu (nI y) = F8_areFinished_L2 a (setR r v) fu (nI y) := by
    intro d
    induction d with
    | zero =>
      intro y fu hy
      cases fu with
      | zero => rfl
      | succ fu =>
        rw [F8_areFinished_L2, F8_areFinished_L2, setR_1, setR_1, h9, h.v9, if_pos (nI_le (by omega) (by omega)), if_pos (nI_le (by omega) (by omega))]
    | succ d ih =>
      intro y fu hy
      cases fu with
      | zero => rfl
      | succ fu =>
        rw [F8_areFinished_L2, F8_areFinished_L2]
        unfold F8_isFinished
        simp only [lit32, neg1]
        rw [setR_1, setR_1, h9, h.v9, if_neg (nI_ge (by omega) (by omega)), if_neg (nI_ge (by omega) (by omega)), F8_ofCard_v (by omega) (by omega), F8_ofCard_v (by omega) (by omega), F8_ofCard_v (by omega) (by omega), F8_ofCard_v (by omega) (by omega), hC y 3 (by omega) (by omega), hC y 0 (by omega) (by omega), nI_add, ih (y + 1) fu (by omega)]
  unfold F8_areFinished
  simp only [lit32]
  rw [hL cm 0 FUEL (by omega)]
theorem fin_v {c : RS} {g : CG} {L sm lm cm B U k : Nat} {v : Nat → Int32} (h : QY c g L v sm lm cm B U) (hk : k < cm) : fin (sC v) k ↔ fin (sC (c (10 + L))) k := by
  unfold fin; rw [h.c.eqc k 3 hk (by omega) (by omega)]
theorem cnt_true {n : Nat} : cnt n (fun _ => true) = n := by
  induction n with
  | zero => rfl
  | succ n ih => unfold cnt; rw [ih]; rfl
theorem fin_st {wc : Nat → Nat → Int32} {k : Nat} : fin wc k ↔ stC wc 3 k = true ∨ stC wc 4 k = true := by
  unfold fin stC; rw [decide_eq_true_iff, decide_eq_true_iff]
theorem met_2 {r : RS} {g : CG} {sm lm cm : Nat} {t : Int32} : MET (fun u => F8_isMet u (nI 2) m1 t) (fun u2 => C3_hasHappened_e2 g u2 1 m1) r g sm lm cm := by
  intro v c B U h
  have hcm := h.a.cm30
  obtain ⟨b1, b2⟩ := cnt_add (n := cm) (p := stC (sC (c (10 + 1))) 3) (q := stC (sC (c (10 + 1))) 4) (s := fun _ => true) (fun i _ => ⟨fun _ => rfl, fun _ => rfl, fin_d⟩)
  rw [cnt_true] at b1 b2
  have eC : C3_hasHappened_e2 g c 1 m1 = some (if cnt cm (stC (sC (c (10 + 1))) 3) + cnt cm (stC (sC (c (10 + 1))) 4) = cm then nI 1 else nI 0) := by
    unfold C3_hasHappened_e2
    simp only [lit32]
    rw [h.n.ins 3 (by omega), h.n.ins 4 (by omega), nI_add, h.n9]
    by_cases e : cnt cm (stC (sC (c (10 + 1))) 3) + cnt cm (stC (sC (c (10 + 1))) 4) = cm
    · rw [if_pos (congrArg nI e), if_pos e, bS, nz_1, bS]
    · rw [if_neg (nI_ne e (by omega) (by omega)), if_neg e, bS, nz_0, bS]
  have eF : F8_isMet (setR r v) (nI 2) m1 t = F8_areFinished (setR r v) m1 := by
    unfold F8_isMet
    simp only [lit32, neg1]
    rw [if_neg (nI_ne (by omega) (by omega) (by omega)), if_neg (nI_ne (by omega) (by omega) (by omega)), if_pos trivial]
    rcases are_ok (r := r) (a := m1) h with ⟨-, e⟩ | ⟨-, e⟩
    · rw [e, bS, nz_1, bS]
    · rw [e, bS, nz_0, bS]
  show (F8_isMet (setR r v) (nI 2) m1 t = _ ∧ C3_hasHappened_e2 g c 1 m1 = _) ∨ (F8_isMet (setR r v) (nI 2) m1 t = _ ∧ C3_hasHappened_e2 g c 1 m1 = _)
  rw [eF, eC]
  rcases are_ok (r := r) (a := m1) h with ⟨f, e⟩ | ⟨⟨k, k1, k2, k3⟩, e⟩
  · refine Or.inr ⟨e, ?_⟩
    rw [if_pos (b2.mpr fun i hi _ => fin_st.mp ((fin_v h hi).mp (f i hi (Or.inl rfl))))]
  · refine Or.inl ⟨e, ?_⟩
    rw [if_neg fun q => k3 ((fin_v h k1).mpr (fin_st.mpr (b2.mp q k k1 rfl)))]
theorem msm_2 {r : RS} {g : CG} {sm lm cm : Nat} {t : Int32} : MSM (fun u => F8_isMet u (nI 2) m1 t) r g sm lm cm := by
  intro v c B U v2 c2 h k e
  have := are_sm (r := r) (a := m1) (c2 := c2) h k
  revert e
  show F8_isMet (setR r v) (nI 2) m1 t = _ → F8_isMet (setR r v2) (nI 2) m1 t = _
  unfold F8_isMet
  simp only [lit32, neg1]
  rw [if_neg (nI_ne (by omega) (by omega) (by omega)), if_neg (nI_ne (by omega) (by omega) (by omega)), if_pos trivial, if_neg (nI_ne (by omega) (by omega) (by omega)), if_neg (nI_ne (by omega) (by omega) (by omega)), if_pos trivial, this]
  exact fun e => e
theorem met_1 {r : RS} {g : CG} {sm lm cm l : Nat} {t : Int32} (hl : l < lm) : MET (fun u => F8_isMet u (nI 1) (nI l) t) (fun u2 => C3_hasHappened_e1 g u2 1 (nI l)) r g sm lm cm := by
  intro v c B U h
  have hcm := h.a.cm30; have hlm := h.a.lm6
  have hl6 : l < 6 := by omega
  obtain ⟨b1, b2⟩ := cnt_add (n := cm) (p := lsC (sC (c (10 + 1))) l 3) (q := lsC (sC (c (10 + 1))) l 4) (s := loC (sC (c (10 + 1))) l) (fun i _ => by
    unfold lsC loC
    refine ⟨fun q => decide_eq_true (of_decide_eq_true q).1, fun q => decide_eq_true (of_decide_eq_true q).1, ?_⟩
    rintro ⟨a, b⟩
    exact nI_ne (a := 3) (b := 4) (by omega) (by omega) (by omega) ((of_decide_eq_true a).2.symm.trans (of_decide_eq_true b).2))
  have hz := cnt_le (n := cm) (p := loC (sC (c (10 + 1))) l)
  have eC : C3_hasHappened_e1 g c 1 (nI l) = some (if cnt cm (lsC (sC (c (10 + 1))) l 3) + cnt cm (lsC (sC (c (10 + 1))) l 4) = cnt cm (loC (sC (c (10 + 1))) l) then nI 1 else nI 0) := by
    unfold C3_hasHappened_e1 C4_isFinished
    simp only [lit32]
    rw [ix_n hl6 (by omega), bS, sE_r (v := c (10 + 1)) hl6 (by omega), sE_r (v := c (10 + 1)) hl6 (by omega), sL_r (v := c (10 + 1)) hl6 (by omega), h.l.left l hl, h.l.gave l hl, h.l.size l hl, nI_add]
    by_cases e : cnt cm (lsC (sC (c (10 + 1))) l 3) + cnt cm (lsC (sC (c (10 + 1))) l 4) = cnt cm (loC (sC (c (10 + 1))) l)
    · rw [if_pos (congrArg nI e), if_pos e, bS, nz_1, bS, bS, nz_1, bS]
    · rw [if_neg (nI_ne e (by omega) (by omega)), if_neg e, bS, nz_0, bS, bS, nz_0, bS]
  have eF : F8_isMet (setR r v) (nI 1) (nI l) t = F8_areFinished (setR r v) (nI l) := by
    unfold F8_isMet
    simp only [lit32, neg1]
    rw [if_neg (nI_ne (by omega) (by omega) (by omega)), if_pos trivial]
    rcases are_ok (r := r) (a := nI l) h with ⟨-, e⟩ | ⟨-, e⟩
    · rw [e, bS, nz_1, bS]
    · rw [e, bS, nz_0, bS]
  have cond : ∀ k, k < cm → ((nI l = m1 ∨ v (137 + 25 * k + 0) = nI l) ↔ loC (sC (c (10 + 1))) l k = true) := fun k hk => by
    unfold loC
    rw [decide_eq_true_iff, QR.rc h hk (by omega) (by omega), sC_r (v := c (10 + 1)) (by omega) (by omega)]
    constructor
    · rintro (q | q)
      · exact absurd q (m1_ne (by omega))
      · exact q
    · exact Or.inr
  have conl : ∀ k, loC (sC (c (10 + 1))) l k = true → (fin (sC (c (10 + 1))) k ↔ lsC (sC (c (10 + 1))) l 3 k = true ∨ lsC (sC (c (10 + 1))) l 4 k = true) := fun k hk => by
    unfold loC at hk
    have hk := of_decide_eq_true hk
    unfold lsC fin
    rw [decide_eq_true_iff, decide_eq_true_iff]
    constructor
    · rintro (q | q)
      · exact Or.inl ⟨hk, q⟩
      · exact Or.inr ⟨hk, q⟩
    · rintro (q | q)
      · exact Or.inl q.2
      · exact Or.inr q.2
  show (F8_isMet (setR r v) (nI 1) (nI l) t = _ ∧ C3_hasHappened_e1 g c 1 (nI l) = _) ∨ (F8_isMet (setR r v) (nI 1) (nI l) t = _ ∧ C3_hasHappened_e1 g c 1 (nI l) = _)
  rw [eF, eC]
  rcases are_ok (r := r) (a := nI l) h with ⟨f, e⟩ | ⟨⟨k, k1, k2, k3⟩, e⟩
  · refine Or.inr ⟨e, ?_⟩
    rw [if_pos (b2.mpr fun i hi q => (conl i q).mp ((fin_v h hi).mp (f i hi ((cond i hi).mpr q))))]
  · refine Or.inl ⟨e, ?_⟩
    have q2 := (cond k k1).mp k2
    rw [if_neg fun q => k3 ((fin_v h k1).mpr ((conl k q2).mpr (b2.mp q k k1 q2)))]
theorem msm_1 {r : RS} {g : CG} {sm lm cm : Nat} {t a : Int32} : MSM (fun u => F8_isMet u (nI 1) a t) r g sm lm cm := by
  intro v c B U v2 c2 h k e
  have := are_sm (r := r) (a := a) (c2 := c2) h k
  revert e
  show F8_isMet (setR r v) (nI 1) a t = _ → F8_isMet (setR r v2) (nI 1) a t = _
  unfold F8_isMet
  simp only [lit32, neg1]
  rw [if_neg (nI_ne (by omega) (by omega) (by omega)), if_pos trivial, if_neg (nI_ne (by omega) (by omega) (by omega)), if_pos trivial, this]
  exact fun e => e
theorem met_0 {r : RS} {g : CG} {sm lm cm q : Nat} {t : Int32} (hq : q < cm) : MET (fun u => F8_isMet u (nI 0) (nI q) t) (fun u2 => C3_hasHappened_e0 g u2 1 (nI q)) r g sm lm cm := by
  intro v c B U h
  have hcm := h.a.cm30
  have e3 : v (137 + 25 * q + 3) = c (10 + 1) (137 + 25 * q + 3) := QR.rc h hq (by omega) (by omega)
  show (F8_isMet (setR r v) (nI 0) (nI q) t = _ ∧ C3_hasHappened_e0 g c 1 (nI q) = _) ∨ (F8_isMet (setR r v) (nI 0) (nI q) t = _ ∧ C3_hasHappened_e0 g c 1 (nI q) = _)
  unfold F8_isMet C3_hasHappened_e0
  simp only [lit32, neg1]
  rw [if_pos trivial, F8_ofCard_v (by omega) (by omega), bS, e3, ix_n (by omega) (by omega), bS]
  by_cases e : c (10 + 1) (137 + 25 * q + 3) = nI 3
  · rw [if_pos e, bS, nz_1, bS]; exact Or.inr ⟨rfl, rfl⟩
  · rw [if_neg e, bS, nz_0, bS]; exact Or.inl ⟨rfl, rfl⟩
theorem msm_0 {r : RS} {g : CG} {sm lm cm q : Nat} {t : Int32} (hq : q < 30) : MSM (fun u => F8_isMet u (nI 0) (nI q) t) r g sm lm cm := by
  intro v c B U v2 c2 h k e
  have e3 : v2 (137 + 25 * q + 3) = v (137 + 25 * q + 3) := by rw [sC_r (v := v2) hq (by omega), sC_r (v := v) hq (by omega), k.2.2.2.1]
  revert e
  show F8_isMet (setR r v) (nI 0) (nI q) t = _ → F8_isMet (setR r v2) (nI 0) (nI q) t = _
  unfold F8_isMet
  simp only [lit32, neg1]
  rw [if_pos trivial, if_pos trivial, F8_ofCard_v (by omega) (by omega), F8_ofCard_v (by omega) (by omega), e3]
  exact fun e => e
theorem met_4 {r : RS} {g : CG} {sm lm cm s : Nat} {t : Int32} (hs : s < sm) : MET (fun u => F8_isMet u (nI 4) (nI s) t) (fun u2 => C3_hasHappened_e4 g u2 1 (nI s)) r g sm lm cm := by
  intro v c B U h
  have hsm := h.a.sm6
  have e3 : v (17 + 16 * s + 11) = c (10 + 1) (17 + 16 * s + 11) := QR.rs h hs (by omega) (by omega)
  show (F8_isMet (setR r v) (nI 4) (nI s) t = _ ∧ C3_hasHappened_e4 g c 1 (nI s) = _) ∨ (F8_isMet (setR r v) (nI 4) (nI s) t = _ ∧ C3_hasHappened_e4 g c 1 (nI s) = _)
  unfold F8_isMet C3_hasHappened_e4
  simp only [lit32, neg1]
  rw [if_neg (nI_ne (by omega) (by omega) (by omega)), if_neg (nI_ne (by omega) (by omega) (by omega)), if_neg (nI_ne (by omega) (by omega) (by omega)), if_neg (nI_ne (by omega) (by omega) (by omega)), F8_of_v (by omega) (by omega), bS, e3, ix_n (by omega) (by omega), bS]
  by_cases e : c (10 + 1) (17 + 16 * s + 11) ≤ nI 0
  · rw [if_pos e, bS, nz_0, bS]; exact Or.inl ⟨rfl, rfl⟩
  · rw [if_neg e, bS, nz_1, bS]; exact Or.inr ⟨rfl, rfl⟩
theorem msm_4 {r : RS} {g : CG} {sm lm cm s : Nat} {t : Int32} (hs : s < 6) : MSM (fun u => F8_isMet u (nI 4) (nI s) t) r g sm lm cm := by
  intro v c B U v2 c2 h k e
  have e3 : v2 (17 + 16 * s + 11) = v (17 + 16 * s + 11) := by rw [sS_r (v := v2) hs (by omega), sS_r (v := v) hs (by omega), k.2.1]
  revert e
  show F8_isMet (setR r v) (nI 4) (nI s) t = _ → F8_isMet (setR r v2) (nI 4) (nI s) t = _
  unfold F8_isMet
  simp (disch := omega) only [lit32, neg1, ifn, if_true]
  rw [F8_of_v (by omega) (by omega), F8_of_v (by omega) (by omega), e3]
  exact fun e => e
noncomputable def hap3 (s : Nat) (t : Int32) : RS → Option Int32 := fun u => some (if u (10 + 1) (17 + 16 * s + 5) ≤ t then nI 0 else nI 1)
theorem met_3 {r : RS} {g : CG} {sm lm cm s : Nat} {t : Int32} (hs : s < sm) : MET (fun u => F8_isMet u (nI 3) (nI s) t) (hap3 s t) r g sm lm cm := by
  intro v c B U h
  have hsm := h.a.sm6
  have e3 : v (17 + 16 * s + 5) = c (10 + 1) (17 + 16 * s + 5) := QR.rs h hs (by omega) (by omega)
  show (F8_isMet (setR r v) (nI 3) (nI s) t = _ ∧ hap3 s t c = _) ∨ (F8_isMet (setR r v) (nI 3) (nI s) t = _ ∧ hap3 s t c = _)
  unfold F8_isMet hap3
  simp only [lit32, neg1]
  rw [if_neg (nI_ne (by omega) (by omega) (by omega)), if_neg (nI_ne (by omega) (by omega) (by omega)), if_neg (nI_ne (by omega) (by omega) (by omega)), if_pos trivial, F8_of_v (by omega) (by omega), bS, e3]
  by_cases e : c (10 + 1) (17 + 16 * s + 5) ≤ t
  · rw [if_pos e, if_pos e, bS, nz_0, bS]; exact Or.inl ⟨rfl, rfl⟩
  · rw [if_neg e, if_neg e, bS, nz_1, bS]; exact Or.inr ⟨rfl, rfl⟩
theorem hap3_0 {g : CG} {s : Nat} (hs : s < 6) : (fun u2 => C3_hasHappened_e3 g u2 1 (nI s)) = hap3 s (nI 0) := by
  funext u
  unfold C3_hasHappened_e3 hap3
  simp only [lit32]
  rw [ix_n hs (by omega), bS]
  by_cases e : u (10 + 1) (17 + 16 * s + 5) ≤ nI 0
  · rw [if_pos e, if_pos e, bS, nz_0, bS]
  · rw [if_neg e, if_neg e, bS, nz_1, bS]
theorem msm_3 {r : RS} {g : CG} {sm lm cm s : Nat} {t : Int32} (hs : s < 6) : MSM (fun u => F8_isMet u (nI 3) (nI s) t) r g sm lm cm := by
  intro v c B U v2 c2 h k e
  have e3 : v2 (17 + 16 * s + 5) = v (17 + 16 * s + 5) := by rw [sS_r (v := v2) hs (by omega), sS_r (v := v) hs (by omega), k.2.1]
  revert e
  show F8_isMet (setR r v) (nI 3) (nI s) t = _ → F8_isMet (setR r v2) (nI 3) (nI s) t = _
  unfold F8_isMet
  simp (disch := omega) only [lit32, neg1, ifn, if_true]
  rw [F8_of_v (by omega) (by omega), F8_of_v (by omega) (by omega), e3]
  exact fun e => e
end
section
noncomputable def PRr (r r2 : RS) : Prop := (∀ R, R ≠ 1 → R ≠ 2 → R ≠ 9 → r2 R = r R) ∧ ∀ j, j < 1037 → r2 1 j = r 1 j
theorem PRr.refl {r : RS} : PRr r r := ⟨fun _ _ _ _ => rfl, fun _ _ => rfl⟩
theorem PRr.trans {r r2 r3 : RS} (h : PRr r r2) (k : PRr r2 r3) : PRr r r3 := ⟨fun R a b d => (k.1 R a b d).trans (h.1 R a b d), fun j hj => (k.2 j hj).trans (h.2 j hj)⟩
noncomputable def PRc (c c2 : RS) (g : CG) : Prop := (∀ R, ¬ OWN 1 R → R ≠ 2 → c2 R = c R) ∧ TIr (c2 (10 + 1)) g.nt
theorem PRc.trans {c c2 c3 : RS} {g : CG} (h : PRc c c2 g) (k : PRc c2 c3 g) : PRc c c3 g := ⟨fun R a b => (k.1 R a b).trans (h.1 R a b), k.2⟩
theorem PRc.y {c c2 : RS} {g : CG} {r r2 : RS} {sm lm cm B : Nat} (h : QY c g 0 (r 1) sm lm cm B B) (k : PRc c c2 g) (kr : PRr r r2) : QY c2 g 0 (r2 1) sm lm cm B B :=
  QY.ext (h.frame (by omega) (Nat.le_refl _) (fun R hR => k.1 R (by unfold OWN at hR ⊢; omega) (by unfold OWN at hR; omega)) (fun t _ _ => k.1 _ (by unfold OWN; omega) (by omega))) kr.2
theorem GI.pred {r c r2 c2 : RS} {g : CG} {B T : Nat} (h : GI r c g B T) (hr : PRr r r2) (hc : PRc c c2 g) : GI r2 c2 g B T := by
  obtain ⟨hr, h1⟩ := hr
  obtain ⟨hc, ht⟩ := hc
  have cu : ∀ R, R < 7 → R ≠ 2 → c2 R = c R := fun R a b => hc R (by unfold OWN; omega) b
  refine ⟨?_, fun L hL => ?_, ?_, ?_, ?_, ?_, ?_, h.n⟩
  · exact LQ.ext (h.l.frame (by omega) (Nat.le_refl _) (fun R hR => hc R (by unfold OWN at hR ⊢; omega) (by unfold OWN at hR; omega)) (fun t _ _ => hc _ (by unfold OWN; omega) (by omega))) h1
  · by_cases e : L = 1
    · subst e; exact ht
    · rw [hc _ (by unfold OWN; omega) (by omega)]; exact h.ti L hL
  · exact h.p.frame (Nat.le_refl _) (fun _ _ _ q => q) (by rw [cu 0 (by decide) (by decide)]) (by rw [cu 0 (by decide) (by decide)]) (by rw [hr 0 (by decide) (by decide) (by decide)]) (hr 3 (by decide) (by decide) (by decide)) (fun L R a b hR => hc R (by unfold OWN at hR ⊢; omega) (by unfold OWN at hR; omega)) (fun t _ _ => hc _ (by unfold OWN; omega) (by omega))
  · exact h.s.frame (Nat.le_refl _) (fun _ _ _ => rfl) (hr 5 (by decide) (by decide) (by decide)) (hr 4 (by decide) (by decide) (by decide)) (fun L R a b hR => hc R (by unfold OWN at hR ⊢; omega) (by unfold OWN at hR; omega)) (fun t _ _ => hc _ (by unfold OWN; omega) (by omega))
  · exact h.b.frame (by rw [cu 0 (by decide) (by decide)]) (by rw [hr 0 (by decide) (by decide) (by decide)]) (cu 3 (by decide) (by decide)) (hr 6 (by decide) (by decide) (by decide)) (cu 5 (by decide) (by decide))
  · exact h.e.frame (by rw [cu 0 (by decide) (by decide)]) (by rw [cu 0 (by decide) (by decide)]) (by rw [hr 0 (by decide) (by decide) (by decide)]) (by rw [hr 0 (by decide) (by decide) (by decide)])
  · exact h.o.frame (by rw [cu 0 (by decide) (by decide)]) (by rw [hr 0 (by decide) (by decide) (by decide)])
theorem goes_ok {r c : RS} {g : CG} {sm lm cm lim a1 B : Nat} {t2 a2 : Int32} {v : Nat → Int32} {hap : RS → Option Int32} (hg : g.nt < 2 ^ 31) (hlim : lim ≤ 2000) (hB : B + 2001 < 2000000000) (ht : (if nI a1 = nI 3 then ((F8_of (setR r v) a2 (nI 5)).bind fun x26 => some x26) else (some (nI 0)) : Option Int32) = some t2) (hm : MET (fun u => F8_isMet u (nI a1) a2 t2) hap r g sm lm cm) (hs : MSM (fun u => F8_isMet u (nI a1) a2 t2) r g sm lm cm) (h : QY c g 1 v sm lm cm B B) :
    ∃ x v' y c2, F8_goes (setR r v) (nI a1) a2 = some (x, setR r v') ∧ gUn hap 1 (nI lim) g FUEL (nI 0) c = some (.inl (y, c2)) ∧ FRM c c2 g ∧ ((x = m1 ∧ y = m1) ∨ ∃ k, k ≤ 2000 ∧ x = nI k ∧ y = if k ≤ lim then nI k else m1) := by
  obtain ⟨v', hv⟩ := pred_L (r := r) hg hlim hm hs 2001 0 FUEL FUEL B B v c (by omega) (by show 2001 < 10000; omega) (by show 2001 < 10000; omega) h (by omega) (by omega)
  unfold F8_goes
  simp only [lit32, neg1]
  rw [ht, bS]
  rcases hv with ⟨k, -, k1, k2, k3⟩ | ⟨k2, k3⟩
  · obtain ⟨c2, j1, j2⟩ := k3 (Nat.zero_le _)
    exact ⟨nI k, v', _, c2, by rw [k2, bS], j1, j2, Or.inr ⟨k, k1, rfl, rfl⟩⟩
  · obtain ⟨c2, j1, j2⟩ := k3 (Nat.zero_le _)
    exact ⟨m1, v', _, c2, by rw [k2, bS], j1, j2, Or.inl ⟨rfl, rfl⟩⟩
theorem copyL {r c : RS} {g : CG} {B T sm lm cm : Nat} (h : GI r c g B T) (h0 : QY c g 0 (r 1) sm lm cm B B) : ∃ c1, C7_copyOfLine g c = some c1 ∧ (∀ R, ¬ OWN 1 R → c1 R = c R) ∧ QY c1 g 1 (r 1) sm lm cm B B := by
  obtain ⟨c1, k1, k2, k3⟩ := copyFrom_ok (L := 1) (L2 := 0) (by omega) (by omega) (by omega) h0 (h.ti 1 (by omega))
  refine ⟨c1, ?_, k2, k3⟩
  unfold C7_copyOfLine
  rw [k1, bS]
theorem back_r {r : RS} {v' : Nat → Int32} : PRr r (cpA (setR (cpA r 1 0 2 0) v') 2 0 1 0) := by
  refine ⟨fun R a b d => by rw [cpA_o a, setR_o a, cpA_o b], fun j hj => ?_⟩
  have h1 := cpA_n (u := setR (cpA r 1 0 2 0) v') (A := 2) (i := 0) (B := 1) (k := 0) hj
  have h2 := cpA_n (u := r) (A := 1) (i := 0) (B := 2) (k := 0) hj
  simp only [Nat.mul_zero, Nat.zero_add] at h1 h2
  rw [h1, setR_o (by decide), h2]
theorem behind_ok {r c : RS} {g : CG} {B T sm lm cm a1 : Nat} {t2 a2 : Int32} {hap : RS → Option Int32} (h : GI r c g B T) (h0 : QY c g 0 (r 1) sm lm cm B B) (hT : T < 2 ^ 31) (hB : B + 2001 < 2000000000) (ht : (if nI a1 = nI 3 then ((F8_of r a2 (nI 5)).bind fun x26 => some x26) else (some (nI 0)) : Option Int32) = some t2) (ho : ∀ u : RS, u 1 = r 1 → F8_of u a2 (nI 5) = F8_of r a2 (nI 5)) (hm : ∀ r, MET (fun u => F8_isMet u (nI a1) a2 t2) hap r g sm lm cm) (hs : ∀ r, MSM (fun u => F8_isMet u (nI a1) a2 t2) r g sm lm cm) :
    ∃ x r2 c1 c2, F8_behind r (nI a1) a2 = some (x, r2) ∧ C7_copyOfLine g c = some c1 ∧ gUn hap 1 (nI 2000) g FUEL (nI 0) c1 = some (.inl (x, c2)) ∧ PRr r r2 ∧ PRc c c2 g ∧ r2 9 = r 9 ∧ c2 2 = c 2 := by
  have hg : g.nt < 2 ^ 31 := Nat.lt_of_le_of_lt h.n hT
  obtain ⟨c1, k1, k2, k3⟩ := copyL h h0
  have e1 : cpA r 1 0 2 0 = setR (cpA r 1 0 2 0) (r 1) := by
    have : (cpA r 1 0 2 0) 1 = r 1 := cpA_o (by decide)
    rw [← this]; exact setR_self
  obtain ⟨x, v', y, c2, j1, j2, j3, j4⟩ := goes_ok (r := cpA r 1 0 2 0) (lim := 2000) hg (Nat.le_refl _) hB (by rw [← e1, ho _ (cpA_o (by decide))]; exact ht) (hm _) (hs _) k3
  have hy : y = x := by
    rcases j4 with ⟨a, b⟩ | ⟨k, a, b, d⟩
    · rw [a, b]
    · rw [b, d, if_pos a]
  refine ⟨x, _, c1, c2, ?_, k1, by rw [← hy]; exact j2, back_r (v' := v'), ⟨fun R a b => (j3.1 R a).trans (k2 R a), j3.2⟩, by rw [cpA_o (by decide), setR_o (by decide), cpA_o (by decide)], (j3.1 2 (by unfold OWN; omega)).trans (k2 2 (by unfold OWN; omega))⟩
  unfold F8_behind
  simp only [lit32]
  rw [cp_1_2 (by omega) (by omega), bS]
  rw [← e1] at j1
  rw [j1, bS]
  dsimp only
  rw [cp_2_1 (by omega) (by omega), bS]
theorem no3 {r : RS} {a2 : Int32} {a1 : Nat} (h : a1 ≠ 3) (h2 : a1 < 10) : (if nI a1 = nI 3 then ((F8_of r a2 (nI 5)).bind fun x26 => some x26) else (some (nI 0)) : Option Int32) = some (nI 0) := if_neg (nI_ne h (by omega) (by omega))
theorem of_c {r u : RS} {s : Nat} (hs : s < 6) (e : u 1 = r 1) : F8_of u (nI s) (nI 5) = F8_of r (nI s) (nI 5) := by
  rw [F8_of_n hs (by omega), F8_of_n hs (by omega), e]
theorem un_0 {g : CG} {c1 c2 : RS} {a : Int32} {x : Int32} (h : gUn (fun u2 => C3_hasHappened_e0 g u2 1 a) 1 (nI 2000) g FUEL (nI 0) c1 = some (.inl (x, c2))) : C7_ticksUntil_e0 g c1 1 a (nI 2000) = some (x, c2) := by
  unfold C7_ticksUntil_e0; simp only [lit32, neg1]; rw [gUn_0, h, bS]
theorem un_1 {g : CG} {c1 c2 : RS} {a : Int32} {x : Int32} {lim : Nat} (h : gUn (fun u2 => C3_hasHappened_e1 g u2 1 a) 1 (nI lim) g FUEL (nI 0) c1 = some (.inl (x, c2))) : C7_ticksUntil_e1 g c1 1 a (nI lim) = some (x, c2) := by
  unfold C7_ticksUntil_e1; simp only [lit32, neg1]; rw [gUn_1, h, bS]
theorem un_2 {g : CG} {c1 c2 : RS} {a : Int32} {x : Int32} {lim : Nat} (h : gUn (fun u2 => C3_hasHappened_e2 g u2 1 a) 1 (nI lim) g FUEL (nI 0) c1 = some (.inl (x, c2))) : C7_ticksUntil_e2 g c1 1 a (nI lim) = some (x, c2) := by
  unfold C7_ticksUntil_e2; simp only [lit32, neg1]; rw [gUn_2, h, bS]
theorem un_3 {g : CG} {c1 c2 : RS} {a : Int32} {x : Int32} (h : gUn (fun u2 => C3_hasHappened_e3 g u2 1 a) 1 (nI 2000) g FUEL (nI 0) c1 = some (.inl (x, c2))) : C7_ticksUntil_e3 g c1 1 a (nI 2000) = some (x, c2) := by
  unfold C7_ticksUntil_e3; simp only [lit32, neg1]; rw [gUn_3, h, bS]
theorem un_4 {g : CG} {c1 c2 : RS} {a : Int32} {x : Int32} (h : gUn (fun u2 => C3_hasHappened_e4 g u2 1 a) 1 (nI 2000) g FUEL (nI 0) c1 = some (.inl (x, c2))) : C7_ticksUntil_e4 g c1 1 a (nI 2000) = some (x, c2) := by
  unfold C7_ticksUntil_e4; simp only [lit32, neg1]; rw [gUn_4, h, bS]
theorem PRr.t {r r2 : RS} (h : PRr (th r 0) r2) : r2 0 6 = nI 0 := by rw [h.1 0 (by decide) (by decide) (by decide)]; exact th_6
theorem a_leavesIn {r c : RS} {g : CG} {B T : Nat} {a : Int32} (h : GI r c g B T) (hT : T < 2 ^ 31) (hB : B + 2001 < 2000000000) : CT (F8_leavesIn r a) (C7_leavesIn g c a) r g 0 B T := by
  obtain ⟨sm, lm, cm, h0⟩ := h.l
  have hcm := h0.a.cm30
  unfold F8_leavesIn C7_leavesIn
  simp only [lit32]
  rcases argCd (r := r) (c := c) (g := g) (a := a) (n := cm) (by omega) h0.v9 h0.n9 with ⟨q, s1, rfl, s2, s3⟩ | ⟨s2, s3⟩
  · have h1 : QY c g 0 (th r 0 1) sm lm cm B B := by rw [th_o (by decide)]; exact h0
    obtain ⟨x, r2, c1, c2, k1, k2, k3, k4, k5, -⟩ := behind_ok (h.thr (k := 0)) h1 hT hB (a1 := 0) (a2 := nI q) (t2 := nI 0) (no3 (by decide) (by decide)) (fun u e => by
      unfold F8_of; simp only [lit32, nI_add, nI_mul]; unfold rd; rw [e]) (fun _ => met_0 s1) (fun _ => msm_0 (by omega))
    rw [s2, s3, bS, bS, isThrown_1, bS, trR]
    simp only [if_true]
    rw [k1, bS, bS, k2, bS, un_0 k3, bS]
    exact Or.inl ⟨x, r2, c2, rfl, rfl, h.thr.pred k4 k5, k4.t⟩
  · rw [s2, s3, bS, bS, isThrown_0, bS, trL]
    refine Or.inr ⟨1, by omega, by omega, ?_, rfl⟩
    simp only [nz0, if_false, bS]
theorem a_lotIn {r c : RS} {g : CG} {B T : Nat} {a : Int32} (h : GI r c g B T) (hT : T < 2 ^ 31) (hB : B + 2001 < 2000000000) : CT (F8_lotIn r a) (C7_lotIn g c a) r g 0 B T := by
  obtain ⟨sm, lm, cm, h0⟩ := h.l
  have hlm := h0.a.lm6
  unfold F8_lotIn C7_lotIn
  simp only [lit32]
  rcases argLo (r := r) (c := c) (g := g) (a := a) (n := lm) (by omega) h0.v8 h0.n8 with ⟨q, s1, rfl, s2, s3⟩ | ⟨s2, s3⟩
  · have h1 : QY c g 0 (th r 0 1) sm lm cm B B := by rw [th_o (by decide)]; exact h0
    obtain ⟨x, r2, c1, c2, k1, k2, k3, k4, k5, -⟩ := behind_ok (h.thr (k := 0)) h1 hT hB (a1 := 1) (a2 := nI q) (t2 := nI 0) (no3 (by decide) (by decide)) (fun u e => by
      unfold F8_of; simp only [lit32, nI_add, nI_mul]; unfold rd; rw [e]) (fun _ => met_1 s1) (fun _ => msm_1)
    rw [s2, s3, bS, bS, isThrown_1, bS, trR]
    simp only [if_true]
    rw [k1, bS, bS, k2, bS, un_1 k3, bS]
    exact Or.inl ⟨x, r2, c2, rfl, rfl, h.thr.pred k4 k5, k4.t⟩
  · rw [s2, s3, bS, bS, isThrown_0, bS, trL]
    refine Or.inr ⟨1, by omega, by omega, ?_, rfl⟩
    simp only [nz0, if_false, bS]
theorem of_m1 {r u : RS} (e : u 1 = r 1) : F8_of u m1 (nI 5) = F8_of r m1 (nI 5) := by
  unfold F8_of; unfold rd; rw [e]
theorem a_allIn {r c : RS} {g : CG} {B T : Nat} (h : GI r c g B T) (hT : T < 2 ^ 31) (hB : B + 2001 < 2000000000) : BT (F8_allIn r) (C7_allIn g c) g B T := by
  obtain ⟨sm, lm, cm, h0⟩ := h.l
  unfold F8_allIn C7_allIn
  simp only [lit32, neg1]
  have h1 : QY c g 0 (th r 0 1) sm lm cm B B := by rw [th_o (by decide)]; exact h0
  obtain ⟨x, r2, c1, c2, k1, k2, k3, k4, k5, -⟩ := behind_ok (h.thr (k := 0)) h1 hT hB (a1 := 2) (a2 := m1) (t2 := nI 0) (no3 (by decide) (by decide)) (fun u e => of_m1 e) (fun _ => met_2) (fun _ => msm_2)
  rw [zth, bS, k1, bS, k2, bS, un_2 k3, bS]
  exact ⟨x, r2, c2, rfl, rfl, h.thr.pred k4 k5, k4.t⟩
theorem a_restIn {r c : RS} {g : CG} {B T : Nat} {a : Int32} (h : GI r c g B T) (hT : T < 2 ^ 31) (hB : B + 2001 < 2000000000) : CT (F8_restIn r a) (C7_restIn g c a) r g 0 B T := by
  obtain ⟨sm, lm, cm, h0⟩ := h.l
  have hsm := h0.a.sm6
  unfold F8_restIn C7_restIn
  simp only [lit32]
  rcases argSt (r := r) (c := c) (g := g) (a := a) (n := sm) (by omega) h0.v7 h0.n7 with ⟨q, s1, rfl, s2, s3⟩ | ⟨s2, s3⟩
  · have h1 : QY c g 0 (th r 0 1) sm lm cm B B := by rw [th_o (by decide)]; exact h0
    obtain ⟨x, r2, c1, c2, k1, k2, k3, k4, k5, -⟩ := behind_ok (h.thr (k := 0)) h1 hT hB (a1 := 4) (a2 := nI q) (t2 := nI 0) (no3 (by decide) (by decide)) (fun u e => of_c (by omega) e) (fun _ => met_4 s1) (fun _ => msm_4 (by omega))
    rw [s2, s3, bS, bS, isThrown_1, bS, trR]
    simp only [if_true]
    rw [k1, bS, bS, k2, bS, un_4 k3, bS]
    exact Or.inl ⟨x, r2, c2, rfl, rfl, h.thr.pred k4 k5, k4.t⟩
  · rw [s2, s3, bS, bS, isThrown_0, bS, trL]
    refine Or.inr ⟨1, by omega, by omega, ?_, rfl⟩
    simp only [nz0, if_false, bS]
noncomputable def DT (F : Option (Int32 × RS)) (C : Option (Sum Int32 (Int32 × RS))) (r : RS) (g : CG) (sh B T : Nat) : Prop := (∃ x y r2 c2, F = some (x, r2) ∧ C = some (.inr (y, c2)) ∧ GI r2 c2 g B T ∧ r2 0 6 = nI 0) ∨ (∃ k, 1 ≤ k ∧ k ≤ 2 ∧ F = some (nI 0, th r k) ∧ C = some (.inl (nI (k + sh))))
theorem a_failIn {r c : RS} {g : CG} {B T : Nat} {a : Int32} (h : GI r c g B T) (hT : T < 2 ^ 31) (hB : B + 2001 < 2000000000) : DT (F8_failIn r a) (C7_failIn g c a) r g 0 B T := by
  obtain ⟨sm, lm, cm, h0⟩ := h.l
  have hsm := h0.a.sm6
  have hg : g.nt < 2 ^ 31 := Nat.lt_of_le_of_lt h.n hT
  unfold F8_failIn C7_failIn
  simp only [lit32]
  rcases argSt (r := r) (c := c) (g := g) (a := a) (n := sm) (by omega) h0.v7 h0.n7 with ⟨q, s1, rfl, s2, s3⟩ | ⟨s2, s3⟩
  · have h1 : QY c g 0 (th r 0 1) sm lm cm B B := by rw [th_o (by decide)]; exact h0
    obtain ⟨x, r2, c1, c2, k1, k2, k3, k4, k5, -⟩ := behind_ok (h.thr (k := 0)) h1 hT hB (a1 := 3) (a2 := nI q) (t2 := th r 0 1 (17 + 16 * q + 5)) (by rw [if_pos rfl, F8_of_n (by omega) (by omega), bS]) (fun u e => of_c (by omega) e) (fun _ => met_3 s1) (fun _ => msm_3 (by omega))
    obtain ⟨c3, j1, j2, j3⟩ := copyL (h.thr (k := 0)) h1
    have j4 := QX.toY (by omega) (QR.free (x := nI 0) 5 (by omega) (by omega : q < 6) j3)
    obtain ⟨x', v', y', c4, i1, i2, i3, i4⟩ := goes_ok (r := r) (a1 := 3) (a2 := nI q) (lim := 2000) hg (Nat.le_refl _) hB (by rw [if_pos rfl, F8_of_v (by omega) (by omega), bS, upd_e]) (met_3 s1) (msm_3 (by omega)) j4
    rw [← hap3_0 (g := g) (by omega)] at i2
    rw [s2, s3, bS, bS, isThrown_1, bS, trR]
    simp only [if_true]
    rw [k1, bS, bS, j1, bS, ix_n (by omega) (by omega), bS, pt_n, bS, upC, un_3 i2, bS]
    refine Or.inl ⟨x, y', r2, c4, rfl, rfl, h.thr.pred k4 ⟨fun R a b => ?_, i3.2⟩, k4.t⟩
    rw [i3.1 R a, setL_o (by unfold OWN at a; omega) (by unfold OWN at a; omega), j2 R a]
  · rw [s2, s3, bS, bS, isThrown_0, bS, trL]
    refine Or.inr ⟨1, by omega, by omega, ?_, rfl⟩
    simp only [nz0, if_false, bS]
end
section
theorem still_T {r : RS} {g : CG} {sm lm cm n : Nat} {p : Int32} (hg : g.nt < 2 ^ 31) (hn : n ≤ 2000) : ∀ (d y fu B U : Nat) (v : Nat → Int32) (c : RS), y + d = n → d < fu → QY c g 1 v sm lm cm B U → B + d < 2000000000 → U + d < 2000000000 → STL c g 1 sm lm cm (c (10 + 1)) (c (400 + 1)) → ∃ v', F8_then_L15 p (nI n) fu (nI y) (setR r v) = some (nI n, setR r v') ∧ ∀ i, i < 17 → i ≠ 6 → i ≠ 11 → i ≠ 16 → v' i = v i := by
  intro d
  induction d with
  | zero =>
    intro y fu B U v c hy hfu h hB hU hs
    obtain ⟨fu, rfl⟩ : ∃ m, fu = m + 1 := ⟨fu - 1, by omega⟩
    obtain rfl : y = n := by omega
    rw [F8_then_L15, if_pos (nI_le (by omega) (by omega))]
    exact ⟨v, rfl, fun _ _ _ _ _ => rfl⟩
  | succ d ih =>
    intro y fu B U v c hy hfu h hB hU hs
    obtain ⟨fu, rfl⟩ : ∃ m, fu = m + 1 := ⟨fu - 1, by omega⟩
    obtain ⟨v1, c1, m, k1, k2, k3, k4, k5⟩ := tickY (r := r) (by omega : 1 < 12) hg h (by omega) (by omega)
    rcases k5 with ⟨k5, -⟩ | ⟨-, -, k6, k7⟩
    · exact absurd hs k5
    · obtain ⟨v2, j1, j2⟩ := ih (y + 1) fu (B + 1) (U + 1) v1 c1 (by omega) (by omega) k3 (by omega) (by omega) k7
      rw [F8_then_L15, if_neg (nI_ge (by omega) (by omega)), k1, bS]
      simp only [lit32]
      rw [nI_add]
      exact ⟨v2, j1, fun i a b d e => (j2 i a b d e).trans (k6.2.2.2.2.2.2.2.1 i a b d e)⟩
theorem then_L {r : RS} {g : CG} {sm lm cm n : Nat} {p : Int32} (hg : g.nt < 2 ^ 31) (hn : n ≤ 2000) : ∀ (d y fu fu2 B U : Nat) (v : Nat → Int32) (c : RS), y + d = n → d < fu → d < fu2 → QY c g 1 v sm lm cm B U → B + d < 2000000000 → U + d < 2000000000 → ∃ v' y2 y3 c', F8_then_L15 p (nI n) fu (nI y) (setR r v) = some (nI n, setR r v') ∧ C7_copyBehind_L10 (nI n) g fu2 (nI y) (nI 1) c = some (y2, y3, c') ∧ FRM c c' g ∧ v' 10 = c' (400 + 1) 3 ∧ v' 5 = c' (10 + 1) 5 := by
  intro d
  induction d with
  | zero =>
    intro y fu fu2 B U v c hy hfu hfu2 h hB hU
    obtain ⟨fu, rfl⟩ : ∃ m, fu = m + 1 := ⟨fu - 1, by omega⟩
    obtain ⟨fu2, rfl⟩ : ∃ m, fu2 = m + 1 := ⟨fu2 - 1, by omega⟩
    obtain rfl : y = n := by omega
    rw [F8_then_L15, C7_copyBehind_L10, if_pos (nI_le (by omega) (by omega)), if_pos (nI_le (by omega) (by omega))]
    exact ⟨v, _, _, c, rfl, rfl, ⟨fun _ _ => rfl, h.tir⟩, by rw [sA_r (v := v) (by omega), h.n.nl], QR.ra h (by omega) (by omega) (by omega)⟩
  | succ d ih =>
    intro y fu fu2 B U v c hy hfu hfu2 h hB hU
    obtain ⟨fu, rfl⟩ : ∃ m, fu = m + 1 := ⟨fu - 1, by omega⟩
    obtain ⟨fu2, rfl⟩ : ∃ m, fu2 = m + 1 := ⟨fu2 - 1, by omega⟩
    obtain ⟨v1, c1, m, k1, k2, k3, k4, k5⟩ := tickY (r := r) (by omega : 1 < 12) hg h (by omega) (by omega)
    rw [F8_then_L15, C7_copyBehind_L10, if_neg (nI_ge (by omega) (by omega)), if_neg (nI_ge (by omega) (by omega)), k1, bS]
    simp only [lit32]
    rw [if_neg nz0, k2, bS, nI_add]
    dsimp only
    rcases k5 with ⟨-, rfl⟩ | ⟨-, rfl, k6, k7⟩
    · obtain ⟨v2, y2, y3, c2, j1, j2, j3, j4, j5⟩ := ih (y + 1) fu fu2 (B + 1) (U + 1) v1 c1 (by omega) (by omega) (by omega) k3 (by omega) (by omega)
      exact ⟨v2, y2, y3, c2, j1, j2, ⟨fun R hR => (j3.1 R hR).trans (k4 R hR), j3.2⟩, j4, j5⟩
    · obtain ⟨v2, j1, j2⟩ := still_T (r := r) (p := p) hg hn d (y + 1) fu (B + 1) (U + 1) v1 c1 (by omega) (by omega) k3 (by omega) (by omega) k7
      obtain ⟨fu2, rfl⟩ : ∃ m, fu2 = m + 1 := ⟨fu2 - 1, by omega⟩
      have hC : ∃ y2 y3, C7_copyBehind_L10 (nI n) g (fu2 + 1) (nI (y + 1)) (nI 0) c1 = some (y2, y3, c1) := by
        rw [C7_copyBehind_L10]
        simp only [lit32]
        by_cases q : nI n ≤ nI (y + 1)
        · rw [if_pos q]; exact ⟨_, _, rfl⟩
        · rw [if_neg q, if_pos trivial]; exact ⟨_, _, rfl⟩
      obtain ⟨y2, y3, hC⟩ := hC
      refine ⟨v2, y2, y3, c1, j1, hC, ⟨k4, k3.tir⟩, ?_, ?_⟩
      · rw [j2 10 (by omega) (by omega) (by omega) (by omega), sA_r (v := v1) (by omega), k3.n.nl]
      · rw [j2 5 (by omega) (by omega) (by omega) (by omega)]; exact QR.ra k3 (by omega) (by omega) (by omega)
theorem then_ok {r c : RS} {g : CG} {B T sm lm cm n p : Nat} (h : GI r c g B T) (h0 : QY c g 0 (r 1) sm lm cm B B) (hT : T < 2 ^ 31) (hB : B + 2001 < 2000000000) (hn : n ≤ 2000) (hp : p = 10 ∨ p = 5) :
    ∃ x r2 c2, F8_then r (nI p) (nI n) = some (x, r2) ∧ C7_copyBehind g c (nI n) = some c2 ∧ PRr r r2 ∧ PRc c c2 g ∧ (p = 10 → x = c2 (400 + 1) 3) ∧ (p = 5 → x = c2 (10 + 1) 5) := by
  have hg : g.nt < 2 ^ 31 := Nat.lt_of_le_of_lt h.n hT
  obtain ⟨c1, k1, k2, k3⟩ := copyL h h0
  have e1 : cpA r 1 0 2 0 = setR (cpA r 1 0 2 0) (r 1) := by
    have : (cpA r 1 0 2 0) 1 = r 1 := cpA_o (by decide)
    rw [← this]; exact setR_self
  obtain ⟨v', y2, y3, c2, j1, j2, j3, j4, j5⟩ := then_L (r := cpA r 1 0 2 0) (p := nI p) hg hn n 0 FUEL FUEL B B (r 1) c1 (by omega) (by show n < 10000; omega) (by show n < 10000; omega) k3 (by omega) (by omega)
  refine ⟨v' p, _, c2, ?_, ?_, back_r (v' := v'), ⟨fun R a b => (j3.1 R a).trans (k2 R a), j3.2⟩, fun e => by rw [e]; exact j4, fun e => by rw [e]; exact j5⟩
  · unfold F8_then
    simp only [lit32]
    rw [cp_1_2 (by omega) (by omega), bS]
    rw [← e1] at j1
    rw [j1, bS]
    dsimp only
    rw [rd_n (by omega) (by omega), bS, cp_2_1 (by omega) (by omega), bS, setR_1]
  · unfold C7_copyBehind
    simp only [lit32]
    rw [k1, bS, j2, bS]
theorem a_leftIn {r c : RS} {g : CG} {B T : Nat} {a : Int32} (h : GI r c g B T) (hT : T < 2 ^ 31) (hB : B + 2001 < 2000000000) : CT (F8_leftIn r a) (C7_leftIn g c a) r g 1 B T := by
  obtain ⟨sm, lm, cm, h0⟩ := h.l
  unfold F8_leftIn C7_leftIn
  simp only [lit32]
  rcases argR (a := a) (lo := 1) (hi := 2000) (by omega) (by omega) (l := 1) (h := 2000) rfl rfl with ⟨k, k1, k2, rfl, k3, k4⟩ | ⟨k3, k4, k5⟩
  · have h1 : QY c g 0 (th r 0 1) sm lm cm B B := by rw [th_o (by decide)]; exact h0
    obtain ⟨x, r2, c2, j1, j2, j3, j4, j5, -⟩ := then_ok (p := 10) (n := k) (h.thr (k := 0)) h1 hT hB k2 (Or.inl rfl)
    rw [k3, k4, isThrown_1, bS, bS, trR]
    simp only [if_true]
    rw [j1, bS, bS, j2, bS, ← j5 rfl]
    exact Or.inl ⟨x, r2, c2, rfl, rfl, h.thr.pred j3 j4, j3.t⟩
  · rw [k3, k4, isThrown_0, bS, bS, trL]
    refine Or.inr ⟨1, by omega, by omega, ?_, rfl⟩
    simp only [nz0, if_false, bS]
theorem a_blanksIn {r c : RS} {g : CG} {B T : Nat} {a : Int32} (h : GI r c g B T) (hT : T < 2 ^ 31) (hB : B + 2001 < 2000000000) : CT (F8_blanksIn r a) (C7_blanksIn g c a) r g 1 B T := by
  obtain ⟨sm, lm, cm, h0⟩ := h.l
  unfold F8_blanksIn C7_blanksIn
  simp only [lit32]
  rcases argR (a := a) (lo := 1) (hi := 2000) (by omega) (by omega) (l := 1) (h := 2000) rfl rfl with ⟨k, k1, k2, rfl, k3, k4⟩ | ⟨k3, k4, k5⟩
  · have h1 : QY c g 0 (th r 0 1) sm lm cm B B := by rw [th_o (by decide)]; exact h0
    obtain ⟨x, r2, c2, j1, j2, j3, j4, -, j5⟩ := then_ok (p := 5) (n := k) (h.thr (k := 0)) h1 hT hB k2 (Or.inr rfl)
    rw [k3, k4, isThrown_1, bS, bS, trR]
    simp only [if_true]
    rw [j1, bS, bS, j2, bS, ← j5 rfl]
    exact Or.inl ⟨x, r2, c2, rfl, rfl, h.thr.pred j3 j4, j3.t⟩
  · rw [k3, k4, isThrown_0, bS, bS, trL]
    refine Or.inr ⟨1, by omega, by omega, ?_, rfl⟩
    simp only [nz0, if_false, bS]
theorem best_num {least k : Nat} (h : least ≤ 2001) (hk : k ≤ 2000) : (nI least ≤ nI k ↔ least ≤ k) := by
  constructor
  · intro q
    by_cases e : least ≤ k
    · exact e
    · exact absurd q (nI_ge (by omega) (by omega))
  · intro q; exact nI_le q (by omega)
theorem try_1 {r c : RS} {g : CG} {B sm lm cm a1 least : Nat} {a2 : Int32} {v : Nat → Int32} {hap : RS → Option Int32} (hg : g.nt < 2 ^ 31) (hB : B + 2001 < 2000000000) (h3 : a1 ≠ 3) (h10 : a1 < 10) (hl : 1 ≤ least) (hl2 : least ≤ 2001) (hm : MET (fun u => F8_isMet u (nI a1) a2 (nI 0)) hap r g sm lm cm) (hs : MSM (fun u => F8_isMet u (nI a1) a2 (nI 0)) r g sm lm cm) (h : QY c g 1 v sm lm cm B B) :
    ∃ x v' y c2, F8_goes (setR r v) (nI a1) a2 = some (x, setR r v') ∧ gUn hap 1 (nI (least - 1)) g FUEL (nI 0) c = some (.inl (y, c2)) ∧ FRM c c2 g ∧ ((y = m1 ∧ (x = m1 ∨ ∃ k, k ≤ 2000 ∧ x = nI k ∧ least ≤ k)) ∨ ∃ k, k ≤ 2000 ∧ x = nI k ∧ y = nI k ∧ k < least) := by
  obtain ⟨x, v', y, c2, j1, j2, j3, j4⟩ := goes_ok (r := r) (a1 := a1) (a2 := a2) (lim := least - 1) hg (by omega) hB (no3 h3 h10) hm hs h
  refine ⟨x, v', y, c2, j1, j2, j3, ?_⟩
  rcases j4 with ⟨a, b⟩ | ⟨k, a, b, d⟩
  · exact Or.inl ⟨b, Or.inl a⟩
  · by_cases q : k ≤ least - 1
    · rw [if_pos q] at d
      exact Or.inr ⟨k, a, b, d, by omega⟩
    · rw [if_neg q] at d
      exact Or.inl ⟨d, Or.inr ⟨k, a, b, by omega⟩⟩
theorem best_row {u r : RS} {v' : Nat → Int32} (h : ∀ j, j < 1037 → u 2 j = r 1 j) (hR : ∀ R, R ≠ 1 → R ≠ 2 → u R = r R) : (∀ R, R ≠ 1 → R ≠ 2 → cpA (setR u v') 2 0 1 0 R = r R) ∧ (∀ j, j < 1037 → cpA (setR u v') 2 0 1 0 2 j = r 1 j) ∧ (∀ j, j < 1037 → cpA (setR u v') 2 0 1 0 1 j = r 1 j) := by
  refine ⟨fun R a b => by rw [cpA_o a, setR_o a, hR R a b], fun j hj => by rw [cpA_o (by decide), setR_o (by decide), h j hj], fun j hj => ?_⟩
  have h1 := cpA_n (u := setR u v') (A := 2) (i := 0) (B := 1) (k := 0) hj
  simp only [Nat.mul_zero, Nat.zero_add] at h1
  rw [h1, setR_o (by decide), h j hj]
theorem bestRank_F {r : RS} {p l hi : Nat} {a1 : Int32} {a2 : Int32} : ∀ (d v0 fu : Nat) (best : Int32) (u : RS), v0 + d = hi + 1 → l ≤ v0 → d < fu → hi < 100 → p < 1037 → (∀ j, j < 1037 → u 2 j = r 1 j) → (∀ R, R ≠ 1 → R ≠ 2 → u R = r R) → (∀ x : Nat, ∀ u' : RS, (∀ j, j < 1037 → u' 2 j = r 1 j) → (∀ R, R ≠ 1 → R ≠ 2 → u' R = r R) → (∀ j, j < 1037 → u' 1 j = r 1 j) → l ≤ x → x ≤ hi → ∃ k v', F8_goes (setR u' (upd (u' 1) p (nI x))) a1 a2 = some (k, setR u' v') ∧ (k = m1 ∨ ∃ q, q ≤ 2000 ∧ k = nI q)) → (∀ j, j < 1037 → u 1 j = r 1 j) → ∃ b2 u2 z, F8_bestOf_L24 (nI p) (nI l) (nI hi) a1 a2 fu (nI v0) (nI 0) best u = some (z, nI 0, best, u2) ∧ (∀ R, R ≠ 1 → R ≠ 2 → u2 R = r R) ∧ (∀ j, j < 1037 → u2 1 j = r 1 j) ∧ b2 = best := by
  intro d
  induction d with
  | zero =>
    intro v0 fu best u hy hlo hfu hh hp h2 hR hg h1
    obtain ⟨fu, rfl⟩ : ∃ m, fu = m + 1 := ⟨fu - 1, by omega⟩
    rw [F8_bestOf_L24, if_pos (nI_lt (by omega) (by omega))]
    exact ⟨best, u, _, rfl, hR, h1, rfl⟩
  | succ d ih =>
    intro v0 fu best u hy hlo hfu hh hp h2 hR hg h1
    obtain ⟨fu, rfl⟩ : ∃ m, fu = m + 1 := ⟨fu - 1, by omega⟩
    obtain ⟨k, v', k1, k2⟩ := hg v0 u h2 hR h1 hlo (by omega)
    obtain ⟨b1, b2, b3⟩ := best_row (v' := v') h2 hR
    obtain ⟨b, u2, z, j1, j2, j3, j4⟩ := ih (v0 + 1) fu best _ (by omega) (by omega) (by omega) hh hp b2 b1 hg b3
    refine ⟨b, u2, z, ?_, j2, j3, j4⟩
    have e : ws u 1 1037 (nI p) (nI v0) = some (setR u (upd (u 1) p (nI v0))) := by rw [ws_n hp (by omega), up1]
    rw [F8_bestOf_L24, if_neg (nI_nlt (by omega) (by omega)), e, bS, k1, bS]
    simp only [lit32, neg1]
    rcases k2 with rfl | ⟨q, q1, rfl⟩
    · rw [if_pos rfl, bS, cp_2_1 (by omega) (by omega), bS, nI_add]; exact j1
    · rw [if_neg (m1_ne (by omega)), if_pos (nI_le (Nat.zero_le _) (by omega)), bS, cp_2_1 (by omega) (by omega), bS, nI_add]; exact j1
end
