theorem QR.congr {v w iv : Nat → Int32} {bp dl df tx bp2 dl2 df2 tx2 : Nat → Nat → Int32} {nt nt2 sm lm cm B U : Nat} (h : QR v w iv bp dl df tx nt sm lm cm B U) (hn : nt ≤ nt2) (hb : ∀ l, l < lm → bp2 l = bp l) (hd : ∀ l, l < lm → dl2 l = dl l) (hf : ∀ l, l < lm → df2 l = df l) (ht : ∀ t, 1 ≤ t → t ≤ nt → tx2 t = tx t) : QR v w iv bp2 dl2 df2 tx2 nt2 sm lm cm B U := by
  refine ⟨h.a, ?_, ?_, h.n, ?_, ?_, h.wh⟩
  · obtain ⟨b1, b2, b3, b4, b5, b6, b7, b8, b9, b10⟩ := h.s
    refine ⟨b1, b2, b3, b4, b5, b6, b7, b8, fun s hs => ?_, fun s hs => Nat.le_trans (b10 s hs) hn⟩
    obtain ⟨t, n, t1, t2, t3⟩ := b9 s hs
    exact ⟨t, n, t1, by omega, by rw [ht t t1 t2]; exact t3⟩
  · obtain ⟨b1, b2, b3, b4, b5, b6⟩ := h.c
    refine ⟨b1, b2, b3, b4, fun s hs => ?_, fun s hs => Nat.le_trans (b6 s hs) hn⟩
    obtain ⟨t, n, t1, t2, t3⟩ := b5 s hs
    exact ⟨t, n, t1, by omega, by rw [ht t t1 t2]; exact t3⟩
  · obtain ⟨b1, b2, b3, b4, b5, b6, b7, b8, b9, b10⟩ := h.l
    exact ⟨b1, b2, b3, b4, b5, b6, b7, fun l hl => by rw [hb l hl]; exact b8 l hl, fun l c hl => by rw [hb l hl]; exact b9 l c hl, fun l hl => by rw [hb l hl]; exact b10 l hl⟩
  · obtain ⟨b1, b2⟩ := h.d
    exact ⟨b1, fun d t l i q1 q2 q3 q4 hl => by rw [hd l hl, hf l hl]; exact b2 d t l i q1 q2 q3 q4 hl⟩
theorem QR.mono {v w iv : Nat → Int32} {bp dl df tx : Nat → Nat → Int32} {nt sm lm cm B U B2 U2 : Nat} (h : QR v w iv bp dl df tx nt sm lm cm B U) (hB : B ≤ B2) (hB2 : B2 < 2000000000) (hU : U ≤ U2) : QR v w iv bp dl df tx nt sm lm cm B2 U2 := by
  refine ⟨?_, ?_, h.c, h.n, h.l, h.d, h.wh⟩
  · obtain ⟨a1, a2, a3, a4, a5, a6, a7, a8, a9, t, t1, t2⟩ := h.a
    exact ⟨a1, a2, a3, hB2, a5, a6, a7, a8, a9, t, by omega, t2⟩
  · obtain ⟨b1, b2, b3, b4, b5, b6, b7, b8, b9, b10⟩ := h.s
    refine ⟨b1, b2, b3, b4, b5, b6, fun s hs => ?_, b8, b9, b10⟩
    obtain ⟨n, n1, n2⟩ := b7 s hs
    exact ⟨n, by omega, n2⟩
theorem QA.tick {va wa : Nat → Int32} {sm lm cm B t : Nat} (ht : t ≤ B) (h : QA va wa sm lm cm B) : QA (upd va 6 (nI t)) (upd wa 6 (nI t)) sm lm cm B := by
  obtain ⟨a1, a2, a3, a4, a5, a6, a7, a8, a9, a10⟩ := h
  refine ⟨a1, a2, a3, a4, ?_, ?_, ?_, fun i hi h1 h2 => ?_, ?_, ⟨t, ht, upd_e⟩⟩
  · rw [upd_n (by decide)]; exact a5
  · rw [upd_n (by decide)]; exact a6
  · rw [upd_n (by decide)]; exact a7
  · rw [upd_at, upd_at]; split
    · rfl
    · exact a8 i hi h1 h2
  · obtain ⟨d, d1, d2, d3⟩ := a9
    exact ⟨d, d1, d2, by rw [upd_n (by decide)]; exact d3⟩
theorem QD.time {va vp wa : Nat → Int32} {dl df : Nat → Nat → Int32} {lm d t : Nat} (h : QD va vp wa dl df lm) (h0 : wa 0 = nI d) (h6 : wa 6 = nI t) (hd : d < 2 ^ 31) (ht : t + 1 < 2 ^ 31) (hm : (t + 1) % d ≠ 0) : QD (upd va 6 (nI (t + 1))) vp (upd wa 6 (nI (t + 1))) dl df lm := by
  have dv1 := Nat.succ_div_of_mod_ne_zero hm
  refine ⟨fun d2 t2 q1 q2 q3 q4 => ?_, fun d2 t2 l i q1 q2 q3 q4 hl hi => ?_⟩
  · rw [upd_n (by decide), h0] at q3
    rw [upd_e] at q4
    obtain rfl : d = d2 := (nI_eq hd q1).mp q3
    obtain rfl : t + 1 = t2 := (nI_eq ht q2).mp q4
    rw [upd_n (by decide), dv1]
    exact h.many d t hd (by omega) h0 h6
  · rw [upd_n (by decide), h0] at q3
    rw [upd_e] at q4
    obtain rfl : d = d2 := (nI_eq hd q1).mp q3
    obtain rfl : t + 1 = t2 := (nI_eq ht q2).mp q4
    rw [dv1] at hi
    rw [dv1]
    exact h.ring d t l i hd (by omega) h0 h6 hl hi
theorem QD.day {va vp wa vp2 : Nat → Int32} {dl df dl2 df2 vl wl : Nat → Nat → Int32} {lm d t : Nat} (h : QD va vp wa dl df lm) (h0 : wa 0 = nI d) (h6 : wa 6 = nI t) (hd0 : 0 < d) (hd : d < 2 ^ 31) (ht : t + 1 < 2 ^ 31) (hm : (t + 1) % d = 0) (hlm : lm ≤ 6)
    (p0 : ∀ l k, l < 6 → k < 2 → vp2 (2 * l + k) = vl l (2 + k)) (p1 : ∀ i, 12 ≤ i → i < 120 → vp2 i = vp (i - 12)) (hvl : ∀ l k, l < lm → k < 4 → vl l k = wl l k)
    (hdl : ∀ l k, l < lm → dl2 l k = if k = ((t + 1) / d - 1) % 10 then wl l 2 else dl l k) (hdf : ∀ l k, l < lm → df2 l k = if k = ((t + 1) / d - 1) % 10 then wl l 3 else df l k) :
    QD (upd (upd va 6 (nI (t + 1))) 11 (if va 11 + nI 1 < nI 10 then va 11 + nI 1 else nI 10)) vp2 (upd wa 6 (nI (t + 1))) dl2 df2 lm := by
  have dv1 := Nat.succ_div_of_mod_eq_zero hm
  have hm0 := h.many d t hd (by omega) h0 h6
  refine ⟨fun d2 t2 q1 q2 q3 q4 => ?_, fun d2 t2 l i q1 q2 q3 q4 hl hi => ?_⟩
  · rw [upd_n (by decide), h0] at q3
    rw [upd_e] at q4
    obtain rfl : d = d2 := (nI_eq hd q1).mp q3
    obtain rfl : t + 1 = t2 := (nI_eq ht q2).mp q4
    rw [upd_e, dv1, hm0, nI_add]
    by_cases c : min 10 (t / d) + 1 < 10
    · rw [if_pos (nI_lt c (by omega))]; congr 1; omega
    · rw [if_neg (nI_nlt (by omega) (by omega))]; congr 1; omega
  · rw [upd_n (by decide), h0] at q3
    rw [upd_e] at q4
    obtain rfl : d = d2 := (nI_eq hd q1).mp q3
    obtain rfl : t + 1 = t2 := (nI_eq ht q2).mp q4
    rw [hdl l _ hl, hdf l _ hl, dv1]
    rw [dv1] at hi
    by_cases i0 : i = 0
    · subst i0
      rw [if_pos (by simp), if_pos (by simp)]
      have a := p0 l 0 (by omega) (by omega)
      have b := p0 l 1 (by omega) (by omega)
      rw [hvl l (2 + 0) hl (by omega)] at a
      rw [hvl l (2 + 1) hl (by omega)] at b
      refine ⟨?_, ?_⟩
      · refine Eq.trans ?_ a; congr 1; omega
      · refine Eq.trans ?_ b; congr 1; omega
    · have hr := h.ring d t l (i - 1) hd (by omega) h0 h6 hl (by omega)
      have e1 : (t / d - 1 - (i - 1)) % 10 = (t / d + 1 - 1 - i) % 10 := by congr 1; omega
      rw [e1] at hr
      rw [if_neg (by omega), if_neg (by omega), p1 _ (by omega) (by omega), p1 _ (by omega) (by omega)]
      refine ⟨?_, ?_⟩
      · refine Eq.trans ?_ hr.1; congr 1; omega
      · refine Eq.trans ?_ hr.2; congr 1; omega
theorem QL.day {vl wl we wc bp vl2 wl2 bp2 : Nat → Nat → Int32} {lm cm : Nat} (h : QL vl wl we wc bp lm cm) (h1 : ∀ l k, l < lm → k < 4 → vl2 l k = if 2 ≤ k then nI 0 else vl l k) (h2 : ∀ l k, l < lm → k < 4 → wl2 l k = if 2 ≤ k then nI 0 else wl l k) (hb : ∀ l, l < lm → bp2 l = bp l) : QL vl2 wl2 we wc bp2 lm cm := by
  obtain ⟨b1, b2, b3, b4, b5, b6, b7, b8, b9, b10⟩ := h
  refine ⟨fun l k hl hk => ?_, fun l hl => ?_, b3, b4, b5, b6, fun l hl => ?_, fun l hl => by rw [hb l hl]; exact b8 l hl, fun l c hl => by rw [hb l hl]; exact b9 l c hl, fun l hl => by rw [hb l hl]; exact b10 l hl⟩
  · rw [h1 l k hl hk, h2 l k hl hk, b1 l k hl hk]
  · rw [h2 l 0 hl (by omega)]; exact b2 l hl
  · rw [h2 l 1 hl (by omega)]; exact b7 l hl
noncomputable def tmV (v : Nat → Int32) (t d : Nat) : Nat → Int32 := if (t + 1) % d = 0 then dyV (upd v 6 (nI (t + 1))) (if v 11 + nI 1 < nI 10 then v 11 + nI 1 else nI 10) else upd v 6 (nI (t + 1))
noncomputable def tmW (w : Nat → Int32) (t d lm : Nat) : Nat → Int32 := if (t + 1) % d = 0 then zW (upd w 6 (nI (t + 1))) lm else upd w 6 (nI (t + 1))
noncomputable def tmK (c : RS) (L : Nat) (w : Nat → Int32) (t d lm : Nat) : RS := if (t + 1) % d = 0 then dyK c L (((t + 1) / d - 1) % 10) (upd w 6 (nI (t + 1))) lm else c
theorem dyV_lo {v : Nat → Int32} {x : Int32} {j : Nat} (h : j < 113) (h2 : j ≠ 11) : dyV v x j = v j := by
  unfold dyV
  rw [upd_n h2]
  unfold dlV shV
  rw [if_neg (by omega), if_neg (by omega), if_neg (by omega)]
theorem tmV_lo {v : Nat → Int32} {t d j : Nat} (h : j < 113) (h2 : j ≠ 11) (h6 : j ≠ 6) : tmV v t d j = v j := by
  unfold tmV
  split
  · rw [dyV_lo h h2, upd_n h6]
  · rw [upd_n h6]
theorem dyV_16 {v : Nat → Int32} {x z : Int32} : upd (dyV v x) 16 z = dyV (upd v 16 z) x := by
  unfold dyV
  rw [upd_c (by decide)]
  congr 1
  funext j
  by_cases e : j = 16
  · subst e
    rw [upd_e]
    unfold dlV shV
    rw [if_neg (by omega), if_neg (by omega), if_neg (by omega), upd_e]
  · rw [upd_n e]
    unfold dlV shV
    by_cases h1 : 917 ≤ j ∧ j < 917 + 2 * 6
    · rw [if_pos h1, if_pos h1, if_neg (by omega), if_neg (by omega), upd_n (by omega)]
    · rw [if_neg h1, if_neg h1]
      by_cases h2 : 113 ≤ j ∧ j < 113 + 4 * 6 ∧ 2 ≤ (j - 113) % 4
      · rw [if_pos h2, if_pos h2]
      · rw [if_neg h2, if_neg h2]
        by_cases h3 : 917 + 11 < j ∧ j < 1037
        · rw [if_pos h3, if_pos h3, upd_n (by omega)]
        · rw [if_neg h3, if_neg h3, upd_n e]
theorem tmV_16 {v : Nat → Int32} {t d : Nat} {z : Int32} : upd (tmV v t d) 16 z = tmV (upd v 16 z) t d := by
  unfold tmV
  by_cases h : (t + 1) % d = 0
  · rw [if_pos h, if_pos h, dyV_16, upd_c (i := 6) (by decide), upd_n (i := 16) (by decide)]
  · rw [if_neg h, if_neg h, upd_c (by decide)]
theorem restF {r : RS} {v : Nat → Int32} {t d sm : Nat} (hsm : sm ≤ 6) (h7 : v 7 = nI sm) (hn : ∀ s, s < sm → ∃ n, n ≤ 1000 ∧ v (17 + 16 * s + 3) = nI n) (h6 : v 6 = nI t) (h0 : v 0 = nI d) (hd0 : 0 < d) (hd : d < 2 ^ 31) (ht : t + 1 < 2 ^ 31) :
    ((ws (setR r v) 1 1037 (nI 6) (v 6 + nI 1)).bind fun u13 => (rm (u13 1 6) (u13 1 0)).bind fun x15 => (if x15 = nI 0 then ((F8_dayEnds u13).bind fun u40 => some u40) else (some u13) : Option (RS)).bind fun t18 => (F8_passes_L67 FUEL (nI 0) t18).bind fun t25 => some (t25.2)) = some (setR r (tmV (upd v 16 (v 16 + nI (rdS v 0 sm))) t d)) := by
  have e1 : (ws (setR r v) 1 1037 (nI 6) (v 6 + nI 1)) = some (setR r (upd v 6 (nI (t + 1)))) := by
    rw [ws_n (by omega) (by omega), up_setR, h6, nI_add]
  have e2 : (if nI ((t + 1) % d) = nI 0 then ((F8_dayEnds (setR r (upd v 6 (nI (t + 1))))).bind fun u40 => some u40) else (some (setR r (upd v 6 (nI (t + 1))))) : Option (RS)) = some (setR r (tmV v t d)) := by
    unfold tmV
    by_cases h : (t + 1) % d = 0
    · rw [if_pos (congrArg nI h), if_pos h, dayEnds_v, bS, upd_n (by decide)]
    · have := Nat.mod_lt (t + 1) hd0
      rw [if_neg (nI_ne h (by omega) (by omega)), if_neg h]
  have e3 : tmV v t d = upd (tmV v t d) 16 (v 16) := by
    rw [← tmV_lo (v := v) (t := t) (d := d) (j := 16) (by omega) (by omega) (by omega), upd_s]
  rw [e1, bS]
  simp only [setR_1]
  rw [upd_e, upd_n (by decide), h0, rm_n ht hd0 hd, bS, e2, bS, e3, stoodF hsm (by rw [tmV_lo (by omega) (by omega) (by omega)]; exact h7) (fun s hs => by rw [tmV_lo (by omega) (by omega) (by omega)]; exact hn s hs) sm 0 FUEL _ (by omega) (by show sm < 10000; omega), bS]
  rw [rdS_congr (w := v) (fun s hs => ⟨tmV_lo (by omega) (by omega) (by omega), tmV_lo (by omega) (by omega) (by omega)⟩), tmV_16]
theorem passTime_w {c : RS} {g : CG} {L t d lm : Nat} {w iv : Nat → Int32} (hL : L < 12) (hlm : lm ≤ 6) (h8 : w 8 = nI lm) (h6 : w 6 = nI t) (h0 : w 0 = nI d) (hd0 : 0 < d) (hd : d < 2 ^ 31) (ht : t + 1 < 2 ^ 31) : C3_passTime g (setL c L w iv) L = some (setL (tmK c L w t d lm) L (tmW w t d lm) iv) := by
  unfold C3_passTime tmK tmW
  simp (disch := omega) only [lit32, neg1, nI_add, nI_mul, bS, pt_n, ix_n, rd_n, ws_n, rdo_n, wso_n, setR_1, setL_w, setL_iv, up_setR, up_setL_w, up_setL_iv, nz_0, nz_1, h6, h0, upd_n, upd_e]
  rw [if_neg (nI_ge (by omega) (by omega)), rm_n ht hd0 hd, bS]
  by_cases h : (t + 1) % d = 0
  · rw [if_pos (congrArg nI h), if_pos h, if_pos h]
    have q1 : 1 ≤ (t + 1) / d := by rw [Nat.succ_div_of_mod_eq_zero h]; exact Nat.le_add_left 1 _
    have q2 : (t + 1) / d ≤ t + 1 := Nat.div_le_self _ _
    have hD : C3_daysOver g (setL c L (upd w 6 (nI (t + 1))) iv) L = some (nI ((t + 1) / d)) := by
      unfold C3_daysOver
      simp (disch := omega) only [lit32, neg1, nI_add, nI_mul, bS, pt_n, ix_n, rd_n, ws_n, rdo_n, wso_n, setR_1, setL_w, setL_iv, up_setR, up_setL_w, up_setL_iv, nz_0, nz_1, h0, upd_n, upd_e]
      rw [if_neg (nI_ge (by omega) (by omega))]
      unfold dv
      rw [if_neg (show ¬ nI d = 0 from nI_ne0 (by omega) (by omega)), pk_div ht hd0 hd, bS, bS]
    have hk : ((t + 1) / d - 1) % 10 < 10 := Nat.mod_lt _ (by omega)
    have p := passC (c := c) (g := g) (iv := iv) (w := upd w 6 (nI (t + 1))) hL hlm hk (by rw [upd_n (by decide)]; exact h8) lm 0 FUEL (by omega) (by show lm < 10000; omega)
    have k0 : dyK c L (((t + 1) / d - 1) % 10) (upd w 6 (nI (t + 1))) 0 = c := by
      funext R j; unfold dyK; rw [if_neg (by omega), if_neg (by omega)]
    have z0 : zW (upd w 6 (nI (t + 1))) 0 = upd w 6 (nI (t + 1)) := by
      funext j; unfold zW; exact if_neg (by omega)
    rw [k0, z0] at p
    rw [hD, bS, nI_sub q1, rm_n (by omega) (by omega) (by omega), bS, p, bS, bS]
  · have := Nat.mod_lt (t + 1) hd0
    rw [if_neg (nI_ne h (by omega) (by omega)), if_neg h, if_neg h, bS]
theorem zW_v {w : Nat → Int32} {l j : Nat} (h : ¬ (113 ≤ j ∧ j < 137)) (hl : l ≤ 6) : zW w l j = w j := by unfold zW; exact if_neg (by omega)
theorem zS {w : Nat → Int32} {l : Nat} (hl : l ≤ 6) : sS (zW w l) = sS w := by
  funext a b; unfold sS; split
  · exact zW_v (by omega) hl
  · rfl
theorem zC {w : Nat → Int32} {l : Nat} (hl : l ≤ 6) : sC (zW w l) = sC w := by
  funext a b; unfold sC; split
  · exact zW_v (by omega) hl
  · rfl
theorem zA {w : Nat → Int32} {l : Nat} (hl : l ≤ 6) : sA (zW w l) = sA w := by
  funext a; unfold sA; split
  · exact zW_v (by omega) hl
  · rfl
theorem zF {w : Nat → Int32} {l : Nat} (hl : l ≤ 6) : sF (zW w l) = sF w := by
  funext a; unfold sF; split
  · exact zW_v (by omega) hl
  · rfl
theorem zE {w : Nat → Int32} {l : Nat} (hl : l ≤ 6) : sE (zW w l) = sE w := by
  funext a b; unfold sE; split
  · exact zW_v (by omega) hl
  · rfl
theorem zL {w : Nat → Int32} {lm l k : Nat} (hlm : lm ≤ 6) (hl : l < lm) (hk : k < 4) : sL (zW w lm) l k = if 2 ≤ k then nI 0 else sL w l k := by
  rw [← sL_r (v := zW w lm) (by omega) hk, ← sL_r (v := w) (by omega) hk]
  unfold zW
  by_cases h : 2 ≤ k
  · rw [if_pos (by omega), if_pos h]
  · rw [if_neg (by omega), if_neg h]
theorem dyK_o {c : RS} {L k R lm : Nat} {w : Nat → Int32} (hL : L < 12) (hlm : lm ≤ 6) (h : ¬ (200 ≤ R ∧ R < 400)) : dyK c L k w lm R = c R := by
  funext j; unfold dyK; rw [if_neg (by omega), if_neg (by omega)]
theorem time_ok {c : RS} {g : CG} {L sm lm cm B U t d : Nat} {v w iv : Nat → Int32} (hL : L < 12) (h : QX c g L v w iv sm lm cm B U) (hB : B + 1 < 2000000000) (h6 : w 6 = nI t) (h0 : w 0 = nI d) (hd0 : 0 < d) (hd : d < 2 ^ 31) (ht : t ≤ B) : QX (tmK c L w t d lm) g L (tmV v t d) (tmW w t d lm) iv sm lm cm (B + 1) U := by
  have hlm := h.a.lm6
  have h' := h.mono (B2 := B + 1) (U2 := U) (by omega) hB (Nat.le_refl U)
  have a6 : sA w 6 = nI t := by rw [← sA_r (v := w) (by omega)]; exact h6
  have a0 : sA w 0 = nI d := by rw [← sA_r (v := w) (by omega)]; exact h0
  have a11 : v 11 = sA v 11 := sA_r (v := v) (by omega)
  unfold tmK tmV tmW
  by_cases hm : (t + 1) % d = 0
  · rw [if_pos hm, if_pos hm, if_pos hm]
    have ht5 : (fun t' => dyK c L (((t + 1) / d - 1) % 10) (upd w 6 (nI (t + 1))) lm (500 + t')) = fun t' => c (500 + t') := by
      funext t'; exact dyK_o hL hlm (by omega)
    refine ⟨?_, ?_, ?_, ?_, ?_, ?_, ?_⟩
    · rw [dyA, zA hlm, sA_A (by omega), sA_A (by omega)]
      exact (QA.tick (by omega) h'.a).v (Or.inr rfl)
    · rw [dyS, zS hlm, zC hlm, sS_A (by omega), sS_A (by omega), sC_A (by omega), ht5]
      exact h'.s
    · rw [dyC, zC hlm, sC_A (by omega), sC_A (by omega), ht5]
      exact h'.c
    · rw [dyA, dyF, zF hlm, zC hlm, sA_A (by omega), sF_A (by omega), sF_A (by omega), sC_A (by omega)]
      exact (h'.n.va (by decide)).va (by decide)
    · rw [zE hlm, zC hlm, sE_A (by omega), sC_A (by omega)]
      refine h'.l.day (fun l k hl hk => ?_) (fun l k hl hk => ?_) (fun l hl => dyK_o hL hlm (by omega))
      · rw [dyL (by omega) hk, sL_A (by omega)]
      · rw [zL hlm hl hk, sL_A (by omega)]
    · rw [dyA, zA hlm, sA_A (by omega), sA_A (by omega), a11]
      refine QD.day (vl := sL v) (wl := sL w) h'.d a0 a6 hd0 hd (by omega) hm hlm (fun l k hl hk => ?_) (fun i h1 h2 => ?_) (fun l k hl hk => h'.l.eql l k hl hk) (fun l k hl => ?_) (fun l k hl => ?_)
      · rw [dyP0 hl hk, sL_A (by omega)]
      · rw [dyP1 h1 h2, sP_A (by omega)]
      · unfold dyK
        by_cases e : k = ((t + 1) / d - 1) % 10
        · rw [if_pos (by omega), if_pos e, show 200 + 6 * L + l - 200 - 6 * L = l by omega, upd_n (by omega)]
          exact sL_r (v := w) (by omega) (by omega)
        · rw [if_neg (by omega), if_neg (by omega), if_neg e]
      · unfold dyK
        by_cases e : k = ((t + 1) / d - 1) % 10
        · rw [if_neg (by omega), if_pos (by omega), if_pos e, show 300 + 6 * L + l - 300 - 6 * L = l by omega, upd_n (by omega)]
          exact sL_r (v := w) (by omega) (by omega)
        · rw [if_neg (by omega), if_neg (by omega), if_neg e]
    · rw [zC hlm, sC_A (by omega)]; exact h'.wh
  · rw [if_neg hm, if_neg hm, if_neg hm]
    refine ⟨?_, ?_, ?_, ?_, ?_, ?_, ?_⟩
    · rw [sA_A (by omega), sA_A (by omega)]; exact QA.tick (by omega) h'.a
    · rw [sS_A (by omega), sS_A (by omega), sC_A (by omega)]; exact h'.s
    · rw [sC_A (by omega), sC_A (by omega)]; exact h'.c
    · rw [sA_A (by omega), sF_A (by omega), sF_A (by omega), sC_A (by omega)]; exact h'.n.va (by decide)
    · rw [sL_A (by omega), sL_A (by omega), sE_A (by omega), sC_A (by omega)]; exact h'.l
    · rw [sA_A (by omega), sA_A (by omega), sP_A (by omega)]; exact h'.d.time a0 a6 hd (by omega) hm
    · rw [sC_A (by omega)]; exact h'.wh
