section
theorem QR.congr {v w iv : Nat → Int32} {bp dl df tx bp2 dl2 df2 tx2 : Nat → Nat → Int32} {nt nt2 sm lm cm B U : Nat} (h : QR v w iv bp dl df tx nt sm lm cm B U) (hn : nt ≤ nt2) (hb : ∀ l, l < lm → bp2 l = bp l) (hd : ∀ l, l < lm → dl2 l = dl l) (hf : ∀ l, l < lm → df2 l = df l) (ht : ∀ t, 1 ≤ t → t ≤ nt → tx2 t = tx t) : QR v w iv bp2 dl2 df2 tx2 nt2 sm lm cm B U := by
  refine ⟨h.a, ?_, ?_, h.n, ?_, ?_, h.wh⟩
  · obtain ⟨b1, b2, b3, b4, b5, b6, b7, b8, b9, b10⟩ := h.s
    refine ⟨b1, b2, b3, b4, b5, b6, b7, b8, fun s hs => ?_, fun s hs => Nat.le_trans (b10 s hs) hn⟩
    obtain ⟨t, n, t1, t2, t3⟩ := b9 s hs
    exact ⟨t, n, t1, by omega, by rw [ht t t1 t2]; exact t3⟩
  · obtain ⟨b1, b2, b3, b4, b5, b6⟩ := h.c
    refine ⟨b1, b2, b3, b4, fun s hs => ?_, fun s hs => Nat.le_trans (b6 s hs) hn⟩
    obtain ⟨t, n, t1, t2, t3⟩ := b5 s hs
    exact ⟨t, n, t1, by omega, by rw [ht t t1 t2]; exact t3⟩
  · obtain ⟨b1, b2, b3, b4, b5, b6, b7, b8, b9, b10⟩ := h.l
    exact ⟨b1, b2, b3, b4, b5, b6, b7, fun l hl => by rw [hb l hl]; exact b8 l hl, fun l c hl => by rw [hb l hl]; exact b9 l c hl, fun l hl => by rw [hb l hl]; exact b10 l hl⟩
  · obtain ⟨b1, b2⟩ := h.d
    exact ⟨b1, fun d t l i q1 q2 q3 q4 hl => by rw [hd l hl, hf l hl]; exact b2 d t l i q1 q2 q3 q4 hl⟩
theorem QR.mono {v w iv : Nat → Int32} {bp dl df tx : Nat → Nat → Int32} {nt sm lm cm B U B2 U2 : Nat} (h : QR v w iv bp dl df tx nt sm lm cm B U) (hB : B ≤ B2) (hB2 : B2 < 2000000000) (hU : U ≤ U2) : QR v w iv bp dl df tx nt sm lm cm B2 U2 := by
  refine ⟨?_, ?_, h.c, h.n, h.l, h.d, h.wh⟩
  · obtain ⟨a1, a2, a3, a4, a5, a6, a7, a8, a9, t, t1, t2⟩ := h.a
    exact ⟨a1, a2, a3, hB2, a5, a6, a7, a8, a9, t, by omega, t2⟩
  · obtain ⟨b1, b2, b3, b4, b5, b6, b7, b8, b9, b10⟩ := h.s
    refine ⟨b1, b2, b3, b4, b5, b6, fun s hs => ?_, b8, b9, b10⟩
    obtain ⟨n, n1, n2⟩ := b7 s hs
    exact ⟨n, by omega, n2⟩
theorem QA.tick {va wa : Nat → Int32} {sm lm cm B t : Nat} (ht : t ≤ B) (h : QA va wa sm lm cm B) : QA (upd va 6 (nI t)) (upd wa 6 (nI t)) sm lm cm B := by
  obtain ⟨a1, a2, a3, a4, a5, a6, a7, a8, a9, a10⟩ := h
  refine ⟨a1, a2, a3, a4, ?_, ?_, ?_, fun i hi h1 h2 => ?_, ?_, ⟨t, ht, upd_e⟩⟩
  · rw [upd_n (by decide)]; exact a5
  · rw [upd_n (by decide)]; exact a6
  · rw [upd_n (by decide)]; exact a7
  · rw [upd_at, upd_at]; split
    · rfl
    · exact a8 i hi h1 h2
  · obtain ⟨d, d1, d2, d3⟩ := a9
    exact ⟨d, d1, d2, by rw [upd_n (by decide)]; exact d3⟩
theorem QD.time {va vp wa : Nat → Int32} {dl df : Nat → Nat → Int32} {lm d t : Nat} (h : QD va vp wa dl df lm) (h0 : wa 0 = nI d) (h6 : wa 6 = nI t) (hd : d < 2 ^ 31) (ht : t + 1 < 2 ^ 31) (hm : (t + 1) % d ≠ 0) : QD (upd va 6 (nI (t + 1))) vp (upd wa 6 (nI (t + 1))) dl df lm := by
  have dv1 := Nat.succ_div_of_mod_ne_zero hm
  refine ⟨fun d2 t2 q1 q2 q3 q4 => ?_, fun d2 t2 l i q1 q2 q3 q4 hl hi => ?_⟩
  · rw [upd_n (by decide), h0] at q3
    rw [upd_e] at q4
    obtain rfl : d = d2 := (nI_eq hd q1).mp q3
    obtain rfl : t + 1 = t2 := (nI_eq ht q2).mp q4
    rw [upd_n (by decide), dv1]
    exact h.many d t hd (by omega) h0 h6
  · rw [upd_n (by decide), h0] at q3
    rw [upd_e] at q4
    obtain rfl : d = d2 := (nI_eq hd q1).mp q3
    obtain rfl : t + 1 = t2 := (nI_eq ht q2).mp q4
    rw [dv1] at hi
    rw [dv1]
    exact h.ring d t l i hd (by omega) h0 h6 hl hi
theorem QD.day {va vp wa vp2 : Nat → Int32} {dl df dl2 df2 vl wl : Nat → Nat → Int32} {lm d t : Nat} (h : QD va vp wa dl df lm) (h0 : wa 0 = nI d) (h6 : wa 6 = nI t) (hd0 : 0 < d) (hd : d < 2 ^ 31) (ht : t + 1 < 2 ^ 31) (hm : (t + 1) % d = 0) (hlm : lm ≤ 6)
    (p0 : ∀ l k, l < 6 → k < 2 → vp2 (2 * l + k) = vl l (2 + k)) (p1 : ∀ i, 12 ≤ i → i < 120 → vp2 i = vp (i - 12)) (hvl : ∀ l k, l < lm → k < 4 → vl l k = wl l k)
    (hdl : ∀ l k, l < lm → dl2 l k = if k = ((t + 1) / d - 1) % 10 then wl l 2 else dl l k) (hdf : ∀ l k, l < lm → df2 l k = if k = ((t + 1) / d - 1) % 10 then wl l 3 else df l k) :
    QD (upd (upd va 6 (nI (t + 1))) 11 (if va 11 + nI 1 < nI 10 then va 11 + nI 1 else nI 10)) vp2 (upd wa 6 (nI (t + 1))) dl2 df2 lm := by
  have dv1 := Nat.succ_div_of_mod_eq_zero hm
  have hm0 := h.many d t hd (by omega) h0 h6
  refine ⟨fun d2 t2 q1 q2 q3 q4 => ?_, fun d2 t2 l i q1 q2 q3 q4 hl hi => ?_⟩
  · rw [upd_n (by decide), h0] at q3
    rw [upd_e] at q4
    obtain rfl : d = d2 := (nI_eq hd q1).mp q3
    obtain rfl : t + 1 = t2 := (nI_eq ht q2).mp q4
    rw [upd_e, dv1, hm0, nI_add]
    by_cases c : min 10 (t / d) + 1 < 10
    · rw [if_pos (nI_lt c (by omega))]; congr 1; omega
    · rw [if_neg (nI_nlt (by omega) (by omega))]; congr 1; omega
  · rw [upd_n (by decide), h0] at q3
    rw [upd_e] at q4
    obtain rfl : d = d2 := (nI_eq hd q1).mp q3
    obtain rfl : t + 1 = t2 := (nI_eq ht q2).mp q4
    rw [hdl l _ hl, hdf l _ hl, dv1]
    rw [dv1] at hi
    by_cases i0 : i = 0
    · subst i0
      rw [if_pos (by simp), if_pos (by simp)]
      have a := p0 l 0 (by omega) (by omega)
      have b := p0 l 1 (by omega) (by omega)
      rw [hvl l (2 + 0) hl (by omega)] at a
      rw [hvl l (2 + 1) hl (by omega)] at b
      refine ⟨?_, ?_⟩
      · refine Eq.trans ?_ a; congr 1; omega
      · refine Eq.trans ?_ b; congr 1; omega
    · have hr := h.ring d t l (i - 1) hd (by omega) h0 h6 hl (by omega)
      have e1 : (t / d - 1 - (i - 1)) % 10 = (t / d + 1 - 1 - i) % 10 := by congr 1; omega
      rw [e1] at hr
      rw [if_neg (by omega), if_neg (by omega), p1 _ (by omega) (by omega), p1 _ (by omega) (by omega)]
      refine ⟨?_, ?_⟩
      · refine Eq.trans ?_ hr.1; congr 1; omega
      · refine Eq.trans ?_ hr.2; congr 1; omega
theorem QL.day {vl wl we wc bp vl2 wl2 bp2 : Nat → Nat → Int32} {lm cm : Nat} (h : QL vl wl we wc bp lm cm) (h1 : ∀ l k, l < lm → k < 4 → vl2 l k = if 2 ≤ k then nI 0 else vl l k) (h2 : ∀ l k, l < lm → k < 4 → wl2 l k = if 2 ≤ k then nI 0 else wl l k) (hb : ∀ l, l < lm → bp2 l = bp l) : QL vl2 wl2 we wc bp2 lm cm := by
  obtain ⟨b1, b2, b3, b4, b5, b6, b7, b8, b9, b10⟩ := h
  refine ⟨fun l k hl hk => ?_, fun l hl => ?_, b3, b4, b5, b6, fun l hl => ?_, fun l hl => by rw [hb l hl]; exact b8 l hl, fun l c hl => by rw [hb l hl]; exact b9 l c hl, fun l hl => by rw [hb l hl]; exact b10 l hl⟩
  · rw [h1 l k hl hk, h2 l k hl hk, b1 l k hl hk]
  · rw [h2 l 0 hl (by omega)]; exact b2 l hl
  · rw [h2 l 1 hl (by omega)]; exact b7 l hl
noncomputable def tmV (v : Nat → Int32) (t d : Nat) : Nat → Int32 := if (t + 1) % d = 0 then dyV (upd v 6 (nI (t + 1))) (if v 11 + nI 1 < nI 10 then v 11 + nI 1 else nI 10) else upd v 6 (nI (t + 1))
noncomputable def tmW (w : Nat → Int32) (t d lm : Nat) : Nat → Int32 := if (t + 1) % d = 0 then zW (upd w 6 (nI (t + 1))) lm else upd w 6 (nI (t + 1))
noncomputable def tmK (c : RS) (L : Nat) (w : Nat → Int32) (t d lm : Nat) : RS := if (t + 1) % d = 0 then dyK c L (((t + 1) / d - 1) % 10) (upd w 6 (nI (t + 1))) lm else c
theorem dyV_lo {v : Nat → Int32} {x : Int32} {j : Nat} (h : j < 113) (h2 : j ≠ 11) : dyV v x j = v j := by
  unfold dyV
  rw [upd_n h2]
  unfold dlV shV
  rw [if_neg (by omega), if_neg (by omega), if_neg (by omega)]
theorem tmV_lo {v : Nat → Int32} {t d j : Nat} (h : j < 113) (h2 : j ≠ 11) (h6 : j ≠ 6) : tmV v t d j = v j := by
  unfold tmV
  split
  · rw [dyV_lo h h2, upd_n h6]
  · rw [upd_n h6]
theorem dyV_16 {v : Nat → Int32} {x z : Int32} : upd (dyV v x) 16 z = dyV (upd v 16 z) x := by
  unfold dyV
  rw [upd_c (by decide)]
  congr 1
  funext j
  by_cases e : j = 16
  · subst e
    rw [upd_e]
    unfold dlV shV
    rw [if_neg (by omega), if_neg (by omega), if_neg (by omega), upd_e]
  · rw [upd_n e]
    unfold dlV shV
    by_cases h1 : 917 ≤ j ∧ j < 917 + 2 * 6
    · rw [if_pos h1, if_pos h1, if_neg (by omega), if_neg (by omega), upd_n (by omega)]
    · rw [if_neg h1, if_neg h1]
      by_cases h2 : 113 ≤ j ∧ j < 113 + 4 * 6 ∧ 2 ≤ (j - 113) % 4
      · rw [if_pos h2, if_pos h2]
      · rw [if_neg h2, if_neg h2]
        by_cases h3 : 917 + 11 < j ∧ j < 1037
        · rw [if_pos h3, if_pos h3, upd_n (by omega)]
        · rw [if_neg h3, if_neg h3, upd_n e]
theorem tmV_16 {v : Nat → Int32} {t d : Nat} {z : Int32} : upd (tmV v t d) 16 z = tmV (upd v 16 z) t d := by
  unfold tmV
  by_cases h : (t + 1) % d = 0
  · rw [if_pos h, if_pos h, dyV_16, upd_c (i := 6) (by decide), upd_n (i := 16) (by decide)]
  · rw [if_neg h, if_neg h, upd_c (by decide)]
theorem restF {r : RS} {v : Nat → Int32} {t d sm : Nat} (hsm : sm ≤ 6) (h7 : v 7 = nI sm) (hn : ∀ s, s < sm → ∃ n, n ≤ 1000 ∧ v (17 + 16 * s + 3) = nI n) (h6 : v 6 = nI t) (h0 : v 0 = nI d) (hd0 : 0 < d) (hd : d < 2 ^ 31) (ht : t + 1 < 2 ^ 31) :
    ((ws (setR r v) 1 1037 (nI 6) (v 6 + nI 1)).bind fun u13 => (rm (u13 1 6) (u13 1 0)).bind fun x15 => (if x15 = nI 0 then ((F8_dayEnds u13).bind fun u40 => some u40) else (some u13) : Option (RS)).bind fun t18 => (F8_passes_L67 FUEL (nI 0) t18).bind fun t25 => some (t25.2)) = some (setR r (tmV (upd v 16 (v 16 + nI (rdS v 0 sm))) t d)) := by
  have e1 : (ws (setR r v) 1 1037 (nI 6) (v 6 + nI 1)) = some (setR r (upd v 6 (nI (t + 1)))) := by
    rw [ws_n (by omega) (by omega), up_setR, h6, nI_add]
  have e2 : (if nI ((t + 1) % d) = nI 0 then ((F8_dayEnds (setR r (upd v 6 (nI (t + 1))))).bind fun u40 => some u40) else (some (setR r (upd v 6 (nI (t + 1))))) : Option (RS)) = some (setR r (tmV v t d)) := by
    unfold tmV
    by_cases h : (t + 1) % d = 0
    · rw [if_pos (congrArg nI h), if_pos h, dayEnds_v, bS, upd_n (by decide)]
    · have := Nat.mod_lt (t + 1) hd0
      rw [if_neg (nI_ne h (by omega) (by omega)), if_neg h]
  have e3 : tmV v t d = upd (tmV v t d) 16 (v 16) := by
    rw [← tmV_lo (v := v) (t := t) (d := d) (j := 16) (by omega) (by omega) (by omega), upd_s]
  rw [e1, bS]
  simp only [setR_1]
  rw [upd_e, upd_n (by decide), h0, rm_n ht hd0 hd, bS, e2, bS, e3, stoodF hsm (by rw [tmV_lo (by omega) (by omega) (by omega)]; exact h7) (fun s hs => by rw [tmV_lo (by omega) (by omega) (by omega)]; exact hn s hs) sm 0 FUEL _ (by omega) (by show sm < 10000; omega), bS]
  rw [rdS_congr (w := v) (fun s hs => ⟨tmV_lo (by omega) (by omega) (by omega), tmV_lo (by omega) (by omega) (by omega)⟩), tmV_16]
theorem passTime_w {c : RS} {g : CG} {L t d lm : Nat} {w iv : Nat → Int32} (hL : L < 12) (hlm : lm ≤ 6) (h8 : w 8 = nI lm) (h6 : w 6 = nI t) (h0 : w 0 = nI d) (hd0 : 0 < d) (hd : d < 2 ^ 31) (ht : t + 1 < 2 ^ 31) : C3_passTime g (setL c L w iv) L = some (setL (tmK c L w t d lm) L (tmW w t d lm) iv) := by
  unfold C3_passTime tmK tmW
  simp (disch := omega) only [lit32, neg1, nI_add, nI_mul, bS, pt_n, ix_n, rd_n, ws_n, rdo_n, wso_n, setR_1, setL_w, setL_iv, up_setR, up_setL_w, up_setL_iv, nz_0, nz_1, h6, h0, upd_n, upd_e]
  rw [if_neg (nI_ge (by omega) (by omega)), rm_n ht hd0 hd, bS]
  by_cases h : (t + 1) % d = 0
  · rw [if_pos (congrArg nI h), if_pos h, if_pos h]
    have q1 : 1 ≤ (t + 1) / d := by rw [Nat.succ_div_of_mod_eq_zero h]; exact Nat.le_add_left 1 _
    have q2 : (t + 1) / d ≤ t + 1 := Nat.div_le_self _ _
    have hD : C3_daysOver g (setL c L (upd w 6 (nI (t + 1))) iv) L = some (nI ((t + 1) / d)) := by
      unfold C3_daysOver
      simp (disch := omega) only [lit32, neg1, nI_add, nI_mul, bS, pt_n, ix_n, rd_n, ws_n, rdo_n, wso_n, setR_1, setL_w, setL_iv, up_setR, up_setL_w, up_setL_iv, nz_0, nz_1, h0, upd_n, upd_e]
      rw [if_neg (nI_ge (by omega) (by omega))]
      unfold dv
      rw [if_neg (show ¬ nI d = 0 from nI_ne0 (by omega) (by omega)), pk_div ht hd0 hd, bS, bS]
    have hk : ((t + 1) / d - 1) % 10 < 10 := Nat.mod_lt _ (by omega)
    have p := passC (c := c) (g := g) (iv := iv) (w := upd w 6 (nI (t + 1))) hL hlm hk (by rw [upd_n (by decide)]; exact h8) lm 0 FUEL (by omega) (by show lm < 10000; omega)
    have k0 : dyK c L (((t + 1) / d - 1) % 10) (upd w 6 (nI (t + 1))) 0 = c := by
      funext R j; unfold dyK; rw [if_neg (by omega), if_neg (by omega)]
    have z0 : zW (upd w 6 (nI (t + 1))) 0 = upd w 6 (nI (t + 1)) := by
      funext j; unfold zW; exact if_neg (by omega)
    rw [k0, z0] at p
    rw [hD, bS, nI_sub q1, rm_n (by omega) (by omega) (by omega), bS, p, bS, bS]
  · have := Nat.mod_lt (t + 1) hd0
    rw [if_neg (nI_ne h (by omega) (by omega)), if_neg h, if_neg h, bS]
theorem zW_v {w : Nat → Int32} {l j : Nat} (h : ¬ (113 ≤ j ∧ j < 137)) (hl : l ≤ 6) : zW w l j = w j := by unfold zW; exact if_neg (by omega)
theorem zS {w : Nat → Int32} {l : Nat} (hl : l ≤ 6) : sS (zW w l) = sS w := by
  funext a b; unfold sS; split
  · exact zW_v (by omega) hl
  · rfl
theorem zC {w : Nat → Int32} {l : Nat} (hl : l ≤ 6) : sC (zW w l) = sC w := by
  funext a b; unfold sC; split
  · exact zW_v (by omega) hl
  · rfl
theorem zA {w : Nat → Int32} {l : Nat} (hl : l ≤ 6) : sA (zW w l) = sA w := by
  funext a; unfold sA; split
  · exact zW_v (by omega) hl
  · rfl
theorem zF {w : Nat → Int32} {l : Nat} (hl : l ≤ 6) : sF (zW w l) = sF w := by
  funext a; unfold sF; split
  · exact zW_v (by omega) hl
  · rfl
theorem zE {w : Nat → Int32} {l : Nat} (hl : l ≤ 6) : sE (zW w l) = sE w := by
  funext a b; unfold sE; split
  · exact zW_v (by omega) hl
  · rfl
theorem zL {w : Nat → Int32} {lm l k : Nat} (hlm : lm ≤ 6) (hl : l < lm) (hk : k < 4) : sL (zW w lm) l k = if 2 ≤ k then nI 0 else sL w l k := by
  rw [← sL_r (v := zW w lm) (by omega) hk, ← sL_r (v := w) (by omega) hk]
  unfold zW
  by_cases h : 2 ≤ k
  · rw [if_pos (by omega), if_pos h]
  · rw [if_neg (by omega), if_neg h]
theorem dyK_o {c : RS} {L k R lm : Nat} {w : Nat → Int32} (hL : L < 12) (hlm : lm ≤ 6) (h : ¬ (200 ≤ R ∧ R < 400)) : dyK c L k w lm R = c R := by
  funext j; unfold dyK; rw [if_neg (by omega), if_neg (by omega)]
theorem time_ok {c : RS} {g : CG} {L sm lm cm B U t d : Nat} {v w iv : Nat → Int32} (hL : L < 12) (h : QX c g L v w iv sm lm cm B U) (hB : B + 1 < 2000000000) (h6 : w 6 = nI t) (h0 : w 0 = nI d) (hd0 : 0 < d) (hd : d < 2 ^ 31) (ht : t ≤ B) : QX (tmK c L w t d lm) g L (tmV v t d) (tmW w t d lm) iv sm lm cm (B + 1) U := by
  have hlm := h.a.lm6
  have h' := h.mono (B2 := B + 1) (U2 := U) (by omega) hB (Nat.le_refl U)
  have a6 : sA w 6 = nI t := by rw [← sA_r (v := w) (by omega)]; exact h6
  have a0 : sA w 0 = nI d := by rw [← sA_r (v := w) (by omega)]; exact h0
  have a11 : v 11 = sA v 11 := sA_r (v := v) (by omega)
  unfold tmK tmV tmW
  by_cases hm : (t + 1) % d = 0
  · rw [if_pos hm, if_pos hm, if_pos hm]
    have ht5 : (fun t' => dyK c L (((t + 1) / d - 1) % 10) (upd w 6 (nI (t + 1))) lm (500 + t')) = fun t' => c (500 + t') := by
      funext t'; exact dyK_o hL hlm (by omega)
    refine ⟨?_, ?_, ?_, ?_, ?_, ?_, ?_⟩
    · rw [dyA, zA hlm, sA_A (by omega), sA_A (by omega)]
      exact (QA.tick (by omega) h'.a).v (Or.inr rfl)
    · rw [dyS, zS hlm, zC hlm, sS_A (by omega), sS_A (by omega), sC_A (by omega), ht5]
      exact h'.s
    · rw [dyC, zC hlm, sC_A (by omega), sC_A (by omega), ht5]
      exact h'.c
    · rw [dyA, dyF, zF hlm, zC hlm, sA_A (by omega), sF_A (by omega), sF_A (by omega), sC_A (by omega)]
      exact (h'.n.va (by decide)).va (by decide)
    · rw [zE hlm, zC hlm, sE_A (by omega), sC_A (by omega)]
      refine h'.l.day (fun l k hl hk => ?_) (fun l k hl hk => ?_) (fun l hl => dyK_o hL hlm (by omega))
      · rw [dyL (by omega) hk, sL_A (by omega)]
      · rw [zL hlm hl hk, sL_A (by omega)]
    · rw [dyA, zA hlm, sA_A (by omega), sA_A (by omega), a11]
      refine QD.day (vl := sL v) (wl := sL w) h'.d a0 a6 hd0 hd (by omega) hm hlm (fun l k hl hk => ?_) (fun i h1 h2 => ?_) (fun l k hl hk => h'.l.eql l k hl hk) (fun l k hl => ?_) (fun l k hl => ?_)
      · rw [dyP0 hl hk, sL_A (by omega)]
      · rw [dyP1 h1 h2, sP_A (by omega)]
      · unfold dyK
        by_cases e : k = ((t + 1) / d - 1) % 10
        · rw [if_pos (by omega), if_pos e, show 200 + 6 * L + l - 200 - 6 * L = l by omega, upd_n (by omega)]
          exact sL_r (v := w) (by omega) (by omega)
        · rw [if_neg (by omega), if_neg (by omega), if_neg e]
      · unfold dyK
        by_cases e : k = ((t + 1) / d - 1) % 10
        · rw [if_neg (by omega), if_pos (by omega), if_pos e, show 300 + 6 * L + l - 300 - 6 * L = l by omega, upd_n (by omega)]
          exact sL_r (v := w) (by omega) (by omega)
        · rw [if_neg (by omega), if_neg (by omega), if_neg e]
    · rw [zC hlm, sC_A (by omega)]; exact h'.wh
  · rw [if_neg hm, if_neg hm, if_neg hm]
    refine ⟨?_, ?_, ?_, ?_, ?_, ?_, ?_⟩
    · rw [sA_A (by omega), sA_A (by omega)]; exact QA.tick (by omega) h'.a
    · rw [sS_A (by omega), sS_A (by omega), sC_A (by omega)]; exact h'.s
    · rw [sC_A (by omega), sC_A (by omega)]; exact h'.c
    · rw [sA_A (by omega), sF_A (by omega), sF_A (by omega), sC_A (by omega)]; exact h'.n.va (by decide)
    · rw [sL_A (by omega), sL_A (by omega), sE_A (by omega), sC_A (by omega)]; exact h'.l
    · rw [sA_A (by omega), sA_A (by omega), sP_A (by omega)]; exact h'.d.time a0 a6 hd (by omega) hm
    · rw [sC_A (by omega)]; exact h'.wh
end
section
theorem sub1 {s : Nat} : nI s - nI 1 = if s = 0 then m1 else nI (s - 1) := by
  by_cases h : s = 0
  · subst h; rw [if_pos rfl]; exact Int32.toInt_inj.mp rfl
  · rw [if_neg h]; exact nI_sub (by omega)
theorem rd_o {c : RS} {L R n : Nat} {w iv : Nat → Int32} {x : Int32} (h : ¬ R = 10 + L) (h2 : ¬ R = 400 + L) : rd (setL c L w iv) R n x = rd c R n x := by
  unfold rd; rw [setL_o h h2]
theorem rd_c {c c2 : RS} {R n : Nat} {x : Int32} (h : c2 R = c R) : rd c2 R n x = rd c R n x := by
  unfold rd; rw [h]
theorem nextCard_c {c c2 : RS} {g : CG} {L l : Nat} {w w2 iv iv2 : Nat → Int32} (hL : L < 12) (hl : l < 6) (hE : sE w2 = sE w) (hl1 : sL w2 l 1 = sL w l 1) (hb : c2 (100 + 6 * L + l) = c (100 + 6 * L + l)) : C4_nextCard g (setL c2 L w2 iv2) L l = C4_nextCard g (setL c L w iv) L l := by
  unfold C4_nextCard C4_cardAt
  simp only [setL_w]
  rw [sE_r (v := w2) hl (by omega), sE_r (v := w) hl (by omega), sL_r (v := w2) hl (by omega), sL_r (v := w) hl (by omega), hE, hl1, rd_o (by omega) (by omega), rd_o (by omega) (by omega), rd_c hb]
noncomputable def STL (c : RS) (g : CG) (L sm lm cm : Nat) (w iv : Nat → Int32) : Prop := (∀ s', s' < sm → ST w sm s') ∧ FN w sm cm ∧ TN c g L lm cm w iv
theorem STL.congr {c c2 : RS} {g : CG} {L sm lm cm : Nat} {w w2 iv iv2 : Nat → Int32} (hL : L < 12) (hlm : lm ≤ 6) (hs : sS w2 = sS w) (hc : sC w2 = sC w) (h5 : w2 5 = w 5) (hE : sE w2 = sE w) (hl1 : ∀ l, l < 6 → sL w2 l 1 = sL w l 1) (hb : ∀ l, l < 6 → c2 (100 + 6 * L + l) = c (100 + 6 * L + l)) (h : STL c g L sm lm cm w iv) : STL c2 g L sm lm cm w2 iv2 := by
  obtain ⟨a1, a2, a3⟩ := h
  refine ⟨fun s' hs' => ?_, ?_, fun l' p q x hx e => ?_⟩
  · have := a1 s' hs'
    unfold ST STw RG at this ⊢
    rw [hs]; exact this
  · unfold FN at a2 ⊢
    rw [hs, hc, h5]; exact a2
  · rw [hc]
    exact a3 l' p q x hx (by rw [nextCard_c hL (by omega) hE (hl1 l' (by omega)) (hb l' (by omega))] at e; exact e)
theorem STL.mv {c : RS} {g : CG} {L sm lm cm : Nat} {w iv : Nat → Int32} {x : Int32} (hL : L < 12) (hlm : lm ≤ 6) : STL c g L sm lm cm (upd w 1060 x) iv ↔ STL c g L sm lm cm w iv :=
  ⟨fun h => h.congr hL hlm sS_M.symm sC_M.symm (upd_n (by decide)).symm sE_M.symm (fun l _ => by rw [sL_M]) (fun _ _ => rfl), fun h => h.congr hL hlm sS_M sC_M (upd_n (by decide)) sE_M (fun l _ => by rw [sL_M]) (fun _ _ => rfl)⟩
noncomputable def SM (v w iv v2 w2 iv2 : Nat → Int32) : Prop := iv2 = iv ∧ sS v2 = sS v ∧ sS w2 = sS w ∧ sC v2 = sC v ∧ sC w2 = sC w ∧ sE w2 = sE w ∧ (∀ l, l < 6 → sL w2 l 1 = sL w l 1) ∧ (∀ i, i < 17 → i ≠ 6 → i ≠ 11 → i ≠ 16 → v2 i = v i) ∧ (∀ i, i < 17 → i ≠ 6 → i ≠ 11 → i ≠ 16 → w2 i = w i)
theorem SM.refl {v w iv : Nat → Int32} : SM v w iv v w iv := ⟨rfl, rfl, rfl, rfl, rfl, rfl, fun _ _ => rfl, fun _ _ _ _ _ => rfl, fun _ _ _ _ _ => rfl⟩
theorem SM.trans {v w iv v2 w2 iv2 v3 w3 iv3 : Nat → Int32} (h : SM v w iv v2 w2 iv2) (k : SM v2 w2 iv2 v3 w3 iv3) : SM v w iv v3 w3 iv3 := by
  obtain ⟨a1, a2, a3, a4, a5, a6, a7, a8, a9⟩ := h
  obtain ⟨b1, b2, b3, b4, b5, b6, b7, b8, b9⟩ := k
  exact ⟨b1.trans a1, b2.trans a2, b3.trans a3, b4.trans a4, b5.trans a5, b6.trans a6, fun l hl => (b7 l hl).trans (a7 l hl), fun i h1 h2 h3 h4 => (b8 i h1 h2 h3 h4).trans (a8 i h1 h2 h3 h4), fun i h1 h2 h3 h4 => (b9 i h1 h2 h3 h4).trans (a9 i h1 h2 h3 h4)⟩
theorem tmS {v : Nat → Int32} {t d : Nat} : sS (tmV v t d) = sS v := by
  unfold tmV; split
  · rw [dyS, sS_A (by omega)]
  · rw [sS_A (by omega)]
theorem tmC {v : Nat → Int32} {t d : Nat} : sC (tmV v t d) = sC v := by
  unfold tmV; split
  · rw [dyC, sC_A (by omega)]
  · rw [sC_A (by omega)]
theorem twS {v : Nat → Int32} {t d lm : Nat} (h : lm ≤ 6) : sS (tmW v t d lm) = sS v := by
  unfold tmW; split
  · rw [zS h, sS_A (by omega)]
  · rw [sS_A (by omega)]
theorem twC {v : Nat → Int32} {t d lm : Nat} (h : lm ≤ 6) : sC (tmW v t d lm) = sC v := by
  unfold tmW; split
  · rw [zC h, sC_A (by omega)]
  · rw [sC_A (by omega)]
theorem twE {v : Nat → Int32} {t d lm : Nat} (h : lm ≤ 6) : sE (tmW v t d lm) = sE v := by
  unfold tmW; split
  · rw [zE h, sE_A (by omega)]
  · rw [sE_A (by omega)]
theorem twL {v : Nat → Int32} {t d lm l : Nat} (h : lm ≤ 6) (hl : l < 6) : sL (tmW v t d lm) l 1 = sL v l 1 := by
  unfold tmW; split
  · rw [← sL_r (v := zW _ lm) hl (by omega)]
    unfold zW
    rw [if_neg (by omega), upd_n (by omega)]
    exact sL_r (v := v) hl (by omega)
  · rw [sL_A (by omega)]
theorem tw_v {v : Nat → Int32} {t d lm j : Nat} (h : lm ≤ 6) (hj : ¬ (113 ≤ j ∧ j < 137)) (h6 : j ≠ 6) : tmW v t d lm j = v j := by
  unfold tmW; split
  · rw [zW_v hj h, upd_n h6]
  · rw [upd_n h6]
theorem dyK_o2 {c : RS} {L k R lm : Nat} {w : Nat → Int32} (hlm : lm ≤ 6) (h : ¬ (200 + 6 * L ≤ R ∧ R < 206 + 6 * L)) (h2 : ¬ (300 + 6 * L ≤ R ∧ R < 306 + 6 * L)) : dyK c L k w lm R = c R := by
  funext j; unfold dyK; rw [if_neg (by omega), if_neg (by omega)]
noncomputable def NDY (L R : Nat) : Prop := ¬ (200 + 6 * L ≤ R ∧ R < 206 + 6 * L) ∧ ¬ (300 + 6 * L ≤ R ∧ R < 306 + 6 * L)
theorem tmK_o {c : RS} {L t d lm R : Nat} {w : Nat → Int32} (hlm : lm ≤ 6) (h : NDY L R) : tmK c L w t d lm R = c R := by
  unfold tmK; split
  · exact dyK_o2 hlm h.1 h.2
  · rfl
theorem countC {c : RS} {g : CG} {L sm : Nat} {w iv : Nat → Int32} (hsm : sm ≤ 6) (h7 : w 7 = nI sm) (hn : ∀ s, s < sm → ∃ n, n ≤ 1000 ∧ w (17 + 16 * s + 3) = nI n) : C3_countReadyCards g (setL c L w iv) L = some (setL c L (upd w 16 (w 16 + nI (rdS w 0 sm))) iv) := by
  have k := stoodC (c := c) (g := g) (L := L) (w := w) (iv := iv) hsm h7 hn sm 0 FUEL (w 16) (by omega) (by show sm < 10000; omega)
  rw [upd_s] at k
  unfold C3_countReadyCards
  simp only [lit32]
  rw [k, bS]
theorem tick_ok {r c : RS} {g : CG} {L sm lm cm B U : Nat} {v w iv : Nat → Int32} (hL : L < 12) (hg : g.nt < 2 ^ 31) (h : QX c g L v w iv sm lm cm B U) (hB : B + 1 < 2000000000) (hU : U + 1 < 2000000000) :
    ∃ v' w' iv' c', F8_passes (setR r v) = some (setR r v') ∧ QX c' g L v' w' iv' sm lm cm (B + 1) (U + 1) ∧ (∀ R, NDY L R → c' R = c R) ∧
      ((¬ STL c g L sm lm cm w iv ∧ C3_tick g (setL c L w iv) L = some (nI 1, setL c' L w' iv')) ∨ (STL c g L sm lm cm w iv ∧ C3_tick g (setL c L w iv) L = some (nI 0, setL c' L w' iv') ∧ SM v w iv v' w' iv')) := by
  have hsm := h.a.sm6; have hlm := h.a.lm6; have hcm := h.a.cm30
  have hQ0 : QX c g L v (upd w 1060 (nI 0)) iv sm lm cm B (U + 1) := (h.mono (Nat.le_refl B) h.a.bb (Nat.le_succ U)).upM
  have h7w : w 7 = nI sm := by rw [sA_r (v := w) (by omega)]; exact h.a.w7
  have h7v : v 7 = nI sm := by rw [h.ra (i := 7) (by omega) (by omega) (by omega)]; exact h7w
  obtain ⟨v1, w1, iv1, a1, a2, a3, a4⟩ := loop_ok (r := r) (c := c) hL hg (by omega) sm FUEL FUEL v (upd w 1060 (nI 0)) iv (Nat.le_refl sm) (by show sm < 10000; omega) (by show sm < 10000; omega) hQ0 (fun s' hs' => by
    obtain ⟨n, n1, n2⟩ := h.s.used s' hs'
    exact ⟨n, by omega, by rw [sS_M]; exact n2⟩)
  obtain ⟨v2, w2, iv2, b1, b2, b3, b4⟩ := feed_ok (r := r) hL hg a3
  obtain ⟨v3, w3, iv3, d1, d2, d3, d4⟩ := tray_ok (r := r) hL b3
  have hmv : (STL c g L sm lm cm w iv ∧ v3 = v ∧ w3 = upd w 1060 (nI 0) ∧ iv3 = iv) ∨ (¬ STL c g L sm lm cm w iv ∧ w3 1060 = nI 1) := by
    have n01 : ¬ nI 0 = nI 1 := nI_ne (by omega) (by omega) (by omega)
    rcases a4 with ⟨a4, rfl, rfl, rfl⟩ | ⟨a4, a5⟩ | ⟨a4, -⟩
    · rcases b4 with ⟨b4, rfl, rfl, rfl⟩ | ⟨b4, b5⟩
      · rcases d4 with ⟨d4, rfl, rfl, rfl⟩ | ⟨d4, d5⟩ | ⟨d4, d5⟩
        · exact Or.inl ⟨(STL.mv hL hlm).mp ⟨a4, b4, d4⟩, rfl, rfl, rfl⟩
        · exact Or.inr ⟨fun q => d4 ((STL.mv hL hlm).mpr q).2.2, d5⟩
        · rw [upd_e] at d4; exact absurd d4 n01
      · refine Or.inr ⟨fun q => b4 ((STL.mv hL hlm).mpr q).2.1, ?_⟩
        rcases d4 with ⟨-, -, rfl, -⟩ | ⟨-, d5⟩ | ⟨-, d5⟩
        · exact b5
        · exact d5
        · exact d5
    · have hw2 : w2 1060 = nI 1 := by
        rcases b4 with ⟨-, -, rfl, -⟩ | ⟨-, b5⟩
        · exact a5
        · exact b5
      refine Or.inr ⟨fun q => a4 ((STL.mv hL hlm).mpr q).1, ?_⟩
      rcases d4 with ⟨-, -, rfl, -⟩ | ⟨-, d5⟩ | ⟨-, d5⟩
      · exact hw2
      · exact d5
      · exact d5
    · rw [upd_e] at a4; exact absurd a4 n01
  -- behind the tray
  have k7w : w3 7 = nI sm := by rw [sA_r (v := w3) (by omega)]; exact d3.a.w7
  have k7v : v3 7 = nI sm := by rw [d3.ra (i := 7) (by omega) (by omega) (by omega)]; exact k7w
  have k8w : w3 8 = nI lm := by rw [sA_r (v := w3) (by omega)]; exact d3.a.w8
  have knw : ∀ s, s < sm → ∃ n, n ≤ 1000 ∧ w3 (17 + 16 * s + 3) = nI n := fun s hs => by
    obtain ⟨n, n1, n2⟩ := d3.s.need s hs
    exact ⟨n, n1, by rw [sS_r (v := w3) (by omega) (by omega)]; exact n2⟩
  have knv : ∀ s, s < sm → ∃ n, n ≤ 1000 ∧ v3 (17 + 16 * s + 3) = nI n := fun s hs => by
    obtain ⟨n, n1, n2⟩ := knw s hs
    exact ⟨n, n1, by rw [d3.rs hs (by omega) (by omega)]; exact n2⟩
  have e16 : v3 16 = w3 16 := d3.ra (by omega) (by omega) (by omega)
  have eS : rdS v3 0 sm = rdS w3 0 sm := rdS_congr fun s hs => ⟨d3.rs (by omega) (by omega) (by omega), d3.rs (by omega) (by omega) (by omega)⟩
  obtain ⟨t, t1, t2⟩ := d3.a.time
  obtain ⟨d, dd1, dd2, dd3⟩ := d3.a.day
  have k6 : w3 6 = nI t := by rw [sA_r (v := w3) (by omega)]; exact t2
  have k0 : w3 0 = nI d := by rw [sA_r (v := w3) (by omega)]; exact dd3
  have k6v : v3 6 = nI t := by rw [d3.ra (i := 6) (by omega) (by omega) (by omega)]; exact k6
  have k0v : v3 0 = nI d := by rw [d3.ra (i := 0) (by omega) (by omega) (by omega)]; exact k0
  have hF : F8_passes (setR r v) = some (setR r (tmV (upd v3 16 (v3 16 + nI (rdS v3 0 sm))) t d)) := by
    have := restF (r := r) (v := v3) (t := t) (d := d) hsm k7v knv k6v k0v (by omega) (by omega) (by omega)
    rw [← this]
    unfold F8_passes
    simp only [lit32, neg1]
    rw [setR_1, h7v, sub1, a1, bS, b1, bS, d1, bS, setR_1]
  have hQ3 : QX c g L (upd v3 16 (v3 16 + nI (rdS v3 0 sm))) (upd w3 16 (w3 16 + nI (rdS w3 0 sm))) iv3 sm lm cm B (U + 1) := by
    rw [e16, eS]; exact d3.tot (by omega)
  have hQ4 := time_ok hL hQ3 hB (t := t) (d := d) (by rw [upd_n (by decide)]; exact k6) (by rw [upd_n (by decide)]; exact k0) (by omega) (by omega) t1
  have hC : C3_tick g (setL c L w iv) L = (nz (w3 1060)).bind fun x17 => some (x17, setL (tmK c L (upd w3 16 (w3 16 + nI (rdS w3 0 sm))) t d lm) L (tmW (upd w3 16 (w3 16 + nI (rdS w3 0 sm))) t d lm) iv3) := by
    unfold C3_tick
    simp only [lit32, neg1]
    rw [pt_n, bS, up_setL_w, setL_w, upd_n (by decide), h7w, sub1, a2, bS, b2, bS, d2, bS, countC hsm k7w knw, bS, passTime_w hL hlm (t := t) (d := d) (by rw [upd_n (by decide)]; exact k8w) (by rw [upd_n (by decide)]; exact k6) (by rw [upd_n (by decide)]; exact k0) (by omega) (by omega) (by omega), bS, setL_w, tw_v hlm (by omega) (by omega), upd_n (by decide)]
  refine ⟨_, _, _, _, hF, hQ4, fun R hR => tmK_o hlm hR, ?_⟩
  rcases hmv with ⟨m1_, rfl, rfl, rfl⟩ | ⟨m1_, m2⟩
  · refine Or.inr ⟨m1_, ?_, ?_⟩
    · rw [hC, upd_e, nz_0, bS]
    · refine ⟨rfl, ?_, ?_, ?_, ?_, ?_, fun l hl => ?_, fun i h1 h2 h3 h4 => ?_, fun i h1 h2 h3 h4 => ?_⟩
      · rw [tmS, sS_A (by omega)]
      · rw [twS hlm, sS_A (by omega), sS_M]
      · rw [tmC, sC_A (by omega)]
      · rw [twC hlm, sC_A (by omega), sC_M]
      · rw [twE hlm, sE_A (by omega), sE_M]
      · rw [twL hlm hl, sL_A (by omega), sL_M]
      · rw [tmV_lo (by omega) h3 h2, upd_n h4]
      · rw [tw_v hlm (by omega) h2, upd_n h4, upd_n (by omega)]
  · refine Or.inl ⟨m1_, ?_⟩
    rw [hC, m2, nz_1, bS]
theorem STL.sm {c c2 : RS} {g : CG} {L sm lm cm : Nat} {v w iv v2 w2 iv2 : Nat → Int32} (hL : L < 12) (hlm : lm ≤ 6) (h : STL c g L sm lm cm w iv) (k : SM v w iv v2 w2 iv2) (hc : ∀ R, NDY L R → c2 R = c R) : STL c2 g L sm lm cm w2 iv2 :=
  h.congr hL hlm k.2.2.1 k.2.2.2.2.1 (k.2.2.2.2.2.2.2.2 5 (by omega) (by omega) (by omega) (by omega)) k.2.2.2.2.2.1 k.2.2.2.2.2.2.1 (fun l hl => hc _ ⟨by omega, by omega⟩)
end
section
noncomputable def cpy (u : RS) (A i B k y : Nat) : RS := fun R j => if R = B ∧ 1037 * k ≤ j ∧ j < 1037 * k + y then u A (1037 * i + (j - 1037 * k)) else u R j
theorem cpy_A {u : RS} {A i B k y j : Nat} (h : A ≠ B) : cpy u A i B k y A j = u A j := if_neg fun q => h q.1
theorem cpy_step {u : RS} {A i B k y : Nat} : up (cpy u A i B k y) B (1037 * k + y) (u A (1037 * i + y)) = cpy u A i B k (y + 1) := by
  funext R j
  rw [up_at]
  unfold cpy
  by_cases h1 : R = B ∧ j = 1037 * k + y
  · rw [if_pos h1, if_pos (by omega)]; congr 1; omega
  · rw [if_neg h1]
    by_cases h2 : R = B ∧ 1037 * k ≤ j ∧ j < 1037 * k + y
    · rw [if_pos h2, if_pos (by omega)]
    · rw [if_neg h2, if_neg (by omega)]
theorem cpy_0 {u : RS} {A i B k : Nat} : cpy u A i B k 0 = u := by
  funext R j; exact if_neg (by omega)
noncomputable def cpA (u : RS) (A i B k : Nat) : RS := cpy u A i B k 1037
theorem cpA_o {u : RS} {A i B k R : Nat} (h : R ≠ B) : cpA u A i B k R = u R := by
  funext j; exact if_neg fun q => h q.1
theorem cpA_n {u : RS} {A i B k j : Nat} (h : j < 1037) : cpA u A i B k B (1037 * k + j) = u A (1037 * i + j) := by
  unfold cpA cpy
  rw [if_pos (by omega)]; congr 1; omega
theorem cpA_s {u : RS} {A i B k j : Nat} (h : ¬ (1037 * k ≤ j ∧ j < 1037 * k + 1037)) : cpA u A i B k B j = u B j := by
  unfold cpA cpy
  rw [if_neg (by omega)]
theorem cpL_1_2 {u : RS} {i k : Nat} (hi : i < 1) (hk : k < 1) : ∀ (d y fu : Nat), y + d = 1037 → d < fu → F8_copies_1_2_L3 (nI i) (nI k) fu (nI y) (cpy u 1 i 2 k y) = some (nI 1037, cpy u 1 i 2 k 1037) := by
  intro d
  induction d with
  | zero =>
    intro y fu hy hfu
    obtain ⟨fu, rfl⟩ : ∃ m, fu = m + 1 := ⟨fu - 1, by omega⟩
    obtain rfl : y = 1037 := by omega
    rw [F8_copies_1_2_L3]
    simp only [lit32]
    rw [if_pos (nI_le (by omega) (by omega))]
  | succ d ih =>
    intro y fu hy hfu
    obtain ⟨fu, rfl⟩ : ∃ m, fu = m + 1 := ⟨fu - 1, by omega⟩
    rw [F8_copies_1_2_L3]
    simp only [lit32, nI_add, nI_mul]
    rw [if_neg (nI_ge (by omega) (by omega)), rd_n (by omega) (by omega), bS, ws_n (by omega) (by omega), bS, cpy_A (by decide), cpy_step]
    exact ih (y + 1) fu (by omega) (by omega)
theorem cp_1_2 {u : RS} {i k : Nat} (hi : i < 1) (hk : k < 1) : F8_copies_1_2 u (nI i) (nI k) = some (cpA u 1 i 2 k) := by
  have h := cpL_1_2 (u := u) hi hk 1037 0 FUEL (by omega) (by show 1037 < 10000; omega)
  rw [cpy_0] at h
  unfold F8_copies_1_2
  simp only [lit32]
  rw [h]; rfl
theorem cpL_2_1 {u : RS} {i k : Nat} (hi : i < 1) (hk : k < 1) : ∀ (d y fu : Nat), y + d = 1037 → d < fu → F8_copies_2_1_L3 (nI i) (nI k) fu (nI y) (cpy u 2 i 1 k y) = some (nI 1037, cpy u 2 i 1 k 1037) := by
  intro d
  induction d with
  | zero =>
    intro y fu hy hfu
    obtain ⟨fu, rfl⟩ : ∃ m, fu = m + 1 := ⟨fu - 1, by omega⟩
    obtain rfl : y = 1037 := by omega
    rw [F8_copies_2_1_L3]
    simp only [lit32]
    rw [if_pos (nI_le (by omega) (by omega))]
  | succ d ih =>
    intro y fu hy hfu
    obtain ⟨fu, rfl⟩ : ∃ m, fu = m + 1 := ⟨fu - 1, by omega⟩
    rw [F8_copies_2_1_L3]
    simp only [lit32, nI_add, nI_mul]
    rw [if_neg (nI_ge (by omega) (by omega)), rd_n (by omega) (by omega), bS, ws_n (by omega) (by omega), bS, cpy_A (by decide), cpy_step]
    exact ih (y + 1) fu (by omega) (by omega)
theorem cp_2_1 {u : RS} {i k : Nat} (hi : i < 1) (hk : k < 1) : F8_copies_2_1 u (nI i) (nI k) = some (cpA u 2 i 1 k) := by
  have h := cpL_2_1 (u := u) hi hk 1037 0 FUEL (by omega) (by show 1037 < 10000; omega)
  rw [cpy_0] at h
  unfold F8_copies_2_1
  simp only [lit32]
  rw [h]; rfl
theorem cpL_1_3 {u : RS} {i k : Nat} (hi : i < 1) (hk : k < 8) : ∀ (d y fu : Nat), y + d = 1037 → d < fu → F8_copies_1_3_L3 (nI i) (nI k) fu (nI y) (cpy u 1 i 3 k y) = some (nI 1037, cpy u 1 i 3 k 1037) := by
  intro d
  induction d with
  | zero =>
    intro y fu hy hfu
    obtain ⟨fu, rfl⟩ : ∃ m, fu = m + 1 := ⟨fu - 1, by omega⟩
    obtain rfl : y = 1037 := by omega
    rw [F8_copies_1_3_L3]
    simp only [lit32]
    rw [if_pos (nI_le (by omega) (by omega))]
  | succ d ih =>
    intro y fu hy hfu
    obtain ⟨fu, rfl⟩ : ∃ m, fu = m + 1 := ⟨fu - 1, by omega⟩
    rw [F8_copies_1_3_L3]
    simp only [lit32, nI_add, nI_mul]
    rw [if_neg (nI_ge (by omega) (by omega)), rd_n (by omega) (by omega), bS, ws_n (by omega) (by omega), bS, cpy_A (by decide), cpy_step]
    exact ih (y + 1) fu (by omega) (by omega)
theorem cp_1_3 {u : RS} {i k : Nat} (hi : i < 1) (hk : k < 8) : F8_copies_1_3 u (nI i) (nI k) = some (cpA u 1 i 3 k) := by
  have h := cpL_1_3 (u := u) hi hk 1037 0 FUEL (by omega) (by show 1037 < 10000; omega)
  rw [cpy_0] at h
  unfold F8_copies_1_3
  simp only [lit32]
  rw [h]; rfl
theorem cpL_3_1 {u : RS} {i k : Nat} (hi : i < 8) (hk : k < 1) : ∀ (d y fu : Nat), y + d = 1037 → d < fu → F8_copies_3_1_L3 (nI i) (nI k) fu (nI y) (cpy u 3 i 1 k y) = some (nI 1037, cpy u 3 i 1 k 1037) := by
  intro d
  induction d with
  | zero =>
    intro y fu hy hfu
    obtain ⟨fu, rfl⟩ : ∃ m, fu = m + 1 := ⟨fu - 1, by omega⟩
    obtain rfl : y = 1037 := by omega
    rw [F8_copies_3_1_L3]
    simp only [lit32]
    rw [if_pos (nI_le (by omega) (by omega))]
  | succ d ih =>
    intro y fu hy hfu
    obtain ⟨fu, rfl⟩ : ∃ m, fu = m + 1 := ⟨fu - 1, by omega⟩
    rw [F8_copies_3_1_L3]
    simp only [lit32, nI_add, nI_mul]
    rw [if_neg (nI_ge (by omega) (by omega)), rd_n (by omega) (by omega), bS, ws_n (by omega) (by omega), bS, cpy_A (by decide), cpy_step]
    exact ih (y + 1) fu (by omega) (by omega)
theorem cp_3_1 {u : RS} {i k : Nat} (hi : i < 8) (hk : k < 1) : F8_copies_3_1 u (nI i) (nI k) = some (cpA u 3 i 1 k) := by
  have h := cpL_3_1 (u := u) hi hk 1037 0 FUEL (by omega) (by show 1037 < 10000; omega)
  rw [cpy_0] at h
  unfold F8_copies_3_1
  simp only [lit32]
  rw [h]; rfl
theorem cpL_1_4 {u : RS} {i k : Nat} (hi : i < 1) (hk : k < 2) : ∀ (d y fu : Nat), y + d = 1037 → d < fu → F8_copies_1_4_L3 (nI i) (nI k) fu (nI y) (cpy u 1 i 4 k y) = some (nI 1037, cpy u 1 i 4 k 1037) := by
  intro d
  induction d with
  | zero =>
    intro y fu hy hfu
    obtain ⟨fu, rfl⟩ : ∃ m, fu = m + 1 := ⟨fu - 1, by omega⟩
    obtain rfl : y = 1037 := by omega
    rw [F8_copies_1_4_L3]
    simp only [lit32]
    rw [if_pos (nI_le (by omega) (by omega))]
  | succ d ih =>
    intro y fu hy hfu
    obtain ⟨fu, rfl⟩ : ∃ m, fu = m + 1 := ⟨fu - 1, by omega⟩
    rw [F8_copies_1_4_L3]
    simp only [lit32, nI_add, nI_mul]
    rw [if_neg (nI_ge (by omega) (by omega)), rd_n (by omega) (by omega), bS, ws_n (by omega) (by omega), bS, cpy_A (by decide), cpy_step]
    exact ih (y + 1) fu (by omega) (by omega)
theorem cp_1_4 {u : RS} {i k : Nat} (hi : i < 1) (hk : k < 2) : F8_copies_1_4 u (nI i) (nI k) = some (cpA u 1 i 4 k) := by
  have h := cpL_1_4 (u := u) hi hk 1037 0 FUEL (by omega) (by show 1037 < 10000; omega)
  rw [cpy_0] at h
  unfold F8_copies_1_4
  simp only [lit32]
  rw [h]; rfl
theorem cpL_4_1 {u : RS} {i k : Nat} (hi : i < 2) (hk : k < 1) : ∀ (d y fu : Nat), y + d = 1037 → d < fu → F8_copies_4_1_L3 (nI i) (nI k) fu (nI y) (cpy u 4 i 1 k y) = some (nI 1037, cpy u 4 i 1 k 1037) := by
  intro d
  induction d with
  | zero =>
    intro y fu hy hfu
    obtain ⟨fu, rfl⟩ : ∃ m, fu = m + 1 := ⟨fu - 1, by omega⟩
    obtain rfl : y = 1037 := by omega
    rw [F8_copies_4_1_L3]
    simp only [lit32]
    rw [if_pos (nI_le (by omega) (by omega))]
  | succ d ih =>
    intro y fu hy hfu
    obtain ⟨fu, rfl⟩ : ∃ m, fu = m + 1 := ⟨fu - 1, by omega⟩
    rw [F8_copies_4_1_L3]
    simp only [lit32, nI_add, nI_mul]
    rw [if_neg (nI_ge (by omega) (by omega)), rd_n (by omega) (by omega), bS, ws_n (by omega) (by omega), bS, cpy_A (by decide), cpy_step]
    exact ih (y + 1) fu (by omega) (by omega)
theorem cp_4_1 {u : RS} {i k : Nat} (hi : i < 2) (hk : k < 1) : F8_copies_4_1 u (nI i) (nI k) = some (cpA u 4 i 1 k) := by
  have h := cpL_4_1 (u := u) hi hk 1037 0 FUEL (by omega) (by show 1037 < 10000; omega)
  rw [cpy_0] at h
  unfold F8_copies_4_1
  simp only [lit32]
  rw [h]; rfl
end
section
theorem up_or {u : RS} {k i r : Nat} {v : Int32} (h : ¬ r = k) : up u k i v r = u r := by unfold up; exact if_neg h
theorem cpR_or {u : RS} {r b sp n R : Nat} {f : Nat → Int32} (h : ¬ R = r) : cpR u r b f sp n R = u R := by unfold cpR; exact rw_ne h
theorem cpR_at {u : RS} {r b sp n R j : Nat} {f : Nat → Int32} : cpR u r b f sp n R j = if R = r ∧ b ≤ j ∧ j < b + n then f (sp + (j - b)) else u R j := by
  by_cases h : R = r
  · subst h
    show rw_ u R (fun i => if b ≤ i ∧ i < b + n then f (sp + (i - b)) else u R i) R j = _
    rw [rw_eq]
    by_cases e : b ≤ j ∧ j < b + n
    · rw [if_pos (c := R = R ∧ b ≤ j ∧ j < b + n) ⟨rfl, e⟩]; exact if_pos e
    · rw [if_neg (c := R = R ∧ b ≤ j ∧ j < b + n) (fun q => e q.2)]; exact if_neg e
  · rw [cpR_or h, if_neg (fun q => h q.1)]
theorem cpo_n {n0 n1 n : Nat} {f : Nat → Int32} (h0 : n ≤ n0) (h1 : n ≤ n1) (hn : n < 2 ^ 31) : cpo n0 n1 f false (nI 0) (nI 0) (nI n) = some n := by
  unfold cpo
  rw [nI_toInt (by omega), nI_toInt hn, nI_clamp (by omega), nI_clamp hn, if_pos ⟨by omega, fun q => absurd q (by decide)⟩]
theorem cl0 : (nI 0).toNatClampNeg = 0 := nI_clamp (by omega)
theorem C6_copy {g : CG} {u : RS} {L L2 i : Nat} (hne : ¬ L = L2) (hz : nz (u (10 + L2) (17 + 16 * i + 7)) = some (u (10 + L2) (17 + 16 * i + 7))) : C6_copyFrom g u L i L2 i = some (fun R j => if R = 10 + L ∧ 17 + 16 * i ≤ j ∧ j < 17 + 16 * i + 15 then u (10 + L2) j else u R j) := by
  unfold C6_copyFrom
  simp (disch := omega) only [pt_n, bS, up_or, hz]
  congr 1
  funext R j
  simp only [up_at]
  by_cases h : R = 10 + L ∧ 17 + 16 * i ≤ j ∧ j < 17 + 16 * i + 15
  · rw [if_pos h]
    obtain ⟨rfl, h1, h2⟩ := h
    obtain ⟨k, hk, rfl⟩ : ∃ k, k < 15 ∧ j = 17 + 16 * i + k := ⟨j - (17 + 16 * i), by omega, by omega⟩
    rcases (show k = 0 ∨ k = 1 ∨ k = 2 ∨ k = 3 ∨ k = 4 ∨ k = 5 ∨ k = 6 ∨ k = 7 ∨ k = 8 ∨ k = 9 ∨ k = 10 ∨ k = 11 ∨ k = 12 ∨ k = 13 ∨ k = 14 by omega) with rfl | rfl | rfl | rfl | rfl | rfl | rfl | rfl | rfl | rfl | rfl | rfl | rfl | rfl | rfl
    all_goals
      repeat (first | rw [if_pos (by omega)] | rw [if_neg (by omega)])
  · rw [if_neg h]
    repeat rw [if_neg (by omega)]
theorem C1_copy {g : CG} {u : RS} {L L2 i : Nat} (hne : ¬ L = L2) (hz : nz (u (10 + L2) (137 + 25 * i + 8)) = some (u (10 + L2) (137 + 25 * i + 8))) : C1_copyFrom g u L i L2 i = some (fun R j => if R = 10 + L ∧ 137 + 25 * i ≤ j ∧ j < 137 + 25 * i + 9 then u (10 + L2) j else u R j) := by
  unfold C1_copyFrom
  simp (disch := omega) only [pt_n, bS, up_or, hz]
  congr 1
  funext R j
  simp only [up_at]
  by_cases h : R = 10 + L ∧ 137 + 25 * i ≤ j ∧ j < 137 + 25 * i + 9
  · rw [if_pos h]
    obtain ⟨rfl, h1, h2⟩ := h
    obtain ⟨k, hk, rfl⟩ : ∃ k, k < 9 ∧ j = 137 + 25 * i + k := ⟨j - (137 + 25 * i), by omega, by omega⟩
    rcases (show k = 0 ∨ k = 1 ∨ k = 2 ∨ k = 3 ∨ k = 4 ∨ k = 5 ∨ k = 6 ∨ k = 7 ∨ k = 8 by omega) with rfl | rfl | rfl | rfl | rfl | rfl | rfl | rfl | rfl
    all_goals
      repeat (first | rw [if_pos (by omega)] | rw [if_neg (by omega)])
  · rw [if_neg h]
    repeat rw [if_neg (by omega)]
theorem C4_copy {g : CG} {u : RS} {L L2 i : Nat} (hL : L < 12) (hL2 : L2 < 12) (hi : i < 6) (hne : ¬ L = L2) : C4_copyFrom g u L i L2 i = some (fun R j => if R = 10 + L ∧ ((113 + 4 * i ≤ j ∧ j < 113 + 4 * i + 4) ∨ (1100 + 8 * i ≤ j ∧ j < 1100 + 8 * i + 5)) then u (10 + L2) j else if R = 100 + 6 * L + i ∧ j < 30 then u (100 + 6 * L2 + i) j else if R = 200 + 6 * L + i ∧ j < 10 then u (200 + 6 * L2 + i) j else if R = 300 + 6 * L + i ∧ j < 10 then u (300 + 6 * L2 + i) j else u R j) := by
  unfold C4_copyFrom
  simp (disch := omega) only [lit32, pt_n, bS, up_or, cpo_n, cl0, cpR_or]
  congr 1
  funext R j
  simp only [cpR_at, up_at]
  by_cases h : R = 10 + L ∧ ((113 + 4 * i ≤ j ∧ j < 113 + 4 * i + 4) ∨ (1100 + 8 * i ≤ j ∧ j < 1100 + 8 * i + 5))
  · rw [if_pos h]
    obtain ⟨rfl, h | h⟩ := h
    · obtain ⟨k, hk, rfl⟩ : ∃ k, k < 4 ∧ j = 113 + 4 * i + k := ⟨j - (113 + 4 * i), by omega, by omega⟩
      rcases (show k = 0 ∨ k = 1 ∨ k = 2 ∨ k = 3 by omega) with rfl | rfl | rfl | rfl
      all_goals
        repeat (first | rw [if_pos (by omega)] | rw [if_neg (by omega)])
    · obtain ⟨k, hk, rfl⟩ : ∃ k, k < 5 ∧ j = 1100 + 8 * i + k := ⟨j - (1100 + 8 * i), by omega, by omega⟩
      rcases (show k = 0 ∨ k = 1 ∨ k = 2 ∨ k = 3 ∨ k = 4 by omega) with rfl | rfl | rfl | rfl | rfl
      all_goals
        repeat (first | rw [if_pos (by omega)] | rw [if_neg (by omega)])
  · rw [if_neg h]
    by_cases h1 : R = 100 + 6 * L + i ∧ j < 30
    · rw [if_pos h1]
      repeat (first | rw [if_pos (by omega)] | rw [if_neg (by omega)])
      exact congrArg (u (100 + 6 * L2 + i)) (by omega)
    · rw [if_neg h1]
      by_cases h2 : R = 200 + 6 * L + i ∧ j < 10
      · rw [if_pos h2]
        repeat (first | rw [if_pos (by omega)] | rw [if_neg (by omega)])
        exact congrArg (u (200 + 6 * L2 + i)) (by omega)
      · rw [if_neg h2]
        by_cases h3 : R = 300 + 6 * L + i ∧ j < 10
        · rw [if_pos h3]
          repeat (first | rw [if_pos (by omega)] | rw [if_neg (by omega)])
          exact congrArg (u (300 + 6 * L2 + i)) (by omega)
        · rw [if_neg h3]
          repeat rw [if_neg (by omega)]
noncomputable def CPp (ys yl yc j : Nat) : Prop := j < 10 ∨ (17 ≤ j ∧ j < 17 + 16 * ys ∧ (j - 17) % 16 < 15) ∨ (113 ≤ j ∧ j < 113 + 4 * yl) ∨ (1100 ≤ j ∧ j < 1100 + 8 * yl ∧ (j - 1100) % 8 < 5) ∨ (137 ≤ j ∧ j < 137 + 25 * yc ∧ (j - 137) % 25 < 9)
noncomputable def CPd (ys yl yc j : Nat) : Decidable (CPp ys yl yc j) := by unfold CPp; infer_instance
noncomputable def cpl (u : RS) (L L2 ys yl yc : Nat) : RS := fun R j => if R = 10 + L then (@ite _ (CPp ys yl yc j) (CPd ys yl yc j) (u (10 + L2) j) (u (10 + L) j)) else if 100 + 6 * L ≤ R ∧ R < 100 + 6 * L + yl ∧ j < 30 then u (R - 6 * L + 6 * L2) j else if 200 + 6 * L ≤ R ∧ R < 200 + 6 * L + yl ∧ j < 10 then u (R - 6 * L + 6 * L2) j else if 300 + 6 * L ≤ R ∧ R < 300 + 6 * L + yl ∧ j < 10 then u (R - 6 * L + 6 * L2) j else u R j
theorem cpl_2 {u : RS} {L L2 ys yl yc : Nat} (hL2 : L2 < 12) (hne : ¬ L = L2) : cpl u L L2 ys yl yc (10 + L2) = u (10 + L2) := by
  funext j; unfold cpl; rw [if_neg (by omega), if_neg (by omega), if_neg (by omega), if_neg (by omega)]
theorem cpl_lo {u : RS} {L L2 ys yl yc j : Nat} (h : CPp ys yl yc j) : cpl u L L2 ys yl yc (10 + L) j = u (10 + L2) j := by
  unfold cpl; rw [if_pos rfl]; exact if_pos h
theorem cpl_s {u : RS} {L L2 y : Nat} (hL : L < 12) (hL2 : L2 < 12) (hne : ¬ L = L2) (hy : y < 6) : (fun R j => if R = 10 + L ∧ 17 + 16 * y ≤ j ∧ j < 17 + 16 * y + 15 then cpl u L L2 y 0 0 (10 + L2) j else cpl u L L2 y 0 0 R j) = cpl u L L2 (y + 1) 0 0 := by
  funext R j
  rw [cpl_2 hL2 hne]
  by_cases h : R = 10 + L
  · subst h
    by_cases h2 : 17 + 16 * y ≤ j ∧ j < 17 + 16 * y + 15
    · rw [if_pos ⟨rfl, h2⟩, cpl_lo (by unfold CPp; omega)]
    · rw [if_neg (fun q => h2 q.2)]
      unfold cpl
      rw [if_pos rfl, if_pos rfl]
      by_cases h3 : CPp y 0 0 j
      · rw [if_pos h3, if_pos (by unfold CPp at h3 ⊢; omega)]
      · rw [if_neg h3, if_neg (by unfold CPp at h3 ⊢; omega)]
  · rw [if_neg (fun q => h q.1)]
    unfold cpl
    rw [if_neg h, if_neg h]
theorem cpl_c {u : RS} {L L2 y sm lm : Nat} (hL : L < 12) (hL2 : L2 < 12) (hne : ¬ L = L2) (hy : y < 30) (hlm : lm ≤ 6) (hsm : sm ≤ 6) : (fun R j => if R = 10 + L ∧ 137 + 25 * y ≤ j ∧ j < 137 + 25 * y + 9 then cpl u L L2 sm lm y (10 + L2) j else cpl u L L2 sm lm y R j) = cpl u L L2 sm lm (y + 1) := by
  funext R j
  rw [cpl_2 hL2 hne]
  by_cases h : R = 10 + L
  · subst h
    by_cases h2 : 137 + 25 * y ≤ j ∧ j < 137 + 25 * y + 9
    · rw [if_pos ⟨rfl, h2⟩, cpl_lo (by unfold CPp; omega)]
    · rw [if_neg (fun q => h2 q.2)]
      unfold cpl
      rw [if_pos rfl, if_pos rfl]
      by_cases h3 : CPp sm lm y j
      · rw [if_pos h3, if_pos (by unfold CPp at h3 ⊢; omega)]
      · have h4 : ¬ CPp sm lm (y + 1) j := by
          unfold CPp at h3 ⊢
          by_cases hj : 137 + 25 * y ≤ j ∧ j < 137 + 25 * y + 25
          · obtain ⟨k, hk, rfl⟩ : ∃ k, k < 25 ∧ j = 137 + 25 * y + k := ⟨j - (137 + 25 * y), by omega, by omega⟩
            have e : (137 + 25 * y + k - 137) % 25 = k := by
              rw [show 137 + 25 * y + k - 137 = k + 25 * y by omega, Nat.add_mul_mod_self_left, Nat.mod_eq_of_lt hk]
            rintro (q | q | q | q | q)
            · omega
            · omega
            · omega
            · omega
            · rw [e] at q; omega
          · rintro (q | q | q | q | q)
            · exact h3 (Or.inl q)
            · exact h3 (Or.inr (Or.inl q))
            · exact h3 (Or.inr (Or.inr (Or.inl q)))
            · exact h3 (Or.inr (Or.inr (Or.inr (Or.inl q))))
            · exact h3 (Or.inr (Or.inr (Or.inr (Or.inr ⟨q.1, by omega, q.2.2⟩))))
        rw [if_neg h3, if_neg h4]
  · rw [if_neg (fun q => h q.1)]
    unfold cpl
    rw [if_neg h, if_neg h]
theorem cpl_r {u : RS} {L L2 ys yl yc b l : Nat} (hL : L < 12) (hL2 : L2 < 12) (hne : ¬ L = L2) (hl : l < 6) (hyl : yl ≤ 6) (hb : b = 100 ∨ b = 200 ∨ b = 300) : cpl u L L2 ys yl yc (b + 6 * L2 + l) = u (b + 6 * L2 + l) := by
  funext j; unfold cpl
  rw [if_neg (by omega), if_neg (by omega), if_neg (by omega), if_neg (by omega)]
theorem cpl_l {u : RS} {L L2 y sm : Nat} (hL : L < 12) (hL2 : L2 < 12) (hne : ¬ L = L2) (hy : y < 6) (hsm : sm ≤ 6) : (fun R j => if R = 10 + L ∧ ((113 + 4 * y ≤ j ∧ j < 113 + 4 * y + 4) ∨ (1100 + 8 * y ≤ j ∧ j < 1100 + 8 * y + 5)) then cpl u L L2 sm y 0 (10 + L2) j else if R = 100 + 6 * L + y ∧ j < 30 then cpl u L L2 sm y 0 (100 + 6 * L2 + y) j else if R = 200 + 6 * L + y ∧ j < 10 then cpl u L L2 sm y 0 (200 + 6 * L2 + y) j else if R = 300 + 6 * L + y ∧ j < 10 then cpl u L L2 sm y 0 (300 + 6 * L2 + y) j else cpl u L L2 sm y 0 R j) = cpl u L L2 sm (y + 1) 0 := by
  funext R j
  rw [cpl_2 hL2 hne, cpl_r hL hL2 hne hy (by omega) (by omega), cpl_r hL hL2 hne hy (by omega) (by omega), cpl_r hL hL2 hne hy (by omega) (by omega)]
  by_cases h : R = 10 + L
  · subst h
    by_cases h2 : (113 + 4 * y ≤ j ∧ j < 113 + 4 * y + 4) ∨ (1100 + 8 * y ≤ j ∧ j < 1100 + 8 * y + 5)
    · rw [if_pos ⟨rfl, h2⟩, cpl_lo (by unfold CPp; omega)]
    · rw [if_neg (fun q => h2 q.2), if_neg (by omega), if_neg (by omega), if_neg (by omega)]
      unfold cpl
      rw [if_pos rfl, if_pos rfl]
      by_cases h3 : CPp sm y 0 j
      · rw [if_pos h3, if_pos (by unfold CPp at h3 ⊢; omega)]
      · rw [if_neg h3, if_neg (by unfold CPp at h3 ⊢; omega)]
  · rw [if_neg (fun q => h q.1)]
    unfold cpl
    rw [if_neg h, if_neg h]
    by_cases a1 : R = 100 + 6 * L + y ∧ j < 30
    · rw [if_pos a1, if_pos (by omega), show R - 6 * L + 6 * L2 = 100 + 6 * L2 + y by omega]
    · rw [if_neg a1]
      by_cases a2 : R = 200 + 6 * L + y ∧ j < 10
      · rw [if_pos a2, if_neg (c := 100 + 6 * L ≤ R ∧ R < 100 + 6 * L + (y + 1) ∧ j < 30) (by omega), if_pos (by omega), show R - 6 * L + 6 * L2 = 200 + 6 * L2 + y by omega]
      · rw [if_neg a2]
        by_cases a3 : R = 300 + 6 * L + y ∧ j < 10
        · rw [if_pos a3, if_neg (c := 100 + 6 * L ≤ R ∧ R < 100 + 6 * L + (y + 1) ∧ j < 30) (by omega), if_neg (c := 200 + 6 * L ≤ R ∧ R < 200 + 6 * L + (y + 1) ∧ j < 10) (by omega), if_pos (by omega), show R - 6 * L + 6 * L2 = 300 + 6 * L2 + y by omega]
        · rw [if_neg a3]
          by_cases b1 : 100 + 6 * L ≤ R ∧ R < 100 + 6 * L + y ∧ j < 30
          · rw [if_pos b1, if_pos (by omega)]
          · rw [if_neg b1, if_neg (c := 100 + 6 * L ≤ R ∧ R < 100 + 6 * L + (y + 1) ∧ j < 30) (by omega)]
            by_cases b2 : 200 + 6 * L ≤ R ∧ R < 200 + 6 * L + y ∧ j < 10
            · rw [if_pos b2, if_pos (by omega)]
            · rw [if_neg b2, if_neg (c := 200 + 6 * L ≤ R ∧ R < 200 + 6 * L + (y + 1) ∧ j < 10) (by omega)]
              by_cases b3 : 300 + 6 * L ≤ R ∧ R < 300 + 6 * L + y ∧ j < 10
              · rw [if_pos b3, if_pos (by omega)]
              · rw [if_neg b3, if_neg (by omega)]
theorem cfrom_S {g : CG} {u : RS} {L L2 sm : Nat} (hL : L < 12) (hL2 : L2 < 12) (hne : ¬ L = L2) (hsm : sm ≤ 6) (h7 : u (10 + L2) 7 = nI sm) (hz : ∀ s, s < sm → nz (u (10 + L2) (17 + 16 * s + 7)) = some (u (10 + L2) (17 + 16 * s + 7))) : ∀ (d y fu : Nat), y + d = sm → d < fu → C3_copyFrom_L82 L L2 g fu (nI y) (cpl u L L2 y 0 0) = some (nI sm, cpl u L L2 sm 0 0) := by
  intro d
  induction d with
  | zero =>
    intro y fu hy hfu
    obtain ⟨fu, rfl⟩ : ∃ m, fu = m + 1 := ⟨fu - 1, by omega⟩
    obtain rfl : y = sm := by omega
    rw [C3_copyFrom_L82, cpl_lo (by unfold CPp; omega), h7, if_pos (nI_le (by omega) (by omega))]
  | succ d ih =>
    intro y fu hy hfu
    obtain ⟨fu, rfl⟩ : ∃ m, fu = m + 1 := ⟨fu - 1, by omega⟩
    rw [C3_copyFrom_L82, cpl_lo (by unfold CPp; omega), h7, if_neg (nI_ge (by omega) (by omega)), ix_n (by omega) (by omega), bS, bS, C6_copy hne (by rw [cpl_2 hL2 hne]; exact hz y (by omega)), bS, cpl_s hL hL2 hne (by omega), nI_1]
    exact ih (y + 1) fu (by omega) (by omega)
theorem cfrom_L {g : CG} {u : RS} {L L2 sm lm : Nat} (hL : L < 12) (hL2 : L2 < 12) (hne : ¬ L = L2) (hsm : sm ≤ 6) (hlm : lm ≤ 6) (h8 : u (10 + L2) 8 = nI lm) : ∀ (d y fu : Nat), y + d = lm → d < fu → C3_copyFrom_L113 L L2 g fu (nI y) (cpl u L L2 sm y 0) = some (nI lm, cpl u L L2 sm lm 0) := by
  intro d
  induction d with
  | zero =>
    intro y fu hy hfu
    obtain ⟨fu, rfl⟩ : ∃ m, fu = m + 1 := ⟨fu - 1, by omega⟩
    obtain rfl : y = lm := by omega
    rw [C3_copyFrom_L113, cpl_lo (by unfold CPp; omega), h8, if_pos (nI_le (by omega) (by omega))]
  | succ d ih =>
    intro y fu hy hfu
    obtain ⟨fu, rfl⟩ : ∃ m, fu = m + 1 := ⟨fu - 1, by omega⟩
    rw [C3_copyFrom_L113, cpl_lo (by unfold CPp; omega), h8, if_neg (nI_ge (by omega) (by omega)), ix_n (by omega) (by omega), bS, bS, C4_copy hL hL2 (by omega) hne, bS, cpl_l hL hL2 hne (by omega) hsm, nI_1]
    exact ih (y + 1) fu (by omega) (by omega)
theorem cfrom_C {g : CG} {u : RS} {L L2 sm lm cm : Nat} (hL : L < 12) (hL2 : L2 < 12) (hne : ¬ L = L2) (hsm : sm ≤ 6) (hlm : lm ≤ 6) (hcm : cm ≤ 30) (h9 : u (10 + L2) 9 = nI cm) (hz : ∀ s, s < cm → nz (u (10 + L2) (137 + 25 * s + 8)) = some (u (10 + L2) (137 + 25 * s + 8))) : ∀ (d y fu : Nat), y + d = cm → d < fu → C3_copyFrom_L144 L L2 g fu (nI y) (cpl u L L2 sm lm y) = some (nI cm, cpl u L L2 sm lm cm) := by
  intro d
  induction d with
  | zero =>
    intro y fu hy hfu
    obtain ⟨fu, rfl⟩ : ∃ m, fu = m + 1 := ⟨fu - 1, by omega⟩
    obtain rfl : y = cm := by omega
    rw [C3_copyFrom_L144, cpl_lo (by unfold CPp; omega), h9, if_pos (nI_le (by omega) (by omega))]
  | succ d ih =>
    intro y fu hy hfu
    obtain ⟨fu, rfl⟩ : ∃ m, fu = m + 1 := ⟨fu - 1, by omega⟩
    rw [C3_copyFrom_L144, cpl_lo (by unfold CPp; omega), h9, if_neg (nI_ge (by omega) (by omega)), ix_n (by omega) (by omega), bS, bS, C1_copy hne (by rw [cpl_2 hL2 hne]; exact hz y (by omega)), bS, cpl_c hL hL2 hne (by omega) hlm hsm, nI_1]
    exact ih (y + 1) fu (by omega) (by omega)
noncomputable def OWN (L R : Nat) : Prop := R = 10 + L ∨ R = 400 + L ∨ (100 + 6 * L ≤ R ∧ R < 106 + 6 * L) ∨ (200 + 6 * L ≤ R ∧ R < 206 + 6 * L) ∨ (300 + 6 * L ≤ R ∧ R < 306 + 6 * L)
theorem cfrom {g : CG} {u : RS} {L L2 sm lm cm : Nat} (hL : L < 12) (hL2 : L2 < 12) (hne : ¬ L = L2) (hsm : sm ≤ 6) (hlm : lm ≤ 6) (hcm : cm ≤ 30) (h7 : u (10 + L2) 7 = nI sm) (h8 : u (10 + L2) 8 = nI lm) (h9 : u (10 + L2) 9 = nI cm) (hz : ∀ s, s < sm → nz (u (10 + L2) (17 + 16 * s + 7)) = some (u (10 + L2) (17 + 16 * s + 7))) (hzc : ∀ s, s < cm → nz (u (10 + L2) (137 + 25 * s + 8)) = some (u (10 + L2) (137 + 25 * s + 8))) :
    ∃ u2, C3_copyFrom g u L L2 = some u2 ∧ (∀ R, ¬ OWN L R → u2 R = u R) ∧ (∀ j, (CPp sm lm cm j ∨ (887 ≤ j ∧ j < 917) ∨ (12 ≤ j ∧ j < 17)) → u2 (10 + L) j = u (10 + L2) j) ∧ (∀ j, ¬ (CPp sm lm cm j ∨ (887 ≤ j ∧ j < 917) ∨ (12 ≤ j ∧ j < 17)) → u2 (10 + L) j = u (10 + L) j) ∧ (∀ a, a < 5 → u2 (400 + L) a = u (400 + L2) a) ∧ (∀ l j, l < lm → j < 30 → u2 (100 + 6 * L + l) j = u (100 + 6 * L2 + l) j) ∧ (∀ l j, l < lm → j < 10 → u2 (200 + 6 * L + l) j = u (200 + 6 * L2 + l) j) ∧ (∀ l j, l < lm → j < 10 → u2 (300 + 6 * L + l) j = u (300 + 6 * L2 + l) j) := by
  have h0 : up (up (up (up (up (up (up (up (up (up u (10 + L) 0 (u (10 + L2) 0)) (10 + L) 1 (u (10 + L2) 1)) (10 + L) 2 (u (10 + L2) 2)) (10 + L) 3 (u (10 + L2) 3)) (10 + L) 4 (u (10 + L2) 4)) (10 + L) 5 (u (10 + L2) 5)) (10 + L) 6 (u (10 + L2) 6)) (10 + L) 7 (u (10 + L2) 7)) (10 + L) 8 (u (10 + L2) 8)) (10 + L) 9 (u (10 + L2) 9) = cpl u L L2 0 0 0 := by
    funext R j
    simp only [up_at]
    by_cases h : R = 10 + L ∧ j < 10
    · obtain ⟨rfl, h⟩ := h
      rw [cpl_lo (Or.inl h)]
      rcases (show j = 0 ∨ j = 1 ∨ j = 2 ∨ j = 3 ∨ j = 4 ∨ j = 5 ∨ j = 6 ∨ j = 7 ∨ j = 8 ∨ j = 9 by omega) with rfl | rfl | rfl | rfl | rfl | rfl | rfl | rfl | rfl | rfl
      all_goals
        repeat (first | rw [if_pos (by omega)] | rw [if_neg (by omega)])
    · have e : cpl u L L2 0 0 0 R j = u R j := by
        unfold cpl
        by_cases h2 : R = 10 + L
        · rw [if_pos h2, if_neg (by unfold CPp; omega), h2]
        · rw [if_neg h2, if_neg (by omega), if_neg (by omega), if_neg (by omega)]
      rw [e]
      repeat rw [if_neg (by omega)]
  have k1 := cfrom_S (g := g) hL hL2 hne hsm h7 hz sm 0 FUEL (by omega) (by show sm < 10000; omega)
  have k2 := cfrom_L (g := g) (sm := sm) hL hL2 hne hsm hlm h8 lm 0 FUEL (by omega) (by show lm < 10000; omega)
  have k3 := cfrom_C (g := g) (sm := sm) (lm := lm) hL hL2 hne hsm hlm hcm h9 hzc cm 0 FUEL (by omega) (by show cm < 10000; omega)
  have e4 : cpl u L L2 sm lm cm (400 + L2) = u (400 + L2) := by
    funext j; unfold cpl; rw [if_neg (by omega), if_neg (by omega), if_neg (by omega), if_neg (by omega)]
  generalize hW : cpl u L L2 sm lm cm = W at k3 e4
  have e2 : W (10 + L2) = u (10 + L2) := by rw [← hW]; exact cpl_2 hL2 hne
  refine ⟨cpR (cpR (cpR W (400 + L) 0 (u (400 + L2)) 0 5) (10 + L) 887 (fun j => if j < 30 then u (10 + L2) (887 + j) else nI 0) 0 30) (10 + L) 12 (fun j => if j < 5 then u (10 + L2) (12 + j) else nI 0) 0 5, ?_, fun R hR => ?_, fun j hj => ?_, fun j hj => ?_, fun a ha => ?_, fun l j hl hj => ?_, fun l j hl hj => ?_, fun l j hl hj => ?_⟩
  · unfold C3_copyFrom
    simp (disch := omega) only [lit32, pt_n, bS, up_or, h0, k1, k2, k3, cpo_n, cl0, cpR_or, e4, e2]
  · unfold OWN at hR
    rw [cpR_or (by omega), cpR_or (by omega), cpR_or (by omega), ← hW]
    funext j; unfold cpl; rw [if_neg (by omega), if_neg (by omega), if_neg (by omega), if_neg (by omega)]
  · rw [cpR_at, cpR_at, cpR_at]
    by_cases a : 12 ≤ j ∧ j < 17
    · rw [if_pos (by omega), if_pos (by omega)]; exact congrArg (u (10 + L2)) (by omega)
    · rw [if_neg (by omega)]
      by_cases b : 887 ≤ j ∧ j < 917
      · rw [if_pos (by omega), if_pos (by omega)]; exact congrArg (u (10 + L2)) (by omega)
      · rw [if_neg (by omega), if_neg (by omega), ← hW]
        exact cpl_lo (by rcases hj with q | q | q <;> first | exact q | (exfalso; omega))
  · have n1 : ¬ (12 ≤ j ∧ j < 17) := fun q => hj (Or.inr (Or.inr q))
    have n2 : ¬ (887 ≤ j ∧ j < 917) := fun q => hj (Or.inr (Or.inl q))
    have n3 : ¬ CPp sm lm cm j := fun q => hj (Or.inl q)
    rw [cpR_at, cpR_at, cpR_at, if_neg (by omega), if_neg (by omega), if_neg (by omega), ← hW]
    unfold cpl
    rw [if_pos rfl, if_neg n3]
  · rw [cpR_at, cpR_at, cpR_at, if_neg (by omega), if_neg (by omega), if_pos (by omega)]
    exact congrArg (u (400 + L2)) (by omega)
  · rw [cpR_or (by omega), cpR_or (by omega), cpR_or (by omega), ← hW]
    unfold cpl
    rw [if_neg (by omega), if_pos (by omega), show 100 + 6 * L + l - 6 * L + 6 * L2 = 100 + 6 * L2 + l by omega]
  · rw [cpR_or (by omega), cpR_or (by omega), cpR_or (by omega), ← hW]
    unfold cpl
    rw [if_neg (by omega), if_neg (by omega), if_pos (by omega), show 200 + 6 * L + l - 6 * L + 6 * L2 = 200 + 6 * L2 + l by omega]
  · rw [cpR_or (by omega), cpR_or (by omega), cpR_or (by omega), ← hW]
    unfold cpl
    rw [if_neg (by omega), if_neg (by omega), if_neg (by omega), if_pos (by omega), show 300 + 6 * L + l - 6 * L + 6 * L2 = 300 + 6 * L2 + l by omega]
end
section
noncomputable def TIr (w : Nat → Int32) (nt : Nat) : Prop := (∀ s, s < 6 → (sS w s 14).toNatClampNeg ≤ nt) ∧ (∀ c, c < 30 → (sC w c 2).toNatClampNeg ≤ nt)
theorem QR.tir {v w iv : Nat → Int32} {bp dl df tx : Nat → Nat → Int32} {nt sm lm cm B U : Nat} (h : QR v w iv bp dl df tx nt sm lm cm B U) : TIr w nt := ⟨h.s.ti, h.c.ti⟩
theorem QR.extW {v w iv w2 iv2 : Nat → Int32} {bp dl df tx bp2 dl2 df2 : Nat → Nat → Int32} {nt sm lm cm B U : Nat} (h : QR v w iv bp dl df tx nt sm lm cm B U) (hA : ∀ i, i < 17 → i ≠ 10 → i ≠ 11 → w2 i = w i) (hS : ∀ s k, s < sm → k < 15 → w2 (17 + 16 * s + k) = w (17 + 16 * s + k)) (hL : ∀ l k, l < lm → k < 4 → w2 (113 + 4 * l + k) = w (113 + 4 * l + k)) (hE : ∀ l k, l < lm → k < 5 → w2 (1100 + 8 * l + k) = w (1100 + 8 * l + k)) (hC : ∀ c k, c < cm → k < 9 → w2 (137 + 25 * c + k) = w (137 + 25 * c + k)) (hF : ∀ i, i < 30 → w2 (887 + i) = w (887 + i)) (hi : ∀ a, a < 5 → iv2 a = iv a) (hb : ∀ l p, l < lm → p < 30 → bp2 l p = bp l p) (hd : ∀ l k, l < lm → k < 10 → dl2 l k = dl l k) (hf : ∀ l k, l < lm → k < 10 → df2 l k = df l k) (ht : TIr w2 nt) : QR v w2 iv2 bp2 dl2 df2 tx nt sm lm cm B U := by
  have hsm := h.a.sm6; have hlm := h.a.lm6; have hcm := h.a.cm30
  have A : ∀ i, i < 17 → i ≠ 10 → i ≠ 11 → sA w2 i = sA w i := fun i a b d => by rw [← sA_r (v := w2) a, ← sA_r (v := w) a]; exact hA i a b d
  have S : ∀ s k, s < sm → k < 15 → sS w2 s k = sS w s k := fun s k a b => by rw [← sS_r (v := w2) (by omega) (by omega), ← sS_r (v := w) (by omega) (by omega)]; exact hS s k a b
  have Lc : ∀ s k, s < lm → k < 4 → sL w2 s k = sL w s k := fun s k a b => by rw [← sL_r (v := w2) (by omega) (by omega), ← sL_r (v := w) (by omega) (by omega)]; exact hL s k a b
  have E : ∀ s k, s < lm → k < 5 → sE w2 s k = sE w s k := fun s k a b => by rw [← sE_r (v := w2) (by omega) (by omega), ← sE_r (v := w) (by omega) (by omega)]; exact hE s k a b
  have C : ∀ s k, s < cm → k < 9 → sC w2 s k = sC w s k := fun s k a b => by rw [← sC_r (v := w2) (by omega) (by omega), ← sC_r (v := w) (by omega) (by omega)]; exact hC s k a b
  have F : ∀ i, i < 30 → sF w2 i = sF w i := fun i a => by rw [← sF_r (v := w2) a, ← sF_r (v := w) a]; exact hF i a
  have cst : ∀ a, cnt cm (stC (sC w2) a) = cnt cm (stC (sC w) a) := fun a => cnt_congr fun i hi => by unfold stC; rw [C i 3 hi (by omega)]
  have clo : ∀ a, cnt cm (loC (sC w2) a) = cnt cm (loC (sC w) a) := fun a => cnt_congr fun i hi => by unfold loC; rw [C i 0 hi (by omega)]
  have cls : ∀ l a, cnt cm (lsC (sC w2) l a) = cnt cm (lsC (sC w) l a) := fun l a => cnt_congr fun i hi => by unfold lsC; rw [C i 0 hi (by omega), C i 3 hi (by omega)]
  have csu : ∀ l k, k < 9 → sumI cm (suC (sC w2) l k) = sumI cm (suC (sC w) l k) := fun l k hk => sumI_congr fun i hi => by unfold suC; rw [C i 0 hi (by omega), C i k hi hk]
  have fn : ∀ c, c < cm → (fin (sC w2) c ↔ fin (sC w) c) := fun c hc => by unfold fin; rw [C c 3 hc (by omega)]
  refine ⟨?_, ?_, ?_, ?_, ?_, ?_, ?_⟩
  · obtain ⟨a1, a2, a3, a4, a5, a6, a7, a8, a9, a10⟩ := h.a
    refine ⟨a1, a2, a3, a4, ?_, ?_, ?_, fun i q1 q2 q3 => ?_, ?_, ?_⟩
    · rw [A 7 (by omega) (by omega) (by omega)]; exact a5
    · rw [A 8 (by omega) (by omega) (by omega)]; exact a6
    · rw [A 9 (by omega) (by omega) (by omega)]; exact a7
    · rw [A i q1 q2 q3]; exact a8 i q1 q2 q3
    · rw [A 0 (by omega) (by omega) (by omega)]; exact a9
    · rw [A 6 (by omega) (by omega) (by omega)]; exact a10
  · obtain ⟨b1, b2, b3, b4, b5, b6, b7, b8, b9, b10⟩ := h.s
    refine ⟨fun s k hs hk h8 => ?_, fun s hs => ?_, fun s hs => ?_, fun s hs => ?_, fun s hs => ?_, fun s hs => ?_, fun s hs => ?_, fun s hs => ?_, fun s hs => ?_, ht.1⟩
    · rw [S s k hs (by omega)]; exact b1 s k hs hk h8
    · rw [S s 0 hs (by omega), S s 8 hs (by omega)]; exact b2 s hs
    · rw [S s 0 hs (by omega)]; exact b3 s hs
    · rw [S s 1 hs (by omega)]; exact b4 s hs
    · rw [S s 2 hs (by omega)]
      rcases b5 s hs with e | ⟨c, c1, c2, c3, c4⟩
      · exact Or.inl e
      · exact Or.inr ⟨c, c1, c2, by rw [C c 3 c1 (by omega)]; exact c3, by rw [C c 4 c1 (by omega)]; exact c4⟩
    · rw [S s 3 hs (by omega)]; exact b6 s hs
    · rw [S s 4 hs (by omega)]; exact b7 s hs
    · rw [S s 7 hs (by omega)]; exact b8 s hs
    · rw [S s 14 hs (by omega)]; exact b9 s hs
  · obtain ⟨b1, b2, b3, b4, b5, b6⟩ := h.c
    refine ⟨fun s k hs hk h8 => ?_, fun s hs => ?_, fun s hs => ?_, fun s hs => ?_, fun s hs => ?_, ht.2⟩
    · rw [C s k hs (by omega)]; exact b1 s k hs hk h8
    · rw [C s 0 hs (by omega)]; exact b2 s hs
    · rw [C s 3 hs (by omega)]; exact b3 s hs
    · rw [C s 8 hs (by omega), C s 3 hs (by omega)]; exact b4 s hs
    · rw [C s 2 hs (by omega)]; exact b5 s hs
  · obtain ⟨b1, b2, b3⟩ := h.n
    refine ⟨fun a ha => ?_, ?_, fun i q => ?_⟩
    · rw [hi a ha, b1 a ha, cst]
    · rw [hi 3 (by omega)]; exact b2
    · rw [cst] at q
      have := cnt_le (n := cm) (p := stC (sC w) 3)
      rw [F i (by omega)]; exact b3 i q
  · obtain ⟨b1, b2, b3, b4, b5, b6, b7, b8, b9, b10⟩ := h.l
    refine ⟨fun l k q1 q2 => ?_, fun l q1 => ?_, fun l q1 => ?_, fun l q1 => ?_, fun l q1 => ?_, fun l q1 => ?_, fun l q1 => ?_, fun l q1 p q2 => ?_, fun l c q1 q2 q3 => ?_, fun l q1 => ?_⟩
    · rw [Lc l k q1 q2]; exact b1 l k q1 q2
    · rw [Lc l 0 q1 (by omega)]; exact b2 l q1
    · rw [E l 1 q1 (by omega), cls]; exact b3 l q1
    · rw [E l 2 q1 (by omega), cls]; exact b4 l q1
    · rw [E l 3 q1 (by omega), csu l 5 (by omega)]; exact b5 l q1
    · rw [E l 4 q1 (by omega), csu l 6 (by omega)]; exact b6 l q1
    · rw [Lc l 1 q1 (by omega), clo]; exact b7 l q1
    · rw [clo] at q2
      have := cnt_le (n := cm) (p := loC (sC w) l)
      obtain ⟨c, c1, c2, c3, c4⟩ := b8 l q1 p q2
      exact ⟨c, c1, by rw [hb l p q1 (by omega)]; exact c2, by rw [C c 0 c1 (by omega)]; exact c3, by rw [C c 1 c1 (by omega)]; exact c4⟩
    · rw [C c 0 q2 (by omega)] at q3
      have := cnt_le (n := cm) (p := loC (sC w) l)
      obtain ⟨p, p1, p2, p3⟩ := b9 l c q1 q2 q3
      exact ⟨p, by rw [clo]; exact p1, by rw [C c 1 q2 (by omega)]; exact p2, by rw [hb l p q1 (by omega)]; exact p3⟩
    · have := cnt_le (n := cm) (p := loC (sC w) l)
      obtain ⟨q, p1, p2, p3, p4⟩ := b10 l q1
      refine ⟨q, by rw [clo]; exact p1, by rw [E l 0 q1 (by omega)]; exact p2, fun p c r1 r2 r3 => ?_, fun c r1 r2 r3 => ?_⟩
      · rw [hb l p q1 (by omega)] at r3
        exact (fn c r2).mpr (p3 p c r1 r2 r3)
      · rw [clo] at r1
        rw [hb l q q1 (by omega)] at r3
        exact fun f => p4 c r1 r2 r3 ((fn c r2).mp f)
  · obtain ⟨b1, b2⟩ := h.d
    refine ⟨fun d t q1 q2 q3 q4 => ?_, fun d t l i q1 q2 q3 q4 q5 q6 => ?_⟩
    · rw [A 0 (by omega) (by omega) (by omega)] at q3
      rw [A 6 (by omega) (by omega) (by omega)] at q4
      exact b1 d t q1 q2 q3 q4
    · rw [A 0 (by omega) (by omega) (by omega)] at q3
      rw [A 6 (by omega) (by omega) (by omega)] at q4
      rw [hd l _ q5 (Nat.mod_lt _ (by omega)), hf l _ q5 (Nat.mod_lt _ (by omega))]
      exact b2 d t l i q1 q2 q3 q4 q5 q6
  · intro q hq; rw [C q 3 hq (by omega), C q 4 hq (by omega)]; exact h.wh q hq
theorem nz_of {x : Int32} (h : x = nI 0 ∨ x = nI 1) : nz x = some x := by
  rcases h with rfl | rfl
  · exact nz_0
  · exact nz_1
noncomputable abbrev QY (c : RS) (g : CG) (L : Nat) (v : Nat → Int32) (sm lm cm B U : Nat) : Prop := QX c g L v (c (10 + L)) (c (400 + L)) sm lm cm B U
theorem copyFrom_ok {c : RS} {g : CG} {L L2 sm lm cm B U : Nat} {v : Nat → Int32} (hL : L < 12) (hL2 : L2 < 12) (hne : ¬ L = L2) (h : QY c g L2 v sm lm cm B U) (ht : TIr (c (10 + L)) g.nt) : ∃ c2, C3_copyFrom g c L L2 = some c2 ∧ (∀ R, ¬ OWN L R → c2 R = c R) ∧ QY c2 g L v sm lm cm B U := by
  have hsm := h.a.sm6; have hlm := h.a.lm6; have hcm := h.a.cm30
  obtain ⟨c2, k1, k2, k3, k4, k5, k6, k7, k8⟩ := cfrom (g := g) (u := c) hL hL2 hne hsm hlm hcm (by rw [sA_r (v := c (10 + L2)) (by omega)]; exact h.a.w7) (by rw [sA_r (v := c (10 + L2)) (by omega)]; exact h.a.w8) (by rw [sA_r (v := c (10 + L2)) (by omega)]; exact h.a.w9) (fun s hs => nz_of (by rw [sS_r (v := c (10 + L2)) (by omega) (by omega)]; exact h.s.stop s hs)) (fun s hs => nz_of (by
    rw [sC_r (v := c (10 + L2)) (by omega) (by omega)]
    rcases h.c.rush s hs with q | q
    · exact Or.inl q
    · exact Or.inr q.1))
  refine ⟨c2, k1, k2, ?_⟩
  have hx := h.extW (w2 := c2 (10 + L)) (iv2 := c2 (400 + L)) (bp2 := fun l => c2 (100 + 6 * L + l)) (dl2 := fun l => c2 (200 + 6 * L + l)) (df2 := fun l => c2 (300 + 6 * L + l))
    (fun i q1 q2 q3 => k3 i (by unfold CPp; omega)) (fun s k q1 q2 => k3 _ (by unfold CPp; omega)) (fun l k q1 q2 => k3 _ (by unfold CPp; omega)) (fun l k q1 q2 => k3 _ (by unfold CPp; omega)) (fun q k q1 q2 => k3 _ (by unfold CPp; omega)) (fun i q1 => k3 _ (by omega)) k5 k6 k7 k8 ⟨fun s hs => ?_, fun q hq => ?_⟩
  · exact hx.congr (Nat.le_refl _) (fun l hl => rfl) (fun l hl => rfl) (fun l hl => rfl) (fun t q1 q2 => k2 _ (by unfold OWN; omega))
  · rw [← sS_r (v := c2 (10 + L)) hs (by omega)]
    by_cases e : s < sm
    · rw [k3 _ (by unfold CPp; omega), sS_r (v := c (10 + L2)) hs (by omega)]; exact h.s.ti s hs
    · rw [k4 _ (by unfold CPp; omega), sS_r (v := c (10 + L)) hs (by omega)]; exact ht.1 s hs
  · rw [← sC_r (v := c2 (10 + L)) hq (by omega)]
    by_cases e : q < cm
    · rw [k3 _ (by unfold CPp; omega), sC_r (v := c (10 + L2)) hq (by omega)]; exact h.c.ti q hq
    · rw [k4 _ (by unfold CPp; omega), sC_r (v := c (10 + L)) hq (by omega)]; exact ht.2 q hq
theorem QX.frame {c c2 : RS} {g g2 : CG} {L sm lm cm B U : Nat} {v w iv : Nat → Int32} (hL : L < 12) (h : QX c g L v w iv sm lm cm B U) (hn : g.nt ≤ g2.nt) (hb : ∀ R, 100 ≤ R → R < 400 → OWN L R → c2 R = c R) (ht : ∀ t, 1 ≤ t → t ≤ g.nt → c2 (500 + t) = c (500 + t)) : QX c2 g2 L v w iv sm lm cm B U :=
  h.congr hn (fun l hl => hb _ (by omega) (by have := h.a.lm6; omega) (by have := h.a.lm6; unfold OWN; omega)) (fun l hl => hb _ (by omega) (by have := h.a.lm6; omega) (by have := h.a.lm6; unfold OWN; omega)) (fun l hl => hb _ (by omega) (by have := h.a.lm6; omega) (by have := h.a.lm6; unfold OWN; omega)) ht
theorem QY.frame {c c2 : RS} {g g2 : CG} {L sm lm cm B U : Nat} {v : Nat → Int32} (hL : L < 12) (h : QY c g L v sm lm cm B U) (hn : g.nt ≤ g2.nt) (hb : ∀ R, OWN L R → c2 R = c R) (ht : ∀ t, 1 ≤ t → t ≤ g.nt → c2 (500 + t) = c (500 + t)) : QY c2 g2 L v sm lm cm B U := by
  have := QX.frame (c2 := c2) (g2 := g2) hL h hn (fun R _ _ => hb R) ht
  unfold QY
  rw [hb (10 + L) (Or.inl rfl), hb (400 + L) (Or.inr (Or.inl rfl))]
  exact this
end
section
theorem sub1_toInt {n : Nat} (hn : n < 2 ^ 31) : (nI n - nI 1).toInt = (n : Int) - 1 := by
  by_cases h : n = 0
  · subst h; rfl
  · rw [nI_sub (by omega), nI_toInt (by omega)]; omega
theorem inB_i {a : Int32} {lo hi : Int64} {p q : Int} (h1 : lo.toInt = p) (h2 : hi.toInt = q) : inB a.toInt64 lo hi = if p ≤ a.toInt ∧ a.toInt ≤ q then nI 1 else nI 0 := by
  unfold inB
  have e : a.toInt64.toInt = a.toInt := Int32.toInt_toInt64 a
  by_cases c : p ≤ a.toInt ∧ a.toInt ≤ q
  · rw [if_pos c, if_pos ⟨by rw [Int64.le_iff_toInt_le, h1, e]; exact c.1, by rw [Int64.le_iff_toInt_le, h2, e]; exact c.2⟩]; rfl
  · rw [if_neg c, if_neg (fun h => c ⟨by have := Int64.le_iff_toInt_le.mp h.1; rw [h1, e] at this; exact this, by have := Int64.le_iff_toInt_le.mp h.2; rw [h2, e] at this; exact this⟩)]; exact nI_0.symm
theorem nI_ofInt {a : Int32} (h : 0 ≤ a.toInt) : a = nI a.toInt.toNat ∧ a.toInt.toNat < 2 ^ 31 := by
  have h2 : a.toInt < 2 ^ 31 := Int32.toInt_lt a
  have h3 : a.toInt.toNat < 2 ^ 31 := by omega
  refine ⟨Int32.toInt_inj.mp ?_, h3⟩
  rw [nI_toInt h3]; omega
theorem below {a : Int32} {n : Nat} (hn : n < 2 ^ 31) : (∃ k, k < n ∧ a = nI k) ∨ (a.toInt < 0 ∨ (n : Int) ≤ a.toInt) := by
  by_cases h : 0 ≤ a.toInt
  · by_cases h2 : a.toInt < n
    · obtain ⟨e, -⟩ := nI_ofInt h
      exact Or.inl ⟨a.toInt.toNat, by omega, e⟩
    · exact Or.inr (Or.inr (by omega))
  · exact Or.inr (Or.inl (by omega))
theorem lt0 {a : Int32} : a < nI 0 ↔ a.toInt < 0 := by rw [Int32.lt_iff_toInt_lt, nI_toInt (by omega)]; rfl
theorem ltn {a : Int32} {n : Nat} (hn : n < 2 ^ 31) : a < nI n ↔ a.toInt < n := by rw [Int32.lt_iff_toInt_lt, nI_toInt hn]
theorem len {a : Int32} {n : Nat} (hn : n < 2 ^ 31) : a ≤ nI n ↔ a.toInt ≤ n := by rw [Int32.le_iff_toInt_le, nI_toInt hn]
theorem gen {a : Int32} {n : Nat} (hn : n < 2 ^ 31) : nI n ≤ a ↔ (n : Int) ≤ a.toInt := by rw [Int32.le_iff_toInt_le, nI_toInt hn]
noncomputable def th (r : RS) (k : Nat) : RS := up r 0 6 (nI k)
theorem th_o {r : RS} {k R : Nat} (h : R ≠ 0) : th r k R = r R := up_or h
theorem th_0 {r : RS} {k i : Nat} (h : i ≠ 6) : th r k 0 i = r 0 i := by unfold th; exact up_ne (fun q => h q.2)
theorem th_6 {r : RS} {k : Nat} : th r k 0 6 = nI k := up_eq
theorem th_th {r : RS} {k j : Nat} : th (th r k) j = th r j := by
  unfold th
  funext R i
  simp only [up_at]
  by_cases h : R = 0 ∧ i = 6
  · rw [if_pos h, if_pos h]
  · rw [if_neg h, if_neg h, if_neg h]
theorem isThrown_1 {r : RS} {n : Int32} : F8_isThrown r (nI 1) n = some (nI 0, th r 0) := by
  unfold F8_isThrown th
  simp only [lit32]
  rw [if_neg (nI_ne (by omega) (by omega) (by omega)), bS, pt_n, bS, if_neg (nI_ne (by omega) (by omega) (by omega)), bS, nz_0, bS]
theorem isThrown_0 {r : RS} {n : Nat} : F8_isThrown r (nI 0) (nI n) = some (nI 1, th r n) := by
  unfold F8_isThrown th
  simp only [lit32]
  rw [if_pos trivial, bS, pt_n, bS, if_pos trivial, bS, nz_1, bS]
theorem argF {u : RS} {a : Int32} {n : Nat} (hn : n < 2 ^ 31) : (nz (inB a.toInt64 (0 : Int64) ((nI n - nI 1).toInt64))).bind (fun x1 => some x1) = some (if 0 ≤ a.toInt ∧ a.toInt < n then nI 1 else nI 0) := by
  rw [inB_i (p := 0) (q := (n : Int) - 1) (by decide) (by rw [Int32.toInt_toInt64, sub1_toInt hn])]
  by_cases h : 0 ≤ a.toInt ∧ a.toInt < n
  · rw [if_pos (by omega), if_pos h, nz_1, bS]
  · rw [if_neg (by omega), if_neg h, nz_0, bS]
theorem argC {c : RS} {a : Int32} {n : Nat} (hn : n < 2 ^ 31) : (if a < nI 0 then (some (.inl (nI 1))) else (if a < nI n then (some (.inr ())) else (some (.inl (nI 1)))) : Option (Sum Int32 Unit)) = some (if 0 ≤ a.toInt ∧ a.toInt < n then .inr () else .inl (nI 1)) := by
  by_cases h0 : a < nI 0
  · rw [if_pos h0, if_neg (by have := lt0.mp h0; omega)]
  · rw [if_neg h0]
    have h0' : ¬ a.toInt < 0 := fun q => h0 (lt0.mpr q)
    by_cases h : a < nI n
    · rw [if_pos h, if_pos ⟨by omega, (ltn hn).mp h⟩]
    · rw [if_neg h, if_neg (fun q => h ((ltn hn).mpr q.2))]
theorem argSt {r c : RS} {g : CG} {a : Int32} {n : Nat} (hn : n < 2 ^ 31) (hr : r 1 7 = nI n) (hc : c 10 7 = nI n) : (∃ k, k < n ∧ a = nI k ∧ F8_isStation r a = some (nI 1) ∧ C7_needStation g c a = some (.inr ())) ∨ (F8_isStation r a = some (nI 0) ∧ C7_needStation g c a = some (.inl (nI 1))) := by
  have eF : F8_isStation r a = some (if 0 ≤ a.toInt ∧ a.toInt < n then nI 1 else nI 0) := by
    unfold F8_isStation; simp only [lit32]; rw [hr]; exact argF (u := r) hn
  have eC : C7_needStation g c a = some (if 0 ≤ a.toInt ∧ a.toInt < n then .inr () else .inl (nI 1)) := by
    unfold C7_needStation; simp only [lit32, Nat.add_zero]; rw [hc]; exact argC (c := c) hn
  rcases below (a := a) hn with ⟨k, hk, e⟩ | h
  · rw [if_pos (by rw [e, nI_toInt (by omega)]; omega)] at eF eC
    exact Or.inl ⟨k, hk, e, eF, eC⟩
  · rw [if_neg (by omega)] at eF eC
    exact Or.inr ⟨eF, eC⟩
theorem argLo {r c : RS} {g : CG} {a : Int32} {n : Nat} (hn : n < 2 ^ 31) (hr : r 1 8 = nI n) (hc : c 10 8 = nI n) : (∃ k, k < n ∧ a = nI k ∧ F8_isLot r a = some (nI 1) ∧ C7_needLot g c a = some (.inr ())) ∨ (F8_isLot r a = some (nI 0) ∧ C7_needLot g c a = some (.inl (nI 1))) := by
  have eF : F8_isLot r a = some (if 0 ≤ a.toInt ∧ a.toInt < n then nI 1 else nI 0) := by
    unfold F8_isLot; simp only [lit32]; rw [hr]; exact argF (u := r) hn
  have eC : C7_needLot g c a = some (if 0 ≤ a.toInt ∧ a.toInt < n then .inr () else .inl (nI 1)) := by
    unfold C7_needLot; simp only [lit32, Nat.add_zero]; rw [hc]; exact argC (c := c) hn
  rcases below (a := a) hn with ⟨k, hk, e⟩ | h
  · rw [if_pos (by rw [e, nI_toInt (by omega)]; omega)] at eF eC
    exact Or.inl ⟨k, hk, e, eF, eC⟩
  · rw [if_neg (by omega)] at eF eC
    exact Or.inr ⟨eF, eC⟩
theorem argCd {r c : RS} {g : CG} {a : Int32} {n : Nat} (hn : n < 2 ^ 31) (hr : r 1 9 = nI n) (hc : c 10 9 = nI n) : (∃ k, k < n ∧ a = nI k ∧ F8_isCard r a = some (nI 1) ∧ C7_needCard g c a = some (.inr ())) ∨ (F8_isCard r a = some (nI 0) ∧ C7_needCard g c a = some (.inl (nI 1))) := by
  have eF : F8_isCard r a = some (if 0 ≤ a.toInt ∧ a.toInt < n then nI 1 else nI 0) := by
    unfold F8_isCard; simp only [lit32]; rw [hr]; exact argF (u := r) hn
  have eC : C7_needCard g c a = some (if 0 ≤ a.toInt ∧ a.toInt < n then .inr () else .inl (nI 1)) := by
    unfold C7_needCard; simp only [lit32, Nat.add_zero]; rw [hc]; exact argC (c := c) hn
  rcases below (a := a) hn with ⟨k, hk, e⟩ | h
  · rw [if_pos (by rw [e, nI_toInt (by omega)]; omega)] at eF eC
    exact Or.inl ⟨k, hk, e, eF, eC⟩
  · rw [if_neg (by omega)] at eF eC
    exact Or.inr ⟨eF, eC⟩
theorem argR {a : Int32} {lo hi : Nat} (hhi : hi < 2 ^ 31) (hlo : lo ≤ hi) {l h : Int64} (h1 : l.toInt = lo) (h2 : h.toInt = hi) : (∃ k, lo ≤ k ∧ k ≤ hi ∧ a = nI k ∧ inB a.toInt64 l h = nI 1 ∧ C7_needRange a (nI lo) (nI hi) = some (.inr ())) ∨ (inB a.toInt64 l h = nI 0 ∧ C7_needRange a (nI lo) (nI hi) = some (.inl (nI 2)) ∧ (a.toInt < lo ∨ (hi : Int) < a.toInt)) := by
  have eF := inB_i (a := a) h1 h2
  by_cases c : (lo : Int) ≤ a.toInt ∧ a.toInt ≤ hi
  · obtain ⟨e, -⟩ := nI_ofInt (a := a) (by omega)
    rw [if_pos c] at eF
    refine Or.inl ⟨a.toInt.toNat, by omega, by omega, e, eF, ?_⟩
    unfold C7_needRange
    rw [if_neg (fun q => by rw [Int32.lt_iff_toInt_lt, nI_toInt (by omega)] at q; omega), if_pos (by rw [Int32.le_iff_toInt_le, nI_toInt hhi]; omega)]
  · rw [if_neg c] at eF
    refine Or.inr ⟨eF, ?_, by omega⟩
    unfold C7_needRange
    simp only [lit32]
    by_cases q : a < nI lo
    · rw [if_pos q]
    · rw [if_neg q, if_neg (fun q2 => by
        rw [Int32.lt_iff_toInt_lt, nI_toInt (by omega)] at q
        rw [Int32.le_iff_toInt_le, nI_toInt hhi] at q2
        omega)]
theorem trL {α β : Type} {x : Int32} {f : α → Option (Sum Int32 β)} : tr (.inl x) f = some (.inl x) := rfl
theorem trR {α β : Type} {a : α} {f : α → Option (Sum Int32 β)} : tr (.inr a) f = f a := rfl
theorem ifn {α : Type} {a b : Nat} {x y : α} (h : a ≠ b) (ha : a < 2 ^ 31) (hb : b < 2 ^ 31) : (if nI a = nI b then x else y) = y := if_neg (nI_ne h ha hb)
theorem ifo {α : Type} {a : Int32} {n k : Nat} {x y : α} (h : a.toInt < 0 ∨ (n : Int) ≤ a.toInt) (hk : k < n) (hn : n < 2 ^ 31) : (if a = nI k then x else y) = y := if_neg fun e => by rw [e, nI_toInt (by omega)] at h; omega
end
section
noncomputable abbrev ROW (r : RS) (k i : Nat) : Nat → Int32 := fun j => r k (1037 * i + j)
noncomputable def LQ (c : RS) (g : CG) (L : Nat) (v : Nat → Int32) (B : Nat) : Prop := ∃ sm lm cm, QY c g L v sm lm cm B B
noncomputable def PAi (r c : RS) (g : CG) (B o n : Nat) : Prop := o < 8 ∧ n ≤ 8 ∧ c 0 3 = nI o ∧ c 0 4 = nI n ∧ r 0 5 = nI n ∧ ∀ i, i < n → g.pl (2 + (o + i) % 8) = true ∧ LQ c g (2 + (o + i) % 8) (ROW r 3 i) B
noncomputable def PA (r c : RS) (g : CG) (B : Nat) : Prop := ∃ o n, PAi r c g B o n
noncomputable def SV (r c : RS) (g : CG) (B : Nat) : Prop := ∀ s, s < 2 → (r 5 s = nI 0 ∧ g.pl (10 + s) = false) ∨ (r 5 s = nI 1 ∧ g.pl (10 + s) = true ∧ LQ c g (10 + s) (ROW r 4 s) B)
noncomputable def BYT (x : Int32) : Prop := -128 ≤ x.toInt ∧ x.toInt < 128
noncomputable def BF (r c : RS) : Prop := c 5 0 = nI 0 ∧ ∃ n, n ≤ 600 ∧ c 0 5 = nI n ∧ r 0 8 = nI n ∧ ∀ k, k < n → c 3 k = r 6 k ∧ BYT (c 3 k)
noncomputable def ER (r c : RS) : Prop := c 0 1 = r 0 15 ∧ c 0 2 = r 0 16
noncomputable def OU (r c : RS) : Prop := ∃ a b, a ≤ 16 ∧ b ≤ 16 ∧ c 0 0 = nI a ∧ r 0 22 = nI b
noncomputable def TIn (c : RS) (nt : Nat) : Prop := ∀ L, L < 12 → TIr (c (10 + L)) nt
noncomputable def GI (r c : RS) (g : CG) (B T : Nat) : Prop := LQ c g 0 (r 1) B ∧ TIn c g.nt ∧ PA r c g B ∧ SV r c g B ∧ BF r c ∧ ER r c ∧ OU r c ∧ g.nt ≤ T
theorem GI.l {r c : RS} {g : CG} {B T : Nat} (h : GI r c g B T) : LQ c g 0 (r 1) B := h.1
theorem GI.ti {r c : RS} {g : CG} {B T : Nat} (h : GI r c g B T) : TIn c g.nt := h.2.1
theorem GI.p {r c : RS} {g : CG} {B T : Nat} (h : GI r c g B T) : PA r c g B := h.2.2.1
theorem GI.s {r c : RS} {g : CG} {B T : Nat} (h : GI r c g B T) : SV r c g B := h.2.2.2.1
theorem GI.b {r c : RS} {g : CG} {B T : Nat} (h : GI r c g B T) : BF r c := h.2.2.2.2.1
theorem GI.e {r c : RS} {g : CG} {B T : Nat} (h : GI r c g B T) : ER r c := h.2.2.2.2.2.1
theorem GI.o {r c : RS} {g : CG} {B T : Nat} (h : GI r c g B T) : OU r c := h.2.2.2.2.2.2.1
theorem GI.n {r c : RS} {g : CG} {B T : Nat} (h : GI r c g B T) : g.nt ≤ T := h.2.2.2.2.2.2.2
theorem TI_n {c : RS} {g : CG} : TI g c ↔ TIn c g.nt := by
  unfold TI TIn TIr
  constructor
  · intro h L hL
    refine ⟨fun s hs => ?_, fun q hq => ?_⟩
    · rw [← sS_r (v := c (10 + L)) hs (by omega)]; exact (h L hL).1 s hs
    · rw [← sC_r (v := c (10 + L)) hq (by omega)]; exact (h L hL).2 q hq
  · intro h L hL
    refine ⟨fun s hs => ?_, fun q hq => ?_⟩
    · rw [sS_r (v := c (10 + L)) hs (by omega)]; exact (h L hL).1 s hs
    · rw [sC_r (v := c (10 + L)) hq (by omega)]; exact (h L hL).2 q hq
theorem TIr.mono {w : Nat → Int32} {nt nt2 : Nat} (h : TIr w nt) (hn : nt ≤ nt2) : TIr w nt2 := ⟨fun s hs => Nat.le_trans (h.1 s hs) hn, fun s hs => Nat.le_trans (h.2 s hs) hn⟩
theorem LQ.mono {c : RS} {g : CG} {L B B2 : Nat} {v : Nat → Int32} (h : LQ c g L v B) (hB : B ≤ B2) (h2 : B2 < 2000000000) : LQ c g L v B2 := by
  obtain ⟨sm, lm, cm, h⟩ := h
  exact ⟨sm, lm, cm, h.mono hB h2 hB⟩
theorem LQ.frame {c c2 : RS} {g g2 : CG} {L B : Nat} {v : Nat → Int32} (hL : L < 12) (h : LQ c g L v B) (hn : g.nt ≤ g2.nt) (hb : ∀ R, OWN L R → c2 R = c R) (ht : ∀ t, 1 ≤ t → t ≤ g.nt → c2 (500 + t) = c (500 + t)) : LQ c2 g2 L v B := by
  obtain ⟨sm, lm, cm, h⟩ := h
  exact ⟨sm, lm, cm, h.frame hL hn hb ht⟩
theorem PAi.frame {r r2 c c2 : RS} {g g2 : CG} {B o n : Nat} (h : PAi r c g B o n) (hn : g.nt ≤ g2.nt) (hp : ∀ i, 2 ≤ i → i < 10 → g.pl i = true → g2.pl i = true) (hc3 : c2 0 3 = c 0 3) (hc4 : c2 0 4 = c 0 4) (hr5 : r2 0 5 = r 0 5) (hr3 : r2 3 = r 3) (hb : ∀ L R, 2 ≤ L → L < 10 → OWN L R → c2 R = c R) (ht : ∀ t, 1 ≤ t → t ≤ g.nt → c2 (500 + t) = c (500 + t)) : PAi r2 c2 g2 B o n := by
  obtain ⟨h1, h2, h3, h4, h5, h6⟩ := h
  refine ⟨h1, h2, hc3.trans h3, hc4.trans h4, hr5.trans h5, fun i hi => ?_⟩
  obtain ⟨a, b⟩ := h6 i hi
  have e : ROW r2 3 i = ROW r 3 i := by funext j; show r2 3 _ = r 3 _; rw [hr3]
  refine ⟨hp _ (by omega) (by omega) a, ?_⟩
  rw [e]
  exact b.frame (by omega) hn (fun R hR => hb _ R (by omega) (by omega) hR) ht
theorem PA.frame {r r2 c c2 : RS} {g g2 : CG} {B : Nat} (h : PA r c g B) (hn : g.nt ≤ g2.nt) (hp : ∀ i, 2 ≤ i → i < 10 → g.pl i = true → g2.pl i = true) (hc3 : c2 0 3 = c 0 3) (hc4 : c2 0 4 = c 0 4) (hr5 : r2 0 5 = r 0 5) (hr3 : r2 3 = r 3) (hb : ∀ L R, 2 ≤ L → L < 10 → OWN L R → c2 R = c R) (ht : ∀ t, 1 ≤ t → t ≤ g.nt → c2 (500 + t) = c (500 + t)) : PA r2 c2 g2 B := by
  obtain ⟨o, n, h⟩ := h
  exact ⟨o, n, h.frame hn hp hc3 hc4 hr5 hr3 hb ht⟩
theorem SV.frame {r r2 c c2 : RS} {g g2 : CG} {B : Nat} (h : SV r c g B) (hn : g.nt ≤ g2.nt) (hp : ∀ i, 10 ≤ i → i < 12 → g2.pl i = g.pl i) (hr5 : r2 5 = r 5) (hr4 : r2 4 = r 4) (hb : ∀ L R, 10 ≤ L → L < 12 → OWN L R → c2 R = c R) (ht : ∀ t, 1 ≤ t → t ≤ g.nt → c2 (500 + t) = c (500 + t)) : SV r2 c2 g2 B := by
  intro s hs
  rw [hr5, hp _ (by omega) (by omega)]
  rcases h s hs with q | ⟨q1, q2, q3⟩
  · exact Or.inl q
  · have e : ROW r2 4 s = ROW r 4 s := by funext j; show r2 4 _ = r 4 _; rw [hr4]
    refine Or.inr ⟨q1, q2, ?_⟩
    rw [e]
    exact q3.frame (by omega) hn (fun R hR => hb _ R (by omega) (by omega) hR) ht
theorem BF.frame {r r2 c c2 : RS} (h : BF r c) (h5 : c2 0 5 = c 0 5) (h8 : r2 0 8 = r 0 8) (h3 : c2 3 = c 3) (h6 : r2 6 = r 6) (hz : c2 5 = c 5) : BF r2 c2 := by
  obtain ⟨z, n, a1, a2, a3, a4⟩ := h
  exact ⟨by rw [hz]; exact z, n, a1, h5.trans a2, h8.trans a3, fun k hk => by rw [h3, h6]; exact a4 k hk⟩
theorem ER.frame {r r2 c c2 : RS} (h : ER r c) (h1 : c2 0 1 = c 0 1) (h2 : c2 0 2 = c 0 2) (h3 : r2 0 15 = r 0 15) (h4 : r2 0 16 = r 0 16) : ER r2 c2 := ⟨by rw [h1, h3]; exact h.1, by rw [h2, h4]; exact h.2⟩
theorem OU.frame {r r2 c c2 : RS} (h : OU r c) (h1 : c2 0 0 = c 0 0) (h2 : r2 0 22 = r 0 22) : OU r2 c2 := by
  obtain ⟨a, b, q1, q2, q3, q4⟩ := h
  exact ⟨a, b, q1, q2, h1.trans q3, h2.trans q4⟩
theorem PA.mono {r c : RS} {g : CG} {B B2 : Nat} (h : PA r c g B) (hB : B ≤ B2) (h2 : B2 < 2000000000) : PA r c g B2 := by
  obtain ⟨o, n, h1, h2', h3, h4, h5, h6⟩ := h
  exact ⟨o, n, h1, h2', h3, h4, h5, fun i hi => ⟨(h6 i hi).1, (h6 i hi).2.mono hB h2⟩⟩
theorem SV.mono {r c : RS} {g : CG} {B B2 : Nat} (h : SV r c g B) (hB : B ≤ B2) (h2 : B2 < 2000000000) : SV r c g B2 := by
  intro s hs
  rcases h s hs with q | ⟨q1, q2, q3⟩
  · exact Or.inl q
  · exact Or.inr ⟨q1, q2, q3.mono hB h2⟩
theorem GI.mono {r c : RS} {g : CG} {B B2 T T2 : Nat} (h : GI r c g B T) (hB : B ≤ B2) (h2 : B2 < 2000000000) (hT : T ≤ T2) : GI r c g B2 T2 :=
  ⟨h.l.mono hB h2, h.ti, h.p.mono hB h2, h.s.mono hB h2, h.b, h.e, h.o, Nat.le_trans h.n hT⟩
theorem GI.thr {r c : RS} {g : CG} {B T k : Nat} (h : GI r c g B T) : GI (th r k) c g B T := by
  refine ⟨?_, h.ti, ?_, ?_, ?_, ?_, ?_, h.n⟩
  · rw [th_o (by decide)]; exact h.l
  · exact h.p.frame (Nat.le_refl _) (fun _ _ _ q => q) rfl rfl (th_0 (by decide)) (th_o (by decide)) (fun _ _ _ _ _ => rfl) (fun _ _ _ => rfl)
  · exact h.s.frame (Nat.le_refl _) (fun _ _ _ => rfl) (th_o (by decide)) (th_o (by decide)) (fun _ _ _ _ _ => rfl) (fun _ _ _ => rfl)
  · exact h.b.frame rfl (th_0 (by decide)) rfl (th_o (by decide)) rfl
  · exact h.e.frame rfl rfl (th_0 (by decide)) (th_0 (by decide))
  · exact h.o.frame rfl (th_0 (by decide))
theorem QY.n7 {c : RS} {g : CG} {L sm lm cm B U : Nat} {v : Nat → Int32} (h : QY c g L v sm lm cm B U) : c (10 + L) 7 = nI sm := by rw [sA_r (v := c (10 + L)) (by omega)]; exact h.a.w7
theorem QY.n8 {c : RS} {g : CG} {L sm lm cm B U : Nat} {v : Nat → Int32} (h : QY c g L v sm lm cm B U) : c (10 + L) 8 = nI lm := by rw [sA_r (v := c (10 + L)) (by omega)]; exact h.a.w8
theorem QY.n9 {c : RS} {g : CG} {L sm lm cm B U : Nat} {v : Nat → Int32} (h : QY c g L v sm lm cm B U) : c (10 + L) 9 = nI cm := by rw [sA_r (v := c (10 + L)) (by omega)]; exact h.a.w9
theorem QY.v7 {c : RS} {g : CG} {L sm lm cm B U : Nat} {v : Nat → Int32} (h : QY c g L v sm lm cm B U) : v 7 = nI sm := by rw [QR.ra h (by omega) (by omega) (by omega)]; exact h.n7
theorem QY.v8 {c : RS} {g : CG} {L sm lm cm B U : Nat} {v : Nat → Int32} (h : QY c g L v sm lm cm B U) : v 8 = nI lm := by rw [QR.ra h (by omega) (by omega) (by omega)]; exact h.n8
theorem QY.v9 {c : RS} {g : CG} {L sm lm cm B U : Nat} {v : Nat → Int32} (h : QY c g L v sm lm cm B U) : v 9 = nI cm := by rw [QR.ra h (by omega) (by omega) (by omega)]; exact h.n9
end
section
noncomputable def QT (F : Option (Int32 × RS)) (C : Option (Sum Int32 Int32)) (r : RS) (sh : Nat) : Prop := (∃ x, F = some (x, th r 0) ∧ C = some (.inr x)) ∨ (∃ k, 1 ≤ k ∧ k ≤ 2 ∧ F = some (nI 0, th r k) ∧ C = some (.inl (nI (k + sh))))
noncomputable def QP {α : Type} (F : Option (α × RS)) (C : Option α) (r : RS) : Prop := ∃ x, F = some (x, th r 0) ∧ C = some x
theorem thR {r : RS} {k : Nat} : th r k = setR (th r k) (r 1) := by
  have e : (th r k) 1 = r 1 := th_o (by decide)
  rw [← e]; exact setR_self
theorem th1 {r : RS} {k i : Nat} : th r k 1 i = r 1 i := by rw [th_o (by decide)]
theorem zth {r : RS} : pt r 0 6 (nI 0) = some (th r 0) := pt_n
theorem cL {c : RS} {L : Nat} : c = setL c L (c (10 + L)) (c (400 + L)) := setL_self
theorem nz0 : ¬ nI 1 = nI 0 := nI_ne (by omega) (by omega) (by omega)
theorem inB_pos {a : Int32} {lo hi : Int64} {p q : Int} (h1 : lo.toInt = p) (h2 : hi.toInt = q) (h : p ≤ a.toInt ∧ a.toInt ≤ q) : inB a.toInt64 lo hi = nI 1 := by rw [inB_i h1 h2, if_pos h]
theorem inB_neg {a : Int32} {lo hi : Int64} {p q : Int} (h1 : lo.toInt = p) (h2 : hi.toInt = q) (h : ¬ (p ≤ a.toInt ∧ a.toInt ≤ q)) : inB a.toInt64 lo hi = nI 0 := by rw [inB_i h1 h2, if_neg h]
theorem q_count {r c : RS} {g : CG} {B T : Nat} {a : Int32} (h : GI r c g B T) : QT (F8_count r a) (C7_count g c a) r 1 := by
  obtain ⟨sm, lm, cm, h0⟩ := h.l
  obtain ⟨o, n, p1, p2, p3, p4, p5, -⟩ := h.p
  have iS : ∀ k, k < 5 → F8_inState (th r 0) (nI k) = some (c (400 + 0) k) := fun k hk => by rw [thR]; exact inState_ok h0 hk
  have e5 : r 1 5 = c (10 + 0) 5 := QR.ra h0 (by omega) (by omega) (by omega)
  unfold F8_count C7_count
  simp only [lit32, neg1]
  rcases argR (a := a) (lo := 0) (hi := 9) (by omega) (by omega) (l := 0) (h := 9) rfl rfl with ⟨k, k1, k2, rfl, k3, k4⟩ | ⟨k3, k4, k5⟩
  · rw [k3, isThrown_1, bS]
    simp only [if_true]
    rcases (show k = 0 ∨ k = 1 ∨ k = 2 ∨ k = 3 ∨ k = 4 ∨ k = 5 ∨ k = 6 ∨ k = 7 ∨ k = 8 ∨ k = 9 by omega) with rfl | rfl | rfl | rfl | rfl | rfl | rfl | rfl | rfl | rfl
    · refine Or.inl ⟨c (10 + 0) 7, ?_, ?_⟩ <;> simp (disch := omega) only [ifn, if_true, th1, h0.v7, h0.n7]
    · refine Or.inl ⟨c (10 + 0) 8, ?_, ?_⟩ <;> simp (disch := omega) only [ifn, if_true, th1, h0.v8, h0.n8]
    · refine Or.inl ⟨c (10 + 0) 9, ?_, ?_⟩ <;> simp (disch := omega) only [ifn, if_true, th1, h0.v9, h0.n9]
    · refine Or.inl ⟨c (10 + 0) 5, ?_, ?_⟩ <;> simp (disch := omega) only [ifn, if_true, th1, e5]
    · refine Or.inl ⟨c (400 + 0) 0, ?_, ?_⟩
      · simp (disch := omega) only [ifn, if_true, nI_sub, iS, bS]
      · simp (disch := omega) only [ifn, if_true]
    · refine Or.inl ⟨c (400 + 0) 1, ?_, ?_⟩
      · simp (disch := omega) only [ifn, if_true, nI_sub, iS, bS]
      · simp (disch := omega) only [ifn, if_true]
    · refine Or.inl ⟨c (400 + 0) 2, ?_, ?_⟩
      · simp (disch := omega) only [ifn, if_true, nI_sub, iS, bS]
      · simp (disch := omega) only [ifn, if_true]
    · refine Or.inl ⟨c (400 + 0) 3, ?_, ?_⟩
      · simp (disch := omega) only [ifn, if_true, nI_sub, iS, bS]
      · simp (disch := omega) only [ifn, if_true]
    · refine Or.inl ⟨c (400 + 0) 4, ?_, ?_⟩
      · simp (disch := omega) only [ifn, if_true, nI_sub, iS, bS]
      · simp (disch := omega) only [ifn, if_true]
    · refine Or.inl ⟨nI n, ?_, ?_⟩
      · simp (disch := omega) only [ifn, if_true, th_0, p5]
      · simp (disch := omega) only [ifn, if_true, p4]
  · rw [k3, isThrown_0, bS]
    refine Or.inr ⟨1, by omega, by omega, ?_, ?_⟩
    · simp only [nz0, if_false]
    · have e := fun (x : Nat) (hx : x < 10) {α : Type} (p q : α) => ifo (x := p) (y := q) (n := 10) (k := x) (a := a) (by omega) hx (by omega)
      simp (disch := omega) only [e]
theorem q_setting {r c : RS} {g : CG} {B T : Nat} {a : Int32} (h : GI r c g B T) : QT (F8_setting r a) (C7_setting g c a) r 1 := by
  obtain ⟨sm, lm, cm, h0⟩ := h.l
  have e : ∀ k, k < 5 → r 1 k = c (10 + 0) k := fun k hk => QR.ra h0 (by omega) (by omega) (by omega)
  unfold F8_setting C7_setting
  simp only [lit32, neg1]
  rcases argR (a := a) (lo := 0) (hi := 4) (by omega) (by omega) (l := 0) (h := 4) rfl rfl with ⟨k, k1, k2, rfl, k3, k4⟩ | ⟨k3, k4, k5⟩
  · rw [k3, isThrown_1, bS]
    simp only [if_true]
    rw [rd_n (by omega) (by omega), bS, bS, th1, e k (by omega)]
    rcases (show k = 0 ∨ k = 1 ∨ k = 2 ∨ k = 3 ∨ k = 4 by omega) with rfl | rfl | rfl | rfl | rfl
    all_goals
      refine Or.inl ⟨_, rfl, ?_⟩
      simp (disch := omega) only [ifn, if_true]
  · rw [k3, isThrown_0, bS]
    refine Or.inr ⟨1, by omega, by omega, ?_, ?_⟩
    · simp only [nz0, if_false, bS]
    · have e := fun (x : Nat) (hx : x < 5) {α : Type} (p q : α) => ifo (x := p) (y := q) (n := 5) (k := x) (a := a) (by omega) hx (by omega)
      simp (disch := omega) only [e]
theorem q_station {r c : RS} {g : CG} {B T : Nat} {a b : Int32} (h : GI r c g B T) : QT (F8_station r a b) (C7_station g c a b) r 0 := by
  obtain ⟨sm, lm, cm, h0⟩ := h.l
  have hsm := h0.a.sm6
  unfold F8_station C7_station
  simp only [lit32, neg1]
  rcases argSt (r := r) (c := c) (g := g) (a := a) (n := sm) (by omega) h0.v7 h0.n7 with ⟨s, s1, rfl, s2, s3⟩ | ⟨s2, s3⟩
  · have hs6 : s < 6 := by omega
    rw [s2, s3, bS, bS, isThrown_1, bS, trR, ix_n hs6 (by omega), bS]
    simp only [if_true]
    rcases argR (a := b) (lo := 0) (hi := 12) (by omega) (by omega) (l := 0) (h := 12) rfl rfl with ⟨k, k1, k2, rfl, k3, k4⟩ | ⟨k3, k4, k5⟩
    · have e : ∀ k, k < 14 → k ≠ 8 → r 1 (17 + 16 * s + k) = c (10 + 0) (17 + 16 * s + k) := fun k a b => QR.rs h0 s1 a b
      rw [k3, isThrown_1, bS, th_th, thR]
      simp only [if_true]
      rw [F8_of_v hs6 (by omega), bS, ← thR]
      by_cases k8 : k = 8
      · subst k8
        refine Or.inl ⟨_, rfl, ?_⟩
        have e0 : c (10 + 0) (17 + 16 * s + 0) = sS (c (10 + 0)) s 0 := sS_r (v := c (10 + 0)) hs6 (by omega)
        have e8 : r 1 (17 + 16 * s + 8) = sS (r 1) s 8 := sS_r (v := r 1) hs6 (by omega)
        have e8c : c (10 + 0) (17 + 16 * s + 8) = sS (c (10 + 0)) s 8 := sS_r (v := c (10 + 0)) hs6 (by omega)
        simp (disch := omega) only [ifn, if_true]
        by_cases hk : c (10 + 0) (17 + 16 * s + 0) = nI 3
        · rw [if_pos hk, bS, e8, e8c, (h0.s.letter s s1 (e0.symm.trans hk)).1]
        · rw [if_neg hk, bS, e8, h0.s.nolet s s1 (fun q => hk (e0.trans q))]
      · rw [e k (by omega) k8]
        by_cases k7 : k = 7
        · subst k7
          refine Or.inl ⟨_, rfl, ?_⟩
          simp (disch := omega) only [ifn, if_true]
          have e7 : c (10 + 0) (17 + 16 * s + 7) = sS (c (10 + 0)) s 7 := sS_r (v := c (10 + 0)) hs6 (by omega)
          rcases h0.s.stop s s1 with q | q
          · rw [e7, q, if_pos rfl, bS]
          · rw [e7, q, if_neg nz0, bS]
        · rcases (show k = 0 ∨ k = 1 ∨ k = 2 ∨ k = 3 ∨ k = 4 ∨ k = 5 ∨ k = 6 ∨ k = 9 ∨ k = 10 ∨ k = 11 ∨ k = 12 by omega) with rfl | rfl | rfl | rfl | rfl | rfl | rfl | rfl | rfl | rfl | rfl
          all_goals
            refine Or.inl ⟨_, rfl, ?_⟩
            simp (disch := omega) only [ifn, if_true]
    · rw [k3, isThrown_0, bS, th_th]
      refine Or.inr ⟨2, by omega, by omega, ?_, ?_⟩
      · simp only [nz0, if_false]
      · have e := fun (x : Nat) (hx : x < 13) {α : Type} (p q : α) => ifo (x := p) (y := q) (n := 13) (k := x) (a := b) (by omega) hx (by omega)
        simp (disch := omega) only [e]
  · rw [s2, s3, bS, bS, isThrown_0, bS, trL]
    refine Or.inr ⟨1, by omega, by omega, ?_, rfl⟩
    simp only [nz0, if_false]
theorem tx_c {c : RS} {g : CG} {L sm lm cm B U q : Nat} {v : Nat → Int32} (hg : g.nt < 2 ^ 31) (h : QY c g L v sm lm cm B U) (hq : q < cm) : ∃ t n f, TXv v q n f ∧ TXc c g t n f ∧ c (10 + L) (137 + 25 * q + 2) = nI t := text_ok hg h hq
theorem q_card {r c : RS} {g : CG} {B T : Nat} {a b : Int32} (h : GI r c g B T) (hT : T < 2 ^ 31) : QT (F8_card r a b) (C7_card g c a b) r 0 := by
  obtain ⟨sm, lm, cm, h0⟩ := h.l
  have hcm := h0.a.cm30
  have hg : g.nt < 2 ^ 31 := Nat.lt_of_le_of_lt h.n hT
  unfold F8_card C7_card
  simp only [lit32, neg1]
  rcases argCd (r := r) (c := c) (g := g) (a := a) (n := cm) (by omega) h0.v9 h0.n9 with ⟨s, s1, rfl, s2, s3⟩ | ⟨s2, s3⟩
  · have hs6 : s < 30 := by omega
    rw [s2, s3, bS, bS, isThrown_1, bS, trR, ix_n hs6 (by omega), bS]
    simp only [if_true]
    rcases argR (a := b) (lo := 0) (hi := 7) (by omega) (by omega) (l := 0) (h := 7) rfl rfl with ⟨k, k1, k2, rfl, k3, k4⟩ | ⟨k3, k4, k5⟩
    · have e : ∀ k, k < 9 → k ≠ 2 → r 1 (137 + 25 * s + k) = c (10 + 0) (137 + 25 * s + k) := fun k a b => QR.rc h0 s1 a b
      rw [k3, isThrown_1, bS, th_th, thR]
      simp only [if_true]
      rw [F8_ofCard_v hs6 (by omega), bS, ← thR]
      by_cases k8 : k = 2
      · subst k8
        obtain ⟨t, n, f, t1, t2, t3⟩ := tx_c hg h0 s1
        refine Or.inl ⟨_, rfl, ?_⟩
        simp (disch := omega) only [ifn, if_true]
        rw [t3, t2.tln, bS, t1.len]
      · rw [e k (by omega) k8]
        rcases (show k = 0 ∨ k = 1 ∨ k = 3 ∨ k = 4 ∨ k = 5 ∨ k = 6 ∨ k = 7 by omega) with rfl | rfl | rfl | rfl | rfl | rfl | rfl
        all_goals
          refine Or.inl ⟨_, rfl, ?_⟩
          simp (disch := omega) only [ifn, if_true]
    · rw [k3, isThrown_0, bS, th_th]
      refine Or.inr ⟨2, by omega, by omega, ?_, ?_⟩
      · simp only [nz0, if_false]
      · have e := fun (x : Nat) (hx : x < 8) {α : Type} (p q : α) => ifo (x := p) (y := q) (n := 8) (k := x) (a := b) (by omega) hx (by omega)
        simp (disch := omega) only [e]
  · rw [s2, s3, bS, bS, isThrown_0, bS, trL]
    refine Or.inr ⟨1, by omega, by omega, ?_, rfl⟩
    simp only [nz0, if_false]
theorem q_letter {r c : RS} {g : CG} {B T : Nat} {a b : Int32} (h : GI r c g B T) (hT : T < 2 ^ 31) : QT (F8_letter r a b) (C7_letter g c a b) r 0 := by
  obtain ⟨sm, lm, cm, h0⟩ := h.l
  have hcm := h0.a.cm30
  have hg : g.nt < 2 ^ 31 := Nat.lt_of_le_of_lt h.n hT
  unfold F8_letter C7_letter
  simp only [lit32, neg1]
  rcases argCd (r := r) (c := c) (g := g) (a := a) (n := cm) (by omega) h0.v9 h0.n9 with ⟨s, s1, rfl, s2, s3⟩ | ⟨s2, s3⟩
  · have hs6 : s < 30 := by omega
    obtain ⟨t, n, f, t1, t2, t3⟩ := tx_c hg h0 s1
    have hn := t1.n16
    rw [s2, s3, bS, bS, isThrown_1, bS, trR, ix_n hs6 (by omega), bS]
    simp only [if_true]
    rw [thR, F8_ofCard_v hs6 (by omega), bS, t1.len, t3, t2.tln]
    rcases below (a := b) (n := n) (by omega) with ⟨k, hk, rfl⟩ | hb
    · rw [inB_pos (p := 0) (q := (n : Int) - 1) (by decide) (by rw [Int32.toInt_toInt64, sub1_toInt (by omega)]) (by rw [nI_toInt (by omega)]; omega), if_neg nz0, nI_add, F8_ofCard_v hs6 (by omega), bS, bS, if_neg (nI_nlt (by omega) (by omega)), bS, if_neg (nI_ge hk (by omega)), t2.tbt hk, bS, bS, ← thR, (t1.lets k hk).1]
      exact Or.inl ⟨_, rfl, rfl⟩
    · rw [inB_neg (p := 0) (q := (n : Int) - 1) (by decide) (by rw [Int32.toInt_toInt64, sub1_toInt (by omega)]) (by omega), if_pos rfl, bS, ← thR]
      by_cases hb0 : b < nI 0
      · rw [if_pos hb0, bS]; exact Or.inl ⟨_, rfl, rfl⟩
      · have hb1 : ¬ b.toInt < 0 := fun q => hb0 (lt0.mpr q)
        rw [if_neg hb0, bS, if_pos ((gen (by omega)).mpr (by omega)), bS]; exact Or.inl ⟨_, rfl, rfl⟩
  · rw [s2, s3, bS, bS, isThrown_0, bS, trL]
    refine Or.inr ⟨1, by omega, by omega, ?_, rfl⟩
    simp only [nz0, if_false]
theorem q_steps {r c : RS} {g : CG} {B T : Nat} {a b : Int32} (h : GI r c g B T) (hT : T < 2 ^ 31) : QT (F8_steps r a b) (C7_steps g c a b) r 0 := by
  obtain ⟨sm, lm, cm, h0⟩ := h.l
  have hcm := h0.a.cm30
  have hg : g.nt < 2 ^ 31 := Nat.lt_of_le_of_lt h.n hT
  unfold F8_steps C7_steps
  simp only [lit32, neg1]
  rcases argCd (r := r) (c := c) (g := g) (a := a) (n := cm) (by omega) h0.v9 h0.n9 with ⟨s, s1, rfl, s2, s3⟩ | ⟨s2, s3⟩
  · have hs6 : s < 30 := by omega
    obtain ⟨t, n, f, t1, t2, t3⟩ := tx_c hg h0 s1
    rw [s2, s3, bS, bS, isThrown_1, bS, trR]
    simp only [if_true]
    rcases argR (a := b) (lo := 0) (hi := 25) (by omega) (by omega) (l := 0) (h := 25) rfl rfl with ⟨k, k1, k2, rfl, k3, k4⟩ | ⟨k3, k4, k5⟩
    · rw [k3, k4, isThrown_1, bS, bS, trR, th_th, thR, ix_n hs6 (by omega), bS]
      simp only [if_true]
      rw [t1.steps (by omega), bS, t3, t2.steps (by omega), bS, ← thR]
      exact Or.inl ⟨_, rfl, rfl⟩
    · rw [k3, k4, isThrown_0, bS, bS, trL, th_th]
      refine Or.inr ⟨2, by omega, by omega, ?_, rfl⟩
      simp only [nz0, if_false]
  · rw [s2, s3, bS, bS, isThrown_0, bS, trL]
    refine Or.inr ⟨1, by omega, by omega, ?_, rfl⟩
    simp only [nz0, if_false]
theorem ticks_ok {r c : RS} {g : CG} {L sm lm cm B U s q : Nat} {v : Nat → Int32} (hg : g.nt < 2 ^ 31) (h : QY c g L v sm lm cm B U) (hs : s < sm) (hq : q < cm) : ∃ n, n ≤ 1000 ∧ F8_ticksOf (setR r v) (nI s) (nI q) = some (nI n) ∧ C6_ticksOf g c L s (c (10 + L) (137 + 25 * q + 2)) = some (nI n) := by
  have hsm := h.a.sm6
  obtain ⟨t, n, f, t1, t2, t3⟩ := tx_c hg h hq
  obtain ⟨wh, p, b, s1, s2, s3, s4, s5, s6, s7, s8⟩ := stat_ok (c := c) (L := L) (w := c (10 + L)) (iv := c (400 + L)) h hs
  refine ⟨tckN wh p b n f, tckN_le s3 s4 t1.n16 (fun e => (s7 e).2) (fun k hk => (t1.lets k hk).2), F8_ticks_v (by omega) t1 s1 s5 s3 s4 s7, ?_⟩
  unfold C6_ticksOf
  rw [t3, C6_turns_w t2 s2 s8, bS, C6_ticks_w t2 s2 s6 s3 s4 (fun e => (s8 e).2), bS]
theorem q_ticksFor {r c : RS} {g : CG} {B T : Nat} {a b : Int32} (h : GI r c g B T) (hT : T < 2 ^ 31) : QT (F8_ticksFor r a b) (C7_ticksFor g c a b) r 0 := by
  obtain ⟨sm, lm, cm, h0⟩ := h.l
  have hcm := h0.a.cm30; have hsm := h0.a.sm6
  have hg : g.nt < 2 ^ 31 := Nat.lt_of_le_of_lt h.n hT
  unfold F8_ticksFor C7_ticksFor
  simp only [lit32, neg1]
  rcases argSt (r := r) (c := c) (g := g) (a := a) (n := sm) (by omega) h0.v7 h0.n7 with ⟨s, s1, rfl, s2, s3⟩ | ⟨s2, s3⟩
  · have hs6 : s < 6 := by omega
    rw [s2, s3, bS, bS, trR, if_neg nz0]
    rcases argCd (r := r) (c := c) (g := g) (a := b) (n := cm) (by omega) h0.v9 h0.n9 with ⟨q, q1, rfl, q2, q3⟩ | ⟨q2, q3⟩
    · have hq : q < 30 := by omega
      obtain ⟨n, n1, n2, n3⟩ := ticks_ok (r := th r 0) hg h0 s1 q1
      rw [q2, q3, bS, bS, trR, if_neg nz0, bS, isThrown_1, bS, ix_n hs6 (by omega), bS, ix_n hq (by omega), bS, n3, bS]
      simp only [if_true]
      rw [thR, n2, bS, bS, ← thR]
      exact Or.inl ⟨_, rfl, rfl⟩
    · rw [q2, q3, bS, bS, trL, if_pos rfl, bS, isThrown_0, bS]
      refine Or.inr ⟨1, by omega, by omega, ?_, rfl⟩
      simp only [nz0, if_false, bS]
  · rw [s2, s3, bS, bS, trL, if_pos rfl, bS, isThrown_0, bS]
    refine Or.inr ⟨1, by omega, by omega, ?_, rfl⟩
    simp only [nz0, if_false, bS]
theorem q_nextFed {r c : RS} {g : CG} {B T : Nat} (h : GI r c g B T) : QP (F8_nextFed r) (C7_nextFed g c) r := by
  obtain ⟨sm, lm, cm, h0⟩ := h.l
  obtain ⟨x, x1, x2, -⟩ := toFeed_ok (r := th r 0) h0
  refine ⟨x, ?_, ?_⟩
  · unfold F8_nextFed
    simp only [lit32]
    rw [zth, bS, thR, x1, bS, ← thR]
  · unfold C7_nextFed
    rw [← cL (L := 0)] at x2
    rw [x2, bS]
theorem q_now {r c : RS} {g : CG} {B T : Nat} (h : GI r c g B T) : QP (F8_now r) (C7_now g c) r := by
  obtain ⟨sm, lm, cm, h0⟩ := h.l
  refine ⟨c (10 + 0) 6, ?_, rfl⟩
  unfold F8_now
  simp only [lit32]
  rw [zth, bS, th1]
  have : r 1 6 = c (10 + 0) 6 := QR.ra h0 (by omega) (by omega) (by omega)
  rw [this]
theorem q_loadError {r c : RS} {g : CG} {B T : Nat} (h : GI r c g B T) : QP (F8_loadError r) (C7_loadError g c) r := by
  refine ⟨c 0 1, ?_, rfl⟩
  unfold F8_loadError
  simp only [lit32]
  rw [zth, bS, th_0 (by decide), h.e.1]
theorem q_loadStatement {r c : RS} {g : CG} {B T : Nat} (h : GI r c g B T) : QP (F8_loadStatement r) (C7_loadStatement g c) r := by
  refine ⟨c 0 2, ?_, rfl⟩
  unfold F8_loadStatement
  simp only [lit32]
  rw [zth, bS, th_0 (by decide), h.e.2]
theorem q_today {r c : RS} {g : CG} {B T : Nat} {a b : Int32} (h : GI r c g B T) : QT (F8_today r a b) (C7_today g c a b) r 0 := by
  obtain ⟨sm, lm, cm, h0⟩ := h.l
  have hlm := h0.a.lm6
  unfold F8_today C7_today
  simp only [lit32, neg1]
  rcases argLo (r := r) (c := c) (g := g) (a := a) (n := lm) (by omega) h0.v8 h0.n8 with ⟨s, s1, rfl, s2, s3⟩ | ⟨s2, s3⟩
  · have hs6 : s < 6 := by omega
    rw [s2, s3, bS, bS, isThrown_1, bS, trR]
    simp only [if_true]
    rcases argR (a := b) (lo := 0) (hi := 1) (by omega) (by omega) (l := 0) (h := 1) rfl rfl with ⟨k, k1, k2, rfl, k3, k4⟩ | ⟨k3, k4, k5⟩
    · have e : ∀ k, k < 4 → r 1 (113 + 4 * s + k) = c (10 + 0) (113 + 4 * s + k) := fun k hk => by
        rw [sL_r (v := r 1) hs6 hk, sL_r (v := c (10 + 0)) hs6 hk]; exact h0.l.eql s k s1 hk
      rw [k3, k4, isThrown_1, bS, bS, trR, th_th, thR]
      simp only [if_true]
      rw [nI_add, F8_ofLot_v hs6 (by omega), bS, ← thR, e _ (by omega)]
      rcases (show k = 0 ∨ k = 1 by omega) with rfl | rfl
      · rw [if_pos rfl, ix_n hs6 (by omega), bS, bS]; exact Or.inl ⟨_, rfl, rfl⟩
      · rw [if_neg nz0, ix_n hs6 (by omega), bS, bS]; exact Or.inl ⟨_, rfl, rfl⟩
    · rw [k3, k4, isThrown_0, bS, bS, trL, th_th]
      refine Or.inr ⟨2, by omega, by omega, ?_, rfl⟩
      simp only [nz0, if_false]
  · rw [s2, s3, bS, bS, isThrown_0, bS, trL]
    refine Or.inr ⟨1, by omega, by omega, ?_, rfl⟩
    simp only [nz0, if_false]
theorem q_total {r c : RS} {g : CG} {B T : Nat} {a : Int32} (h : GI r c g B T) : QT (F8_total r a) (C7_total g c a) r 1 := by
  obtain ⟨sm, lm, cm, h0⟩ := h.l
  have e : ∀ k, k < 5 → r 1 (12 + k) = c (10 + 0) (12 + k) := fun k hk => QR.ra h0 (by omega) (by omega) (by omega)
  unfold F8_total C7_total
  simp only [lit32, neg1]
  rcases argR (a := a) (lo := 0) (hi := 4) (by omega) (by omega) (l := 0) (h := 4) rfl rfl with ⟨k, k1, k2, rfl, k3, k4⟩ | ⟨k3, k4, k5⟩
  · rw [k3, k4, isThrown_1, bS, bS, trR]
    simp only [if_true]
    rw [nI_add, rd_n (by omega) (by omega), bS, bS, th1, e k (by omega), rdo_n (by omega) (by omega), bS]
    exact Or.inl ⟨_, rfl, rfl⟩
  · rw [k3, k4, isThrown_0, bS, bS, trL]
    refine Or.inr ⟨1, by omega, by omega, ?_, rfl⟩
    simp only [nz0, if_false, bS]
theorem q_leftAt {r c : RS} {g : CG} {B T : Nat} {a : Int32} (h : GI r c g B T) : QP (F8_leftAt r a) (C7_leftAt g c a) r := by
  obtain ⟨sm, lm, cm, h0⟩ := h.l
  have hcm := h0.a.cm30
  have hn := cnt_le (n := cm) (p := stC (sC (c (10 + 0))) 3)
  generalize hnd : cnt cm (stC (sC (c (10 + 0))) 3) = n at hn
  have i3 : c (400 + 0) 3 = nI n := by rw [h0.n.ins 3 (by omega), hnd]
  have v10 : r 1 10 = nI n := by rw [sA_r (v := r 1) (by omega), h0.n.nl, i3]
  unfold F8_leftAt C7_leftAt
  simp only [lit32, neg1]
  rw [zth, bS, th1, v10, i3]
  rcases below (a := a) (n := n) (by omega) with ⟨k, hk, rfl⟩ | hb
  · have e : r 1 (887 + k) = c (10 + 0) (887 + k) := by
      rw [sF_r (v := r 1) (by omega), sF_r (v := c (10 + 0)) (by omega)]; exact h0.n.left k (by rw [hnd]; exact hk)
    rw [inB_pos (p := 0) (q := (n : Int) - 1) (by decide) (by rw [Int32.toInt_toInt64, sub1_toInt (by omega)]) (by rw [nI_toInt (by omega)]; omega), if_neg nz0, nI_add, rd_n (by omega) (by omega), bS, bS, th1, if_neg (nI_nlt (by omega) (by omega)), if_neg (nI_ge hk (by omega)), rdo_n (by omega) (by omega), bS, bS, e]
    exact ⟨_, rfl, rfl⟩
  · rw [inB_neg (p := 0) (q := (n : Int) - 1) (by decide) (by rw [Int32.toInt_toInt64, sub1_toInt (by omega)]) (by omega), if_pos rfl, bS]
    by_cases hb0 : a < nI 0
    · rw [if_pos hb0, bS]; exact ⟨_, rfl, rfl⟩
    · have hb1 : ¬ a.toInt < 0 := fun q => hb0 (lt0.mpr q)
      rw [if_neg hb0, if_pos ((gen (by omega)).mpr (by omega)), bS]; exact ⟨_, rfl, rfl⟩
end
