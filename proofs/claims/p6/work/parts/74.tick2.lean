theorem sub1 {s : Nat} : nI s - nI 1 = if s = 0 then m1 else nI (s - 1) := by
  by_cases h : s = 0
  · subst h; rw [if_pos rfl]; exact Int32.toInt_inj.mp rfl
  · rw [if_neg h]; exact nI_sub (by omega)
theorem rd_o {c : RS} {L R n : Nat} {w iv : Nat → Int32} {x : Int32} (h : ¬ R = 10 + L) (h2 : ¬ R = 400 + L) : rd (setL c L w iv) R n x = rd c R n x := by
  unfold rd; rw [setL_o h h2]
theorem rd_c {c c2 : RS} {R n : Nat} {x : Int32} (h : c2 R = c R) : rd c2 R n x = rd c R n x := by
  unfold rd; rw [h]
theorem nextCard_c {c c2 : RS} {g : CG} {L l : Nat} {w w2 iv iv2 : Nat → Int32} (hL : L < 12) (hl : l < 6) (hE : sE w2 = sE w) (hl1 : sL w2 l 1 = sL w l 1) (hb : c2 (100 + 6 * L + l) = c (100 + 6 * L + l)) : C4_nextCard g (setL c2 L w2 iv2) L l = C4_nextCard g (setL c L w iv) L l := by
  unfold C4_nextCard C4_cardAt
  simp only [setL_w]
  rw [sE_r (v := w2) hl (by omega), sE_r (v := w) hl (by omega), sL_r (v := w2) hl (by omega), sL_r (v := w) hl (by omega), hE, hl1, rd_o (by omega) (by omega), rd_o (by omega) (by omega), rd_c hb]
noncomputable def STL (c : RS) (g : CG) (L sm lm cm : Nat) (w iv : Nat → Int32) : Prop := (∀ s', s' < sm → ST w sm s') ∧ FN w sm cm ∧ TN c g L lm cm w iv
theorem STL.congr {c c2 : RS} {g : CG} {L sm lm cm : Nat} {w w2 iv iv2 : Nat → Int32} (hL : L < 12) (hlm : lm ≤ 6) (hs : sS w2 = sS w) (hc : sC w2 = sC w) (h5 : w2 5 = w 5) (hE : sE w2 = sE w) (hl1 : ∀ l, l < 6 → sL w2 l 1 = sL w l 1) (hb : ∀ l, l < 6 → c2 (100 + 6 * L + l) = c (100 + 6 * L + l)) (h : STL c g L sm lm cm w iv) : STL c2 g L sm lm cm w2 iv2 := by
  obtain ⟨a1, a2, a3⟩ := h
  refine ⟨fun s' hs' => ?_, ?_, fun l' p q x hx e => ?_⟩
  · have := a1 s' hs'
    unfold ST STw RG at this ⊢
    rw [hs]; exact this
  · unfold FN at a2 ⊢
    rw [hs, hc, h5]; exact a2
  · rw [hc]
    exact a3 l' p q x hx (by rw [nextCard_c hL (by omega) hE (hl1 l' (by omega)) (hb l' (by omega))] at e; exact e)
theorem STL.mv {c : RS} {g : CG} {L sm lm cm : Nat} {w iv : Nat → Int32} {x : Int32} (hL : L < 12) (hlm : lm ≤ 6) : STL c g L sm lm cm (upd w 1060 x) iv ↔ STL c g L sm lm cm w iv :=
  ⟨fun h => h.congr hL hlm sS_M.symm sC_M.symm (upd_n (by decide)).symm sE_M.symm (fun l _ => by rw [sL_M]) (fun _ _ => rfl), fun h => h.congr hL hlm sS_M sC_M (upd_n (by decide)) sE_M (fun l _ => by rw [sL_M]) (fun _ _ => rfl)⟩
noncomputable def SM (v w iv v2 w2 iv2 : Nat → Int32) : Prop := iv2 = iv ∧ sS v2 = sS v ∧ sS w2 = sS w ∧ sC v2 = sC v ∧ sC w2 = sC w ∧ sE w2 = sE w ∧ (∀ l, l < 6 → sL w2 l 1 = sL w l 1) ∧ (∀ i, i < 17 → i ≠ 6 → i ≠ 11 → i ≠ 16 → v2 i = v i) ∧ (∀ i, i < 17 → i ≠ 6 → i ≠ 11 → i ≠ 16 → w2 i = w i)
theorem SM.refl {v w iv : Nat → Int32} : SM v w iv v w iv := ⟨rfl, rfl, rfl, rfl, rfl, rfl, fun _ _ => rfl, fun _ _ _ _ _ => rfl, fun _ _ _ _ _ => rfl⟩
theorem SM.trans {v w iv v2 w2 iv2 v3 w3 iv3 : Nat → Int32} (h : SM v w iv v2 w2 iv2) (k : SM v2 w2 iv2 v3 w3 iv3) : SM v w iv v3 w3 iv3 := by
  obtain ⟨a1, a2, a3, a4, a5, a6, a7, a8, a9⟩ := h
  obtain ⟨b1, b2, b3, b4, b5, b6, b7, b8, b9⟩ := k
  exact ⟨b1.trans a1, b2.trans a2, b3.trans a3, b4.trans a4, b5.trans a5, b6.trans a6, fun l hl => (b7 l hl).trans (a7 l hl), fun i h1 h2 h3 h4 => (b8 i h1 h2 h3 h4).trans (a8 i h1 h2 h3 h4), fun i h1 h2 h3 h4 => (b9 i h1 h2 h3 h4).trans (a9 i h1 h2 h3 h4)⟩
theorem tmS {v : Nat → Int32} {t d : Nat} : sS (tmV v t d) = sS v := by
  unfold tmV; split
  · rw [dyS, sS_A (by omega)]
  · rw [sS_A (by omega)]
theorem tmC {v : Nat → Int32} {t d : Nat} : sC (tmV v t d) = sC v := by
  unfold tmV; split
  · rw [dyC, sC_A (by omega)]
  · rw [sC_A (by omega)]
theorem twS {v : Nat → Int32} {t d lm : Nat} (h : lm ≤ 6) : sS (tmW v t d lm) = sS v := by
  unfold tmW; split
  · rw [zS h, sS_A (by omega)]
  · rw [sS_A (by omega)]
theorem twC {v : Nat → Int32} {t d lm : Nat} (h : lm ≤ 6) : sC (tmW v t d lm) = sC v := by
  unfold tmW; split
  · rw [zC h, sC_A (by omega)]
  · rw [sC_A (by omega)]
theorem twE {v : Nat → Int32} {t d lm : Nat} (h : lm ≤ 6) : sE (tmW v t d lm) = sE v := by
  unfold tmW; split
  · rw [zE h, sE_A (by omega)]
  · rw [sE_A (by omega)]
theorem twL {v : Nat → Int32} {t d lm l : Nat} (h : lm ≤ 6) (hl : l < 6) : sL (tmW v t d lm) l 1 = sL v l 1 := by
  unfold tmW; split
  · rw [← sL_r (v := zW _ lm) hl (by omega)]
    unfold zW
    rw [if_neg (by omega), upd_n (by omega)]
    exact sL_r (v := v) hl (by omega)
  · rw [sL_A (by omega)]
theorem tw_v {v : Nat → Int32} {t d lm j : Nat} (h : lm ≤ 6) (hj : ¬ (113 ≤ j ∧ j < 137)) (h6 : j ≠ 6) : tmW v t d lm j = v j := by
  unfold tmW; split
  · rw [zW_v hj h, upd_n h6]
  · rw [upd_n h6]
theorem dyK_o2 {c : RS} {L k R lm : Nat} {w : Nat → Int32} (hlm : lm ≤ 6) (h : ¬ (200 + 6 * L ≤ R ∧ R < 206 + 6 * L)) (h2 : ¬ (300 + 6 * L ≤ R ∧ R < 306 + 6 * L)) : dyK c L k w lm R = c R := by
  funext j; unfold dyK; rw [if_neg (by omega), if_neg (by omega)]
noncomputable def NDY (L R : Nat) : Prop := ¬ (200 + 6 * L ≤ R ∧ R < 206 + 6 * L) ∧ ¬ (300 + 6 * L ≤ R ∧ R < 306 + 6 * L)
theorem tmK_o {c : RS} {L t d lm R : Nat} {w : Nat → Int32} (hlm : lm ≤ 6) (h : NDY L R) : tmK c L w t d lm R = c R := by
  unfold tmK; split
  · exact dyK_o2 hlm h.1 h.2
  · rfl
theorem countC {c : RS} {g : CG} {L sm : Nat} {w iv : Nat → Int32} (hsm : sm ≤ 6) (h7 : w 7 = nI sm) (hn : ∀ s, s < sm → ∃ n, n ≤ 1000 ∧ w (17 + 16 * s + 3) = nI n) : C3_countReadyCards g (setL c L w iv) L = some (setL c L (upd w 16 (w 16 + nI (rdS w 0 sm))) iv) := by
  have k := stoodC (c := c) (g := g) (L := L) (w := w) (iv := iv) hsm h7 hn sm 0 FUEL (w 16) (by omega) (by show sm < 10000; omega)
  rw [upd_s] at k
  unfold C3_countReadyCards
  simp only [lit32]
  rw [k, bS]
theorem tick_ok {r c : RS} {g : CG} {L sm lm cm B U : Nat} {v w iv : Nat → Int32} (hL : L < 12) (hg : g.nt < 2 ^ 31) (h : QX c g L v w iv sm lm cm B U) (hB : B + 1 < 2000000000) (hU : U + 1 < 2000000000) :
    ∃ v' w' iv' c', F8_passes (setR r v) = some (setR r v') ∧ QX c' g L v' w' iv' sm lm cm (B + 1) (U + 1) ∧ (∀ R, NDY L R → c' R = c R) ∧
      ((¬ STL c g L sm lm cm w iv ∧ C3_tick g (setL c L w iv) L = some (nI 1, setL c' L w' iv')) ∨ (STL c g L sm lm cm w iv ∧ C3_tick g (setL c L w iv) L = some (nI 0, setL c' L w' iv') ∧ SM v w iv v' w' iv')) := by
  have hsm := h.a.sm6; have hlm := h.a.lm6; have hcm := h.a.cm30
  have hQ0 : QX c g L v (upd w 1060 (nI 0)) iv sm lm cm B (U + 1) := (h.mono (Nat.le_refl B) h.a.bb (Nat.le_succ U)).upM
  have h7w : w 7 = nI sm := by rw [sA_r (v := w) (by omega)]; exact h.a.w7
  have h7v : v 7 = nI sm := by rw [h.ra (i := 7) (by omega) (by omega) (by omega)]; exact h7w
  obtain ⟨v1, w1, iv1, a1, a2, a3, a4⟩ := loop_ok (r := r) (c := c) hL hg (by omega) sm FUEL FUEL v (upd w 1060 (nI 0)) iv (Nat.le_refl sm) (by show sm < 10000; omega) (by show sm < 10000; omega) hQ0 (fun s' hs' => by
    obtain ⟨n, n1, n2⟩ := h.s.used s' hs'
    exact ⟨n, by omega, by rw [sS_M]; exact n2⟩)
  obtain ⟨v2, w2, iv2, b1, b2, b3, b4⟩ := feed_ok (r := r) hL hg a3
  obtain ⟨v3, w3, iv3, d1, d2, d3, d4⟩ := tray_ok (r := r) hL b3
  have hmv : (STL c g L sm lm cm w iv ∧ v3 = v ∧ w3 = upd w 1060 (nI 0) ∧ iv3 = iv) ∨ (¬ STL c g L sm lm cm w iv ∧ w3 1060 = nI 1) := by
    have n01 : ¬ nI 0 = nI 1 := nI_ne (by omega) (by omega) (by omega)
    rcases a4 with ⟨a4, rfl, rfl, rfl⟩ | ⟨a4, a5⟩ | ⟨a4, -⟩
    · rcases b4 with ⟨b4, rfl, rfl, rfl⟩ | ⟨b4, b5⟩
      · rcases d4 with ⟨d4, rfl, rfl, rfl⟩ | ⟨d4, d5⟩ | ⟨d4, d5⟩
        · exact Or.inl ⟨(STL.mv hL hlm).mp ⟨a4, b4, d4⟩, rfl, rfl, rfl⟩
        · exact Or.inr ⟨fun q => d4 ((STL.mv hL hlm).mpr q).2.2, d5⟩
        · rw [upd_e] at d4; exact absurd d4 n01
      · refine Or.inr ⟨fun q => b4 ((STL.mv hL hlm).mpr q).2.1, ?_⟩
        rcases d4 with ⟨-, -, rfl, -⟩ | ⟨-, d5⟩ | ⟨-, d5⟩
        · exact b5
        · exact d5
        · exact d5
    · have hw2 : w2 1060 = nI 1 := by
        rcases b4 with ⟨-, -, rfl, -⟩ | ⟨-, b5⟩
        · exact a5
        · exact b5
      refine Or.inr ⟨fun q => a4 ((STL.mv hL hlm).mpr q).1, ?_⟩
      rcases d4 with ⟨-, -, rfl, -⟩ | ⟨-, d5⟩ | ⟨-, d5⟩
      · exact hw2
      · exact d5
      · exact d5
    · rw [upd_e] at a4; exact absurd a4 n01
  -- behind the tray
  have k7w : w3 7 = nI sm := by rw [sA_r (v := w3) (by omega)]; exact d3.a.w7
  have k7v : v3 7 = nI sm := by rw [d3.ra (i := 7) (by omega) (by omega) (by omega)]; exact k7w
  have k8w : w3 8 = nI lm := by rw [sA_r (v := w3) (by omega)]; exact d3.a.w8
  have knw : ∀ s, s < sm → ∃ n, n ≤ 1000 ∧ w3 (17 + 16 * s + 3) = nI n := fun s hs => by
    obtain ⟨n, n1, n2⟩ := d3.s.need s hs
    exact ⟨n, n1, by rw [sS_r (v := w3) (by omega) (by omega)]; exact n2⟩
  have knv : ∀ s, s < sm → ∃ n, n ≤ 1000 ∧ v3 (17 + 16 * s + 3) = nI n := fun s hs => by
    obtain ⟨n, n1, n2⟩ := knw s hs
    exact ⟨n, n1, by rw [d3.rs hs (by omega) (by omega)]; exact n2⟩
  have e16 : v3 16 = w3 16 := d3.ra (by omega) (by omega) (by omega)
  have eS : rdS v3 0 sm = rdS w3 0 sm := rdS_congr fun s hs => ⟨d3.rs (by omega) (by omega) (by omega), d3.rs (by omega) (by omega) (by omega)⟩
  obtain ⟨t, t1, t2⟩ := d3.a.time
  obtain ⟨d, dd1, dd2, dd3⟩ := d3.a.day
  have k6 : w3 6 = nI t := by rw [sA_r (v := w3) (by omega)]; exact t2
  have k0 : w3 0 = nI d := by rw [sA_r (v := w3) (by omega)]; exact dd3
  have k6v : v3 6 = nI t := by rw [d3.ra (i := 6) (by omega) (by omega) (by omega)]; exact k6
  have k0v : v3 0 = nI d := by rw [d3.ra (i := 0) (by omega) (by omega) (by omega)]; exact k0
  have hF : F8_passes (setR r v) = some (setR r (tmV (upd v3 16 (v3 16 + nI (rdS v3 0 sm))) t d)) := by
    have := restF (r := r) (v := v3) (t := t) (d := d) hsm k7v knv k6v k0v (by omega) (by omega) (by omega)
    rw [← this]
    unfold F8_passes
    simp only [lit32, neg1]
    rw [setR_1, h7v, sub1, a1, bS, b1, bS, d1, bS, setR_1]
  have hQ3 : QX c g L (upd v3 16 (v3 16 + nI (rdS v3 0 sm))) (upd w3 16 (w3 16 + nI (rdS w3 0 sm))) iv3 sm lm cm B (U + 1) := by
    rw [e16, eS]; exact d3.tot (by omega)
  have hQ4 := time_ok hL hQ3 hB (t := t) (d := d) (by rw [upd_n (by decide)]; exact k6) (by rw [upd_n (by decide)]; exact k0) (by omega) (by omega) t1
  have hC : C3_tick g (setL c L w iv) L = (nz (w3 1060)).bind fun x17 => some (x17, setL (tmK c L (upd w3 16 (w3 16 + nI (rdS w3 0 sm))) t d lm) L (tmW (upd w3 16 (w3 16 + nI (rdS w3 0 sm))) t d lm) iv3) := by
    unfold C3_tick
    simp only [lit32, neg1]
    rw [pt_n, bS, up_setL_w, setL_w, upd_n (by decide), h7w, sub1, a2, bS, b2, bS, d2, bS, countC hsm k7w knw, bS, passTime_w hL hlm (t := t) (d := d) (by rw [upd_n (by decide)]; exact k8w) (by rw [upd_n (by decide)]; exact k6) (by rw [upd_n (by decide)]; exact k0) (by omega) (by omega) (by omega), bS, setL_w, tw_v hlm (by omega) (by omega), upd_n (by decide)]
  refine ⟨_, _, _, _, hF, hQ4, fun R hR => tmK_o hlm hR, ?_⟩
  rcases hmv with ⟨m1_, rfl, rfl, rfl⟩ | ⟨m1_, m2⟩
  · refine Or.inr ⟨m1_, ?_, ?_⟩
    · rw [hC, upd_e, nz_0, bS]
    · refine ⟨rfl, ?_, ?_, ?_, ?_, ?_, fun l hl => ?_, fun i h1 h2 h3 h4 => ?_, fun i h1 h2 h3 h4 => ?_⟩
      · rw [tmS, sS_A (by omega)]
      · rw [twS hlm, sS_A (by omega), sS_M]
      · rw [tmC, sC_A (by omega)]
      · rw [twC hlm, sC_A (by omega), sC_M]
      · rw [twE hlm, sE_A (by omega), sE_M]
      · rw [twL hlm hl, sL_A (by omega), sL_M]
      · rw [tmV_lo (by omega) h3 h2, upd_n h4]
      · rw [tw_v hlm (by omega) h2, upd_n h4, upd_n (by omega)]
  · refine Or.inl ⟨m1_, ?_⟩
    rw [hC, m2, nz_1, bS]
theorem STL.sm {c c2 : RS} {g : CG} {L sm lm cm : Nat} {v w iv v2 w2 iv2 : Nat → Int32} (hL : L < 12) (hlm : lm ≤ 6) (h : STL c g L sm lm cm w iv) (k : SM v w iv v2 w2 iv2) (hc : ∀ R, NDY L R → c2 R = c R) : STL c2 g L sm lm cm w2 iv2 :=
  h.congr hL hlm k.2.2.1 k.2.2.2.2.1 (k.2.2.2.2.2.2.2.2 5 (by omega) (by omega) (by omega) (by omega)) k.2.2.2.2.2.1 k.2.2.2.2.2.2.1 (fun l hl => hc _ ⟨by omega, by omega⟩)
