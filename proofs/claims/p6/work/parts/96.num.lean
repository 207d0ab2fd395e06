noncomputable def OKs (b : Nat → Int32) (n i : Nat) (u w : RS) : Prop := TC b n u ∧ TW b n w ∧ i ≤ n ∧ u 0 6 = nI i ∧ w 0 9 = nI i ∧ u 0 7 = nI 0 ∧ w 0 11 = nI 0
noncomputable def ERs (b : Nat → Int32) (n : Nat) (u w : RS) : Prop := TC b n u ∧ TW b n w ∧ (∃ i, i ≤ n ∧ u 0 6 = nI i) ∧ ∃ e p, 1 ≤ e ∧ e ≤ 4 ∧ p ≤ 600 ∧ u 0 7 = nI e ∧ w 0 11 = nI e ∧ u 0 8 = nI p ∧ w 0 12 = nI p
theorem errC0 {g : CG} {u : RS} {e p : Int32} (h : u 0 7 = nI 0) : C5_error g u e p = some (up (up u 0 7 e) 0 8 p) := by
  unfold C5_error
  rw [if_pos (show u 0 7 = (0 : Int32) from h), pt_n, bS, pt_n, bS, bS]
theorem errC1 {g : CG} {u : RS} {e p : Int32} {k : Nat} (h : u 0 7 = nI k) (h1 : 1 ≤ k) (h4 : k ≤ 4) : C5_error g u e p = some u := by
  unfold C5_error
  rw [if_neg (show ¬ u 0 7 = (0 : Int32) from fun q => nI_ne (a := k) (b := 0) (by omega) (by omega) (by omega) (h.symm.trans q)), bS]
theorem failW0 {w : RS} {e : Int32} (h : w 0 11 = nI 0) : F8_fails w e = some (up (up w 0 11 e) 0 12 (w 0 10)) := by
  unfold F8_fails
  rw [if_pos (show w 0 11 = (0 : Int32) from h), pt_n, bS, pt_n, bS, bS, up_ne (by omega)]
theorem fineC0 {g : CG} {u : RS} (h : u 0 7 = nI 0) : C5_isFine g u = some (nI 1) := by
  unfold C5_isFine
  rw [if_pos (show u 0 7 = (0 : Int32) from h), bS]
  show (nz (nI 1)).bind _ = _
  rw [nz_1, bS]
theorem fineC1 {g : CG} {u : RS} {k : Nat} (h : u 0 7 = nI k) (h1 : 1 ≤ k) (h4 : k ≤ 4) : C5_isFine g u = some (nI 0) := by
  unfold C5_isFine
  rw [if_neg (show ¬ u 0 7 = (0 : Int32) from fun q => nI_ne (a := k) (b := 0) (by omega) (by omega) (by omega) (h.symm.trans q)), bS]
  show (nz (nI 0)).bind _ = _
  rw [nz_0, bS]
theorem ERs.ne {b : Nat → Int32} {n : Nat} {u w : RS} (h : ERs b n u w) : ¬ w 0 11 = (0 : Int32) ∧ ¬ u 0 7 = (0 : Int32) := by
  obtain ⟨-, -, -, e, p, h1, h4, -, h7, h11, -⟩ := h
  exact ⟨fun q => nI_ne (a := e) (b := 0) (by omega) (by omega) (by omega) (h11.symm.trans q), fun q => nI_ne (a := e) (b := 0) (by omega) (by omega) (by omega) (h7.symm.trans q)⟩
theorem ERs.errC {b : Nat → Int32} {n : Nat} {g : CG} {u w : RS} {e p : Int32} (h : ERs b n u w) : C5_error g u e p = some u := by
  obtain ⟨-, -, -, e, p, h1, h4, -, h7, -⟩ := h
  exact errC1 h7 h1 h4
theorem ERs.fine {b : Nat → Int32} {n : Nat} {g : CG} {u w : RS} (h : ERs b n u w) : C5_isFine g u = some (nI 0) := by
  obtain ⟨-, -, -, e, p, h1, h4, -, h7, -⟩ := h
  exact fineC1 h7 h1 h4
theorem OKs.fine {b : Nat → Int32} {n i : Nat} {g : CG} {u w : RS} (h : OKs b n i u w) : C5_isFine g u = some (nI 1) := fineC0 h.2.2.2.2.2.1
theorem OKs.w0 {b : Nat → Int32} {n i : Nat} {u w : RS} (h : OKs b n i u w) : w 0 11 = (0 : Int32) := h.2.2.2.2.2.2
theorem err2 {b : Nat → Int32} {n i e p : Nat} {g : CG} {u w : RS} (h1 : TC b n u) (h2 : TW b n w) (hi : i ≤ n) (h6 : u 0 6 = nI i) (h7 : u 0 7 = nI 0) (h11 : w 0 11 = nI 0) (h10 : w 0 10 = nI p) (hp : p ≤ 600) (he : 1 ≤ e) (he4 : e ≤ 4) : ∃ u' w', C5_error g u (nI e) (nI p) = some u' ∧ F8_fails w (nI e) = some w' ∧ ERs b n u' w' ∧ FC u' u ∧ FW w' w := by
  refine ⟨_, _, errC0 h7, failW0 h11, ⟨?_, ?_, ⟨i, hi, ?_⟩, e, p, he, he4, hp, ?_, ?_, ?_, ?_⟩, ?_, ?_⟩
  · exact (h1.fr (FC.up (by omega))).fr (FC.up (by omega))
  · exact (h2.fr (FW.up (by omega))).fr (FW.up (by omega))
  · rw [up_ne (by omega), up_ne (by omega)]; exact h6
  · rw [up_ne (by omega), up_eq]
  · rw [up_ne (by omega), up_eq]
  · exact up_eq
  · rw [up_eq]; exact h10
  · exact (FC.up (by omega)).trans (FC.up (by omega))
  · exact (FW.up (by omega)).trans (FW.up (by omega))
theorem ERs.fc {b : Nat → Int32} {n i : Nat} {u w : RS} (h : ERs b n u w) (hi : i ≤ n) : ERs b n (up u 0 6 (nI i)) w := by
  obtain ⟨h1, h2, -, e, p, q1, q2, q3, q4, q5, q6, q7⟩ := h
  exact ⟨h1.fr (FC.up (by omega)), h2, ⟨i, hi, up_eq⟩, e, p, q1, q2, q3, by rw [up_ne (by omega)]; exact q4, q5, by rw [up_ne (by omega)]; exact q6, q7⟩
noncomputable def dg (b : Nat → Int32) : Nat → Nat → Nat
  | 0, i => i
  | d + 1, i => if 48 ≤ cd (b i) ∧ cd (b i) ≤ 57 then dg b d (i + 1) else i
noncomputable def dvv (b : Nat → Int32) : Nat → Nat → Nat → Nat
  | 0, _, V => V
  | d + 1, i, V => if 48 ≤ cd (b i) ∧ cd (b i) ≤ 57 then dvv b d (i + 1) (10 * V + cd (b i) - 48) else V
theorem dg_le {b : Nat → Int32} : ∀ d i, i ≤ dg b d i ∧ dg b d i ≤ i + d
  | 0, i => ⟨Nat.le_refl _, Nat.le_refl _⟩
  | d + 1, i => by
    have := dg_le (b := b) d (i + 1)
    unfold dg; split <;> omega
theorem dg_0 {b : Nat → Int32} {d i : Nat} : dg b d i = i ↔ ¬ (0 < d ∧ 48 ≤ cd (b i) ∧ cd (b i) ≤ 57) := by
  cases d with
  | zero => exact ⟨fun _ q => absurd q.1 (by omega), fun _ => rfl⟩
  | succ d =>
    have := dg_le (b := b) d (i + 1)
    unfold dg
    by_cases c : 48 ≤ cd (b i) ∧ cd (b i) ≤ 57
    · rw [if_pos c]; exact ⟨fun q => by omega, fun q => absurd ⟨by omega, c⟩ q⟩
    · rw [if_neg c]; exact ⟨fun _ q => c q.2, fun _ => rfl⟩
theorem b_num {b : Int32} (h : BYT b) (h1 : cd b < 128) : b = nI (cd b) := (b_eq h h1).mpr rfl
theorem numLC {b : Nat → Int32} {n : Nat} {g : CG} {a1 a2 : Int32} {t1 : Int32 × RS} (hb : BB b n) : ∀ (d i f V : Nat) (u : RS), i + d = n → d < f → TC b n u → u 0 6 = nI i → C5_readNumber_L8 t1 a1 a2 g f (nI (min 1000000 V)) u = some (nI (min 1000000 (dvv b d i V)), up u 0 6 (nI (dg b d i)))
  | 0, i, f, V, u, h1, h2, h3, h4 => by
    have hn := hb.1
    obtain ⟨f, rfl⟩ : ∃ m, f = m + 1 := ⟨f - 1, by omega⟩
    rw [C5_readNumber_L8, h3.1, h4, if_pos (nI_le (by omega) (by omega))]
    show some (nI (min 1000000 V), u) = some (nI (min 1000000 V), up u 0 6 (nI i))
    rw [up_id h4]
  | d + 1, i, f, V, u, h1, h2, h3, h4 => by
    have hn := hb.1
    obtain ⟨f, rfl⟩ : ∃ m, f = m + 1 := ⟨f - 1, by omega⟩
    have hbi := hb.2 i (by omega)
    rw [C5_readNumber_L8, h3.1, h4, if_neg (nI_ge (by omega) (by omega)), rd_n (by omega) (by omega), bS, h3.2 i (by omega), dig_C hbi, bS]
    unfold dg dvv
    by_cases c : 48 ≤ cd (b i) ∧ cd (b i) ≤ 57
    · rw [if_pos c, if_pos c, if_pos c, if_neg (show ¬ nI 1 = (0 : Int32) from nz0), bS, pt_n, bS]
      have hx := b_num hbi (by omega)
      generalize cd (b i) = x at c hx ⊢
      rw [hx]
      have e1 : nI (min 1000000 V) * 10 + nI x - 48 = nI (min 1000000 V * 10 + x - 48) := by
        show nI (min 1000000 V) * nI 10 + nI x - nI 48 = _
        rw [nI_mul, nI_add, nI_sub (by omega)]
      rw [e1]
      have e2 : (if (1000000 : Int32) < nI (min 1000000 V * 10 + x - 48) then (1000000 : Int32) else nI (min 1000000 V * 10 + x - 48)) = nI (min 1000000 (10 * V + x - 48)) := by
        show (if nI 1000000 < nI (min 1000000 V * 10 + x - 48) then nI 1000000 else nI (min 1000000 V * 10 + x - 48)) = _
        by_cases q : 1000000 < min 1000000 V * 10 + x - 48
        · rw [if_pos (nI_lt q (by omega))]; congr 1; omega
        · rw [if_neg (nI_nlt (by omega) (by omega))]; congr 1; omega
      rw [e2, show nI i + 1 = nI (i + 1) from nI_add _ 1, numLC hb d (i + 1) f (10 * V + x - 48) (up u 0 6 (nI (i + 1))) (by omega) (by omega) (h3.fr (FC.up (by omega))) up_eq, up_up]
    · rw [if_neg c, if_neg c, if_neg c, if_pos (show nI 0 = (0 : Int32) from rfl), up_id h4]
theorem numLW {b : Nat → Int32} {n : Nat} {a1 a2 : Int32} (hb : BB b n) : ∀ (d i f V : Nat) (w : RS), i + d = n → d < f → TW b n w → w 0 9 = nI i → F8_number_L35 a1 a2 f (nI (min 10000000 V)) w = some (nI (min 10000000 (dvv b d i V)), up w 0 9 (nI (dg b d i)))
  | 0, i, f, V, w, h1, h2, h3, h4 => by
    have hn := hb.1
    obtain ⟨f, rfl⟩ : ∃ m, f = m + 1 := ⟨f - 1, by omega⟩
    rw [F8_number_L35, here_ok hb h3 h4 (by omega), bS, inB_hv (p := 48) (q := 57) (ch_le hb) rfl rfl (by omega) (by omega), ch_n (show n ≤ i by omega), if_neg (show ¬ (48 ≤ 256 ∧ 256 ≤ 57) by omega), if_pos (show nI 0 = (0 : Int32) from rfl)]
    show some (nI (min 10000000 V), w) = some (nI (min 10000000 V), up w 0 9 (nI i))
    rw [up_id h4]
  | d + 1, i, f, V, w, h1, h2, h3, h4 => by
    have hn := hb.1
    obtain ⟨f, rfl⟩ : ∃ m, f = m + 1 := ⟨f - 1, by omega⟩
    have hbi := hb.2 i (by omega)
    have hl := ch_le (i := i) hb
    rw [F8_number_L35, here_ok hb h3 h4 (by omega), bS, inB_hv (p := 48) (q := 57) hl rfl rfl (by omega) (by omega), ch_i (show i < n by omega)]
    rw [ch_i (show i < n by omega)] at hl
    unfold dg dvv
    by_cases c : 48 ≤ cd (b i) ∧ cd (b i) ≤ 57
    · rw [if_pos c, if_pos c, if_pos c, if_neg (show ¬ nI 1 = (0 : Int32) from nz0), bS, pt_n, bS, h4]
      have hx : hv (cd (b i)) = nI (cd (b i)) := (hv_eq hl (by omega)).mpr rfl
      rw [hx]
      generalize cd (b i) = x at c ⊢
      have e1 : 10 * nI (min 10000000 V) + nI x - 48 = nI (10 * min 10000000 V + x - 48) := by
        show nI 10 * nI (min 10000000 V) + nI x - nI 48 = _
        rw [nI_mul, nI_add, nI_sub (by omega)]
      rw [e1]
      have e2 : (if nI (10 * min 10000000 V + x - 48) < (10000000 : Int32) then nI (10 * min 10000000 V + x - 48) else (10000000 : Int32)) = nI (min 10000000 (10 * V + x - 48)) := by
        show (if nI (10 * min 10000000 V + x - 48) < nI 10000000 then nI (10 * min 10000000 V + x - 48) else nI 10000000) = _
        by_cases q : 10 * min 10000000 V + x - 48 < 10000000
        · rw [if_pos (nI_lt q (by omega))]; congr 1; omega
        · rw [if_neg (nI_nlt (by omega) (by omega))]; congr 1; omega
      rw [e2, show nI i + 1 = nI (i + 1) from nI_add _ 1, numLW hb d (i + 1) f (10 * V + x - 48) (up w 0 9 (nI (i + 1))) (by omega) (by omega) (h3.fr (FW.up (by omega))) up_eq, up_up]
    · rw [if_neg c, if_neg c, if_neg c, if_pos (show nI 0 = (0 : Int32) from rfl), up_id h4]
theorem num2 {b : Nat → Int32} {n i lo : Nat} {g : CG} {u w : RS} {a2 : Int32} (hb : BB b n) (h : OKs b n i u w) (hlo : lo ≤ 2000) (ha2 : a2.toInt ≤ 2000) : ∃ u' w' y x, C5_readNumber g u (nI lo) a2 = some (y, u') ∧ F8_number w (nI lo) a2 = some (x, w') ∧ FC u' u ∧ FW w' w ∧ ((∃ i' V, i < i' ∧ OKs b n i' u' w' ∧ y = nI V ∧ x = nI V ∧ lo ≤ V ∧ (V : Int) ≤ a2.toInt) ∨ (ERs b n u' w' ∧ x = nI lo)) := by
  obtain ⟨h1, h2, h3, h4, h5, h6, h7⟩ := h
  have hn := hb.1
  have hs := SK_le (b := b) h3
  have hdl := dg_le (b := b) (n - SK b n i) (SK b n i)
  have hz := dg_0 (b := b) (d := n - SK b n i) (i := SK b n i)
  have hch := ch_le (i := SK b n i) hb
  unfold C5_readNumber F8_number
  rw [skipC hb h1 h4 h3, if_pos (show w 0 11 = (0 : Int32) from h7), nextW hb h2 h5 h3, bS, bS]
  dsimp only
  rw [inB_hv (p := 48) (q := 57) hch rfl rfl (by omega) (by omega)]
  have hnum := numLC (g := g) (a1 := nI lo) (a2 := a2) (t1 := (nI (SK b n i), up u 0 6 (nI (SK b n i)))) hb (n - SK b n i) (SK b n i) FUEL 0 (up u 0 6 (nI (SK b n i))) (by omega) (by show n - SK b n i < 10000; omega) (h1.fr (FC.up (by omega))) up_eq
  rw [Nat.min_zero] at hnum
  rw [show (0 : Int32) = nI 0 from rfl, hnum, bS]
  dsimp only
  generalize hs' : SK b n i = s at *
  generalize hV : dvv b (n - s) s 0 = V at *
  generalize he : dg b (n - s) s = e at *
  rw [up_up]
  have hT : TC b n (up u 0 6 (nI e)) := h1.fr (FC.up (by omega))
  have hW : TW b n (up (up w 0 9 (nI s)) 0 10 (nI s)) := (h2.fr (FW.up (by omega))).fr (FW.up (by omega))
  have k6 : up u 0 6 (nI e) 0 6 = nI e := up_eq
  have k7 : up u 0 6 (nI e) 0 7 = nI 0 := by rw [up_ne (by omega)]; exact h6
  have k11 : up (up w 0 9 (nI s)) 0 10 (nI s) 0 11 = nI 0 := by rw [up_ne (by omega), up_ne (by omega)]; exact h7
  have k10 : up (up w 0 9 (nI s)) 0 10 (nI s) 0 10 = nI s := up_eq
  have fC : FC (up u 0 6 (nI e)) u := FC.up (by omega)
  have fW : FW (up (up w 0 9 (nI s)) 0 10 (nI s)) w := (FW.up (by omega)).trans (FW.up (by omega))
  by_cases c : 48 ≤ ch b n s ∧ ch b n s ≤ 57
  · have hsn : s < n := ch_lt (b := b) (by omega)
    have hne : ¬ e = s := by rw [hz, ← ch_i (b := b) hsn]; exact fun q => q ⟨by omega, c⟩
    rw [if_pos c, if_neg (show ¬ nI 1 = nI 0 from nz0), if_neg (show ¬ up u 0 6 (nI e) 0 6 = nI s by rw [k6]; exact nI_ne hne (by omega) (by omega))]
    have hnw := numLW (a1 := nI lo) (a2 := a2) hb (n - s) s FUEL 0 (up (up w 0 9 (nI s)) 0 10 (nI s)) (by omega) (by show n - s < 10000; omega) hW (by rw [up_ne (by omega), up_eq])
    rw [Nat.min_zero, hV, he] at hnw
    rw [hnw, bS]
    dsimp only
    generalize hw2 : up (up (up w 0 9 (nI s)) 0 10 (nI s)) 0 9 (nI e) = w2
    have hW2 : TW b n w2 := by rw [← hw2]; exact hW.fr (FW.up (by omega))
    have fW2 : FW w2 w := by rw [← hw2]; exact (FW.up (by omega)).trans fW
    have q9 : w2 0 9 = nI e := by rw [← hw2]; exact up_eq
    have q10 : w2 0 10 = nI s := by rw [← hw2, up_ne (by omega)]; exact k10
    have q11 : w2 0 11 = nI 0 := by rw [← hw2, up_ne (by omega)]; exact k11
    have eB : inB (nI (min 10000000 V)).toInt64 (nI lo).toInt64 a2.toInt64 = if (lo : Int) ≤ (min 10000000 V : Nat) ∧ ((min 10000000 V : Nat) : Int) ≤ a2.toInt then nI 1 else nI 0 := by
      rw [inB_i (p := (lo : Int)) (q := a2.toInt) (by rw [Int32.toInt_toInt64, nI_toInt (by omega)]) (Int32.toInt_toInt64 a2), nI_toInt (by omega)]
    by_cases r1 : V < lo
    · obtain ⟨u', w', e1, e2, e3, e4, e5⟩ := err2 (g := g) (e := 2) hT hW2 (by omega) k6 k7 q11 q10 (by omega) (by omega) (by omega)
      rw [if_neg (by omega)] at eB
      rw [if_pos (nI_lt (a := min 1000000 V) (b := lo) (by omega) (by omega)), eB, if_pos (show nI 0 = nI 0 from rfl)]
      rw [show (2 : Int32) = nI 2 from rfl, e1, e2, bS, bS, bS]
      exact ⟨u', w', _, _, rfl, rfl, e4.trans fC, e5.trans fW2, Or.inr ⟨e3, rfl⟩⟩
    · rw [if_neg (nI_nlt (a := min 1000000 V) (b := lo) (by omega) (by omega))]
      by_cases r2 : (V : Int) ≤ a2.toInt
      · have r3 : nI (min 1000000 V) ≤ a2 := by rw [Int32.le_iff_toInt_le, nI_toInt (by omega)]; omega
        rw [if_pos (by omega)] at eB
        rw [if_pos r3, bS, eB, if_neg (show ¬ nI 1 = nI 0 from nz0)]
        refine ⟨_, _, _, _, rfl, rfl, fC, fW2, Or.inl ⟨e, V, by omega, ⟨hT, hW2, by omega, k6, q9, k7, q11⟩, ?_, ?_, by omega, r2⟩⟩
        · congr 1; omega
        · congr 1; omega
      · have r3 : ¬ nI (min 1000000 V) ≤ a2 := by rw [Int32.le_iff_toInt_le, nI_toInt (by omega)]; omega
        obtain ⟨u', w', e1, e2, e3, e4, e5⟩ := err2 (g := g) (e := 2) hT hW2 (by omega) k6 k7 q11 q10 (by omega) (by omega) (by omega)
        rw [if_neg (by omega)] at eB
        rw [if_neg r3, eB, if_pos (show nI 0 = nI 0 from rfl), show (2 : Int32) = nI 2 from rfl, e1, e2, bS, bS, bS]
        exact ⟨u', w', _, _, rfl, rfl, e4.trans fC, e5.trans fW2, Or.inr ⟨e3, rfl⟩⟩
  · have hne : e = s := by
      rw [hz]
      intro q
      rw [← ch_i (b := b) (n := n) (by omega)] at q
      exact c q.2
    obtain ⟨u', w', e1, e2, e3, e4, e5⟩ := err2 (g := g) (e := 1) hT hW (by omega) k6 k7 k11 k10 (by omega) (by omega) (by omega)
    rw [if_neg c, if_pos (show nI 0 = nI 0 from rfl), if_pos (show up u 0 6 (nI e) 0 6 = nI s by rw [k6, hne])]
    rw [show (1 : Int32) = nI 1 from rfl, e1, e2, bS, bS, bS]
    refine ⟨u', w', _, _, rfl, rfl, ?_, e5.trans fW, Or.inr ⟨e3, rfl⟩⟩
    exact e4.trans fC
theorem numE {b : Nat → Int32} {n : Nat} {g : CG} {u w : RS} {a1 a2 : Int32} (hb : BB b n) (h : ERs b n u w) : ∃ u' y, C5_readNumber g u a1 a2 = some (y, u') ∧ F8_number w a1 a2 = some (a1, w) ∧ FC u' u ∧ ERs b n u' w := by
  obtain ⟨i, h3, h4⟩ := h.2.2.1
  have h1 := h.1
  have hn := hb.1
  have hs := SK_le (b := b) h3
  have hdl := dg_le (b := b) (n - SK b n i) (SK b n i)
  unfold C5_readNumber F8_number
  rw [skipC hb h1 h4 h3, if_neg h.ne.1, bS]
  dsimp only
  have hnum := numLC (g := g) (a1 := a1) (a2 := a2) (t1 := (nI (SK b n i), up u 0 6 (nI (SK b n i)))) hb (n - SK b n i) (SK b n i) FUEL 0 (up u 0 6 (nI (SK b n i))) (by omega) (by show n - SK b n i < 10000; omega) (h1.fr (FC.up (by omega))) up_eq
  rw [Nat.min_zero] at hnum
  rw [show (0 : Int32) = nI 0 from rfl, hnum, bS, up_up]
  dsimp only
  have he := h.fc (i := dg b (n - SK b n i) (SK b n i)) (by omega)
  simp only [he.errC, bS]
  refine ⟨up u 0 6 (nI (dg b (n - SK b n i) (SK b n i))), nI (min 1000000 (dvv b (n - SK b n i) (SK b n i) 0)), ?_, trivial, FC.up (by omega), he⟩
  repeat' split
  all_goals rfl
