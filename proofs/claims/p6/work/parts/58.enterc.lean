theorem change_w {c : RS} {g : CG} {L q a b : Nat} {w iv : Nat → Int32} (ha : a < 5) (hb : b < 5) (e : w (137 + 25 * q + 3) = nI a) : C3_changeState g (setL c L w iv) L q (nI b) = some (setL c L (upd (upd w (137 + 25 * q + 3) (nI b)) (137 + 25 * q + 4) m1) (ivM iv a b)) := by
  unfold C3_changeState ivM
  simp (disch := omega) only [lit32, neg1, nI_add, nI_mul, bS, pt_n, ix_n, rd_n, ws_n, rdo_n, wso_n, setR_1, setL_w, setL_iv, up_setR, up_setL_w, up_setL_iv, nz_0, nz_1, e]
theorem C6_takeIn_w {c : RS} {g : CG} {L s q t p a n : Nat} {f : Nat → Nat} {wh : Bool} {w iv : Nat → Int32} (hL : L < 12) (hs : s < 6) (ht : TXc c g t n f) (h0 : wh = true ↔ w (17 + 16 * s + 0) = nI 3) (h1 : w (17 + 16 * s + 1) = nI p) (hp : 1 ≤ p) (hp2 : p ≤ 99) (ha : wh = true → a < 26) : C6_takeIn g (setL c L w iv) L s (nI q) (nI t) (nI (trnN wh a n f)) = some (setL c L (upd (if wh then upd (upd w (17 + 16 * s + 3) (nI (tckN wh p a n f))) (17 + 16 * s + 8) (nI (f (n - 1))) else upd w (17 + 16 * s + 3) (nI (tckN wh p a n f))) (17 + 16 * s + 2) (nI q)) iv) := by
  have hn := ht.n16; have hn1 := ht.n1
  have ht2 : ∀ w iv, TXc (setL c L w iv) g t n f := fun w iv => ht.set hL
  unfold C6_takeIn
  rw [C6_ticks_w (wh := wh) (p := p) (a := a) (ht2 w iv) (by rw [setL_w]; exact h0) (by rw [setL_w]; exact h1) hp hp2 ha]
  simp (disch := omega) only [lit32, neg1, nI_add, nI_mul, bS, pt_n, ix_n, rd_n, ws_n, rdo_n, wso_n, setR_1, setL_w, setL_iv, up_setR, up_setL_w, up_setL_iv, nz_0, nz_1, upd_n]
  by_cases e : w (17 + 16 * s + 0) = nI 3
  · have e2 := h0.mpr e
    rw [if_pos e, if_pos e2, (ht2 _ _).tln]
    simp (disch := omega) only [lit32, neg1, nI_add, nI_mul, bS, pt_n, ix_n, rd_n, ws_n, rdo_n, wso_n, setR_1, setL_w, setL_iv, up_setR, up_setL_w, up_setL_iv, nz_0, nz_1]
    rw [if_neg (nI_ge (a := 0) (by omega) (by omega)), i1 (by omega), (ht2 _ _).tbt (by omega)]
    simp (disch := omega) only [lit32, neg1, nI_add, nI_mul, bS, pt_n, ix_n, rd_n, ws_n, rdo_n, wso_n, setR_1, setL_w, setL_iv, up_setR, up_setL_w, up_setL_iv, nz_0, nz_1]
  · have e2 : ¬ wh = true := fun q => e (h0.mp q)
    rw [if_neg e, if_neg e2]
    simp (disch := omega) only [lit32, neg1, nI_add, nI_mul, bS, pt_n, ix_n, rd_n, ws_n, rdo_n, wso_n, setR_1, setL_w, setL_iv, up_setR, up_setL_w, up_setL_iv, nz_0, nz_1]
theorem C3_enter_w {c : RS} {g : CG} {L s q t p a n st0 : Nat} {f : Nat → Nat} {wh : Bool} {w iv : Nat → Int32} (hL : L < 12) (hs : s < 6) (hq : q < 30) (ht : TXc c g t n f) (h2 : w (137 + 25 * q + 2) = nI t) (h0 : wh = true ↔ w (17 + 16 * s + 0) = nI 3) (h1 : w (17 + 16 * s + 1) = nI p) (hp : 1 ≤ p) (hp2 : p ≤ 99) (h8 : wh = true → w (17 + 16 * s + 8) = nI a ∧ a < 26) (h3 : w (137 + 25 * q + 3) = nI st0) (hst : st0 < 5) : C3_enter g (setL c L w iv) L (nI q) (nI s) = some (setL c L (entS w s q (tckN wh p a n f) (trnN wh a n f) (f (n - 1)) wh) (ivM iv st0 1)) := by
  have ht2 : ∀ w iv, TXc (setL c L w iv) g t n f := fun w iv => ht.set hL
  unfold C3_enter
  simp (disch := omega) only [lit32, neg1, nI_add, nI_mul, bS, pt_n, ix_n, rd_n, ws_n, rdo_n, wso_n, setR_1, setL_w, setL_iv, up_setR, up_setL_w, up_setL_iv, nz_0, nz_1, h2]
  rw [C6_turns_w (wh := wh) (a := a) (ht2 w iv) (by rw [setL_w]; exact h0) (by rw [setL_w]; exact h8)]
  simp (disch := omega) only [lit32, neg1, nI_add, nI_mul, bS, pt_n, ix_n, rd_n, ws_n, rdo_n, wso_n, setR_1, setL_w, setL_iv, up_setR, up_setL_w, up_setL_iv, nz_0, nz_1, upd_n, h2]
  rw [C6_takeIn_w (a := a) (p := p) hL hs ht (by rw [upd_n (by omega)]; exact h0) (by rw [upd_n (by omega)]; exact h1) hp hp2 (fun e => (h8 e).2)]
  simp (disch := omega) only [lit32, neg1, nI_add, nI_mul, bS, pt_n, ix_n, rd_n, ws_n, rdo_n, wso_n, setR_1, setL_w, setL_iv, up_setR, up_setL_w, up_setL_iv, nz_0, nz_1]
  rw [change_w (a := st0) (b := 1) hst (by omega) (by split <;> (simp (disch := omega) only [upd_n]; exact h3))]
  simp (disch := omega) only [lit32, neg1, nI_add, nI_mul, bS, pt_n, ix_n, rd_n, ws_n, rdo_n, wso_n, setR_1, setL_w, setL_iv, up_setR, up_setL_w, up_setL_iv, nz_0, nz_1, upd_u]
  congr 2
  unfold entS
  simp only [show 12 + 3 = 15 from rfl]
  congr 2
  cases wh with
  | true =>
    simp only [if_true]
    rw [upd_c (i := 17 + 16 * s + 3) (j := 17 + 16 * s + 8) (by omega), upd_c (i := 17 + 16 * s + 3) (j := 17 + 16 * s + 2) (by omega), upd_c (i := 15) (j := 17 + 16 * s + 8) (by omega)]
  | false =>
    simp only [Bool.false_eq_true, if_false]
    rw [upd_c (i := 17 + 16 * s + 3) (j := 17 + 16 * s + 2) (by omega)]
