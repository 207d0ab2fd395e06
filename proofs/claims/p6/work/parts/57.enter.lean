theorem upd_e {f : Nat → Int32} {i : Nat} {x : Int32} : upd f i x i = x := if_pos rfl
theorem upd_n {f : Nat → Int32} {i j : Nat} {x : Int32} (h : ¬ j = i) : upd f i x j = f j := if_neg h
theorem upd_s {f : Nat → Int32} {i : Nat} : upd f i (f i) = f := by
  funext j; unfold upd; split
  · rename_i e; rw [e]
  · rfl
theorem upd_c {f : Nat → Int32} {i j : Nat} {x y : Int32} (h : ¬ i = j) : upd (upd f i x) j y = upd (upd f j y) i x := by
  funext k; simp only [upd_at]; split
  · rename_i e; rw [if_neg (fun q => h (q.symm.trans e))]
  · rfl
theorem upd_u {f : Nat → Int32} {i : Nat} {x y : Int32} : upd (upd f i x) i y = upd f i y := by
  funext k; simp only [upd_at]; split <;> rfl
theorem nI_z {x : Int32} : x + nI 0 = x := Int32.add_zero x
theorem F8_of_v {r : RS} {v : Nat → Int32} {s k : Nat} (hs : s < 6) (hk : k < 16) : F8_of (setR r v) (nI s) (nI k) = some (v (17 + 16 * s + k)) := by
  rw [F8_of_n hs hk, setR_1]
theorem F8_ofLot_v {r : RS} {v : Nat → Int32} {s k : Nat} (hs : s < 6) (hk : k < 4) : F8_ofLot (setR r v) (nI s) (nI k) = some (v (113 + 4 * s + k)) := by
  rw [F8_ofLot_n hs hk, setR_1]
theorem F8_ofCard_v {r : RS} {v : Nat → Int32} {s k : Nat} (hs : s < 30) (hk : k < 25) : F8_ofCard (setR r v) (nI s) (nI k) = some (v (137 + 25 * s + k)) := by
  rw [F8_ofCard_n hs hk, setR_1]
theorem F8_grows_v {r : RS} {v : Nat → Int32} {s k : Nat} {x : Int32} (hs : s < 6) (hk : k < 16) : F8_grows (setR r v) (nI s) (nI k) x = some (setR r (upd v (17 + 16 * s + k) (v (17 + 16 * s + k) + x))) := by
  rw [F8_grows_n hs hk, up_setR, setR_1]
noncomputable abbrev TXv (v : Nat → Int32) (q n : Nat) (f : Nat → Nat) : Prop := (q < 30) ∧ (1 ≤ n) ∧ (n ≤ 16) ∧ (v (137 + 25 * q + 2) = nI n) ∧ (∀ k, k < n → v (137 + 25 * q + (9 + k)) = nI (f k) ∧ f k < 26)
theorem TXv.q30 {v : Nat → Int32} {q n : Nat} {f : Nat → Nat} (h : TXv v q n f) : q < 30 := h.1
theorem TXv.n1 {v : Nat → Int32} {q n : Nat} {f : Nat → Nat} (h : TXv v q n f) : 1 ≤ n := h.2.1
theorem TXv.n16 {v : Nat → Int32} {q n : Nat} {f : Nat → Nat} (h : TXv v q n f) : n ≤ 16 := h.2.2.1
theorem TXv.len {v : Nat → Int32} {q n : Nat} {f : Nat → Nat} (h : TXv v q n f) : v (137 + 25 * q + 2) = nI n := h.2.2.2.1
theorem TXv.lets {v : Nat → Int32} {q n : Nat} {f : Nat → Nat} (h : TXv v q n f) : ∀ k, k < n → v (137 + 25 * q + (9 + k)) = nI (f k) ∧ f k < 26 := h.2.2.2.2
noncomputable abbrev TXc (c : RS) (g : CG) (t n : Nat) (f : Nat → Nat) : Prop := (1 ≤ t) ∧ (t ≤ g.nt) ∧ (t < 2 ^ 31) ∧ (1 ≤ n) ∧ (n ≤ 16) ∧ (c (500 + t) 0 = nI n) ∧ (∀ k, k < n → c (500 + t) (1 + k) = nI (f k) ∧ f k < 26)
theorem TXc.t1 {c : RS} {g : CG} {t n : Nat} {f : Nat → Nat} (h : TXc c g t n f) : 1 ≤ t := h.1
theorem TXc.tg {c : RS} {g : CG} {t n : Nat} {f : Nat → Nat} (h : TXc c g t n f) : t ≤ g.nt := h.2.1
theorem TXc.t31 {c : RS} {g : CG} {t n : Nat} {f : Nat → Nat} (h : TXc c g t n f) : t < 2 ^ 31 := h.2.2.1
theorem TXc.n1 {c : RS} {g : CG} {t n : Nat} {f : Nat → Nat} (h : TXc c g t n f) : 1 ≤ n := h.2.2.2.1
theorem TXc.n16 {c : RS} {g : CG} {t n : Nat} {f : Nat → Nat} (h : TXc c g t n f) : n ≤ 16 := h.2.2.2.2.1
theorem TXc.len {c : RS} {g : CG} {t n : Nat} {f : Nat → Nat} (h : TXc c g t n f) : c (500 + t) 0 = nI n := h.2.2.2.2.2.1
theorem TXc.lets {c : RS} {g : CG} {t n : Nat} {f : Nat → Nat} (h : TXc c g t n f) : ∀ k, k < n → c (500 + t) (1 + k) = nI (f k) ∧ f k < 26 := h.2.2.2.2.2.2
theorem TXv.steps {r : RS} {v : Nat → Int32} {q n a : Nat} {f : Nat → Nat} (h : TXv v q n f) (ha : a < 26) : F8_stepsOf (setR r v) (nI q) (nI a) = some (nI (stpN f n 0 a)) := by
  refine F8_stepsOf_s h.q30 h.n16 ?_ (fun k hk => ?_) ha
  · rw [setR_1, ← sC_r (v := v) h.q30 (by omega)]; exact h.len
  · have := h.n16
    rw [setR_1, ← sC_r (v := v) h.q30 (by omega)]; exact h.lets k hk
theorem TXc.steps {c : RS} {g : CG} {t n a : Nat} {f : Nat → Nat} (h : TXc c g t n f) (ha : a < 26) : C7_stepsOf g c (nI t) (nI a) = some (nI (stpN f n 0 a)) := C7_stepsOf_s h.t1 h.tg h.t31 h.n16 h.len h.lets ha
theorem TXc.tln {c : RS} {g : CG} {t n : Nat} {f : Nat → Nat} (h : TXc c g t n f) : tln g c (nI t) = some (nI n) := by have := h.n16; exact tln_n h.t1 h.tg h.t31 h.len (by omega)
theorem TXc.tbt {c : RS} {g : CG} {t n k : Nat} {f : Nat → Nat} (h : TXc c g t n f) (hk : k < n) : tbt g c (nI t) (nI k) = some (nI (f k)) := by have := h.n16; rw [tbt_n h.t1 h.tg h.t31 h.len (by omega) hk, (h.lets k hk).1]
theorem TXc.set {c : RS} {g : CG} {L t n : Nat} {f : Nat → Nat} {w iv : Nat → Int32} (hL : L < 12) (h : TXc c g t n f) : TXc (setL c L w iv) g t n f :=
  ⟨h.t1, h.tg, h.t31, h.n1, h.n16, by rw [setL_o (by omega) (by omega)]; exact h.len, fun k hk => by rw [setL_o (by omega) (by omega)]; exact h.lets k hk⟩
noncomputable def trnN (wh : Bool) (a n : Nat) (f : Nat → Nat) : Nat := if wh then stpN f n 0 a else 0
noncomputable def tckN (wh : Bool) (p a n : Nat) (f : Nat → Nat) : Nat := if wh then n + (stpN f n 0 a + p - 1) / p else p
theorem tckN_le {wh : Bool} {p a n : Nat} {f : Nat → Nat} (hp : 1 ≤ p) (hp2 : p ≤ 99) (hn : n ≤ 16) (ha : wh = true → a < 26) (hf : ∀ k, k < n → f k < 26) : tckN wh p a n f ≤ 1000 := by
  unfold tckN
  cases wh with
  | false => simp; omega
  | true =>
    have h1 := stpN_le (f := f) (n := n) (k := 0) (a := a) (fun j hj => hf j (by omega)) (ha rfl)
    have h2 : (stpN f n 0 a + p - 1) / p ≤ stpN f n 0 a + p - 1 := Nat.div_le_self _ _
    simp only [if_true]; omega
theorem F8_ticks_v {r : RS} {v : Nat → Int32} {s q p a n : Nat} {f : Nat → Nat} {wh : Bool} (hs : s < 6) (ht : TXv v q n f) (h0 : wh = true ↔ v (17 + 16 * s + 0) = nI 3) (h1 : v (17 + 16 * s + 1) = nI p) (hp : 1 ≤ p) (hp2 : p ≤ 99) (h8 : wh = true → v (17 + 16 * s + 8) = nI a ∧ a < 26) : F8_ticksOf (setR r v) (nI s) (nI q) = some (nI (tckN wh p a n f)) := by
  have hq := ht.q30; have hn := ht.n16
  unfold F8_ticksOf tckN
  simp (disch := omega) only [lit32, neg1, nI_add, nI_mul, bS, pt_n, ix_n, rd_n, ws_n, rdo_n, wso_n, setR_1, setL_w, setL_iv, up_setR, up_setL_w, up_setL_iv, nz_0, nz_1, F8_of_v, F8_ofCard_v, h1]
  by_cases e : v (17 + 16 * s + 0) = nI 3
  · have e2 := h0.mpr e
    obtain ⟨g1, g2⟩ := h8 e2
    have h3 := stpN_le (f := f) (n := n) (k := 0) (a := a) (fun j hj => (ht.lets j (by omega)).2) g2
    rw [if_pos e, if_pos e2, ht.len, g1, ht.steps g2, bS, nI_add, nI_sub (by omega)]
    unfold dv
    rw [if_neg (show ¬ nI p = 0 from nI_ne0 (by omega) (by omega)), pk_div (by omega) (by omega) (by omega), bS, nI_add]
  · have e2 : ¬ wh = true := fun q => e (h0.mp q)
    rw [if_neg e, if_neg e2]
theorem C6_turns_w {c : RS} {g : CG} {L s t a n : Nat} {f : Nat → Nat} {wh : Bool} (ht : TXc c g t n f) (h0 : wh = true ↔ c (10 + L) (17 + 16 * s + 0) = nI 3) (h8 : wh = true → c (10 + L) (17 + 16 * s + 8) = nI a ∧ a < 26) : C6_turnsOf g c L s (nI t) = some (nI (trnN wh a n f)) := by
  unfold C6_turnsOf trnN
  simp (disch := omega) only [lit32, neg1, nI_add, nI_mul, bS, pt_n, ix_n, rd_n, ws_n, rdo_n, wso_n, setR_1, setL_w, setL_iv, up_setR, up_setL_w, up_setL_iv, nz_0, nz_1]
  by_cases e : c (10 + L) (17 + 16 * s + 0) = nI 3
  · have e2 := h0.mpr e
    obtain ⟨g1, g2⟩ := h8 e2
    rw [if_pos e, if_pos e2, g1, ht.steps g2]; rfl
  · have e2 : ¬ wh = true := fun q => e (h0.mp q)
    rw [if_neg e, if_neg e2]; rfl
theorem C6_ticks_w {c : RS} {g : CG} {L s t p a n : Nat} {f : Nat → Nat} {wh : Bool} (ht : TXc c g t n f) (h0 : wh = true ↔ c (10 + L) (17 + 16 * s + 0) = nI 3) (h1 : c (10 + L) (17 + 16 * s + 1) = nI p) (hp : 1 ≤ p) (hp2 : p ≤ 99) (ha : wh = true → a < 26) : C6_ticksWith g c L s (nI t) (nI (trnN wh a n f)) = some (nI (tckN wh p a n f)) := by
  have hn := ht.n16
  unfold C6_ticksWith trnN tckN
  simp (disch := omega) only [lit32, neg1, nI_add, nI_mul, bS, pt_n, ix_n, rd_n, ws_n, rdo_n, wso_n, setR_1, setL_w, setL_iv, up_setR, up_setL_w, up_setL_iv, nz_0, nz_1, h1]
  by_cases e : c (10 + L) (17 + 16 * s + 0) = nI 3
  · have e2 := h0.mpr e
    have h3 := stpN_le (f := f) (n := n) (k := 0) (a := a) (fun j hj => (ht.lets j (by omega)).2) (ha e2)
    rw [if_pos e, if_pos (nI_le hp (by omega)), if_pos e2, if_pos e2, ht.tln, bS, nI_sub (by omega)]
    unfold dv
    rw [if_neg (show ¬ nI p = 0 from nI_ne0 (by omega) (by omega)), pk_div (by omega) (by omega) (by omega), bS, nI_add]
  · have e2 : ¬ wh = true := fun q => e (h0.mp q)
    rw [if_neg e, if_neg e2]
noncomputable def entS (v : Nat → Int32) (s q tk tr la : Nat) (wh : Bool) : Nat → Int32 := upd (upd (upd (upd (upd (if wh then upd v (17 + 16 * s + 8) (nI la) else v) 15 (v 15 + nI tr)) (17 + 16 * s + 2) (nI q)) (17 + 16 * s + 3) (nI tk)) (137 + 25 * q + 3) (nI 1)) (137 + 25 * q + 4) (nI s)
theorem F8_enters_v {r : RS} {v : Nat → Int32} {s q p a n : Nat} {f : Nat → Nat} {wh : Bool} (hs : s < 6) (ht : TXv v q n f) (h0 : wh = true ↔ v (17 + 16 * s + 0) = nI 3) (h1 : v (17 + 16 * s + 1) = nI p) (hp : 1 ≤ p) (hp2 : p ≤ 99) (h8 : wh = true → v (17 + 16 * s + 8) = nI a ∧ a < 26) : F8_enters (setR r v) (nI s) (nI q) = some (setR r (entS v s q (tckN wh p a n f) (trnN wh a n f) (f (n - 1)) wh)) := by
  have hq := ht.q30; have hn := ht.n16; have hn1 := ht.n1
  unfold F8_enters entS
  rw [F8_ticks_v hs ht h0 h1 hp hp2 h8]
  simp (disch := omega) only [lit32, neg1, nI_add, nI_mul, bS, pt_n, ix_n, rd_n, ws_n, rdo_n, wso_n, setR_1, setL_w, setL_iv, up_setR, up_setL_w, up_setL_iv, nz_0, nz_1, F8_of_v]
  by_cases e : v (17 + 16 * s + 0) = nI 3
  · have e2 := h0.mpr e
    obtain ⟨g1, g2⟩ := h8 e2
    have g3 := ht.lets (n - 1) (by omega)
    unfold trnN
    rw [if_pos e, if_pos e2, if_pos e2, g1, ht.steps g2]
    simp (disch := omega) only [lit32, neg1, nI_add, nI_mul, bS, pt_n, ix_n, rd_n, ws_n, rdo_n, wso_n, setR_1, setL_w, setL_iv, up_setR, up_setL_w, up_setL_iv, nz_0, nz_1, F8_ofCard_v, upd_n, ht.len]
    rw [nI_sub (by omega), show 9 + n - 1 = 9 + (n - 1) by omega]
    simp (disch := omega) only [lit32, neg1, nI_add, nI_mul, bS, pt_n, ix_n, rd_n, ws_n, rdo_n, wso_n, setR_1, setL_w, setL_iv, up_setR, up_setL_w, up_setL_iv, nz_0, nz_1, F8_ofCard_v, upd_n, g3.1, F8_sets_s, F8_setsCard_s]
    rw [upd_c (show ¬ 15 = 17 + 16 * s + 8 by omega)]
  · have e2 : ¬ wh = true := fun q => e (h0.mp q)
    unfold trnN
    rw [if_neg e, if_neg e2, if_neg e2, nI_z, upd_s]
    simp (disch := omega) only [lit32, neg1, nI_add, nI_mul, bS, pt_n, ix_n, rd_n, ws_n, rdo_n, wso_n, setR_1, setL_w, setL_iv, up_setR, up_setL_w, up_setL_iv, nz_0, nz_1, F8_sets_s, F8_setsCard_s]
