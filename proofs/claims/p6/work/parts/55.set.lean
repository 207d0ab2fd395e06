/-! states with one line apart -/
def setR (r : RS) (v : Nat → Int32) : RS := fun R => if R = 1 then v else r R
def setL (c : RS) (L : Nat) (w iv : Nat → Int32) : RS := fun R => if R = 10 + L then w else if R = 400 + L then iv else c R
theorem setR_self {r : RS} : r = setR r (r 1) := by
  funext R; unfold setR; split
  · rename_i e; rw [e]
  · rfl
theorem setL_self {c : RS} {L : Nat} : c = setL c L (c (10 + L)) (c (400 + L)) := by
  funext R; unfold setL; split
  · rename_i e; rw [e]
  · split
    · rename_i e; rw [e]
    · rfl
theorem setR_1 {r : RS} {v : Nat → Int32} : setR r v 1 = v := if_pos rfl
theorem setR_o {r : RS} {v : Nat → Int32} {R : Nat} (h : ¬ R = 1) : setR r v R = r R := if_neg h
theorem setL_w {c : RS} {L : Nat} {w iv : Nat → Int32} : setL c L w iv (10 + L) = w := if_pos rfl
theorem setL_iv {c : RS} {L : Nat} {w iv : Nat → Int32} : setL c L w iv (400 + L) = iv := by
  unfold setL; rw [if_neg (by omega), if_pos rfl]
theorem setL_o {c : RS} {L R : Nat} {w iv : Nat → Int32} (h : ¬ R = 10 + L) (h2 : ¬ R = 400 + L) : setL c L w iv R = c R := by
  unfold setL; rw [if_neg h, if_neg h2]
theorem up_setR {r : RS} {v : Nat → Int32} {i : Nat} {x : Int32} : up (setR r v) 1 i x = setR r (upd v i x) := by
  funext R; unfold up; split
  · rename_i e; rw [e, setR_1, setR_1]
  · rename_i e; rw [setR_o e, setR_o e]
theorem up_setL_w {c : RS} {L i : Nat} {w iv : Nat → Int32} {x : Int32} : up (setL c L w iv) (10 + L) i x = setL c L (upd w i x) iv := by
  funext R; unfold up; split
  · rename_i e; rw [e, setL_w, setL_w]
  · rename_i e; unfold setL; rw [if_neg e, if_neg e]
theorem up_setL_iv {c : RS} {L i : Nat} {w iv : Nat → Int32} {x : Int32} : up (setL c L w iv) (400 + L) i x = setL c L w (upd iv i x) := by
  funext R; unfold up; split
  · rename_i e; rw [e, setL_iv, setL_iv]
  · rename_i e
    unfold setL; split
    · rfl
    · rfl
theorem setR_setR {r : RS} {v v2 : Nat → Int32} : setR (setR r v) v2 = setR r v2 := by
  funext R; unfold setR; split <;> rfl
theorem setL_setL {c : RS} {L : Nat} {w iv w2 iv2 : Nat → Int32} : setL (setL c L w iv) L w2 iv2 = setL c L w2 iv2 := by
  funext R; unfold setL; split
  · rfl
  · split <;> rfl
theorem bS {α β : Type} {a : α} {f : α → Option β} : (some a).bind f = f a := Eq.trans rfl rfl
theorem i1 {k : Nat} (h : 0 < k) : nI k - nI 1 = nI (k - 1) := nI_sub h
theorem im1 {k : Nat} (h : 0 < k) : nI k + m1 = nI (k - 1) := by
  rw [← nI_sub h, Int32.sub_eq_add_neg]; rfl
theorem le0 {k : Nat} (h : k < 2 ^ 31) : nI k ≤ nI 0 ↔ k = 0 := by
  rw [nI_leI h (by omega)]; omega
theorem rd0 {u : RS} {k n j : Nat} (h : j < n) (hn : n ≤ 2 ^ 31) : rd u k n (nI j) = some (u k j) := rd_n h hn
-- the steps that every function is made of, at numbers
theorem F8_of_s {r : RS} {v : Nat → Int32} {s k : Nat} (hs : s < 6) (hk : k < 16) : F8_of (setR r v) (nI s) (nI k) = some (sS v s k) := by
  rw [F8_of_n hs hk, setR_1, sS_r (v := v) hs hk]
theorem F8_ofLot_s {r : RS} {v : Nat → Int32} {s k : Nat} (hs : s < 6) (hk : k < 4) : F8_ofLot (setR r v) (nI s) (nI k) = some (sL v s k) := by
  rw [F8_ofLot_n hs hk, setR_1, sL_r (v := v) hs hk]
theorem F8_ofCard_s {r : RS} {v : Nat → Int32} {s k : Nat} (hs : s < 30) (hk : k < 25) : F8_ofCard (setR r v) (nI s) (nI k) = some (sC v s k) := by
  rw [F8_ofCard_n hs hk, setR_1, sC_r (v := v) hs hk]
theorem F8_sets_s {r : RS} {v : Nat → Int32} {s k : Nat} {x : Int32} (hs : s < 6) (hk : k < 16) : F8_sets (setR r v) (nI s) (nI k) x = some (setR r (upd v (17 + 16 * s + k) x)) := by
  rw [F8_sets_n hs hk, up_setR]
theorem F8_grows_s {r : RS} {v : Nat → Int32} {s k : Nat} {x : Int32} (hs : s < 6) (hk : k < 16) : F8_grows (setR r v) (nI s) (nI k) x = some (setR r (upd v (17 + 16 * s + k) (sS v s k + x))) := by
  rw [F8_grows_n hs hk, up_setR, setR_1, sS_r (v := v) hs hk]
theorem F8_setsCard_s {r : RS} {v : Nat → Int32} {s k : Nat} {x : Int32} (hs : s < 30) (hk : k < 25) : F8_setsCard (setR r v) (nI s) (nI k) x = some (setR r (upd v (137 + 25 * s + k) x)) := by
  rw [F8_setsCard_n hs hk, up_setR]
-- the class's reads
theorem wS {w : Nat → Int32} {s k : Nat} (hs : s < 6) (hk : k < 16) : w (17 + 16 * s + k) = sS w s k := sS_r hs hk
theorem isReady_r {r : RS} {v : Nat → Int32} {s n : Nat} {x : Int32} (hs : s < 6) (h2 : sS v s 2 = x) (h3 : sS v s 3 = nI n) (hn : n < 2 ^ 31) : F8_isReady (setR r v) (nI s) = some (if x = m1 ∨ n ≠ 0 then nI 0 else nI 1) := by
  unfold F8_isReady
  simp (disch := omega) only [lit32, neg1, nI_add, nI_mul, bS, pt_n, ix_n, rd_n, ws_n, rdo_n, wso_n, setR_1, setL_w, setL_iv, up_setR, up_setL_w, up_setL_iv, nz_0, nz_1, F8_of_s, h2, h3]
  by_cases e : x = m1
  · simp only [e, if_true, true_or]; rfl
  · by_cases e2 : n = 0
    · subst e2; simp [e, bS, nz_1, nz_0]
    · simp [e, e2, nI_eq hn, bS, nz_1, nz_0]
