noncomputable def setR (r : RS) (v : Nat → Int32) : RS := fun R => if R = 1 then v else r R
noncomputable def setL (c : RS) (L : Nat) (w iv : Nat → Int32) : RS := fun R => if R = 10 + L then w else if R = 400 + L then iv else c R
theorem setR_self {r : RS} : r = setR r (r 1) := by
  funext R; unfold setR; split
  · rename_i e; rw [e]
  · rfl
theorem setL_self {c : RS} {L : Nat} : c = setL c L (c (10 + L)) (c (400 + L)) := by
  funext R; unfold setL; split
  · rename_i e; rw [e]
  · split
    · rename_i e; rw [e]
    · rfl
theorem setR_1 {r : RS} {v : Nat → Int32} : setR r v 1 = v := if_pos rfl
theorem setR_o {r : RS} {v : Nat → Int32} {R : Nat} (h : ¬ R = 1) : setR r v R = r R := if_neg h
theorem setL_w {c : RS} {L : Nat} {w iv : Nat → Int32} : setL c L w iv (10 + L) = w := if_pos rfl
theorem setL_iv {c : RS} {L : Nat} {w iv : Nat → Int32} : setL c L w iv (400 + L) = iv := by
  unfold setL; rw [if_neg (by omega), if_pos rfl]
theorem setL_o {c : RS} {L R : Nat} {w iv : Nat → Int32} (h : ¬ R = 10 + L) (h2 : ¬ R = 400 + L) : setL c L w iv R = c R := by
  unfold setL; rw [if_neg h, if_neg h2]
theorem up_setR {r : RS} {v : Nat → Int32} {i : Nat} {x : Int32} : up (setR r v) 1 i x = setR r (upd v i x) := by
  funext R; unfold up; split
  · rename_i e; rw [e, setR_1, setR_1]
  · rename_i e; rw [setR_o e, setR_o e]
theorem up_setL_w {c : RS} {L i : Nat} {w iv : Nat → Int32} {x : Int32} : up (setL c L w iv) (10 + L) i x = setL c L (upd w i x) iv := by
  funext R; unfold up; split
  · rename_i e; rw [e, setL_w, setL_w]
  · rename_i e; unfold setL; rw [if_neg e, if_neg e]
theorem up_setL_iv {c : RS} {L i : Nat} {w iv : Nat → Int32} {x : Int32} : up (setL c L w iv) (400 + L) i x = setL c L w (upd iv i x) := by
  funext R; unfold up; split
  · rename_i e; rw [e, setL_iv, setL_iv]
  · rename_i e
    unfold setL; split
    · rfl
    · rfl
theorem bS {α β : Type} {a : α} {f : α → Option β} : (some a).bind f = f a := Eq.trans rfl rfl
theorem i1 {k : Nat} (h : 0 < k) : nI k - nI 1 = nI (k - 1) := nI_sub h
theorem im1 {k : Nat} (h : 0 < k) : nI k + m1 = nI (k - 1) := by
  rw [← nI_sub h, Int32.sub_eq_add_neg]; rfl
theorem F8_sets_s {r : RS} {v : Nat → Int32} {s k : Nat} {x : Int32} (hs : s < 6) (hk : k < 16) : F8_sets (setR r v) (nI s) (nI k) x = some (setR r (upd v (17 + 16 * s + k) x)) := by
  rw [F8_sets_n hs hk, up_setR]
theorem F8_setsCard_s {r : RS} {v : Nat → Int32} {s k : Nat} {x : Int32} (hs : s < 30) (hk : k < 25) : F8_setsCard (setR r v) (nI s) (nI k) x = some (setR r (upd v (137 + 25 * s + k) x)) := by
  rw [F8_setsCard_n hs hk, up_setR]
