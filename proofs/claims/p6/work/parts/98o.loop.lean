noncomputable def pl (G : RS → Option RS) (a1 : Int32) : Nat → Int32 → RS → Option (Int32 × RS)
  | 0, _, _ => none
  | f + 1, y, u => if (u 0 11) = 0 then ((F8_next u).bind fun t => if (inB ((t.1).toInt64) (97 : Int64) (122 : Int64)) = 0 then (if (inB ((t.1).toInt64) (48 : Int64) (57 : Int64)) = 0 then (some ((y, t.2))) else ((G t.2).bind fun u25 => pl G a1 f (y + 1) u25)) else ((F8_takes t.2 (a1) ((t.1 - 97))).bind fun u27 => pl G a1 f (y + 1) u27)) else (some ((y, u)))
noncomputable def pP (G : RS → Option RS) (u0 : RS) (a1 : Int32) : Option RS := (ws u0 8 4 a1 (u0 0 19)).bind fun u1 => (pl G a1 FUEL (0 : Int32) u1).bind fun t7 => (if ((t7.2) 0 11) = 0 then (if (t7.1) = 0 then ((F8_fails (t7.2) (1 : Int32)).bind fun u16 => some u16) else (some (t7.2))) else (some (t7.2)) : Option (RS)).bind fun t12 => some t12
theorem pl0 {a1 : Int32} : ∀ f y u, F8_pieces_0_L12 a1 f y u = pl (fun u => F8_group_0 u a1) a1 f y u
  | 0, _, _ => rfl
  | f + 1, y, u => by
    rw [F8_pieces_0_L12, pl]
    simp only [pl0 f]
theorem pl1 {a1 : Int32} : ∀ f y u, F8_pieces_1_L12 a1 f y u = pl (fun u => F8_group_1 u a1) a1 f y u
  | 0, _, _ => rfl
  | f + 1, y, u => by
    rw [F8_pieces_1_L12, pl]
    simp only [pl1 f]
theorem pl2 {a1 : Int32} : ∀ f y u, F8_pieces_2_L12 a1 f y u = pl (fun u => F8_group_2 u a1) a1 f y u
  | 0, _, _ => rfl
  | f + 1, y, u => by
    rw [F8_pieces_2_L12, pl]
    simp only [pl2 f]
theorem pl3 {a1 : Int32} : ∀ f y u, F8_pieces_3_L12 a1 f y u = pl (fun u => F8_group_3 u a1) a1 f y u
  | 0, _, _ => rfl
  | f + 1, y, u => by
    rw [F8_pieces_3_L12, pl]
    simp only [pl3 f]
theorem pP0 {u : RS} {a : Int32} : F8_pieces_0 u a = pP (fun u => F8_group_0 u a) u a := by
  unfold F8_pieces_0 pP
  simp only [pl0]
theorem pP1 {u : RS} {a : Int32} : F8_pieces_1 u a = pP (fun u => F8_group_1 u a) u a := by
  unfold F8_pieces_1 pP
  simp only [pl1]
theorem pP2 {u : RS} {a : Int32} : F8_pieces_2 u a = pP (fun u => F8_group_2 u a) u a := by
  unfold F8_pieces_2 pP
  simp only [pl2]
theorem pP3 {u : RS} {a : Int32} : F8_pieces_3 u a = pP (fun u => F8_group_3 u a) u a := by
  unfold F8_pieces_3 pP
  simp only [pl3]
noncomputable def OKn (b : Nat → Int32) (n i : Nat) (u w : RS) : Prop := TC b n u ∧ TW b n w ∧ i ≤ n ∧ u 0 6 = nI (SK b n i) ∧ w 0 9 = nI i ∧ u 0 7 = nI 0 ∧ w 0 11 = nI 0
theorem OKs.skip {b : Nat → Int32} {n i : Nat} {g : CG} {u w : RS} (hb : BB b n) (h : OKs b n i u w) : C5_skipSpaces g u = some (nI (SK b n i), up u 0 6 (nI (SK b n i))) ∧ OKn b n i (up u 0 6 (nI (SK b n i))) w := by
  obtain ⟨o1, o2, o3, o4, o5, o6, o7⟩ := h
  exact ⟨skipC hb o1 o4 o3, o1.fr (FC.up (by omega)), o2, o3, up_eq, o5, by rw [up_ne (by omega)]; exact o6, o7⟩
theorem OKn.next {b : Nat → Int32} {n i : Nat} {u w : RS} (hb : BB b n) (h : OKn b n i u w) : F8_next w = some (hv (ch b n (SK b n i)), up (up w 0 9 (nI (SK b n i))) 0 10 (nI (SK b n i))) ∧ OKs b n (SK b n i) u (up (up w 0 9 (nI (SK b n i))) 0 10 (nI (SK b n i))) := by
  obtain ⟨o1, o2, o3, o4, o5, o6, o7⟩ := h
  have hs := SK_le (b := b) o3
  exact ⟨nextW hb o2 o5 o3, o1, (o2.fr (FW.up (by omega))).fr (FW.up (by omega)), hs.2, o4, by rw [up_ne (by omega), up_eq], o6, by rw [up_ne (by omega), up_ne (by omega)]; exact o7⟩
theorem ERs.skip {b : Nat → Int32} {n : Nat} {g : CG} {u w : RS} (hb : BB b n) (h : ERs b n u w) : ∃ s u', C5_skipSpaces g u = some (nI s, u') ∧ FC u' u ∧ ERs b n u' w := by
  obtain ⟨i, h3, h4⟩ := h.2.2.1
  have hs := SK_le (b := b) h3
  exact ⟨_, _, skipC hb h.1 h4 h3, FC.up (by omega), h.fc hs.2⟩
