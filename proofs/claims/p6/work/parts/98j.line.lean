noncomputable def OKi (b : Nat → Int32) (n : Nat) (u w : RS) : Prop := ∃ i, 1 ≤ i ∧ OKs b n i u w
theorem OK_ER {b : Nat → Int32} {n : Nat} {u w : RS} (h : OKi b n u w) (h2 : ERs b n u w) : False := by
  obtain ⟨i, _, h⟩ := h
  exact h2.ne.1 h.w0
theorem OKi.w1 {b : Nat → Int32} {n j : Nat} {u w : RS} {x : Int32} (h : OKi b n u w) : OKi b n u (up w 1 j x) := by
  obtain ⟨i, a, h⟩ := h
  exact ⟨i, a, h.w1⟩
theorem numP {b : Nat → Int32} {n lo : Nat} {g : CG} {u w : RS} {a2 : Int32} (hb : BB b n) (h : OKi b n u w ∨ ERs b n u w) (hlo : lo ≤ 2000) (ha2 : a2.toInt ≤ 2000) : ∃ u' w' y x, C5_readNumber g u (nI lo) a2 = some (y, u') ∧ F8_number w (nI lo) a2 = some (x, w') ∧ FC u' u ∧ FW w' w ∧ (ERs b n u' w' ∨ (OKi b n u w ∧ OKi b n u' w' ∧ ∃ V, y = nI V ∧ x = nI V ∧ lo ≤ V ∧ (V : Int) ≤ a2.toInt)) := by
  rcases h with ⟨i, a, h⟩ | h
  · obtain ⟨u', w', y, x, e1, e2, e3, e4, e5⟩ := num2 (g := g) hb h hlo ha2
    refine ⟨u', w', y, x, e1, e2, e3, e4, ?_⟩
    rcases e5 with ⟨i', V, q1, q2, q3, q4, q5, q6⟩ | ⟨q1, q2⟩
    · exact Or.inr ⟨⟨i, a, h⟩, ⟨i', by omega, q2⟩, V, q3, q4, q5, q6⟩
    · exact Or.inl q1
  · obtain ⟨u', y, e1, e2, e3, e4⟩ := numE (g := g) (a1 := nI lo) (a2 := a2) hb h
    exact ⟨u', w, y, nI lo, e1, e2, e3, FW.rfl, Or.inl e4⟩
theorem PS.w1 {b : Nat → Int32} {n j : Nat} {u w : RS} {x : Int32} (h : OKi b n u w ∨ ERs b n u w) : OKi b n u (up w 1 j x) ∨ ERs b n u (up w 1 j x) := h.elim (fun q => Or.inl q.w1) (fun q => Or.inr q.w1)
theorem fillI {g : CG} {L : Nat} {v : Int32} : ∀ (d y f : Nat) (u : RS), y + d = 5 → d < f → ∃ u2, C_J7_fill_53178_is_L5 L v g f (nI y) u = some (nI 5, u2) ∧ (∀ R, R ≠ 400 + L → u2 R = u R) ∧ ∀ a, y ≤ a → a < 5 → u2 (400 + L) a = v
  | 0, y, f, u, h1, h2 => by
    obtain ⟨f, rfl⟩ : ∃ m, f = m + 1 := ⟨f - 1, by omega⟩
    obtain rfl : y = 5 := by omega
    exact ⟨u, by rw [C_J7_fill_53178_is_L5, if_pos (show (5 : Int32) ≤ nI 5 by decide)], fun _ _ => rfl, fun a _ _ => by omega⟩
  | d + 1, y, f, u, h1, h2 => by
    obtain ⟨f, rfl⟩ : ∃ m, f = m + 1 := ⟨f - 1, by omega⟩
    have keep : ∀ (d y f : Nat) (u : RS), y + d = 5 → d < f → ∀ u2, C_J7_fill_53178_is_L5 L v g f (nI y) u = some (nI 5, u2) → ∀ a, a < y → u2 (400 + L) a = u (400 + L) a := by
      intro d
      induction d with
      | zero =>
        intro y f u h1 h2 u2 e a ha
        obtain ⟨f, rfl⟩ : ∃ m, f = m + 1 := ⟨f - 1, by omega⟩
        obtain rfl : y = 5 := by omega
        rw [C_J7_fill_53178_is_L5, if_pos (show (5 : Int32) ≤ nI 5 by decide)] at e
        have := (Prod.mk.inj (Option.some.inj e)).2
        rw [← this]
      | succ d ih =>
        intro y f u h1 h2 u2 e a ha
        obtain ⟨f, rfl⟩ : ∃ m, f = m + 1 := ⟨f - 1, by omega⟩
        rw [C_J7_fill_53178_is_L5, if_neg (show ¬ (5 : Int32) ≤ nI y from nI_ge (b := 5) (by omega) (by omega)), ws_n (by omega) (by omega), bS, show nI y + 1 = nI (y + 1) from nI_add _ 1] at e
        rw [ih (y + 1) f _ (by omega) (by omega) u2 e a (by omega), up_ne (by omega)]
    rw [C_J7_fill_53178_is_L5, if_neg (show ¬ (5 : Int32) ≤ nI y from nI_ge (b := 5) (by omega) (by omega)), ws_n (by omega) (by omega), bS, show nI y + 1 = nI (y + 1) from nI_add _ 1]
    obtain ⟨u2, k1, k2, k3⟩ := fillI (g := g) (L := L) (v := v) d (y + 1) f (up u (400 + L) y v) (by omega) (by omega)
    refine ⟨u2, k1, fun R hR => (k2 R hR).trans (up_or hR), fun a p q => ?_⟩
    by_cases e : a = y
    · subst e; rw [keep d (a + 1) f _ (by omega) (by omega) u2 k1 a (by omega), up_eq]
    · exact k3 a (by omega) q
theorem fillT {g : CG} {L : Nat} {v : Int32} : ∀ (d y f : Nat) (u : RS), y + d = 5 → d < f → ∃ u2, C_J7_fill_53178_tt_L5 L v g f (nI y) u = some (nI 5, u2) ∧ (∀ R, R ≠ 10 + L → u2 R = u R) ∧ (∀ a, (a < 12 + y ∨ 17 ≤ a) → u2 (10 + L) a = u (10 + L) a) ∧ ∀ a, y ≤ a → a < 5 → u2 (10 + L) (12 + a) = v
  | 0, y, f, u, h1, h2 => by
    obtain ⟨f, rfl⟩ : ∃ m, f = m + 1 := ⟨f - 1, by omega⟩
    obtain rfl : y = 5 := by omega
    exact ⟨u, by rw [C_J7_fill_53178_tt_L5, if_pos (show (5 : Int32) ≤ nI 5 by decide)], fun _ _ => rfl, fun _ _ => rfl, fun a _ _ => by omega⟩
  | d + 1, y, f, u, h1, h2 => by
    obtain ⟨f, rfl⟩ : ∃ m, f = m + 1 := ⟨f - 1, by omega⟩
    rw [C_J7_fill_53178_tt_L5, if_neg (show ¬ (5 : Int32) ≤ nI y from nI_ge (b := 5) (by omega) (by omega)), wso_n (by omega) (by omega), bS, show nI y + 1 = nI (y + 1) from nI_add _ 1]
    obtain ⟨u2, k1, k2, k3, k4⟩ := fillT (g := g) (L := L) (v := v) d (y + 1) f (up u (10 + L) (12 + y) v) (by omega) (by omega)
    refine ⟨u2, k1, fun R hR => (k2 R hR).trans (up_or hR), fun a p => ?_, fun a p q => ?_⟩
    · rw [k3 a (by omega), up_ne (by omega)]
    · by_cases e : a = y
      · subst e; rw [k3 (12 + a) (by omega), up_eq]
      · exact k4 a (by omega) q
theorem begin_C {g : CG} {u : RS} {L : Nat} {d bl tr ti : Int32} (hL : L < 12) : ∃ u2, C3_begin g u L d bl tr ti = some u2 ∧ (∀ R, R ≠ 10 + L → R ≠ 400 + L → u2 R = u R) ∧ (∀ i, 17 ≤ i → u2 (10 + L) i = u (10 + L) i) ∧ (∀ a, a < 5 → u2 (400 + L) a = nI 0) ∧ u2 (10 + L) 0 = d ∧ u2 (10 + L) 1 = tr ∧ u2 (10 + L) 2 = ti ∧ u2 (10 + L) 3 = bl ∧ u2 (10 + L) 4 = nI 0 ∧ u2 (10 + L) 5 = bl ∧ (∀ i, 6 ≤ i → i < 10 → u2 (10 + L) i = nI 0) ∧ ∀ i, 12 ≤ i → i < 17 → u2 (10 + L) i = nI 0 := by
  unfold C3_begin C_J7_fill_53178_is C_J7_fill_53178_tt
  simp only [pt_n, bS]
  generalize hU : up (up (up (up (up (up (up (up (up (up u (10 + L) 0 d) (10 + L) 3 bl) (10 + L) 4 0) (10 + L) 5 bl) (10 + L) 1 tr) (10 + L) 2 ti) (10 + L) 6 0) (10 + L) 7 0) (10 + L) 8 0) (10 + L) 9 0 = U
  have ur : ∀ R, R ≠ 10 + L → U R = u R := fun R hR => by rw [← hU]; simp only [up_or hR]
  have ui : ∀ j, 17 ≤ j → U (10 + L) j = u (10 + L) j := fun j p => by rw [← hU]; simp (disch := omega) only [up_ne]
  have x0 : U (10 + L) 0 = d := by rw [← hU]; simp (disch := omega) only [up_ne, up_eq]
  have x1 : U (10 + L) 1 = tr := by rw [← hU]; simp (disch := omega) only [up_ne, up_eq]
  have x2 : U (10 + L) 2 = ti := by rw [← hU]; simp (disch := omega) only [up_ne, up_eq]
  have x3 : U (10 + L) 3 = bl := by rw [← hU]; simp (disch := omega) only [up_ne, up_eq]
  have x4 : U (10 + L) 4 = nI 0 := by rw [← hU]; simp (disch := omega) only [up_ne, up_eq]; rfl
  have x5 : U (10 + L) 5 = bl := by rw [← hU]; simp (disch := omega) only [up_ne, up_eq]
  have xk : ∀ i, 6 ≤ i → i < 10 → U (10 + L) i = nI 0 := fun i p q => by
    rw [← hU]
    rcases (show i = 6 ∨ i = 7 ∨ i = 8 ∨ i = 9 by omega) with rfl | rfl | rfl | rfl <;> (simp (disch := omega) only [up_ne, up_eq]; rfl)
  clear hU
  obtain ⟨u2, k1, k2, k3⟩ := fillI (g := g) (L := L) (v := 0) 5 0 FUEL U (by omega) (by show 5 < 10000; omega)
  obtain ⟨u3, j1, j2, j3, j4⟩ := fillT (g := g) (L := L) (v := 0) 5 0 FUEL u2 (by omega) (by show 5 < 10000; omega)
  have k1' : C_J7_fill_53178_is_L5 L 0 g FUEL 0 U = some (nI 5, u2) := k1
  have j1' : C_J7_fill_53178_tt_L5 L 0 g FUEL 0 u2 = some (nI 5, u3) := j1
  rw [k1', bS, bS]
  dsimp only
  rw [j1', bS, bS]
  have e : ∀ i, i < 12 ∨ 17 ≤ i → u3 (10 + L) i = U (10 + L) i := fun i p => by rw [j3 i (by omega), k2 _ (by omega)]
  refine ⟨u3, rfl, fun R p q => ?_, fun i p => ?_, fun a p => ?_, ?_, ?_, ?_, ?_, ?_, ?_, fun i p q => ?_, fun i p q => ?_⟩
  · rw [j2 R p, k2 R q, ur R p]
  · rw [e i (by omega), ui i p]
  · rw [j2 _ (by omega)]; exact k3 a (by omega) p
  · rw [e 0 (by omega), x0]
  · rw [e 1 (by omega), x1]
  · rw [e 2 (by omega), x2]
  · rw [e 3 (by omega), x3]
  · rw [e 4 (by omega), x4]
  · rw [e 5 (by omega), x5]
  · rw [e i (by omega), xk i p q]
  · have := j4 (i - 12) (by omega) (by omega)
    rw [show 12 + (i - 12) = i by omega] at this
    exact this
