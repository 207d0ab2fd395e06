theorem tickY {r c : RS} {g : CG} {L sm lm cm B U : Nat} {v : Nat → Int32} (hL : L < 12) (hg : g.nt < 2 ^ 31) (h : QY c g L v sm lm cm B U) (hB : B + 1 < 2000000000) (hU : U + 1 < 2000000000) :
    ∃ v' c' m, F8_passes (setR r v) = some (setR r v') ∧ C3_tick g c L = some (m, c') ∧ QY c' g L v' sm lm cm (B + 1) (U + 1) ∧ (∀ R, ¬ OWN L R → c' R = c R) ∧
      ((¬ STL c g L sm lm cm (c (10 + L)) (c (400 + L)) ∧ m = nI 1) ∨ (STL c g L sm lm cm (c (10 + L)) (c (400 + L)) ∧ m = nI 0 ∧ SM v (c (10 + L)) (c (400 + L)) v' (c' (10 + L)) (c' (400 + L)) ∧ STL c' g L sm lm cm (c' (10 + L)) (c' (400 + L)))) := by
  have hlm := h.a.lm6
  obtain ⟨v', w', iv', c1, k1, k2, k3, k4⟩ := tick_ok (r := r) hL hg h hB hU
  rw [← cL (L := L)] at k4
  have hrow : ∀ R, ¬ OWN L R → setL c1 L w' iv' R = c R := fun R hR => by
    rw [setL_o (by unfold OWN at hR; omega) (by unfold OWN at hR; omega)]
    exact k3 R (by unfold NDY; unfold OWN at hR; omega)
  rcases k4 with ⟨k4, k5⟩ | ⟨k4, k5, k6⟩
  · exact ⟨v', _, _, k1, k5, QX.toY hL k2, hrow, Or.inl ⟨k4, rfl⟩⟩
  · refine ⟨v', _, _, k1, k5, QX.toY hL k2, hrow, Or.inr ⟨k4, rfl, ?_, ?_⟩⟩
    · rw [setL_w, setL_iv]; exact k6
    · rw [setL_w, setL_iv]
      exact (STL.sm hL hlm k4 k6 k3).congr hL hlm rfl rfl rfl rfl (fun _ _ => rfl) (fun l hl => setL_o (by omega) (by omega))
theorem run_L {r : RS} {g g' : CG} {sm lm cm n : Nat} {cc : RS} (hg : g.nt < 2 ^ 31) (hn : n ≤ 2000) : ∀ (d y fu fu2 B U : Nat) (v : Nat → Int32) (c : RS), y + d = n → d < fu → d < fu2 → QY c g 0 v sm lm cm B U → B + d < 2000000000 → U + d < 2000000000 → ∃ v' c', F8_run_L25 (nI n) fu (nI y) (setR r v) = some (nI n, setR r v') ∧ C7_run_L14 (nI n) (g, cc) fu2 (nI y) c = some (nI n, c') ∧ QY c' g 0 v' sm lm cm (B + d) (U + d) ∧ (∀ R, ¬ OWN 0 R → c' R = c R) := by
  intro d
  induction d with
  | zero =>
    intro y fu fu2 B U v c hy hfu hfu2 h hB hU
    obtain ⟨fu, rfl⟩ : ∃ m, fu = m + 1 := ⟨fu - 1, by omega⟩
    obtain ⟨fu2, rfl⟩ : ∃ m, fu2 = m + 1 := ⟨fu2 - 1, by omega⟩
    obtain rfl : y = n := by omega
    rw [F8_run_L25, C7_run_L14, if_pos (nI_le (by omega) (by omega)), if_pos (nI_le (by omega) (by omega))]
    exact ⟨v, c, rfl, rfl, h, fun _ _ => rfl⟩
  | succ d ih =>
    intro y fu fu2 B U v c hy hfu hfu2 h hB hU
    obtain ⟨fu, rfl⟩ : ∃ m, fu = m + 1 := ⟨fu - 1, by omega⟩
    obtain ⟨fu2, rfl⟩ : ∃ m, fu2 = m + 1 := ⟨fu2 - 1, by omega⟩
    obtain ⟨v1, c1, m, k1, k2, k3, k4, -⟩ := tickY (r := r) (by omega : 0 < 12) hg h (by omega) (by omega)
    obtain ⟨v2, c2, j1, j2, j3, j4⟩ := ih (y + 1) fu fu2 (B + 1) (U + 1) v1 c1 (by omega) (by omega) (by omega) k3 (by omega) (by omega)
    rw [F8_run_L25, C7_run_L14, if_neg (nI_ge (by omega) (by omega)), if_neg (nI_ge (by omega) (by omega)), k1, bS]
    simp only [lit32]
    rw [k2, bS, nI_add]
    exact ⟨v2, c2, j1, j2, by rw [show B + (d + 1) = B + 1 + d by omega, show U + (d + 1) = U + 1 + d by omega]; exact j3, fun R hR => (j4 R hR).trans (k4 R hR)⟩
theorem GI.line' {r c c' : RS} {g : CG} {B B2 T sm lm cm : Nat} {v' : Nat → Int32} (h : GI r c g B T) (hc : ∀ R, ¬ OWN 0 R → c' R = c R) (hq : QY c' g 0 v' sm lm cm B2 B2) (hB : B ≤ B2) : GI (setR r v') c' g B2 T := by
  have := h.line hc hq hB
  rw [← cL (L := 0)] at this
  exact this
theorem a_run {r c : RS} {g : CG} {B T : Nat} {a : Int32} (h : GI r c g B T) (hT : T < 2 ^ 31) (hB : B + 2000 < 2000000000) : AT (F8_run r a) (C7_run g c a) r 1 (B + 2000) T := by
  unfold F8_run C7_run
  simp only [lit32]
  rcases argR (a := a) (lo := 1) (hi := 2000) (by omega) (by omega) (l := 1) (h := 2000) rfl rfl with ⟨k, k1, k2, rfl, k3, k4⟩ | ⟨k3, k4, k5⟩
  · obtain ⟨sm, lm, cm, h0⟩ := (h.thr (k := 0)).l
    obtain ⟨r2, c2, g2, e1, e2, e3, e4, e5⟩ := keeps_ok h.thr h0
    rw [k3, k4, isThrown_1, bS, bS, trR]
    simp only [if_true]
    obtain ⟨v', c', j1, j2, j3, j4⟩ := run_L (r := r2) (g' := g2) (cc := c2) (Nat.lt_of_le_of_lt e3.n hT) k2 k 0 FUEL FUEL B B (r2 1) c2 (by omega) (by show k < 10000; omega) (by show k < 10000; omega) e4 (by omega) (by omega)
    rw [← setR_self] at j1
    have hl : setR r2 v' 1 10 = c' (400 + 0) 3 := by
      rw [setR_1, sA_r (v := v') (by omega), j3.n.nl]
    rw [e1, bS, j1, bS, e2, bS, j2, bS]
    dsimp only
    rw [hl]
    have j3' : QY c' g2 0 v' sm lm cm (B + 2000) (B + 2000) := j3.mono (by omega) (by omega) (by omega)
    exact Or.inl ⟨_, _, _, _, rfl, rfl, e3.line' j4 j3' (by omega), setR0.trans e5.t⟩
  · rw [k3, k4, isThrown_0, bS, bS, trL]
    refine Or.inr ⟨1, by omega, by omega, ?_, rfl⟩
    simp only [nz0, if_false]
theorem toLeave_L {r r4 : RS} {g : CG} {sm lm cm n : Nat} {c4 : RS} (hg : g.nt < 2 ^ 31) (hn : n ≤ 2000) (h4 : r4 1 10 = c4 (400 + 0) 3) : ∀ (d y fu fu2 B U : Nat) (v : Nat → Int32) (c : RS), y + d = n + 1 → d < fu → d < fu2 → QY c g 0 v sm lm cm B U → B + d < 2000000000 → U + d < 2000000000 → ∃ v' c' b b2, QY c' g 0 v' sm lm cm (B + d) (U + d) ∧ (∀ R, ¬ OWN 0 R → c' R = c R) ∧
    ((F8_runToLeave_L33 r4 (nI n) fu (nI y) (setR r v) = some (.inl (b, setR r v')) ∧ C7_runToLeave_L24 (g, c4) (nI n) fu2 (nI y) c = some (.inl (.inr (b, g, c')))) ∨ (F8_runToLeave_L33 r4 (nI n) fu (nI y) (setR r v) = some (.inr (b2, setR r v')) ∧ C7_runToLeave_L24 (g, c4) (nI n) fu2 (nI y) c = some (.inr (b2, c')))) := by
  intro d
  induction d with
  | zero =>
    intro y fu fu2 B U v c hy hfu hfu2 h hB hU
    obtain ⟨fu, rfl⟩ : ∃ m, fu = m + 1 := ⟨fu - 1, by omega⟩
    obtain ⟨fu2, rfl⟩ : ∃ m, fu2 = m + 1 := ⟨fu2 - 1, by omega⟩
    rw [F8_runToLeave_L33, C7_runToLeave_L24, if_pos (nI_lt (by omega) (by omega)), if_pos (nI_lt (by omega) (by omega))]
    exact ⟨v, c, nI y, nI y, h, fun _ _ => rfl, Or.inr ⟨rfl, rfl⟩⟩
  | succ d ih =>
    intro y fu fu2 B U v c hy hfu hfu2 h hB hU
    obtain ⟨fu, rfl⟩ : ∃ m, fu = m + 1 := ⟨fu - 1, by omega⟩
    obtain ⟨fu2, rfl⟩ : ∃ m, fu2 = m + 1 := ⟨fu2 - 1, by omega⟩
    obtain ⟨v1, c1, m, k1, k2, k3, k4, -⟩ := tickY (r := r) (by omega : 0 < 12) hg h (by omega) (by omega)
    have hl : setR r v1 1 10 = c1 (400 + 0) 3 := by
      rw [setR_1, sA_r (v := v1) (by omega), k3.n.nl]
    rw [F8_runToLeave_L33, C7_runToLeave_L24, if_neg (nI_nlt (by omega) (by omega)), if_neg (nI_nlt (by omega) (by omega)), k1, bS]
    simp only [lit32]
    rw [k2, bS, nI_add, hl, h4]
    dsimp only
    by_cases q : c1 (400 + 0) 3 ≤ c4 (400 + 0) 3
    · rw [if_pos q, if_pos q]
      obtain ⟨v2, c2, b, b2, j1, j2, j3⟩ := ih (y + 1) fu fu2 (B + 1) (U + 1) v1 c1 (by omega) (by omega) (by omega) k3 (by omega) (by omega)
      exact ⟨v2, c2, b, b2, by rw [show B + (d + 1) = B + 1 + d by omega, show U + (d + 1) = U + 1 + d by omega]; exact j1, fun R hR => (j2 R hR).trans (k4 R hR), j3⟩
    · rw [if_neg q, if_neg q]
      exact ⟨v1, c1, nI y, nI y, k3.mono (by omega) (by omega) (by omega), k4, Or.inl ⟨rfl, rfl⟩⟩
theorem a_runToLeave {r c : RS} {g : CG} {B T : Nat} {a : Int32} (h : GI r c g B T) (hT : T < 2 ^ 31) (hB : B + 2000 < 2000000000) : AT (F8_runToLeave r a) (C7_runToLeave g c a) r 1 (B + 2000) T := by
  unfold F8_runToLeave C7_runToLeave
  simp only [lit32, neg1]
  rcases argR (a := a) (lo := 1) (hi := 2000) (by omega) (by omega) (l := 1) (h := 2000) rfl rfl with ⟨k, k1, k2, rfl, k3, k4⟩ | ⟨k3, k4, k5⟩
  · obtain ⟨sm, lm, cm, h0⟩ := (h.thr (k := 0)).l
    obtain ⟨r2, c2, g2, e1, e2, e3, e4, e5⟩ := keeps_ok h.thr h0
    have h4 : r2 1 10 = c2 (400 + 0) 3 := by rw [sA_r (v := r2 1) (by omega), e4.n.nl]
    rw [k3, k4, isThrown_1, bS, bS, trR]
    simp only [if_true]
    obtain ⟨v', c', b, b2, j3, j4, j5⟩ := toLeave_L (r := r2) (Nat.lt_of_le_of_lt e3.n hT) k2 h4 k 1 FUEL FUEL B B (r2 1) c2 (by omega) (by show k < 10000; omega) (by show k < 10000; omega) e4 (by omega) (by omega)
    rw [← setR_self] at j5
    have j3' : QY c' g2 0 v' sm lm cm (B + 2000) (B + 2000) := j3.mono (by omega) (by omega) (by omega)
    rw [e1, bS, e2, bS]
    dsimp only
    rcases j5 with ⟨j1, j2⟩ | ⟨j1, j2⟩
    · rw [j1, bS, j2, bS]
      exact Or.inl ⟨_, _, _, _, rfl, rfl, e3.line' j4 j3' (by omega), setR0.trans e5.t⟩
    · rw [j1, bS, j2, bS]
      exact Or.inl ⟨m1, setR r2 v', c', g2, rfl, rfl, e3.line' j4 j3' (by omega), setR0.trans e5.t⟩
  · rw [k3, k4, isThrown_0, bS, bS, trL]
    refine Or.inr ⟨1, by omega, by omega, ?_, rfl⟩
    simp only [nz0, if_false]
