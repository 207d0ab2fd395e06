noncomputable def nx (t5 : Int32 × RS) (g : CG) (f y : Nat) (X : Option RS) : Option (Int32 × RS) := X.bind fun t37 => (C5_skipSpaces g t37).bind fun t40 => C5_readText_L17 t5 g f (nI (y + 1)) t40.2
theorem stepX {b : Nat → Int32} {n i y f : Nat} {g : CG} {u : RS} {t5 : Int32 × RS} (hb : BB b n) (h : TC b n u) (h6 : u 0 6 = nI i) (h7 : u 0 7 = nI 0) (hi : i < n) (hy : y < n) (h59 : ch b n i ≠ 59) : C5_readText_L17 t5 g (f + 1) (nI y) u = nx t5 g f y (if 97 ≤ ch b n i ∧ ch b n i ≤ 122 then ((C5_readLetter g u (b i)).bind fun u54 => some u54) else (if 48 ≤ ch b n i ∧ ch b n i ≤ 57 then ((C5_readNumber g u (2 : Int32) (9 : Int32)).bind fun t50 => (C5_openGroup g t50.2 t50.1 (u 0 6)).bind fun u52 => some u52) else (if ch b n i = 41 then ((C5_closeGroup g u).bind fun u48 => some u48) else ((C5_error g u (1 : Int32) (u 0 6)).bind fun u46 => some u46)))) := by
  have hn := hb.1
  have hbi := hb.2 i hi
  have e59 := b_eq hbi (c := 59) (by omega)
  have e41 := b_eq hbi (c := 41) (by omega)
  unfold nx
  rw [C5_readText_L17, if_neg (show ¬ u 0 5 ≤ nI y by rw [h.1]; exact nI_ge hy (by omega)), fineC0 h7, bS, if_neg (show ¬ nI 1 = (0 : Int32) from nz0), if_neg (show ¬ u 0 5 ≤ u 0 6 by rw [h.1, h6]; exact nI_ge hi (by omega))]
  rw [show rd u 3 600 (u 0 6) = some (b i) by rw [h6, rd_n (by omega) (by omega), h.2 i hi]]
  rw [ch_i hi] at h59 ⊢
  rw [bS, if_neg (show ¬ b i = (59 : Int32) from fun q => h59 (e59.mp q)), bS, let_C hbi, bS, show nI y + 1 = nI (y + 1) from nI_add _ 1]
  by_cases c1 : 97 ≤ cd (b i) ∧ cd (b i) ≤ 122
  · rw [if_pos c1, if_pos c1, if_neg (show ¬ nI 1 = (0 : Int32) from nz0)]
  · rw [if_neg c1, if_neg c1, if_pos (show nI 0 = (0 : Int32) from rfl), dig_C hbi, bS]
    by_cases c2 : 48 ≤ cd (b i) ∧ cd (b i) ≤ 57
    · rw [if_pos c2, if_pos c2, if_neg (show ¬ nI 1 = (0 : Int32) from nz0)]
    · rw [if_neg c2, if_neg c2, if_pos (show nI 0 = (0 : Int32) from rfl)]
      by_cases c3 : cd (b i) = 41
      · rw [if_pos c3, if_pos (show b i = (41 : Int32) from e41.mpr c3)]
      · rw [if_neg c3, if_neg (show ¬ b i = (41 : Int32) from fun q => c3 (e41.mp q))]
theorem stepE {b : Nat → Int32} {n y f : Nat} {g : CG} {u w : RS} {t5 : Int32 × RS} (h : ERs b n u w) : C5_readText_L17 t5 g (f + 1) (nI y) u = some (nI y, u) := by
  rw [C5_readText_L17, h.fine, bS, if_pos (show nI 0 = (0 : Int32) from rfl)]
  split <;> rfl
theorem stepN {b : Nat → Int32} {n i y f : Nat} {g : CG} {u : RS} {t5 : Int32 × RS} (hb : BB b n) (h : TC b n u) (h6 : u 0 6 = nI i) (h7 : u 0 7 = nI 0) (hi : i ≤ n) (he : ch b n i = 59 ∨ ch b n i = 256) : C5_readText_L17 t5 g (f + 1) (nI y) u = some (nI y, u) := by
  have hn := hb.1
  rw [C5_readText_L17, fineC0 h7, bS, if_neg (show ¬ nI 1 = (0 : Int32) from nz0)]
  by_cases c : i < n
  · have e59 := b_eq (hb.2 i c) (c := 59) (by omega)
    have h2 := (cd_spec (hb.2 i c)).2.1
    rw [if_neg (show ¬ u 0 5 ≤ u 0 6 by rw [h.1, h6]; exact nI_ge c (by omega)), show rd u 3 600 (u 0 6) = some (b i) by rw [h6, rd_n (by omega) (by omega), h.2 i c], bS]
    rw [ch_i c] at he
    rw [if_pos (show b i = (59 : Int32) from e59.mpr (by omega))]
    split <;> rfl
  · rw [if_pos (show u 0 5 ≤ u 0 6 by rw [h.1, h6]; exact nI_le (by omega) (by omega))]
    split <;> rfl
theorem nxE {b : Nat → Int32} {n y f : Nat} {g : CG} {u w : RS} {t5 : Int32 × RS} (hb : BB b n) (h : ERs b n u w) : ∃ u', nx t5 g (f + 1) y (some u) = some (nI (y + 1), u') ∧ FC u' u ∧ ERs b n u' w := by
  obtain ⟨s, u', e1, e2, e3⟩ := h.skip (g := g) hb
  refine ⟨u', ?_, e2, e3⟩
  unfold nx
  rw [bS, e1, bS]
  exact stepE e3
theorem nxO {b : Nat → Int32} {n i y f : Nat} {g : CG} {u w : RS} {t5 : Int32 × RS} (hb : BB b n) (h : OKs b n i u w) : nx t5 g f y (some u) = C5_readText_L17 t5 g f (nI (y + 1)) (up u 0 6 (nI (SK b n i))) ∧ OKn b n i (up u 0 6 (nI (SK b n i))) w := by
  obtain ⟨e1, e2⟩ := h.skip (g := g) hb
  refine ⟨?_, e2⟩
  unfold nx
  rw [bS, e1, bS]
