noncomputable def lt (b : Nat → Int32) : Nat → Nat → Nat
  | 0, i => i
  | d + 1, i => if 97 ≤ cd (b i) ∧ cd (b i) ≤ 122 then lt b d (i + 1) else i
theorem lt_le {b : Nat → Int32} : ∀ d i, i ≤ lt b d i ∧ lt b d i ≤ i + d
  | 0, i => ⟨Nat.le_refl _, Nat.le_refl _⟩
  | d + 1, i => by
    have := lt_le (b := b) d (i + 1)
    unfold lt; split <;> omega
theorem wordLC {b : Nat → Int32} {n : Nat} {g : CG} {u0 : RS} (hb : BB b n) : ∀ (d i f : Nat) (u : RS), i + d = n → d < f → TC b n u → u 0 6 = nI i → C5_readWord_L5 u0 g f u = some (up u 0 6 (nI (lt b d i)))
  | 0, i, f, u, h1, h2, h3, h4 => by
    have hn := hb.1
    obtain ⟨f, rfl⟩ : ∃ m, f = m + 1 := ⟨f - 1, by omega⟩
    rw [C5_readWord_L5, h3.1, h4, if_pos (nI_le (by omega) (by omega))]
    show some u = some (up u 0 6 (nI i))
    rw [up_id h4]
  | d + 1, i, f, u, h1, h2, h3, h4 => by
    have hn := hb.1
    obtain ⟨f, rfl⟩ : ∃ m, f = m + 1 := ⟨f - 1, by omega⟩
    have hbi := hb.2 i (by omega)
    rw [C5_readWord_L5, h3.1, h4, if_neg (nI_ge (by omega) (by omega)), rd_n (by omega) (by omega), bS, h3.2 i (by omega), let_C hbi, bS]
    unfold lt
    by_cases c : 97 ≤ cd (b i) ∧ cd (b i) ≤ 122
    · rw [if_pos c, if_pos c, if_neg (show ¬ nI 1 = (0 : Int32) from nz0), pt_n, bS, show nI i + 1 = nI (i + 1) from nI_add _ 1, wordLC hb d (i + 1) f (up u 0 6 (nI (i + 1))) (by omega) (by omega) (h3.fr (FC.up (by omega))) up_eq, up_up]
    · rw [if_neg c, if_neg c, if_pos (show nI 0 = (0 : Int32) from rfl), up_id h4]
theorem wordLW {b : Nat → Int32} {n : Nat} (hb : BB b n) : ∀ (d i f : Nat) (w : RS), i + d = n → d < f → TW b n w → w 0 9 = nI i → F8_reads_L5 f w = some (up w 0 9 (nI (lt b d i)))
  | 0, i, f, w, h1, h2, h3, h4 => by
    have hn := hb.1
    obtain ⟨f, rfl⟩ : ∃ m, f = m + 1 := ⟨f - 1, by omega⟩
    rw [F8_reads_L5, here_ok hb h3 h4 (by omega), bS, inB_hv (p := 97) (q := 122) (ch_le hb) rfl rfl (by omega) (by omega), ch_n (show n ≤ i by omega), if_neg (show ¬ (97 ≤ 256 ∧ 256 ≤ 122) by omega), if_pos (show nI 0 = (0 : Int32) from rfl)]
    show some w = some (up w 0 9 (nI i))
    rw [up_id h4]
  | d + 1, i, f, w, h1, h2, h3, h4 => by
    have hn := hb.1
    obtain ⟨f, rfl⟩ : ∃ m, f = m + 1 := ⟨f - 1, by omega⟩
    have hl := ch_le (i := i) hb
    rw [F8_reads_L5, here_ok hb h3 h4 (by omega), bS, inB_hv (p := 97) (q := 122) hl rfl rfl (by omega) (by omega), ch_i (show i < n by omega)]
    unfold lt
    by_cases c : 97 ≤ cd (b i) ∧ cd (b i) ≤ 122
    · rw [if_pos c, if_pos c, if_neg (show ¬ nI 1 = (0 : Int32) from nz0), pt_n, bS, h4, show nI i + 1 = nI (i + 1) from nI_add _ 1, wordLW hb d (i + 1) f (up w 0 9 (nI (i + 1))) (by omega) (by omega) (h3.fr (FW.up (by omega))) up_eq, up_up]
    · rw [if_neg c, if_neg c, if_pos (show nI 0 = (0 : Int32) from rfl), up_id h4]
noncomputable def WMs (b : Nat → Int32) (s e m : Nat) (bs : List Int32) : Prop := e = s + m ∧ ∀ k, k < m → F_J0_charAt_5068e (nI k) bs = some (b (s + k))
noncomputable def WDs (bs : List Int32) (m : Nat) : Prop := m ≤ 6 ∧ F_J0_length_8abf5 bs = some (nI m) ∧ ∀ k, k < m → ∃ c, F_J0_charAt_5068e (nI k) bs = some c
theorem wordL {b : Nat → Int32} {n s m : Nat} {g : CG} {u w : RS} {bs : List Int32} (hb : BB b n) (hw : WDs bs m) (hc : TC b n u) (ht : TW b n w) (h10 : w 0 10 = nI s) (hn : s + m ≤ n) : ∀ (j k f : Nat), k + j = m → j + 1 < f → ∃ x, (x = nI 0 ∨ x = nI 1) ∧ (x = nI 1 → ∀ i, k ≤ i → i < m → F_J0_charAt_5068e (nI i) bs = some (b (s + i))) ∧ ((x = nI 0 ∧ C5_stands_L17 (nI s) g u bs f (nI k) = some (.inl (nI 0))) ∨ (x = nI 1 ∧ C5_stands_L17 (nI s) g u bs f (nI k) = some (.inr (nI m)))) ∧ ∃ y, F8_isWord_L24 w bs f (nI k) (nI 1) = some (y, x)
  | 0, k, f, h1, h2 => by
    obtain ⟨f, rfl⟩ : ∃ m, f = m + 1 := ⟨f - 1, by omega⟩
    have hm := hw.1
    refine ⟨nI 1, Or.inr rfl, fun _ i q1 q2 => by omega, Or.inr ⟨rfl, ?_⟩, nI k, ?_⟩
    · rw [C5_stands_L17, hw.2.1, bS, if_pos (nI_le (by omega) (by omega)), show k = m by omega]
    · rw [F8_isWord_L24, if_neg (show ¬ nI 1 = (0 : Int32) from nz0), hw.2.1, bS, if_pos (nI_le (by omega) (by omega))]
  | j + 1, k, f, h1, h2 => by
    obtain ⟨f, rfl⟩ : ∃ m, f = m + 1 := ⟨f - 1, by omega⟩
    have hm := hw.1
    have hb1 := hb.1
    obtain ⟨c, hcA⟩ := hw.2.2 k (by omega)
    have eC : C5_stands_L17 (nI s) g u bs (f + 1) (nI k) = if b (s + k) = c then C5_stands_L17 (nI s) g u bs f (nI (k + 1)) else some (.inl (nI 0)) := by
      rw [C5_stands_L17, hw.2.1, bS, if_neg (nI_ge (by omega) (by omega)), nI_add, rd_n (by omega) (by omega), bS, hc.2 _ (by omega), hcA, bS, show nI k + 1 = nI (k + 1) from nI_add _ 1]; rfl
    have eW : F8_isWord_L24 w bs (f + 1) (nI k) (nI 1) = F8_isWord_L24 w bs f (nI (k + 1)) (if b (s + k) = c then nI 1 else nI 0) := by
      rw [F8_isWord_L24, if_neg (show ¬ nI 1 = (0 : Int32) from nz0), hw.2.1, bS, if_neg (nI_ge (by omega) (by omega)), h10, nI_add, rd_n (by omega) (by omega), bS, ht.2 _ (by omega), hcA, bS, show nI k + 1 = nI (k + 1) from nI_add _ 1]
      by_cases q : b (s + k) = c
      · rw [if_pos q, if_pos q, bS]; rfl
      · rw [if_neg q, if_neg q, bS]; rfl
    rw [eC, eW]
    by_cases q : b (s + k) = c
    · rw [if_pos q, if_pos q]
      obtain ⟨x, k1, k2, k3, k4⟩ := wordL (g := g) hb hw hc ht h10 hn j (k + 1) f (by omega) (by omega)
      refine ⟨x, k1, fun hx i q1 q2 => ?_, k3, k4⟩
      by_cases e : i = k
      · subst e; rw [hcA, q]
      · exact k2 hx i (by omega) q2
    · rw [if_neg q, if_neg q]
      refine ⟨nI 0, Or.inl rfl, fun hx => absurd hx.symm nz0, Or.inl ⟨rfl, rfl⟩, nI (k + 1), ?_⟩
      obtain ⟨f, rfl⟩ : ∃ m, f = m + 1 := ⟨f - 1, by omega⟩
      rw [F8_isWord_L24, if_pos (show nI 0 = (0 : Int32) from rfl)]
theorem word2 {b : Nat → Int32} {n s e m : Nat} {g : CG} {u w : RS} {bs : List Int32} (hb : BB b n) (hw : WDs bs m) (hc : TC b n u) (ht : TW b n w) (h6 : u 0 6 = nI e) (h9 : w 0 9 = nI e) (h10 : w 0 10 = nI s) (hse : s ≤ e) (hen : e ≤ n) : ∃ x, (x = nI 0 ∨ x = nI 1) ∧ (x = nI 1 → WMs b s e m bs) ∧ C5_stands g u (nI s) bs = some x ∧ F8_isWord w bs = some x := by
  have hn := hb.1
  have hm := hw.1
  unfold C5_stands F8_isWord
  rw [hw.2.1, bS, bS, h6, h9, h10, nI_sub hse]
  by_cases q : e = s + m
  · have q1 : nI (e - s) = nI m := by rw [q]; congr 1; omega
    obtain ⟨x, k1, k2, k3, y, k4⟩ := wordL (g := g) hb hw hc ht h10 (by omega) m 0 FUEL (by omega) (by show m + 1 < 10000; omega)
    refine ⟨x, k1, fun hx => ⟨q, fun k hk => k2 hx k (by omega) hk⟩, ?_, ?_⟩
    · rw [if_pos q1]
      rcases k3 with ⟨e1, e2⟩ | ⟨e1, e2⟩
      · rw [show (0 : Int32) = nI 0 from rfl, e2, e1]; rfl
      · rw [show (0 : Int32) = nI 0 from rfl, e2, e1]; rfl
    · rw [if_pos q1, bS]
      show ((F8_isWord_L24 w bs FUEL (nI 0) (nI 1)).bind _) = _
      rw [k4, bS]
      dsimp only
      rw [nz_of k1, bS]
  · have q1 : ¬ nI (e - s) = nI m := nI_ne (by omega) (by omega) (by omega)
    refine ⟨nI 0, Or.inl rfl, fun hx => absurd hx.symm nz0, ?_, ?_⟩
    · rw [if_neg q1]; rfl
    · rw [if_neg q1, bS]
      show ((F8_isWord_L24 w bs (9999 + 1) (nI 0) (nI 0)).bind _) = _
      rw [F8_isWord_L24, if_pos (show nI 0 = (0 : Int32) from rfl), bS]
      dsimp only
      rw [nz_0, bS]
noncomputable def W_chip : List Int32 := [99, 104, 105, 112]
theorem w_chip : WDs W_chip 4 := ⟨by omega, by decide, fun k hk => by
  rcases (show k = 0 ∨ k = 1 ∨ k = 2 ∨ k = 3 by omega) with rfl | rfl | rfl | rfl <;> exact ⟨_, rfl⟩⟩
noncomputable def W_stripe : List Int32 := [115, 116, 114, 105, 112, 101]
theorem w_stripe : WDs W_stripe 6 := ⟨by omega, by decide, fun k hk => by
  rcases (show k = 0 ∨ k = 1 ∨ k = 2 ∨ k = 3 ∨ k = 4 ∨ k = 5 by omega) with rfl | rfl | rfl | rfl | rfl | rfl <;> exact ⟨_, rfl⟩⟩
noncomputable def W_print : List Int32 := [112, 114, 105, 110, 116]
theorem w_print : WDs W_print 5 := ⟨by omega, by decide, fun k hk => by
  rcases (show k = 0 ∨ k = 1 ∨ k = 2 ∨ k = 3 ∨ k = 4 by omega) with rfl | rfl | rfl | rfl | rfl <;> exact ⟨_, rfl⟩⟩
noncomputable def W_wheel : List Int32 := [119, 104, 101, 101, 108]
theorem w_wheel : WDs W_wheel 5 := ⟨by omega, by decide, fun k hk => by
  rcases (show k = 0 ∨ k = 1 ∨ k = 2 ∨ k = 3 ∨ k = 4 by omega) with rfl | rfl | rfl | rfl | rfl <;> exact ⟨_, rfl⟩⟩
noncomputable def W_rest : List Int32 := [114, 101, 115, 116]
theorem w_rest : WDs W_rest 4 := ⟨by omega, by decide, fun k hk => by
  rcases (show k = 0 ∨ k = 1 ∨ k = 2 ∨ k = 3 by omega) with rfl | rfl | rfl | rfl <;> exact ⟨_, rfl⟩⟩
noncomputable def W_lot : List Int32 := [108, 111, 116]
theorem w_lot : WDs W_lot 3 := ⟨by omega, by decide, fun k hk => by
  rcases (show k = 0 ∨ k = 1 ∨ k = 2 by omega) with rfl | rfl | rfl <;> exact ⟨_, rfl⟩⟩
noncomputable def W_card : List Int32 := [99, 97, 114, 100]
theorem w_card : WDs W_card 4 := ⟨by omega, by decide, fun k hk => by
  rcases (show k = 0 ∨ k = 1 ∨ k = 2 ∨ k = 3 by omega) with rfl | rfl | rfl | rfl <;> exact ⟨_, rfl⟩⟩
noncomputable def W_line : List Int32 := [108, 105, 110, 101]
theorem w_line : WDs W_line 4 := ⟨by omega, by decide, fun k hk => by
  rcases (show k = 0 ∨ k = 1 ∨ k = 2 ∨ k = 3 by omega) with rfl | rfl | rfl | rfl <;> exact ⟨_, rfl⟩⟩
theorem no_chip {b : Nat → Int32} {s e : Nat} (h : WMs b s e 4 W_line) : ¬ WMs b s e 4 W_chip := fun q => by
  have e1 := h.2 0 (by omega)
  rw [← q.2 0 (by omega)] at e1
  exact absurd e1 (by decide)
theorem no_stripe {b : Nat → Int32} {s e : Nat} (h : WMs b s e 4 W_line) : ¬ WMs b s e 6 W_stripe := fun q => by
  have := h.1; have := q.1; omega
theorem no_print {b : Nat → Int32} {s e : Nat} (h : WMs b s e 4 W_line) : ¬ WMs b s e 5 W_print := fun q => by
  have := h.1; have := q.1; omega
theorem no_wheel {b : Nat → Int32} {s e : Nat} (h : WMs b s e 4 W_line) : ¬ WMs b s e 5 W_wheel := fun q => by
  have := h.1; have := q.1; omega
theorem no_rest {b : Nat → Int32} {s e : Nat} (h : WMs b s e 4 W_line) : ¬ WMs b s e 4 W_rest := fun q => by
  have e1 := h.2 0 (by omega)
  rw [← q.2 0 (by omega)] at e1
  exact absurd e1 (by decide)
theorem no_lot {b : Nat → Int32} {s e : Nat} (h : WMs b s e 4 W_line) : ¬ WMs b s e 3 W_lot := fun q => by
  have := h.1; have := q.1; omega
theorem no_card {b : Nat → Int32} {s e : Nat} (h : WMs b s e 4 W_line) : ¬ WMs b s e 4 W_card := fun q => by
  have e1 := h.2 0 (by omega)
  rw [← q.2 0 (by omega)] at e1
  exact absurd e1 (by decide)
