noncomputable def sfl (b : Nat → Int32) : Nat → Nat → Nat
  | 0, _ => 1
  | d + 1, i => if 48 ≤ cd (b i) ∧ cd (b i) ≤ 57 then (if cd (b i) ≤ 49 then sfl b d (i + 1) else 0) else 1
theorem sfl_01 {b : Nat → Int32} : ∀ d i, sfl b d i = 0 ∨ sfl b d i = 1
  | 0, _ => Or.inr rfl
  | d + 1, i => by
    unfold sfl
    split
    · split
      · exact sfl_01 d (i + 1)
      · exact Or.inl rfl
    · exact Or.inr rfl
theorem scrLC {b : Nat → Int32} {n : Nat} {g : CG} {t1 : Int32 × RS} (hb : BB b n) : ∀ (d i f fl : Nat) (u : RS), i + d = n → d < f → fl ≤ 1 → TC b n u → u 0 6 = nI i → C5_readScript_L7 t1 g f (nI fl) u = some (nI (fl * sfl b d i), up u 0 6 (nI (dg b d i)))
  | 0, i, f, fl, u, h1, h2, hf, h3, h4 => by
    have hn := hb.1
    obtain ⟨f, rfl⟩ : ∃ m, f = m + 1 := ⟨f - 1, by omega⟩
    rw [C5_readScript_L7, h3.1, h4, if_pos (nI_le (by omega) (by omega))]
    show some (nI fl, u) = some (nI (fl * 1), up u 0 6 (nI i))
    rw [up_id h4, Nat.mul_one]
  | d + 1, i, f, fl, u, h1, h2, hf, h3, h4 => by
    have hn := hb.1
    obtain ⟨f, rfl⟩ : ∃ m, f = m + 1 := ⟨f - 1, by omega⟩
    have hbi := hb.2 i (by omega)
    rw [C5_readScript_L7, h3.1, h4, if_neg (nI_ge (by omega) (by omega)), rd_n (by omega) (by omega), bS, h3.2 i (by omega), dig_C hbi, bS, bS]
    unfold sfl dg
    by_cases c : 48 ≤ cd (b i) ∧ cd (b i) ≤ 57
    · rw [if_pos c, if_pos c, if_pos c, if_neg (show ¬ nI 1 = (0 : Int32) from nz0), pt_n]
      have hx := b_num hbi (by omega)
      have e1 : ((if nI fl = (0 : Int32) then (some (0 : Int32)) else (if (49 : Int32) < b i then (some (0 : Int32)) else (some (1 : Int32)))) : Option Int32) = some (nI (if cd (b i) ≤ 49 then fl else 0)) := by
        by_cases q : fl = 0
        · rw [q, if_pos (show nI 0 = (0 : Int32) from rfl)]; split <;> rfl
        · have q1 : fl = 1 := by omega
          rw [q1, if_neg (show ¬ nI 1 = (0 : Int32) from nz0), hx]
          by_cases r : cd (b i) ≤ 49
          · rw [if_neg (show ¬ (49 : Int32) < nI (cd (b i)) from nI_nlt (a := 49) (by omega) (by omega)), ← hx, if_pos r]; rfl
          · rw [if_pos (show (49 : Int32) < nI (cd (b i)) from nI_lt (a := 49) (by omega) (by omega)), ← hx, if_neg r]; rfl
      rw [e1, bS, bS, show nI i + 1 = nI (i + 1) from nI_add _ 1, scrLC hb d (i + 1) f (if cd (b i) ≤ 49 then fl else 0) (up u 0 6 (nI (i + 1))) (by omega) (by omega) (by split <;> omega) (h3.fr (FC.up (by omega))) up_eq, up_up]
      by_cases r : cd (b i) ≤ 49
      · rw [if_pos r, if_pos r]
      · rw [if_neg r, if_neg r, Nat.zero_mul, Nat.mul_zero]
    · rw [if_neg c, if_neg c, if_neg c, if_pos (show nI 0 = (0 : Int32) from rfl), up_id h4, Nat.mul_one]
theorem bit_s1 : ∀ c : Nat, c < 12 → ∀ m : Nat, m < 2 ^ c → nI m ||| (nI 1 <<< (nI c &&& 31)) = nI (m + 2 ^ c) := by decide +kernel
theorem bit_s0 : ∀ c : Nat, c < 12 → nI 0 <<< (nI c &&& 31) = nI 0 := by decide +kernel
theorem bit_y : ∀ y : Nat, y < 10 → (nI (48 + y) - 48) &&& 1 = nI (y % 2) := by decide +kernel
theorem bit_or0 (x : Int32) : x ||| nI 0 = x := by
  show x ||| 0 = x
  exact Int32.or_zero
theorem fl_and : ∀ x : Nat, x < 2 → ∀ y : Nat, y < 2 → nI x &&& nI y = nI (x * y) := by decide +kernel
theorem scrLW {b : Nat → Int32} {n : Nat} {a1 : Int32} (hb : BB b n) : ∀ (d i f c m fl : Nat) (w : RS), i + d = n → d < f → c ≤ i → fl ≤ 1 → m < 2 ^ (min c 12) → TW b n w → w 0 9 = nI i → ∃ m' fl', F8_scriptPart_L44 a1 f (nI fl) (nI m) (nI c) w = some (nI fl', nI m', nI (c + (dg b d i - i)), up w 0 9 (nI (dg b d i))) ∧ m' < 4096 ∧ fl' ≤ 1 ∧ (fl' = 1 ↔ fl = 1 ∧ sfl b d i = 1 ∧ (dg b d i = i ∨ c + (dg b d i - i) ≤ 12)) ∧ (fl' = 1 → (∀ k, k < c → m'.testBit k = m.testBit k) ∧ ∀ k, k < dg b d i - i → (m'.testBit (c + k) = true ↔ b (i + k) = nI 49))
  | 0, i, f, c, m, fl, w, h1, h2, hc, hf, hm, h3, h4 => by
    have hn := hb.1
    obtain ⟨f, rfl⟩ : ∃ m, f = m + 1 := ⟨f - 1, by omega⟩
    have h12 : 2 ^ (min c 12) ≤ 2 ^ 12 := Nat.pow_le_pow_right (by omega) (by omega)
    refine ⟨m, fl, ?_, by omega, hf, ⟨fun q => ⟨q, rfl, Or.inl rfl⟩, fun q => q.1⟩, fun _ => ⟨fun _ _ => rfl, fun k hk => ?_⟩⟩
    · rw [F8_scriptPart_L44, here_ok hb h3 h4 (by omega), bS, inB_hv (p := 48) (q := 57) (ch_le hb) rfl rfl (by omega) (by omega), ch_n (show n ≤ i by omega), if_neg (show ¬ (48 ≤ 256 ∧ 256 ≤ 57) by omega), if_pos (show nI 0 = (0 : Int32) from rfl)]
      show some (nI fl, nI m, nI c, w) = some (nI fl, nI m, nI (c + (i - i)), up w 0 9 (nI i))
      rw [up_id h4, Nat.sub_self, Nat.add_zero]
    · unfold dg at hk; omega
  | d + 1, i, f, c, m, fl, w, h1, h2, hc, hf, hm, h3, h4 => by
    have hn := hb.1
    obtain ⟨f, rfl⟩ : ∃ m, f = m + 1 := ⟨f - 1, by omega⟩
    have h12 : 2 ^ (min c 12) ≤ 2 ^ 12 := Nat.pow_le_pow_right (by omega) (by omega)
    have hbi := hb.2 i (by omega)
    have hl := ch_le (i := i) hb
    rw [ch_i (show i < n by omega)] at hl
    rw [F8_scriptPart_L44, here_ok hb h3 h4 (by omega), bS, inB_hv (p := 48) (q := 57) (ch_le hb) rfl rfl (by omega) (by omega), ch_i (show i < n by omega)]
    unfold sfl dg
    by_cases q : 48 ≤ cd (b i) ∧ cd (b i) ≤ 57
    · rw [if_pos q, if_pos q, if_pos q, if_neg (show ¬ nI 1 = (0 : Int32) from nz0), bS]
      have hx : hv (cd (b i)) = nI (cd (b i)) := (hv_eq hl (by omega)).mpr rfl
      have hdl := dg_le (b := b) d (i + 1)
      rw [hx]
      have ef : ((if (49 : Int32) < nI (cd (b i)) then (some (0 : Int32)) else (if (12 : Int32) ≤ nI c then (some (0 : Int32)) else (some (1 : Int32)))) : Option Int32) = some (nI (if cd (b i) ≤ 49 ∧ c < 12 then 1 else 0)) := by
        by_cases r : cd (b i) ≤ 49
        · rw [if_neg (show ¬ (49 : Int32) < nI (cd (b i)) from nI_nlt (a := 49) (by omega) (by omega))]
          by_cases r2 : c < 12
          · rw [if_neg (show ¬ (12 : Int32) ≤ nI c from nI_ge (b := 12) (by omega) (by omega)), if_pos ⟨r, r2⟩]; rfl
          · rw [if_pos (show (12 : Int32) ≤ nI c from nI_le (a := 12) (by omega) (by omega)), if_neg (fun z => r2 z.2)]; rfl
        · rw [if_pos (show (49 : Int32) < nI (cd (b i)) from nI_lt (a := 49) (by omega) (by omega)), if_neg (fun z => r z.1)]; rfl
      rw [ef, bS]
      have em : ∃ M, nI m ||| (if c < 12 then ((nI (cd (b i)) - 48) &&& 1) <<< (nI c &&& 31) else nI 0) = nI M ∧ M < 2 ^ (min (c + 1) 12) ∧ (c < 12 → (∀ k, k < c → M.testBit k = m.testBit k) ∧ (cd (b i) ≤ 49 → (M.testBit c = true ↔ b i = nI 49))) := by
        by_cases r2 : c < 12
        · rw [if_pos r2]
          have ey := bit_y (cd (b i) - 48) (by omega)
          rw [show 48 + (cd (b i) - 48) = cd (b i) by omega] at ey
          rw [ey]
          rw [show min c 12 = c by omega] at hm
          have hmc : m.testBit c = false := Nat.testBit_lt_two_pow hm
          have hpow : 2 ^ (c + 1) = 2 ^ c + 2 ^ c := by rw [Nat.pow_succ]; omega
          have e49 : cd (b i) ≤ 49 → (b i = nI 49 ↔ (cd (b i) - 48) % 2 = 1) := fun z => by
            rw [b_eq hbi (c := 49) (by omega)]; omega
          rcases (show (cd (b i) - 48) % 2 = 0 ∨ (cd (b i) - 48) % 2 = 1 by omega) with y | y
          · rw [y, bit_s0 c r2, bit_or0]
            refine ⟨m, rfl, by rw [show min (c + 1) 12 = c + 1 by omega]; omega, fun _ => ⟨fun _ _ => rfl, fun z => ?_⟩⟩
            rw [hmc, e49 z, y]; decide
          · rw [y, bit_s1 c r2 m hm]
            refine ⟨m + 2 ^ c, rfl, by rw [show min (c + 1) 12 = c + 1 by omega]; omega, fun _ => ⟨fun k hk => ?_, fun z => ?_⟩⟩
            · rw [Nat.add_comm, Nat.testBit_two_pow_add_gt hk]
            · rw [Nat.add_comm, Nat.testBit_two_pow_add_eq, hmc, e49 z, y]; decide
        · rw [if_neg r2, bit_or0]
          exact ⟨m, rfl, by rw [show min (c + 1) 12 = min c 12 by omega]; exact hm, fun z => absurd z r2⟩
      obtain ⟨M, eM, hM, hB⟩ := em
      have eg : ((if (12 : Int32) ≤ nI c then (some (0 : Int32)) else ((F8_here w).bind fun x45 => some (((x45 - 48) &&& 1) <<< (nI c &&& 31)))) : Option Int32) = some (if c < 12 then ((nI (cd (b i)) - 48) &&& 1) <<< (nI c &&& 31) else nI 0) := by
        by_cases r2 : c < 12
        · rw [if_neg (show ¬ (12 : Int32) ≤ nI c from nI_ge (b := 12) (by omega) (by omega)), if_pos r2, here_ok hb h3 h4 (by omega), bS, ch_i (show i < n by omega), hx]
        · rw [if_pos (show (12 : Int32) ≤ nI c from nI_le (a := 12) (by omega) (by omega)), if_neg r2]; rfl
      rw [here_ok hb h3 h4 (by omega), ch_i (show i < n by omega), hx] at eg
      rw [eg, bS, pt_n, bS, h4, eM, fl_and fl (by omega) _ (by split <;> omega), show nI i + 1 = nI (i + 1) from nI_add _ 1, show nI c + 1 = nI (c + 1) from nI_add _ 1]
      obtain ⟨m', fl', k1, k2, k3, k4, k5⟩ := scrLW (a1 := a1) hb d (i + 1) f (c + 1) M (fl * if cd (b i) ≤ 49 ∧ c < 12 then 1 else 0) (up w 0 9 (nI (i + 1))) (by omega) (by omega) (by omega) (by split <;> omega) hM (h3.fr (FW.up (by omega))) up_eq
      refine ⟨m', fl', ?_, k2, k3, ?_, fun z => ?_⟩
      · rw [k1, up_up]
        have : c + 1 + (dg b d (i + 1) - (i + 1)) = c + (dg b d (i + 1) - i) := by omega
        rw [this]
      · rw [k4]
        by_cases r : cd (b i) ≤ 49
        · rw [if_pos r]
          by_cases r2 : c < 12
          · rw [if_pos ⟨r, r2⟩, Nat.mul_one]
            constructor
            · intro z; exact ⟨z.1, z.2.1, by omega⟩
            · intro z; exact ⟨z.1, z.2.1, by omega⟩
          · rw [if_neg (fun z => r2 z.2), Nat.mul_zero]
            constructor
            · intro z; omega
            · intro z; omega
        · rw [if_neg r, if_neg (fun z => r z.1), Nat.mul_zero]
          constructor
          · intro z; omega
          · intro z; omega
      · have z4 := k4.mp z
        have r : cd (b i) ≤ 49 ∧ c < 12 := by
          by_cases r : cd (b i) ≤ 49 ∧ c < 12
          · exact r
          · rw [if_neg r, Nat.mul_zero] at z4; omega
        obtain ⟨B1, B2⟩ := hB r.2
        obtain ⟨k5a, k5b⟩ := k5 z
        refine ⟨fun k hk => (k5a k (by omega)).trans (B1 k hk), fun k hk => ?_⟩
        by_cases e : k = 0
        · subst e
          rw [Nat.add_zero, Nat.add_zero, k5a c (by omega)]
          exact B2 r.1
        · have := k5b (k - 1) (by omega)
          rw [show c + 1 + (k - 1) = c + k by omega, show i + 1 + (k - 1) = i + k by omega] at this
          exact this
    · rw [if_neg q, if_neg q, if_neg q, if_pos (show nI 0 = (0 : Int32) from rfl)]
      refine ⟨m, fl, by rw [up_id h4, Nat.sub_self, Nat.add_zero], by omega, hf, ⟨fun z => ⟨z, rfl, Or.inl rfl⟩, fun z => z.1⟩, fun _ => ⟨fun _ _ => rfl, fun k hk => by omega⟩⟩
theorem bit_t0 : ∀ k : Nat, k < 12 → ∀ a : Nat, a < 64 → ∀ r : Nat, r < 64 → ((nI (64 * a + r) >>> nI k) &&& nI 1 = nI 1 ↔ (64 * a + r).testBit k = true) := by decide +kernel
theorem bit_t {m k : Nat} (hm : m < 4096) (hk : k < 12) : (nI m >>> nI k) &&& nI 1 = nI 1 ↔ m.testBit k = true := by
  have := bit_t0 k hk (m / 64) (by omega) (m % 64) (by omega)
  rw [show 64 * (m / 64) + m % 64 = m by omega] at this
  exact this
theorem fits_b {x : Int32} (h : BYT x) : fits .byte (.int x) = true := by
  show (decide ((-128 : Int32) ≤ x) && decide (x ≤ (127 : Int32))) = true
  have h1 : (-128 : Int32) ≤ x := by rw [Int32.le_iff_toInt_le]; exact h.1
  have h2 : x ≤ (127 : Int32) := by rw [Int32.le_iff_toInt_le]; have := h.2; show x.toInt ≤ 127; omega
  rw [decide_eq_true h1, decide_eq_true h2]; rfl
theorem cpo_b {n0 n1 n sp dp : Nat} {f : Nat → Int32} (h0 : sp + n ≤ n0) (h1 : dp + n ≤ n1) (hn0 : n0 < 2 ^ 31) (hn1 : n1 < 2 ^ 31) (hb : ∀ i, i < n → BYT (f (sp + i))) : cpo n0 n1 f true (nI sp) (nI dp) (nI n) = some n := by
  unfold cpo
  rw [nI_toInt (by omega), nI_toInt (by omega), nI_toInt (by omega), nI_clamp (by omega), nI_clamp (by omega), nI_clamp (by omega)]
  exact if_pos ⟨⟨by omega, by omega, by omega, h0, h1⟩, fun _ i hi => fits_b (hb i hi)⟩
theorem al_n {g : CG} {u : RS} {n : Nat} (hn : n ≤ 16) (hg : g.nt < 1000000) (ht : TI g u) : al g u (nI n) = some (nI (g.nt + 1)) := by
  unfold al
  rw [nI_toInt (by omega)]
  exact if_pos ⟨⟨by omega, by omega, hg⟩, ht⟩
noncomputable def NT (g : CG) (u u2 : RS) (n : Nat) (f : Nat → Int32) : Prop := u2 (500 + (g.nt + 1)) 0 = nI n ∧ (∀ k, k < n → u2 (500 + (g.nt + 1)) (1 + k) = f k) ∧ ∀ R, R ≠ 500 + (g.nt + 1) → u2 R = u R
theorem copyRange {b : Nat → Int32} {n s e : Nat} {g : CG} {u : RS} (hb : BB b n) (h : TC b n u) (h1 : 1 ≤ s) (hse : s ≤ e) (he : e ≤ n) (h12 : e - s ≤ 12) (hg : g.nt < 1000000) (ht : TI g u) : ∃ u2, C_J7_copyOfRange_39247_tb g u (nI s) (nI e) = some (nI (g.nt + 1), ga g, u2) ∧ NT g u u2 (e - s) (fun k => b (s + k)) := by
  have hn := hb.1
  unfold C_J7_copyOfRange_39247_tb C_J7_copyOfRangeByte_39247_tb C_J7_checkLength_df160
  rw [if_neg (show ¬ nI s = (0 : Int32) from nI_ne (b := 0) (by omega) (by omega) (by omega)), if_pos (nI_le hse (by omega)), bS, nI_sub hse, al_n (by omega) hg ht, bS, bS, bS, nI_clamp (by omega)]
  have e0 : ut g u (nI (e - s)) (500 + (g.nt + 1)) = fun i => if i = 0 then nI (e - s) else 0 := rw_eq
  have e3 : ut g u (nI (e - s)) 3 = u 3 := rw_ne (by omega)
  have em : (if nI (e - s) < (600 : Int32) - nI s then nI (e - s) else (600 : Int32) - nI s) = nI (e - s) := by
    show (if nI (e - s) < nI 600 - nI s then nI (e - s) else nI 600 - nI s) = nI (e - s)
    rw [nI_sub (by omega)]
    by_cases q : e - s < 600 - s
    · rw [if_pos (nI_lt q (by omega))]
    · rw [if_neg (nI_nlt (by omega) (by omega))]; congr 1; omega
  rw [em, e0, e3]
  simp only [if_true]
  rw [nI_clamp (by omega), show (0 : Int32) = nI 0 from rfl, cpo_b (sp := s) (dp := 0) (n := e - s) (by omega) (by omega) (by omega) (by omega) (fun i hi => by rw [h.2 _ (by omega)]; exact hb.2 _ (by omega)), bS, bS, nI_clamp (by omega), nI_clamp (by omega), bS]
  refine ⟨_, rfl, ?_, fun k hk => ?_, fun R hR => ?_⟩
  · unfold cpR; dsimp only
    rw [rw_eq, if_neg (by omega), e0]; rfl
  · unfold cpR; dsimp only
    rw [rw_eq, if_pos (by omega), show s + (1 + k - (1 + 0)) = s + k by omega]
    exact h.2 _ (by omega)
  · unfold cpR ut; dsimp only
    rw [rw_ne hR, rw_ne hR]
