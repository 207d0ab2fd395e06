section
noncomputable def sfl (b : Nat → Int32) : Nat → Nat → Nat
  | 0, _ => 1
  | d + 1, i => if 48 ≤ cd (b i) ∧ cd (b i) ≤ 57 then (if cd (b i) ≤ 49 then sfl b d (i + 1) else 0) else 1
theorem sfl_01 {b : Nat → Int32} : ∀ d i, sfl b d i = 0 ∨ sfl b d i = 1
  | 0, _ => Or.inr rfl
  | d + 1, i => by
    unfold sfl
    split
    · split
      · exact sfl_01 d (i + 1)
      · exact Or.inl rfl
    · exact Or.inr rfl
theorem scrLC {b : Nat → Int32} {n : Nat} {g : CG} {t1 : Int32 × RS} (hb : BB b n) : ∀ (d i f fl : Nat) (u : RS), i + d = n → d < f → fl ≤ 1 → TC b n u → u 0 6 = nI i → C5_readScript_L7 t1 g f (nI fl) u = some (nI (fl * sfl b d i), up u 0 6 (nI (dg b d i)))
  | 0, i, f, fl, u, h1, h2, hf, h3, h4 => by
    have hn := hb.1
    obtain ⟨f, rfl⟩ : ∃ m, f = m + 1 := ⟨f - 1, by omega⟩
    rw [C5_readScript_L7, h3.1, h4, if_pos (nI_le (by omega) (by omega))]
    show some (nI fl, u) = some (nI (fl * 1), up u 0 6 (nI i))
    rw [up_id h4, Nat.mul_one]
  | d + 1, i, f, fl, u, h1, h2, hf, h3, h4 => by
    have hn := hb.1
    obtain ⟨f, rfl⟩ : ∃ m, f = m + 1 := ⟨f - 1, by omega⟩
    have hbi := hb.2 i (by omega)
    rw [C5_readScript_L7, h3.1, h4, if_neg (nI_ge (by omega) (by omega)), rd_n (by omega) (by omega), bS, h3.2 i (by omega), dig_C hbi, bS, bS]
    unfold sfl dg
    by_cases c : 48 ≤ cd (b i) ∧ cd (b i) ≤ 57
    · rw [if_pos c, if_pos c, if_pos c, if_neg (show ¬ nI 1 = (0 : Int32) from nz0), pt_n]
      have hx := b_num hbi (by omega)
      have e1 : ((if nI fl = (0 : Int32) then (some (0 : Int32)) else (if (49 : Int32) < b i then (some (0 : Int32)) else (some (1 : Int32)))) : Option Int32) = some (nI (if cd (b i) ≤ 49 then fl else 0)) := by
        by_cases q : fl = 0
        · rw [q, if_pos (show nI 0 = (0 : Int32) from rfl)]; split <;> rfl
        · have q1 : fl = 1 := by omega
          rw [q1, if_neg (show ¬ nI 1 = (0 : Int32) from nz0), hx]
          by_cases r : cd (b i) ≤ 49
          · rw [if_neg (show ¬ (49 : Int32) < nI (cd (b i)) from nI_nlt (a := 49) (by omega) (by omega)), ← hx, if_pos r]; rfl
          · rw [if_pos (show (49 : Int32) < nI (cd (b i)) from nI_lt (a := 49) (by omega) (by omega)), ← hx, if_neg r]; rfl
      rw [e1, bS, bS, show nI i + 1 = nI (i + 1) from nI_add _ 1, scrLC hb d (i + 1) f (if cd (b i) ≤ 49 then fl else 0) (up u 0 6 (nI (i + 1))) (by omega) (by omega) (by split <;> omega) (h3.fr (FC.up (by omega))) up_eq, up_up]
      by_cases r : cd (b i) ≤ 49
      · rw [if_pos r, if_pos r]
      · rw [if_neg r, if_neg r, Nat.zero_mul, Nat.mul_zero]
    · rw [if_neg c, if_neg c, if_neg c, if_pos (show nI 0 = (0 : Int32) from rfl), up_id h4, Nat.mul_one]
theorem bit_s1 : ∀ c : Nat, c < 12 → ∀ m : Nat, m < 2 ^ c → nI m ||| (nI 1 <<< (nI c &&& 31)) = nI (m + 2 ^ c) := by decide +kernel
theorem bit_s0 : ∀ c : Nat, c < 12 → nI 0 <<< (nI c &&& 31) = nI 0 := by decide +kernel
theorem bit_y : ∀ y : Nat, y < 10 → (nI (48 + y) - 48) &&& 1 = nI (y % 2) := by decide +kernel
theorem bit_or0 (x : Int32) : x ||| nI 0 = x := by
  show x ||| 0 = x
  exact Int32.or_zero
theorem fl_and : ∀ x : Nat, x < 2 → ∀ y : Nat, y < 2 → nI x &&& nI y = nI (x * y) := by decide +kernel
theorem scrLW {b : Nat → Int32} {n : Nat} {a1 : Int32} (hb : BB b n) : ∀ (d i f c m fl : Nat) (w : RS), i + d = n → d < f → c ≤ i → fl ≤ 1 → m < 2 ^ (min c 12) → TW b n w → w 0 9 = nI i → ∃ m' fl', F8_scriptPart_L44 a1 f (nI fl) (nI m) (nI c) w = some (nI fl', nI m', nI (c + (dg b d i - i)), up w 0 9 (nI (dg b d i))) ∧ m' < 4096 ∧ fl' ≤ 1 ∧ (fl' = 1 ↔ fl = 1 ∧ sfl b d i = 1 ∧ (dg b d i = i ∨ c + (dg b d i - i) ≤ 12)) ∧ (fl' = 1 → (∀ k, k < c → m'.testBit k = m.testBit k) ∧ ∀ k, k < dg b d i - i → (m'.testBit (c + k) = true ↔ b (i + k) = nI 49))
  | 0, i, f, c, m, fl, w, h1, h2, hc, hf, hm, h3, h4 => by
    have hn := hb.1
    obtain ⟨f, rfl⟩ : ∃ m, f = m + 1 := ⟨f - 1, by omega⟩
    have h12 : 2 ^ (min c 12) ≤ 2 ^ 12 := Nat.pow_le_pow_right (by omega) (by omega)
    refine ⟨m, fl, ?_, by omega, hf, ⟨fun q => ⟨q, rfl, Or.inl rfl⟩, fun q => q.1⟩, fun _ => ⟨fun _ _ => rfl, fun k hk => ?_⟩⟩
    · rw [F8_scriptPart_L44, here_ok hb h3 h4 (by omega), bS, inB_hv (p := 48) (q := 57) (ch_le hb) rfl rfl (by omega) (by omega), ch_n (show n ≤ i by omega), if_neg (show ¬ (48 ≤ 256 ∧ 256 ≤ 57) by omega), if_pos (show nI 0 = (0 : Int32) from rfl)]
      show some (nI fl, nI m, nI c, w) = some (nI fl, nI m, nI (c + (i - i)), up w 0 9 (nI i))
      rw [up_id h4, Nat.sub_self, Nat.add_zero]
    · unfold dg at hk; omega
  | d + 1, i, f, c, m, fl, w, h1, h2, hc, hf, hm, h3, h4 => by
    have hn := hb.1
    obtain ⟨f, rfl⟩ : ∃ m, f = m + 1 := ⟨f - 1, by omega⟩
    have h12 : 2 ^ (min c 12) ≤ 2 ^ 12 := Nat.pow_le_pow_right (by omega) (by omega)
    have hbi := hb.2 i (by omega)
    have hl := ch_le (i := i) hb
    rw [ch_i (show i < n by omega)] at hl
    rw [F8_scriptPart_L44, here_ok hb h3 h4 (by omega), bS, inB_hv (p := 48) (q := 57) (ch_le hb) rfl rfl (by omega) (by omega), ch_i (show i < n by omega)]
    unfold sfl dg
    by_cases q : 48 ≤ cd (b i) ∧ cd (b i) ≤ 57
    · rw [if_pos q, if_pos q, if_pos q, if_neg (show ¬ nI 1 = (0 : Int32) from nz0), bS]
      have hx : hv (cd (b i)) = nI (cd (b i)) := (hv_eq hl (by omega)).mpr rfl
      have hdl := dg_le (b := b) d (i + 1)
      rw [hx]
      have ef : ((if (49 : Int32) < nI (cd (b i)) then (some (0 : Int32)) else (if (12 : Int32) ≤ nI c then (some (0 : Int32)) else (some (1 : Int32)))) : Option Int32) = some (nI (if cd (b i) ≤ 49 ∧ c < 12 then 1 else 0)) := by
        by_cases r : cd (b i) ≤ 49
        · rw [if_neg (show ¬ (49 : Int32) < nI (cd (b i)) from nI_nlt (a := 49) (by omega) (by omega))]
          by_cases r2 : c < 12
          · rw [if_neg (show ¬ (12 : Int32) ≤ nI c from nI_ge (b := 12) (by omega) (by omega)), if_pos ⟨r, r2⟩]; rfl
          · rw [if_pos (show (12 : Int32) ≤ nI c from nI_le (a := 12) (by omega) (by omega)), if_neg (fun z => r2 z.2)]; rfl
        · rw [if_pos (show (49 : Int32) < nI (cd (b i)) from nI_lt (a := 49) (by omega) (by omega)), if_neg (fun z => r z.1)]; rfl
      rw [ef, bS]
      have em : ∃ M, nI m ||| (if c < 12 then ((nI (cd (b i)) - 48) &&& 1) <<< (nI c &&& 31) else nI 0) = nI M ∧ M < 2 ^ (min (c + 1) 12) ∧ (c < 12 → (∀ k, k < c → M.testBit k = m.testBit k) ∧ (cd (b i) ≤ 49 → (M.testBit c = true ↔ b i = nI 49))) := by
        by_cases r2 : c < 12
        · rw [if_pos r2]
          have ey := bit_y (cd (b i) - 48) (by omega)
          rw [show 48 + (cd (b i) - 48) = cd (b i) by omega] at ey
          rw [ey]
          rw [show min c 12 = c by omega] at hm
          have hmc : m.testBit c = false := Nat.testBit_lt_two_pow hm
          have hpow : 2 ^ (c + 1) = 2 ^ c + 2 ^ c := by rw [Nat.pow_succ]; omega
          have e49 : cd (b i) ≤ 49 → (b i = nI 49 ↔ (cd (b i) - 48) % 2 = 1) := fun z => by
            rw [b_eq hbi (c := 49) (by omega)]; omega
          rcases (show (cd (b i) - 48) % 2 = 0 ∨ (cd (b i) - 48) % 2 = 1 by omega) with y | y
          · rw [y, bit_s0 c r2, bit_or0]
            refine ⟨m, rfl, by rw [show min (c + 1) 12 = c + 1 by omega]; omega, fun _ => ⟨fun _ _ => rfl, fun z => ?_⟩⟩
            rw [hmc, e49 z, y]; decide
          · rw [y, bit_s1 c r2 m hm]
            refine ⟨m + 2 ^ c, rfl, by rw [show min (c + 1) 12 = c + 1 by omega]; omega, fun _ => ⟨fun k hk => ?_, fun z => ?_⟩⟩
            · rw [Nat.add_comm, Nat.testBit_two_pow_add_gt hk]
            · rw [Nat.add_comm, Nat.testBit_two_pow_add_eq, hmc, e49 z, y]; decide
        · rw [if_neg r2, bit_or0]
          exact ⟨m, rfl, by rw [show min (c + 1) 12 = min c 12 by omega]; exact hm, fun z => absurd z r2⟩
      obtain ⟨M, eM, hM, hB⟩ := em
      have eg : ((if (12 : Int32) ≤ nI c then (some (0 : Int32)) else ((F8_here w).bind fun x45 => some (((x45 - 48) &&& 1) <<< (nI c &&& 31)))) : Option Int32) = some (if c < 12 then ((nI (cd (b i)) - 48) &&& 1) <<< (nI c &&& 31) else nI 0) := by
        by_cases r2 : c < 12
        · rw [if_neg (show ¬ (12 : Int32) ≤ nI c from nI_ge (b := 12) (by omega) (by omega)), if_pos r2, here_ok hb h3 h4 (by omega), bS, ch_i (show i < n by omega), hx]
        · rw [if_pos (show (12 : Int32) ≤ nI c from nI_le (a := 12) (by omega) (by omega)), if_neg r2]; rfl
      rw [here_ok hb h3 h4 (by omega), ch_i (show i < n by omega), hx] at eg
      rw [eg, bS, pt_n, bS, h4, eM, fl_and fl (by omega) _ (by split <;> omega), show nI i + 1 = nI (i + 1) from nI_add _ 1, show nI c + 1 = nI (c + 1) from nI_add _ 1]
      obtain ⟨m', fl', k1, k2, k3, k4, k5⟩ := scrLW (a1 := a1) hb d (i + 1) f (c + 1) M (fl * if cd (b i) ≤ 49 ∧ c < 12 then 1 else 0) (up w 0 9 (nI (i + 1))) (by omega) (by omega) (by omega) (by split <;> omega) hM (h3.fr (FW.up (by omega))) up_eq
      refine ⟨m', fl', ?_, k2, k3, ?_, fun z => ?_⟩
      · rw [k1, up_up]
        have : c + 1 + (dg b d (i + 1) - (i + 1)) = c + (dg b d (i + 1) - i) := by omega
        rw [this]
      · rw [k4]
        by_cases r : cd (b i) ≤ 49
        · rw [if_pos r]
          by_cases r2 : c < 12
          · rw [if_pos ⟨r, r2⟩, Nat.mul_one]
            constructor
            · intro z; exact ⟨z.1, z.2.1, by omega⟩
            · intro z; exact ⟨z.1, z.2.1, by omega⟩
          · rw [if_neg (fun z => r2 z.2), Nat.mul_zero]
            constructor
            · intro z; omega
            · intro z; omega
        · rw [if_neg r, if_neg (fun z => r z.1), Nat.mul_zero]
          constructor
          · intro z; omega
          · intro z; omega
      · have z4 := k4.mp z
        have r : cd (b i) ≤ 49 ∧ c < 12 := by
          by_cases r : cd (b i) ≤ 49 ∧ c < 12
          · exact r
          · rw [if_neg r, Nat.mul_zero] at z4; omega
        obtain ⟨B1, B2⟩ := hB r.2
        obtain ⟨k5a, k5b⟩ := k5 z
        refine ⟨fun k hk => (k5a k (by omega)).trans (B1 k hk), fun k hk => ?_⟩
        by_cases e : k = 0
        · subst e
          rw [Nat.add_zero, Nat.add_zero, k5a c (by omega)]
          exact B2 r.1
        · have := k5b (k - 1) (by omega)
          rw [show c + 1 + (k - 1) = c + k by omega, show i + 1 + (k - 1) = i + k by omega] at this
          exact this
    · rw [if_neg q, if_neg q, if_neg q, if_pos (show nI 0 = (0 : Int32) from rfl)]
      refine ⟨m, fl, by rw [up_id h4, Nat.sub_self, Nat.add_zero], by omega, hf, ⟨fun z => ⟨z, rfl, Or.inl rfl⟩, fun z => z.1⟩, fun _ => ⟨fun _ _ => rfl, fun k hk => by omega⟩⟩
theorem bit_sh (m k : Nat) (hk : k < 12) : (nI m >>> nI k).toBitVec = (BitVec.ofNat 32 m).sshiftRight k := by
  have e : ∀ k : Nat, k < 12 → ((nI k).toBitVec.smod 32).toNat = k := by decide +kernel
  show (BitVec.ofNat 32 m).sshiftRight ((nI k).toBitVec.smod 32).toNat = _
  rw [e k hk]
theorem bit_t {m k : Nat} (hm : m < 4096) (hk : k < 12) : (nI m >>> nI k) &&& nI 1 = nI 1 ↔ m.testBit k = true := by
  have h1 : ((nI m >>> nI k) &&& nI 1).toBitVec = (BitVec.ofNat 32 m).sshiftRight k &&& 1#32 := by
    show (nI m >>> nI k).toBitVec &&& (nI 1).toBitVec = _
    rw [bit_sh m k hk]; rfl
  have h2 : ((BitVec.ofNat 32 m).sshiftRight k).getLsbD 0 = m.testBit k := by
    rw [BitVec.getLsbD_sshiftRight, BitVec.getLsbD_ofNat]
    have hk2 : k < 32 := by omega
    simp [hk2]
  constructor
  · intro h
    have h3 : (BitVec.ofNat 32 m).sshiftRight k &&& 1#32 = 1#32 := by rw [← h1, h]; rfl
    have h4 := congrArg (fun x : BitVec 32 => x.getLsbD 0) h3
    simp only [BitVec.getLsbD_and, h2] at h4
    simpa using h4
  · intro h
    have h3 : (BitVec.ofNat 32 m).sshiftRight k &&& 1#32 = 1#32 := by
      apply BitVec.eq_of_getLsbD_eq
      intro i hi
      rw [BitVec.getLsbD_and]
      by_cases e : i = 0
      · subst e; rw [h2, h]; rfl
      · have : (1#32).getLsbD i = false := by simp [BitVec.getLsbD_one, e]
        rw [this, Bool.and_false]
    exact Int32.toBitVec_inj.mp (h1.trans h3)
theorem fits_b {x : Int32} (h : BYT x) : fits .byte (.int x) = true := by
  show (decide ((-128 : Int32) ≤ x) && decide (x ≤ (127 : Int32))) = true
  have h1 : (-128 : Int32) ≤ x := by rw [Int32.le_iff_toInt_le]; exact h.1
  have h2 : x ≤ (127 : Int32) := by rw [Int32.le_iff_toInt_le]; have := h.2; show x.toInt ≤ 127; omega
  rw [decide_eq_true h1, decide_eq_true h2]; rfl
theorem cpo_b {n0 n1 n sp dp : Nat} {f : Nat → Int32} (h0 : sp + n ≤ n0) (h1 : dp + n ≤ n1) (hn0 : n0 < 2 ^ 31) (hn1 : n1 < 2 ^ 31) (hb : ∀ i, i < n → BYT (f (sp + i))) : cpo n0 n1 f true (nI sp) (nI dp) (nI n) = some n := by
  unfold cpo
  rw [nI_toInt (by omega), nI_toInt (by omega), nI_toInt (by omega), nI_clamp (by omega), nI_clamp (by omega), nI_clamp (by omega)]
  exact if_pos ⟨⟨by omega, by omega, by omega, h0, h1⟩, fun _ i hi => fits_b (hb i hi)⟩
theorem al_n {g : CG} {u : RS} {n : Nat} (hn : n ≤ 16) (hg : g.nt < 1000000) (ht : TI g u) : al g u (nI n) = some (nI (g.nt + 1)) := by
  unfold al
  rw [nI_toInt (by omega)]
  exact if_pos ⟨⟨by omega, by omega, hg⟩, ht⟩
noncomputable def NT (g : CG) (u u2 : RS) (n : Nat) (f : Nat → Int32) : Prop := u2 (500 + (g.nt + 1)) 0 = nI n ∧ (∀ k, k < n → u2 (500 + (g.nt + 1)) (1 + k) = f k) ∧ ∀ R, R ≠ 500 + (g.nt + 1) → u2 R = u R
theorem copyRange {b : Nat → Int32} {n s e : Nat} {g : CG} {u : RS} (hb : BB b n) (h : TC b n u) (h1 : 1 ≤ s) (hse : s ≤ e) (he : e ≤ n) (h12 : e - s ≤ 12) (hg : g.nt < 1000000) (ht : TI g u) : ∃ u2, C_J7_copyOfRange_39247_tb g u (nI s) (nI e) = some (nI (g.nt + 1), ga g, u2) ∧ NT g u u2 (e - s) (fun k => b (s + k)) := by
  have hn := hb.1
  unfold C_J7_copyOfRange_39247_tb C_J7_copyOfRangeByte_39247_tb C_J7_checkLength_df160
  rw [if_neg (show ¬ nI s = (0 : Int32) from nI_ne (b := 0) (by omega) (by omega) (by omega)), if_pos (nI_le hse (by omega)), bS, nI_sub hse, al_n (by omega) hg ht, bS, bS, bS, nI_clamp (by omega)]
  have e0 : ut g u (nI (e - s)) (500 + (g.nt + 1)) = fun i => if i = 0 then nI (e - s) else 0 := rw_eq
  have e3 : ut g u (nI (e - s)) 3 = u 3 := rw_ne (by omega)
  have em : (if nI (e - s) < (600 : Int32) - nI s then nI (e - s) else (600 : Int32) - nI s) = nI (e - s) := by
    show (if nI (e - s) < nI 600 - nI s then nI (e - s) else nI 600 - nI s) = nI (e - s)
    rw [nI_sub (by omega)]
    by_cases q : e - s < 600 - s
    · rw [if_pos (nI_lt q (by omega))]
    · rw [if_neg (nI_nlt (by omega) (by omega))]; congr 1; omega
  rw [em, e0, e3]
  simp only [if_true]
  rw [nI_clamp (by omega), show (0 : Int32) = nI 0 from rfl, cpo_b (sp := s) (dp := 0) (n := e - s) (by omega) (by omega) (by omega) (by omega) (fun i hi => by rw [h.2 _ (by omega)]; exact hb.2 _ (by omega)), bS, bS, nI_clamp (by omega), nI_clamp (by omega), bS]
  refine ⟨_, rfl, ?_, fun k hk => ?_, fun R hR => ?_⟩
  · unfold cpR; dsimp only
    rw [rw_eq, if_neg (by omega), e0]; rfl
  · unfold cpR; dsimp only
    rw [rw_eq, if_pos (by omega), show s + (1 + k - (1 + 0)) = s + k by omega]
    exact h.2 _ (by omega)
  · unfold cpR ut; dsimp only
    rw [rw_ne hR, rw_ne hR]
end
section
theorem TI_fc {g : CG} {u u' : RS} (h : TI g u) (f : FC u' u) : TI g u' := fun L hL => by
  rw [f.1 _ (by omega)]; exact h L hL
noncomputable def FW1 (w' w : RS) : Prop := (∀ R, R ≠ 0 → R ≠ 1 → w' R = w R) ∧ ∀ i, i ≠ 9 → i ≠ 10 → i ≠ 11 → i ≠ 12 → w' 0 i = w 0 i
theorem FW.w1 {w' w : RS} (h : FW w' w) : FW1 w' w := ⟨fun R a _ => h.1 R a, h.2⟩
theorem FW1.trans {a b c : RS} (h : FW1 a b) (h2 : FW1 b c) : FW1 a c := ⟨fun R q r => (h.1 R q r).trans (h2.1 R q r), fun i o p q r => (h.2 i o p q r).trans (h2.2 i o p q r)⟩
theorem FW1.up {u : RS} {i : Nat} {x : Int32} : FW1 (up u 1 i x) u := ⟨fun R _ r => up_or r, fun j a b c d => up_ne (by omega)⟩
theorem TW.fr1 {b : Nat → Int32} {n : Nat} {u u' : RS} (h : TW b n u) (f : FW1 u' u) : TW b n u' := ⟨(f.2 8 (by decide) (by decide) (by decide) (by decide)).trans h.1, fun k q => by rw [f.1 6 (by decide) (by decide)]; exact h.2 k q⟩
theorem ERs.w1 {b : Nat → Int32} {n i : Nat} {u w : RS} {x : Int32} (h : ERs b n u w) : ERs b n u (up w 1 i x) := by
  obtain ⟨h1, h2, h3, e, p, q1, q2, q3, q4, q5, q6, q7⟩ := h
  exact ⟨h1, h2.fr1 FW1.up, h3, e, p, q1, q2, q3, q4, by rw [up_ne (by omega)]; exact q5, q6, by rw [up_ne (by omega)]; exact q7⟩
theorem OKs.w1 {b : Nat → Int32} {n j i : Nat} {u w : RS} {x : Int32} (h : OKs b n j u w) : OKs b n j u (up w 1 i x) := by
  obtain ⟨h1, h2, h3, q1, q2, q3, q4⟩ := h
  exact ⟨h1, h2.fr1 FW1.up, h3, q1, by rw [up_ne (by omega)]; exact q2, q3, by rw [up_ne (by omega)]; exact q4⟩
theorem OKs.nt {b : Nat → Int32} {n j len : Nat} {g : CG} {u u2 w : RS} {f : Nat → Int32} (h : OKs b n j u w) (ht : NT g u u2 len f) : OKs b n j u2 w := by
  obtain ⟨h1, h2, h3, q1, q2, q3, q4⟩ := h
  have e0 : u2 0 = u 0 := ht.2.2 0 (by omega)
  have e3 : u2 3 = u 3 := ht.2.2 3 (by omega)
  exact ⟨⟨by rw [e0]; exact h1.1, fun k hk => by rw [e3]; exact h1.2 k hk⟩, h2, h3, by rw [e0]; exact q1, q2, by rw [e0]; exact q3, q4⟩
theorem sets14 {u : RS} {s : Nat} {v : Int32} (hs : s < 6) : F8_sets u (nI s) (14 : Int32) v = some (up u 1 (17 + 16 * s + 14) v) := F8_sets_n (k := 14) hs (by omega)
theorem sets15 {u : RS} {s : Nat} {v : Int32} (hs : s < 6) : F8_sets u (nI s) (15 : Int32) v = some (up u 1 (17 + 16 * s + 15) v) := F8_sets_n (k := 15) hs (by omega)
theorem scr2 {b : Nat → Int32} {n i st : Nat} {g : CG} {u w : RS} (hb : BB b n) (h : OKs b n i u w) (h1i : 1 ≤ i) (hst : st < 6) (hg : g.nt < 1000000) (hti : TI g u) :
    (∃ i' len m u1 u' w1, C5_readScript g u = some (nI (g.nt + 1), ga g, u') ∧ F8_scriptPart w (nI st) = some (up (up w1 1 (17 + 16 * st + 14) (nI len)) 1 (17 + 16 * st + 15) (nI m)) ∧ i ≤ i' ∧ OKs b n i' u' (up (up w1 1 (17 + 16 * st + 14) (nI len)) 1 (17 + 16 * st + 15) (nI m)) ∧ FC u1 u ∧ NT g u1 u' len (fun k => u' (500 + (g.nt + 1)) (1 + k)) ∧ FW w1 w ∧ 1 ≤ len ∧ len ≤ 12 ∧ (∀ k, k < len → (u' (500 + (g.nt + 1)) (1 + k) = nI 49 ↔ (nI m >>> nI k) &&& nI 1 = nI 1))) ∨
    (∃ u' w', C5_readScript g u = some (0, g, u') ∧ F8_scriptPart w (nI st) = some w' ∧ FC u' u ∧ FW1 w' w ∧ ERs b n u' w') := by
  obtain ⟨h1, h2, h3, h4, h5, h6, h7⟩ := h
  have hn := hb.1
  have hs := SK_le (b := b) h3
  have hdl := dg_le (b := b) (n - SK b n i) (SK b n i)
  have hz := dg_0 (b := b) (d := n - SK b n i) (i := SK b n i)
  have hch := ch_le (i := SK b n i) hb
  have hsf := sfl_01 (b := b) (n - SK b n i) (SK b n i)
  unfold C5_readScript F8_scriptPart
  rw [skipC hb h1 h4 h3, if_pos (show w 0 11 = (0 : Int32) from h7), nextW hb h2 h5 h3, bS, bS]
  dsimp only
  rw [inB_hv (p := 48) (q := 57) hch rfl rfl (by omega) (by omega)]
  have hsc := scrLC (g := g) (t1 := (nI (SK b n i), up u 0 6 (nI (SK b n i)))) hb (n - SK b n i) (SK b n i) FUEL 1 (up u 0 6 (nI (SK b n i))) (by omega) (by show n - SK b n i < 10000; omega) (by omega) (h1.fr (FC.up (by omega))) up_eq
  rw [Nat.one_mul] at hsc
  rw [show (1 : Int32) = nI 1 from rfl, hsc, bS]
  dsimp only
  generalize hs' : SK b n i = s at *
  generalize hV : sfl b (n - s) s = V at *
  generalize he : dg b (n - s) s = e at *
  rw [up_up]
  have hT : TC b n (up u 0 6 (nI e)) := h1.fr (FC.up (by omega))
  have hW : TW b n (up (up w 0 9 (nI s)) 0 10 (nI s)) := (h2.fr (FW.up (by omega))).fr (FW.up (by omega))
  have k6 : up u 0 6 (nI e) 0 6 = nI e := up_eq
  have k7 : up u 0 6 (nI e) 0 7 = nI 0 := by rw [up_ne (by omega)]; exact h6
  have k9 : up (up w 0 9 (nI s)) 0 10 (nI s) 0 9 = nI s := by rw [up_ne (by omega), up_eq]
  have k11 : up (up w 0 9 (nI s)) 0 10 (nI s) 0 11 = nI 0 := by rw [up_ne (by omega), up_ne (by omega)]; exact h7
  have k10 : up (up w 0 9 (nI s)) 0 10 (nI s) 0 10 = nI s := up_eq
  have fC : FC (up u 0 6 (nI e)) u := FC.up (by omega)
  have fW : FW (up (up w 0 9 (nI s)) 0 10 (nI s)) w := (FW.up (by omega)).trans (FW.up (by omega))
  generalize hu1 : up u 0 6 (nI e) = u1 at *
  generalize hw1 : up (up w 0 9 (nI s)) 0 10 (nI s) = w1 at *
  by_cases c : 48 ≤ ch b n s ∧ ch b n s ≤ 57
  · have hsn : s < n := ch_lt (b := b) (by omega)
    have hne : ¬ e = s := by rw [hz, ← ch_i (b := b) hsn]; exact fun q => q ⟨by omega, c⟩
    rw [if_pos c, if_neg (show ¬ nI 1 = (0 : Int32) from nz0), bS, if_pos (show w1 0 11 = (0 : Int32) from k11), if_neg (show ¬ u1 0 6 = nI s by rw [k6]; exact nI_ne hne (by omega) (by omega))]
    obtain ⟨m, fl, q1, q2, q3, q4, q5⟩ := scrLW (a1 := nI st) hb (n - s) s FUEL 0 0 1 w1 (by omega) (by show n - s < 10000; omega) (by omega) (by omega) (by decide) hW k9
    rw [he, Nat.zero_add] at q1
    rw [he] at q4 q5
    rw [hV] at q4
    rw [show (0 : Int32) = nI 0 from rfl, q1, bS]
    dsimp only
    generalize hw2 : up w1 0 9 (nI e) = w2 at *
    have hW2 : TW b n w2 := by rw [← hw2]; exact hW.fr (FW.up (by omega))
    have fW2 : FW w2 w := by rw [← hw2]; exact (FW.up (by omega)).trans fW
    have z9 : w2 0 9 = nI e := by rw [← hw2]; exact up_eq
    have z10 : w2 0 10 = nI s := by rw [← hw2, up_ne (by omega)]; exact k10
    have z11 : w2 0 11 = nI 0 := by rw [← hw2, up_ne (by omega)]; exact k11
    by_cases good : V = 1 ∧ e - s ≤ 12
    · have hfl : fl = 1 := q4.mpr ⟨rfl, good.1, Or.inr (by omega)⟩
      have eC : (if nI V = nI 0 then ((C5_error g u1 (2 : Int32) (nI s)).bind fun u23 => some u23) else (if u1 0 6 - nI s ≤ (12 : Int32) then (some u1) else ((C5_error g u1 (2 : Int32) (nI s)).bind fun u26 => some u26)) : Option RS) = some u1 := by
        rw [good.1, if_neg nz0, k6, nI_sub (by omega), if_pos (show nI (e - s) ≤ (12 : Int32) from nI_le (b := 12) good.2 (by omega))]
      rw [eC, bS, fineC0 k7, bS, if_neg nz0, k6]
      obtain ⟨u', c1, c2⟩ := copyRange (g := g) hb hT (show 1 ≤ s by omega) (show s ≤ e by omega) (by omega) good.2 hg (TI_fc hti fC)
      rw [c1, bS, hfl, if_neg nz0, bS, sets14 hst, bS, sets15 hst, bS]
      refine Or.inl ⟨e, e - s, m, u1, u', w2, rfl, rfl, by omega, ((OKs.nt (⟨hT, hW2, by omega, k6, z9, k7, z11⟩) c2).w1).w1, fC, ⟨c2.1, fun _ _ => rfl, c2.2.2⟩, fW2, by omega, good.2, fun k hk => ?_⟩
      have q6 := (q5 hfl).2 k hk
      rw [Nat.zero_add] at q6
      rw [c2.2.1 k hk, bit_t q2 (by omega)]
      exact q6.symm
    · have hfl : fl = 0 := by
        rcases (show fl = 0 ∨ fl = 1 by omega) with q | q
        · exact q
        · have := q4.mp q; exfalso; omega
      obtain ⟨u', w', e1, e2, e3, e4, e5⟩ := err2 (g := g) (e := 2) hT hW2 (by omega) k6 k7 z11 z10 (by omega) (by omega) (by omega)
      have eC : (if nI V = nI 0 then ((C5_error g u1 (2 : Int32) (nI s)).bind fun u23 => some u23) else (if u1 0 6 - nI s ≤ (12 : Int32) then (some u1) else ((C5_error g u1 (2 : Int32) (nI s)).bind fun u26 => some u26)) : Option RS) = some u' := by
        have e1' : C5_error g u1 (2 : Int32) (nI s) = some u' := e1
        rw [e1', bS]
        by_cases v : V = 1
        · rw [v, if_neg nz0, k6, nI_sub (by omega), if_neg (show ¬ nI (e - s) ≤ (12 : Int32) from nI_ge (a := 12) (by omega) (by omega))]
        · rw [show V = 0 by omega, if_pos rfl]
      rw [eC, bS, e3.fine, bS, if_pos rfl, hfl, if_pos rfl, show (2 : Int32) = nI 2 from rfl, e2, bS, bS, sets14 hst, bS, sets15 hst, bS]
      exact Or.inr ⟨u', _, rfl, rfl, e4.trans fC, FW1.up.trans (FW1.up.trans ((e5.trans fW2).w1)), e3.w1.w1⟩
  · have hne : e = s := by
      rw [hz]
      intro q
      rw [← ch_i (b := b) (n := n) (by omega)] at q
      exact c q.2
    obtain ⟨u', w', e1, e2, e3, e4, e5⟩ := err2 (g := g) (e := 1) hT hW (by omega) k6 k7 k11 k10 (by omega) (by omega) (by omega)
    rw [if_neg c, if_pos (show nI 0 = (0 : Int32) from rfl), if_pos (show u1 0 6 = nI s by rw [k6, hne])]
    rw [e1, e2, bS, bS, bS, bS, e3.fine, bS, if_pos (show nI 0 = (0 : Int32) from rfl), if_neg e3.ne.1]
    exact Or.inr ⟨u', w', rfl, rfl, e4.trans fC, (e5.trans fW).w1, e3⟩
end
section
noncomputable def NC (l sz k : Nat) : Int32 := if k = 0 then nI l else if k = 1 then nI sz else if k = 4 ∨ k = 7 then m1 else nI 0
theorem cnt_s {n : Nat} {p : Nat → Bool} : cnt (n + 1) p = cnt n p + if p n then 1 else 0 := rfl
theorem sumI_s {n : Nat} {f : Nat → Int32} : sumI (n + 1) f = sumI n f + f n := rfl
theorem QR.card {v w iv v2 w2 iv2 : Nat → Int32} {bp dl df tx bp2 tx2 : Nat → Nat → Int32} {nt nt2 sm lm cm B U l t len : Nat} (h : QR v w iv bp dl df tx nt sm lm cm B U) (hcm : cm < 30) (hl : l < lm) (hlen1 : 1 ≤ len) (hlen : len ≤ 16)
    (hv : ∀ i, i ≠ 9 → i ≠ 114 + 4 * l → (i < 137 + 25 * cm ∨ 162 + 25 * cm ≤ i) → v2 i = v i) (hv9 : v2 9 = nI (cm + 1)) (hvs : v2 (113 + 4 * l + 1) = nI (cnt cm (loC (sC w) l) + 1)) (hvc : ∀ k, k < 9 → k ≠ 2 → v2 (137 + 25 * cm + k) = NC l (cnt cm (loC (sC w) l)) k) (hv2 : v2 (137 + 25 * cm + 2) = nI len) (hvl : ∀ k, k < len → v2 (137 + 25 * cm + (9 + k)) = tx2 t (1 + k) ∧ ∃ a, a < 26 ∧ tx2 t (1 + k) = nI a)
    (hw : ∀ i, i ≠ 9 → i ≠ 114 + 4 * l → (i < 137 + 25 * cm ∨ 162 + 25 * cm ≤ i) → w2 i = w i) (hw9 : w2 9 = nI (cm + 1)) (hws : w2 (113 + 4 * l + 1) = nI (cnt cm (loC (sC w) l) + 1)) (hwc : ∀ k, k < 9 → k ≠ 2 → w2 (137 + 25 * cm + k) = NC l (cnt cm (loC (sC w) l)) k) (hw2 : w2 (137 + 25 * cm + 2) = nI t)
    (hi0 : iv2 0 = iv 0 + nI 1) (hi : ∀ a, 1 ≤ a → a < 5 → iv2 a = iv a) (hb0 : bp2 l (cnt cm (loC (sC w) l)) = nI cm) (hb : ∀ l' p, l' < lm → ¬ (l' = l ∧ p = cnt cm (loC (sC w) l)) → bp2 l' p = bp l' p)
    (hnt : nt ≤ nt2) (htx : ∀ t', 1 ≤ t' → t' ≤ nt → tx2 t' = tx t') (ht1 : 1 ≤ t) (ht2 : t ≤ nt2) (ht31 : t < 2 ^ 31) (ht0 : tx2 t 0 = nI len) : QR v2 w2 iv2 bp2 dl df tx2 nt2 sm lm (cm + 1) B U := by
  have hsm := h.a.sm6; have hlm := h.a.lm6
  have A : ∀ i, i < 17 → i ≠ 9 → sA w2 i = sA w i := fun i a b => by rw [← sA_r (v := w2) a, ← sA_r (v := w) a]; exact hw i b (by omega) (by omega)
  have Av : ∀ i, i < 17 → i ≠ 9 → sA v2 i = sA v i := fun i a b => by rw [← sA_r (v := v2) a, ← sA_r (v := v) a]; exact hv i b (by omega) (by omega)
  have S : ∀ s k, s < 6 → k < 16 → sS w2 s k = sS w s k := fun s k a b => by rw [← sS_r (v := w2) a b, ← sS_r (v := w) a b]; exact hw _ (by omega) (by omega) (by omega)
  have Sv : ∀ s k, s < 6 → k < 16 → sS v2 s k = sS v s k := fun s k a b => by rw [← sS_r (v := v2) a b, ← sS_r (v := v) a b]; exact hv _ (by omega) (by omega) (by omega)
  have Lc : ∀ s k, s < 6 → k < 4 → ¬ (s = l ∧ k = 1) → sL w2 s k = sL w s k := fun s k a b c => by rw [← sL_r (v := w2) a b, ← sL_r (v := w) a b]; exact hw _ (by omega) (by omega) (by omega)
  have Lv : ∀ s k, s < 6 → k < 4 → ¬ (s = l ∧ k = 1) → sL v2 s k = sL v s k := fun s k a b c => by rw [← sL_r (v := v2) a b, ← sL_r (v := v) a b]; exact hv _ (by omega) (by omega) (by omega)
  have L1 : sL w2 l 1 = nI (cnt cm (loC (sC w) l) + 1) := by rw [← sL_r (v := w2) (by omega) (by omega)]; exact hws
  have L1v : sL v2 l 1 = nI (cnt cm (loC (sC w) l) + 1) := by rw [← sL_r (v := v2) (by omega) (by omega)]; exact hvs
  have E : ∀ s k, s < 6 → k < 5 → sE w2 s k = sE w s k := fun s k a b => by rw [← sE_r (v := w2) a (by omega), ← sE_r (v := w) a (by omega)]; exact hw _ (by omega) (by omega) (by omega)
  have C : ∀ s k, s < cm → k < 25 → sC w2 s k = sC w s k := fun s k a b => by rw [← sC_r (v := w2) (by omega) b, ← sC_r (v := w) (by omega) b]; exact hw _ (by omega) (by omega) (by omega)
  have Cv : ∀ s k, s < cm → k < 25 → sC v2 s k = sC v s k := fun s k a b => by rw [← sC_r (v := v2) (by omega) b, ← sC_r (v := v) (by omega) b]; exact hv _ (by omega) (by omega) (by omega)
  have Cn : ∀ k, k < 9 → k ≠ 2 → sC w2 cm k = NC l (cnt cm (loC (sC w) l)) k := fun k a b => by rw [← sC_r (v := w2) (by omega) (by omega)]; exact hwc k a b
  have Cnv : ∀ k, k < 9 → k ≠ 2 → sC v2 cm k = NC l (cnt cm (loC (sC w) l)) k := fun k a b => by rw [← sC_r (v := v2) (by omega) (by omega)]; exact hvc k a b
  have C2 : sC w2 cm 2 = nI t := by rw [← sC_r (v := w2) (by omega) (by omega)]; exact hw2
  have C2v : sC v2 cm 2 = nI len := by rw [← sC_r (v := v2) (by omega) (by omega)]; exact hv2
  have F : ∀ i, i < 30 → sF w2 i = sF w i := fun i a => by rw [← sF_r (v := w2) a, ← sF_r (v := w) a]; exact hw _ (by omega) (by omega) (by omega)
  have Fv : ∀ i, i < 30 → sF v2 i = sF v i := fun i a => by rw [← sF_r (v := v2) a, ← sF_r (v := v) a]; exact hv _ (by omega) (by omega) (by omega)
  have Pv : ∀ i, i < 120 → sP v2 i = sP v i := fun i a => by rw [← sP_r (v := v2) a, ← sP_r (v := v) a]; exact hv _ (by omega) (by omega) (by omega)
  have c0 : sC w2 cm 0 = nI l := Cn 0 (by omega) (by omega)
  have c1 : sC w2 cm 1 = nI (cnt cm (loC (sC w) l)) := Cn 1 (by omega) (by omega)
  have c3 : sC w2 cm 3 = nI 0 := Cn 3 (by omega) (by omega)
  have c4 : sC w2 cm 4 = m1 := Cn 4 (by omega) (by omega)
  have c5 : sC w2 cm 5 = nI 0 := Cn 5 (by omega) (by omega)
  have c6 : sC w2 cm 6 = nI 0 := Cn 6 (by omega) (by omega)
  have c8 : sC w2 cm 8 = nI 0 := Cn 8 (by omega) (by omega)
  have n3 : ∀ a, 1 ≤ a → a < 5 → ¬ sC w2 cm 3 = nI a := fun a p q => by rw [c3]; exact nI_ne (by omega) (by omega) (by omega)
  have cst : ∀ a, cnt (cm + 1) (stC (sC w2) a) = cnt cm (stC (sC w) a) + if sC w2 cm 3 = nI a then 1 else 0 := fun a => by
    rw [cnt_s, cnt_congr (q := stC (sC w) a) fun i hi => by unfold stC; rw [C i 3 hi (by omega)]]
    unfold stC; simp only [decide_eq_true_eq]
  have clo : ∀ a, a < 6 → cnt (cm + 1) (loC (sC w2) a) = cnt cm (loC (sC w) a) + if a = l then 1 else 0 := fun a ha => by
    rw [cnt_s, cnt_congr (q := loC (sC w) a) fun i hi => by unfold loC; rw [C i 0 hi (by omega)]]
    unfold loC; simp only [decide_eq_true_eq, c0]
    by_cases e : a = l
    · rw [if_pos (by rw [e]), if_pos e]
    · rw [if_neg (nI_ne (fun q => e q.symm) (by omega) (by omega)), if_neg e]
  have cls : ∀ l' a, 1 ≤ a → a < 5 → cnt (cm + 1) (lsC (sC w2) l' a) = cnt cm (lsC (sC w) l' a) := fun l' a p q => by
    rw [cnt_s, cnt_congr (q := lsC (sC w) l' a) fun i hi => by unfold lsC; rw [C i 0 hi (by omega), C i 3 hi (by omega)]]
    unfold lsC; simp only [decide_eq_true_eq]
    rw [if_neg (fun z => n3 a p q z.2), Nat.add_zero]
  have csu : ∀ l' k, k < 9 → sC w2 cm k = nI 0 → sumI (cm + 1) (suC (sC w2) l' k) = sumI cm (suC (sC w) l' k) := fun l' k hk h0 => by
    rw [sumI_s, sumI_congr (q := suC (sC w) l' k) fun i hi => by unfold suC; rw [C i 0 hi (by omega), C i k hi (by omega)]]
    have : suC (sC w2) l' k cm = nI 0 := by unfold suC; rw [h0]; split <;> rfl
    rw [this]; exact Int32.add_zero _
  have fn : ∀ c, c < cm → (fin (sC w2) c ↔ fin (sC w) c) := fun c hc => by unfold fin; rw [C c 3 hc (by omega)]
  have fnn : ¬ fin (sC w2) cm := fun q => q.elim (n3 3 (by omega) (by omega)) (n3 4 (by omega) (by omega))
  have hsz := cnt_le (n := cm) (p := loC (sC w) l)
  refine ⟨?_, ?_, ?_, ?_, ?_, ?_, ?_⟩
  · obtain ⟨a1, a2, a3, a4, a5, a6, a7, a8, a9, a10⟩ := h.a
    refine ⟨a1, a2, by omega, a4, ?_, ?_, ?_, fun i q1 q2 q3 => ?_, ?_, ?_⟩
    · rw [A 7 (by omega) (by omega)]; exact a5
    · rw [A 8 (by omega) (by omega)]; exact a6
    · rw [← sA_r (v := w2) (by omega)]; exact hw9
    · by_cases e : i = 9
      · subst e; rw [← sA_r (v := v2) (by omega), ← sA_r (v := w2) (by omega), hv9, hw9]
      · rw [A i q1 e, Av i q1 e]; exact a8 i q1 q2 q3
    · rw [A 0 (by omega) (by omega)]; exact a9
    · rw [A 6 (by omega) (by omega)]; exact a10
  · obtain ⟨b1, b2, b3, b4, b5, b6, b7, b8, b9, b10⟩ := h.s
    refine ⟨fun s k hs hk h8 => ?_, fun s hs => ?_, fun s hs => ?_, fun s hs => ?_, fun s hs => ?_, fun s hs => ?_, fun s hs => ?_, fun s hs => ?_, fun s hs => ?_, fun s hs => ?_⟩
    · rw [S s k (by omega) (by omega), Sv s k (by omega) (by omega)]; exact b1 s k hs hk h8
    · rw [S s 0 (by omega) (by omega), S s 8 (by omega) (by omega), Sv s 8 (by omega) (by omega)]; exact b2 s hs
    · rw [S s 0 (by omega) (by omega), Sv s 8 (by omega) (by omega)]; exact b3 s hs
    · rw [S s 1 (by omega) (by omega)]; exact b4 s hs
    · rw [S s 2 (by omega) (by omega)]
      rcases b5 s hs with e | ⟨c, c1, c2, c3, c4⟩
      · exact Or.inl e
      · exact Or.inr ⟨c, by omega, c2, by rw [C c 3 c1 (by omega)]; exact c3, by rw [C c 4 c1 (by omega)]; exact c4⟩
    · rw [S s 3 (by omega) (by omega)]; exact b6 s hs
    · rw [S s 4 (by omega) (by omega), S s 5 (by omega) (by omega)]; exact b7 s hs
    · rw [S s 7 (by omega) (by omega)]; exact b8 s hs
    · rw [S s 14 (by omega) (by omega), Sv s 14 (by omega) (by omega), Sv s 15 (by omega) (by omega)]
      obtain ⟨t', n, z1, z2, z3, z4, z5, z6, z7, z8⟩ := b9 s hs
      exact ⟨t', n, z1, by omega, z3, by rw [htx t' z1 z2]; exact z4, z5, z6, z7, fun k hk => by rw [htx t' z1 z2]; exact z8 k hk⟩
    · rw [S s 14 (by omega) (by omega)]; exact Nat.le_trans (b10 s hs) hnt
  · obtain ⟨b1, b2, b3, b4, b5, b6⟩ := h.c
    refine ⟨fun s k hs hk h8 => ?_, fun s hs => ?_, fun s hs => ?_, fun s hs => ?_, fun s hs => ?_, fun s hs => ?_⟩
    · by_cases e : s = cm
      · subst e; rw [Cn k hk h8, Cnv k hk h8]
      · rw [C s k (by omega) (by omega), Cv s k (by omega) (by omega)]; exact b1 s k (by omega) hk h8
    · by_cases e : s = cm
      · subst e; exact ⟨l, hl, c0⟩
      · rw [C s 0 (by omega) (by omega)]; exact b2 s (by omega)
    · by_cases e : s = cm
      · subst e; exact ⟨0, by omega, c3⟩
      · rw [C s 3 (by omega) (by omega)]; exact b3 s (by omega)
    · by_cases e : s = cm
      · subst e; exact Or.inl c8
      · rw [C s 8 (by omega) (by omega), C s 3 (by omega) (by omega)]; exact b4 s (by omega)
    · by_cases e : s = cm
      · subst e
        refine ⟨t, len, ht1, ht2, C2, ht0, hlen1, hlen, C2v, fun k hk => ?_⟩
        rw [← sC_r (v := v2) (by omega) (by omega)]
        exact hvl k hk
      · rw [C s 2 (by omega) (by omega), Cv s 2 (by omega) (by omega)]
        obtain ⟨t', n, z1, z2, z3, z4, z5, z6, z7, z8⟩ := b5 s (by omega)
        refine ⟨t', n, z1, by omega, z3, by rw [htx t' z1 z2]; exact z4, z5, z6, z7, fun k hk => ?_⟩
        rw [Cv s (9 + k) (by omega) (by omega), htx t' z1 z2]; exact z8 k hk
    · by_cases e : s = cm
      · subst e; rw [C2, nI_clamp ht31]; exact ht2
      · have : sC w2 s 2 = sC w s 2 := by rw [← sC_r (v := w2) (by omega) (by omega), ← sC_r (v := w) (by omega) (by omega)]; exact hw _ (by omega) (by omega) (by omega)
        rw [this]; exact Nat.le_trans (b6 s hs) hnt
  · obtain ⟨b1, b2, b3⟩ := h.n
    refine ⟨fun a ha => ?_, ?_, fun i q => ?_⟩
    · rw [cst a]
      by_cases e : a = 0
      · subst e; rw [hi0, b1 0 (by omega), if_pos c3, nI_add]
      · rw [hi a (by omega) ha, b1 a ha, if_neg (n3 a (by omega) ha), Nat.add_zero]
    · rw [Av 10 (by omega) (by omega), hi 3 (by omega) (by omega)]; exact b2
    · rw [cst 3, if_neg (n3 3 (by omega) (by omega)), Nat.add_zero] at q
      have := cnt_le (n := cm) (p := stC (sC w) 3)
      rw [F i (by omega), Fv i (by omega)]; exact b3 i q
  · obtain ⟨b1, b2, b3, b4, b5, b6, b7, b8, b9, b10⟩ := h.l
    refine ⟨fun l' k q1 q2 => ?_, fun l' q1 => ?_, fun l' q1 => ?_, fun l' q1 => ?_, fun l' q1 => ?_, fun l' q1 => ?_, fun l' q1 => ?_, fun l' q1 p q2 => ?_, fun l' c q1 q2 q3 => ?_, fun l' q1 => ?_⟩
    · by_cases e : l' = l ∧ k = 1
      · rw [e.1, e.2, L1, L1v]
      · rw [Lc l' k (by omega) q2 e, Lv l' k (by omega) q2 e]; exact b1 l' k q1 q2
    · rw [Lc l' 0 (by omega) (by omega) (by omega)]; exact b2 l' q1
    · rw [E l' 1 (by omega) (by omega), cls l' 3 (by omega) (by omega)]; exact b3 l' q1
    · rw [E l' 2 (by omega) (by omega), cls l' 4 (by omega) (by omega)]; exact b4 l' q1
    · rw [E l' 3 (by omega) (by omega), csu l' 5 (by omega) c5]; exact b5 l' q1
    · rw [E l' 4 (by omega) (by omega), csu l' 6 (by omega) c6]; exact b6 l' q1
    · rw [clo l' (by omega)]
      by_cases e : l' = l
      · subst e; rw [L1, if_pos rfl]
      · rw [Lc l' 1 (by omega) (by omega) (by omega), if_neg e, Nat.add_zero]; exact b7 l' q1
    · rw [clo l' (by omega)] at q2
      by_cases e : l' = l ∧ p = cnt cm (loC (sC w) l)
      · rw [e.1, e.2]
        exact ⟨cm, by omega, hb0, c0, c1⟩
      · have hp : p < cnt cm (loC (sC w) l') := by
          by_cases e2 : l' = l
          · subst e2; rw [if_pos rfl] at q2; have : p ≠ cnt cm (loC (sC w) l') := fun z => e ⟨rfl, z⟩; omega
          · rw [if_neg e2] at q2; omega
        obtain ⟨c, z1, z2, z3, z4⟩ := b8 l' q1 p hp
        exact ⟨c, by omega, by rw [hb l' p q1 e]; exact z2, by rw [C c 0 z1 (by omega)]; exact z3, by rw [C c 1 z1 (by omega)]; exact z4⟩
    · rw [clo l' (by omega)]
      by_cases e : c = cm
      · subst e
        have e2 : l' = l := by
          rw [c0] at q3
          exact (nI_inj (by omega) (by omega) q3).symm
        subst e2
        exact ⟨cnt c (loC (sC w) l'), by rw [if_pos rfl]; omega, c1, hb0⟩
      · rw [C c 0 (by omega) (by omega)] at q3
        obtain ⟨p, p1, p2, p3⟩ := b9 l' c q1 (by omega) q3
        refine ⟨p, by omega, by rw [C c 1 (by omega) (by omega)]; exact p2, ?_⟩
        rw [hb l' p q1 (fun z => by rw [z.1] at p1; omega)]; exact p3
    · rw [clo l' (by omega)]
      obtain ⟨q, p1, p2, p3, p4⟩ := b10 l' q1
      refine ⟨q, by omega, by rw [E l' 0 (by omega) (by omega)]; exact p2, fun p c r1 r2 r3 => ?_, fun c r1 r2 r3 => ?_⟩
      · have hne : ¬ (l' = l ∧ p = cnt cm (loC (sC w) l)) := fun z => by rw [z.1] at p1; omega
        rw [hb l' p q1 hne] at r3
        have hc : c < cm := by
          obtain ⟨c', z1, z2, -⟩ := b8 l' q1 p (by omega)
          rw [z2] at r3
          have := nI_inj (by omega) (by omega) r3
          omega
        exact (fn c hc).mpr (p3 p c r1 hc r3)
      · by_cases e : l' = l ∧ q = cnt cm (loC (sC w) l)
        · rw [e.1, e.2, hb0] at r3
          have := nI_inj (by omega) (by omega) r3
          rw [← this]; exact fnn
        · rw [hb l' q q1 e] at r3
          have hq : q < cnt cm (loC (sC w) l') := by
            by_cases e2 : l' = l
            · subst e2; rw [if_pos rfl] at r1; have : q ≠ cnt cm (loC (sC w) l') := fun z => e ⟨rfl, z⟩; omega
            · rw [if_neg e2] at r1; omega
          have hc : c < cm := by
            obtain ⟨c', z1, z2, -⟩ := b8 l' q1 q hq
            rw [z2] at r3
            have := nI_inj (by omega) (by omega) r3
            omega
          exact fun f => p4 c hq hc r3 ((fn c hc).mp f)
  · obtain ⟨b1, b2⟩ := h.d
    refine ⟨fun d t q1 q2 q3 q4 => ?_, fun d t l i q1 q2 q3 q4 q5 q6 => ?_⟩
    · rw [A 0 (by omega) (by omega)] at q3
      rw [A 6 (by omega) (by omega)] at q4
      rw [Av 11 (by omega) (by omega)]
      exact b1 d t q1 q2 q3 q4
    · rw [A 0 (by omega) (by omega)] at q3
      rw [A 6 (by omega) (by omega)] at q4
      rw [Pv _ (by omega), Pv _ (by omega)]
      exact b2 d t l i q1 q2 q3 q4 q5 q6
  · intro q hq
    by_cases e : q = cm
    · subst e; exact Or.inr c4
    · rw [C q 3 (by omega) (by omega), C q 4 (by omega) (by omega)]; exact h.wh q (by omega)
end
section
theorem addsL39 {u0 : RS} {a1 : Int32} {cm : Nat} (h9 : u0 1 9 = nI cm) (hcm : cm < 30) : ∀ (d y f : Nat) (u : RS), y + d = 22 → d < f → ∃ u2, F8_adds_L39 u0 a1 f (nI y) u = some (nI 22, u2) ∧ (∀ R, R ≠ 1 → u2 R = u R) ∧ (∀ i, (i < 137 + 25 * cm + 3 + y ∨ 137 + 25 * cm + 25 ≤ i) → u2 1 i = u 1 i) ∧ ∀ k, 3 + y ≤ k → k < 25 → u2 1 (137 + 25 * cm + k) = nI 0
  | 0, y, f, u, h1, h2 => by
    obtain ⟨f, rfl⟩ : ∃ m, f = m + 1 := ⟨f - 1, by omega⟩
    obtain rfl : y = 22 := by omega
    refine ⟨u, ?_, fun _ _ => rfl, fun _ _ => rfl, fun k _ _ => by omega⟩
    rw [F8_adds_L39, if_pos (show (22 : Int32) ≤ nI 22 by decide)]
  | d + 1, y, f, u, h1, h2 => by
    obtain ⟨f, rfl⟩ : ∃ m, f = m + 1 := ⟨f - 1, by omega⟩
    rw [F8_adds_L39, if_neg (show ¬ (22 : Int32) ≤ nI y from nI_ge (b := 22) (by omega) (by omega)), h9, show (3 : Int32) + nI y = nI (3 + y) from nI_add 3 y, F8_setsCard_n hcm (by omega), bS, show nI y + 1 = nI (y + 1) from nI_add _ 1]
    obtain ⟨u2, k1, k2, k3, k4⟩ := addsL39 (a1 := a1) h9 hcm d (y + 1) f (up u 1 (137 + 25 * cm + (3 + y)) 0) (by omega) (by omega)
    refine ⟨u2, k1, fun R hR => (k2 R hR).trans (up_or hR), fun i hi => ?_, fun k q1 q2 => ?_⟩
    · rw [k3 i (by omega), up_ne (by omega)]
    · by_cases e : k = 3 + y
      · subst e; rw [k3 _ (by omega), up_eq]; rfl
      · exact k4 k (by omega) q2
theorem addsL77 {u0 : RS} {a1 : Int32} {cm len : Nat} (h9 : u0 1 9 = nI cm) (hcm : cm < 30) (hlen : len ≤ 16) : ∀ (d y f : Nat) (u : RS), y + d = len → d < f → u 0 19 = nI len → ∃ u2, F8_adds_L77 u0 a1 f (nI y) u = some (nI len, u2) ∧ (∀ R, R ≠ 1 → u2 R = u R) ∧ (∀ i, (i < 137 + 25 * cm + 9 + y ∨ 137 + 25 * cm + 25 ≤ i) → u2 1 i = u 1 i) ∧ ∀ k, y ≤ k → k < len → u2 1 (137 + 25 * cm + (9 + k)) = u 7 k
  | 0, y, f, u, h1, h2, h3 => by
    obtain ⟨f, rfl⟩ : ∃ m, f = m + 1 := ⟨f - 1, by omega⟩
    obtain rfl : y = len := by omega
    refine ⟨u, ?_, fun _ _ => rfl, fun _ _ => rfl, fun k _ _ => by omega⟩
    rw [F8_adds_L77, h3, if_pos (nI_le (by omega) (by omega))]
  | d + 1, y, f, u, h1, h2, h3 => by
    obtain ⟨f, rfl⟩ : ∃ m, f = m + 1 := ⟨f - 1, by omega⟩
    rw [F8_adds_L77, h3, if_neg (nI_ge (by omega) (by omega)), rd_n (by omega) (by omega), bS, h9, show (9 : Int32) + nI y = nI (9 + y) from nI_add 9 y, F8_setsCard_n hcm (by omega), bS, show nI y + 1 = nI (y + 1) from nI_add _ 1]
    obtain ⟨u2, k1, k2, k3, k4⟩ := addsL77 (a1 := a1) h9 hcm hlen d (y + 1) f (up u 1 (137 + 25 * cm + (9 + y)) (u 7 y)) (by omega) (by omega) (by rw [up_ne (by omega)]; exact h3)
    refine ⟨u2, k1, fun R hR => (k2 R hR).trans (up_or hR), fun i hi => ?_, fun k q1 q2 => ?_⟩
    · rw [k3 i (by omega), up_ne (by omega)]
    · by_cases e : k = y
      · subst e; rw [k3 _ (by omega), up_eq]
      · rw [k4 k (by omega) q2, up_or (by omega)]
theorem adds_F {r : RS} {l cm sz len : Nat} (hl : l < 6) (hcm : cm < 30) (hlen : len ≤ 16) (hsz : sz ≤ 30) (h9 : r 1 9 = nI cm) (hs : r 1 (113 + 4 * l + 1) = nI sz) (h19 : r 0 19 = nI len) : ∃ r2, F8_adds r (nI l) = some r2 ∧ (∀ R, R ≠ 1 → r2 R = r R) ∧ (∀ i, i ≠ 9 → i ≠ 114 + 4 * l → (i < 137 + 25 * cm ∨ 162 + 25 * cm ≤ i) → r2 1 i = r 1 i) ∧ r2 1 9 = nI (cm + 1) ∧ r2 1 (113 + 4 * l + 1) = nI (sz + 1) ∧ (∀ k, k < 9 → k ≠ 2 → r2 1 (137 + 25 * cm + k) = NC l sz k) ∧ r2 1 (137 + 25 * cm + 2) = nI len ∧ ∀ k, k < len → r2 1 (137 + 25 * cm + (9 + k)) = r 7 k := by
  unfold F8_adds
  rw [h9, show (0 : Int32) = nI 0 from rfl, show (1 : Int32) = nI 1 from rfl, show (2 : Int32) = nI 2 from rfl, show (4 : Int32) = nI 4 from rfl, show (7 : Int32) = nI 7 from rfl, show (113 : Int32) = nI 113 from rfl]
  rw [F8_setsCard_n hcm (by omega), bS, F8_ofLot_n hl (by omega), bS, up_ne (by omega), hs, F8_setsCard_n hcm (by omega), bS, up_ne (by omega), up_ne (by omega), h19, F8_setsCard_n hcm (by omega), bS]
  obtain ⟨u2, a1, a2, a3, a4⟩ := addsL39 (u0 := r) (a1 := nI l) h9 hcm 22 0 FUEL (up (up (up r 1 (137 + 25 * cm + 0) (nI l)) 1 (137 + 25 * cm + 1) (nI sz)) 1 (137 + 25 * cm + 2) (nI len)) (by omega) (by show 22 < 10000; omega)
  rw [a1, bS]
  dsimp only
  rw [F8_setsCard_n hcm (by omega), bS, F8_setsCard_n hcm (by omega), bS]
  obtain ⟨u3, b1, b2, b3, b4⟩ := addsL77 (u0 := r) (a1 := nI l) h9 hcm hlen len 0 FUEL (up (up u2 1 (137 + 25 * cm + 4) (-nI 1)) 1 (137 + 25 * cm + 7) (-nI 1)) (by omega) (by show len < 10000; omega) (by rw [up_ne (by omega), up_ne (by omega), a2 0 (by decide), up_ne (by omega), up_ne (by omega), up_ne (by omega)]; exact h19)
  rw [b1, bS]
  dsimp only
  rw [show (9 : Int32) = nI 9 from rfl, ws_n (by omega) (by omega), bS, nI_mul, nI_add, nI_add, rd_n (by omega) (by omega), bS, ws_n (by omega) (by omega), bS, up_ne (by omega)]
  have base : ∀ i, i ≠ 9 → i ≠ 114 + 4 * l → (i < 137 + 25 * cm ∨ 162 + 25 * cm ≤ i) → u3 1 i = r 1 i := fun i p q s => by
    rw [b3 i (by omega), up_ne (by omega), up_ne (by omega), a3 i (by omega), up_ne (by omega), up_ne (by omega), up_ne (by omega)]
  have e9 : u3 1 9 = nI cm := by
    rw [b3 9 (by omega), up_ne (by omega), up_ne (by omega), a3 9 (by omega), up_ne (by omega), up_ne (by omega), up_ne (by omega)]; exact h9
  have es : u3 1 (113 + 4 * l + 1) = nI sz := by
    rw [b3 _ (by omega), up_ne (by omega), up_ne (by omega), a3 _ (by omega), up_ne (by omega), up_ne (by omega), up_ne (by omega)]; exact hs
  rw [e9, es, nI_add, nI_add]
  refine ⟨_, rfl, fun R hR => ?_, fun i p q s => ?_, ?_, ?_, fun k p q => ?_, ?_, fun k hk => ?_⟩
  · rw [up_or hR, up_or hR, b2 R hR, up_or hR, up_or hR, a2 R hR, up_or hR, up_or hR, up_or hR]
  · rw [up_ne (by omega), up_ne (by omega)]; exact base i p q s
  · rw [up_ne (by omega), up_eq]
  · exact up_eq
  · rw [up_ne (by omega), up_ne (by omega), b3 _ (by omega)]
    unfold NC
    rcases (show k = 0 ∨ k = 1 ∨ k = 3 ∨ k = 4 ∨ k = 5 ∨ k = 6 ∨ k = 7 ∨ k = 8 by omega) with rfl | rfl | rfl | rfl | rfl | rfl | rfl | rfl
    · rw [up_ne (by omega), up_ne (by omega), a3 _ (by omega), up_ne (by omega), up_ne (by omega), up_eq]; rfl
    · rw [up_ne (by omega), up_ne (by omega), a3 _ (by omega), up_ne (by omega), up_eq]; rfl
    · rw [up_ne (by omega), up_ne (by omega), a4 3 (by omega) (by omega)]; rfl
    · rw [up_ne (by omega), up_eq]; rfl
    · rw [up_ne (by omega), up_ne (by omega), a4 5 (by omega) (by omega)]; rfl
    · rw [up_ne (by omega), up_ne (by omega), a4 6 (by omega) (by omega)]; rfl
    · rw [up_eq]; rfl
    · rw [up_ne (by omega), up_ne (by omega), a4 8 (by omega) (by omega)]; rfl
  · rw [up_ne (by omega), up_ne (by omega), b3 _ (by omega), up_ne (by omega), up_ne (by omega), a3 _ (by omega), up_eq]
  · rw [up_ne (by omega), up_ne (by omega), b4 k (by omega) hk, up_or (by omega), up_or (by omega), a2 7 (by omega), up_or (by omega), up_or (by omega), up_or (by omega)]
theorem adds_C {c : RS} {g : CG} {L l cm sz t : Nat} (hL : L < 12) (hl : l < 6) (hcm : cm < 30) (hsz : sz < 30) (h9 : c (10 + L) 9 = nI cm) (hs : c (10 + L) (113 + 4 * l + 1) = nI sz) : ∃ c2, C3_addCard g c L (nI l) (nI t) = some c2 ∧ (∀ R, R ≠ 10 + L → R ≠ 100 + 6 * L + l → R ≠ 400 + L → c2 R = c R) ∧ (∀ i, i ≠ 9 → i ≠ 114 + 4 * l → (i < 137 + 25 * cm ∨ 162 + 25 * cm ≤ i) → c2 (10 + L) i = c (10 + L) i) ∧ c2 (10 + L) 9 = nI (cm + 1) ∧ c2 (10 + L) (113 + 4 * l + 1) = nI (sz + 1) ∧ (∀ k, k < 9 → k ≠ 2 → c2 (10 + L) (137 + 25 * cm + k) = NC l sz k) ∧ c2 (10 + L) (137 + 25 * cm + 2) = nI t ∧ c2 (400 + L) 0 = c (400 + L) 0 + nI 1 ∧ (∀ a, a ≠ 0 → c2 (400 + L) a = c (400 + L) a) ∧ c2 (100 + 6 * L + l) sz = nI cm ∧ ∀ p, p ≠ sz → c2 (100 + 6 * L + l) p = c (100 + 6 * L + l) p := by
  unfold C3_addCard C1_begin
  simp only [pt_n, bS]
  rw [h9, if_neg (show ¬ (30 : Int32) ≤ nI cm from nI_ge (b := 30) hcm (by omega)), ix_n hcm (by omega), bS, ix_n hl (by omega), bS]
  simp only [bS]
  generalize hu : up (up (up (up (up (up (up (up (up c (10 + L) (137 + 25 * cm + 0) (nI l)) (10 + L) (137 + 25 * cm + 1) (c (10 + L) (113 + 4 * l + 1))) (10 + L) (137 + 25 * cm + 2) (nI t)) (10 + L) (137 + 25 * cm + 3) 0) (10 + L) (137 + 25 * cm + 4) (-1)) (10 + L) (137 + 25 * cm + 5) 0) (10 + L) (137 + 25 * cm + 6) 0) (10 + L) (137 + 25 * cm + 7) (-1)) (10 + L) (137 + 25 * cm + 8) 0 = u
  have ur : ∀ R, R ≠ 10 + L → u R = c R := fun R hR => by rw [← hu]; simp only [up_or hR]
  have ui : ∀ i, (i < 137 + 25 * cm ∨ 162 + 25 * cm ≤ i) → u (10 + L) i = c (10 + L) i := fun i hi => by rw [← hu]; simp (disch := omega) only [up_ne]
  have uk : ∀ k, k < 9 → k ≠ 2 → u (10 + L) (137 + 25 * cm + k) = NC l sz k := fun k p q => by
    rw [← hu, hs]
    unfold NC
    rcases (show k = 0 ∨ k = 1 ∨ k = 3 ∨ k = 4 ∨ k = 5 ∨ k = 6 ∨ k = 7 ∨ k = 8 by omega) with rfl | rfl | rfl | rfl | rfl | rfl | rfl | rfl <;> (simp (disch := omega) only [up_ne, up_eq]; rfl)
  have u2 : u (10 + L) (137 + 25 * cm + 2) = nI t := by rw [← hu]; simp (disch := omega) only [up_ne, up_eq]
  clear hu
  have us : u (10 + L) (113 + 4 * l + 1) = nI sz := by rw [ui _ (by omega)]; exact hs
  have u9 : u (10 + L) 9 = nI cm := by rw [ui _ (by omega)]; exact h9
  rw [us, u9, ws_n (by omega) (by omega), bS, up_ne (by omega), us, show nI sz + 1 = nI (sz + 1) from nI_add _ 1, show (0 : Int32) = nI 0 from rfl, ws_n (by omega) (by omega), bS, up_ne (by omega), up_ne (by omega), up_ne (by omega), up_ne (by omega), up_ne (by omega), u9, show nI cm + 1 = nI (cm + 1) from nI_add _ 1]
  refine ⟨_, rfl, fun R a b d => ?_, fun i p q s => ?_, ?_, ?_, fun k p q => ?_, ?_, ?_, fun a ha => ?_, ?_, fun p hp => ?_⟩
  · rw [up_or a, up_or d, up_or a, up_or b, ur R a]
  · rw [up_ne (by omega), up_ne (by omega), up_ne (by omega), up_ne (by omega)]; exact ui i s
  · exact up_eq
  · rw [up_ne (by omega), up_ne (by omega), up_eq]
  · rw [up_ne (by omega), up_ne (by omega), up_ne (by omega), up_ne (by omega)]; exact uk k p q
  · rw [up_ne (by omega), up_ne (by omega), up_ne (by omega), up_ne (by omega)]; exact u2
  · rw [up_ne (by omega), up_eq, ur _ (by omega)]; rfl
  · rw [up_ne (by omega), up_ne (by omega), up_ne (by omega), up_ne (by omega), ur _ (by omega)]
  · rw [up_ne (by omega), up_ne (by omega), up_ne (by omega), up_eq]
  · rw [up_ne (by omega), up_ne (by omega), up_ne (by omega), up_ne (by omega), ur _ (by omega)]
theorem add_ok {r c : RS} {g : CG} {L l sm lm cm B U t len : Nat} (hL : L < 12) (hq : QY c g L (r 1) sm lm cm B U) (hcm : cm < 30) (hl : l < lm) (hlen1 : 1 ≤ len) (hlen : len ≤ 16) (h19 : r 0 19 = nI len) (ht1 : 1 ≤ t) (ht2 : t ≤ g.nt) (hg : g.nt < 2 ^ 31) (ht0 : c (500 + t) 0 = nI len) (htk : ∀ k, k < len → c (500 + t) (1 + k) = r 7 k ∧ ∃ a, a < 26 ∧ r 7 k = nI a) : ∃ r2 c2, F8_adds r (nI l) = some r2 ∧ C3_addCard g c L (nI l) (nI t) = some c2 ∧ (∀ R, R ≠ 1 → r2 R = r R) ∧ (∀ R, ¬ OWN L R → c2 R = c R) ∧ QY c2 g L (r2 1) sm lm (cm + 1) B U ∧ r2 1 9 = nI (cm + 1) ∧ c2 (10 + L) 9 = nI (cm + 1) ∧ (∀ i, i ≠ 9 → i ≠ 114 + 4 * l → (i < 137 + 25 * cm ∨ 162 + 25 * cm ≤ i) → r2 1 i = r 1 i) := by
  have hsm := hq.a.sm6; have hlm := hq.a.lm6
  have hsz := cnt_le (n := cm) (p := loC (sC (c (10 + L))) l)
  have es : c (10 + L) (113 + 4 * l + 1) = nI (cnt cm (loC (sC (c (10 + L))) l)) := by
    rw [sL_r (v := c (10 + L)) (by omega) (by omega)]; exact hq.l.size l hl
  have esv : r 1 (113 + 4 * l + 1) = nI (cnt cm (loC (sC (c (10 + L))) l)) := by
    rw [sL_r (v := r 1) (by omega) (by omega), hq.l.eql l 1 hl (by omega)]; exact hq.l.size l hl
  obtain ⟨r2, a1, a2, a3, a4, a5, a6, a7, a8⟩ := adds_F (r := r) (l := l) (by omega) hcm hlen (by omega) hq.v9 esv h19
  obtain ⟨c2, b1, b2, b3, b4, b5, b6, b7, b8, b9, b10, b11⟩ := adds_C (c := c) (g := g) (L := L) (l := l) (t := t) hL (by omega) hcm (by omega) hq.n9 es
  have bx : ∀ t', c2 (500 + t') = c (500 + t') := fun t' => b2 _ (by omega) (by omega) (by omega)
  have key := QR.card (v2 := r2 1) (w2 := c2 (10 + L)) (iv2 := c2 (400 + L)) (bp2 := fun l => c2 (100 + 6 * L + l)) (tx2 := fun t => c2 (500 + t)) (nt2 := g.nt) (l := l) (t := t) (len := len) hq hcm hl hlen1 hlen a3 a4 a5 a6 a7 (fun k hk => by
    rw [a8 k hk]
    rw [bx t, (htk k hk).1]
    exact ⟨rfl, (htk k hk).2⟩) b3 b4 b5 b6 b7 b8 (fun a p q => b9 a (by omega)) b10 (fun l' p q z => by
    by_cases e : l' = l
    · subst e; exact b11 p (fun y => z ⟨rfl, y⟩)
    · rw [b2 _ (by omega) (by omega) (by omega)]) (Nat.le_refl _) (fun t' _ _ => bx t') ht1 ht2 (by omega) (by rw [bx t]; exact ht0)
  refine ⟨r2, c2, a1, b1, a2, fun R hR => b2 R (by unfold OWN at hR; omega) (by unfold OWN at hR; omega) (by unfold OWN at hR; omega), ?_, a4, b4, a3⟩
  exact key.congr (Nat.le_refl _) (fun l' h' => rfl) (fun l' h' => b2 _ (by omega) (by omega) (by omega)) (fun l' h' => b2 _ (by omega) (by omega) (by omega)) (fun t' _ _ => rfl)
end
section
theorem QR.lot {v w iv v2 w2 : Nat → Int32} {bp dl df tx : Nat → Nat → Int32} {nt sm lm cm B U p : Nat} (h : QR v w iv bp dl df tx nt sm lm cm B U) (hlm : lm < 6) (hp : p ≤ 9)
    (hv : ∀ i, i ≠ 8 → (i < 113 + 4 * lm ∨ 117 + 4 * lm ≤ i) → v2 i = v i) (hv8 : v2 8 = nI (lm + 1)) (hv0 : v2 (113 + 4 * lm + 0) = nI p) (hvk : ∀ k, 1 ≤ k → k < 4 → v2 (113 + 4 * lm + k) = nI 0)
    (hw : ∀ i, i ≠ 8 → (i < 113 + 4 * lm ∨ 117 + 4 * lm ≤ i) → (i < 1100 + 8 * lm ∨ 1108 + 8 * lm ≤ i) → w2 i = w i) (hw8 : w2 8 = nI (lm + 1)) (hw0 : w2 (113 + 4 * lm + 0) = nI p) (hwk : ∀ k, 1 ≤ k → k < 4 → w2 (113 + 4 * lm + k) = nI 0) (hwe : ∀ k, k < 5 → w2 (1100 + 8 * lm + k) = nI 0)
    (htime : w 6 = nI 0) (hday : ∃ d, 1 ≤ d ∧ d ≤ 2000 ∧ w 0 = nI d) : QR v2 w2 iv bp dl df tx nt sm (lm + 1) cm B U := by
  have hsm := h.a.sm6; have hcm := h.a.cm30
  have A : ∀ i, i < 17 → i ≠ 8 → sA w2 i = sA w i := fun i a b => by rw [← sA_r (v := w2) a, ← sA_r (v := w) a]; exact hw i b (by omega) (by omega)
  have Av : ∀ i, i < 17 → i ≠ 8 → sA v2 i = sA v i := fun i a b => by rw [← sA_r (v := v2) a, ← sA_r (v := v) a]; exact hv i b (by omega)
  have S : ∀ s k, s < 6 → k < 16 → sS w2 s k = sS w s k := fun s k a b => by rw [← sS_r (v := w2) a b, ← sS_r (v := w) a b]; exact hw _ (by omega) (by omega) (by omega)
  have Sv : ∀ s k, s < 6 → k < 16 → sS v2 s k = sS v s k := fun s k a b => by rw [← sS_r (v := v2) a b, ← sS_r (v := v) a b]; exact hv _ (by omega) (by omega)
  have Lc : ∀ s k, s < lm → k < 4 → sL w2 s k = sL w s k := fun s k a b => by rw [← sL_r (v := w2) (by omega) b, ← sL_r (v := w) (by omega) b]; exact hw _ (by omega) (by omega) (by omega)
  have Lv : ∀ s k, s < lm → k < 4 → sL v2 s k = sL v s k := fun s k a b => by rw [← sL_r (v := v2) (by omega) b, ← sL_r (v := v) (by omega) b]; exact hv _ (by omega) (by omega)
  have E : ∀ s k, s < lm → k < 5 → sE w2 s k = sE w s k := fun s k a b => by rw [← sE_r (v := w2) (by omega) (by omega), ← sE_r (v := w) (by omega) (by omega)]; exact hw _ (by omega) (by omega) (by omega)
  have C : ∀ s k, s < 30 → k < 25 → sC w2 s k = sC w s k := fun s k a b => by rw [← sC_r (v := w2) a b, ← sC_r (v := w) a b]; exact hw _ (by omega) (by omega) (by omega)
  have Cv : ∀ s k, s < 30 → k < 25 → sC v2 s k = sC v s k := fun s k a b => by rw [← sC_r (v := v2) a b, ← sC_r (v := v) a b]; exact hv _ (by omega) (by omega)
  have F : ∀ i, i < 30 → sF w2 i = sF w i := fun i a => by rw [← sF_r (v := w2) a, ← sF_r (v := w) a]; exact hw _ (by omega) (by omega) (by omega)
  have Fv : ∀ i, i < 30 → sF v2 i = sF v i := fun i a => by rw [← sF_r (v := v2) a, ← sF_r (v := v) a]; exact hv _ (by omega) (by omega)
  have L0 : sL w2 lm 0 = nI p := by rw [← sL_r (v := w2) (by omega) (by omega)]; exact hw0
  have L0v : sL v2 lm 0 = nI p := by rw [← sL_r (v := v2) (by omega) (by omega)]; exact hv0
  have Lk : ∀ k, 1 ≤ k → k < 4 → sL w2 lm k = nI 0 := fun k a b => by rw [← sL_r (v := w2) (by omega) (by omega)]; exact hwk k a b
  have Lkv : ∀ k, 1 ≤ k → k < 4 → sL v2 lm k = nI 0 := fun k a b => by rw [← sL_r (v := v2) (by omega) (by omega)]; exact hvk k a b
  have En : ∀ k, k < 5 → sE w2 lm k = nI 0 := fun k a => by rw [← sE_r (v := w2) (by omega) (by omega)]; exact hwe k a
  have lotn : ∀ c, c < cm → ¬ sC w c 0 = nI lm := fun c hc e => by
    obtain ⟨l, l1, l2⟩ := h.c.lot c hc
    rw [l2] at e
    have := nI_inj (by omega) (by omega) e
    omega
  have cst : ∀ a, cnt cm (stC (sC w2) a) = cnt cm (stC (sC w) a) := fun a => cnt_congr fun i hi => by unfold stC; rw [C i 3 (by omega) (by omega)]
  have clo : ∀ a, cnt cm (loC (sC w2) a) = cnt cm (loC (sC w) a) := fun a => cnt_congr fun i hi => by unfold loC; rw [C i 0 (by omega) (by omega)]
  have cls : ∀ l a, cnt cm (lsC (sC w2) l a) = cnt cm (lsC (sC w) l a) := fun l a => cnt_congr fun i hi => by unfold lsC; rw [C i 0 (by omega) (by omega), C i 3 (by omega) (by omega)]
  have csu : ∀ l k, k < 9 → sumI cm (suC (sC w2) l k) = sumI cm (suC (sC w) l k) := fun l k hk => sumI_congr fun i hi => by unfold suC; rw [C i 0 (by omega) (by omega), C i k (by omega) (by omega)]
  have cnt0 : ∀ n (q : Nat → Bool), (∀ i, i < n → q i = false) → cnt n q = 0 := fun n => by
    induction n with
    | zero => intro q _; rfl
    | succ n ih => intro q hq; rw [cnt_s, ih q (fun i hi => hq i (by omega)), hq n (by omega)]; rfl
  have sum0 : ∀ n (q : Nat → Int32), (∀ i, i < n → q i = nI 0) → sumI n q = nI 0 := fun n => by
    induction n with
    | zero => intro q _; rfl
    | succ n ih => intro q hq; rw [sumI_s, ih q (fun i hi => hq i (by omega)), hq n (by omega)]; rfl
  have z1 : cnt cm (loC (sC w) lm) = 0 := cnt0 cm _ fun i hi => by unfold loC; exact decide_eq_false (lotn i hi)
  have z2 : ∀ a, cnt cm (lsC (sC w) lm a) = 0 := fun a => cnt0 cm _ fun i hi => by unfold lsC; exact decide_eq_false (fun q => lotn i hi q.1)
  have z3 : ∀ k, sumI cm (suC (sC w) lm k) = nI 0 := fun k => sum0 cm _ fun i hi => by unfold suC; exact if_neg (lotn i hi)
  have fn : ∀ c, c < cm → (fin (sC w2) c ↔ fin (sC w) c) := fun c hc => by unfold fin; rw [C c 3 (by omega) (by omega)]
  refine ⟨?_, ?_, ?_, ?_, ?_, ?_, ?_⟩
  · obtain ⟨a1, a2, a3, a4, a5, a6, a7, a8, a9, a10⟩ := h.a
    refine ⟨a1, by omega, a3, a4, ?_, ?_, ?_, fun i q1 q2 q3 => ?_, ?_, ?_⟩
    · rw [A 7 (by omega) (by omega)]; exact a5
    · rw [← sA_r (v := w2) (by omega)]; exact hw8
    · rw [A 9 (by omega) (by omega)]; exact a7
    · by_cases e : i = 8
      · subst e; rw [← sA_r (v := v2) (by omega), ← sA_r (v := w2) (by omega), hv8, hw8]
      · rw [A i q1 e, Av i q1 e]; exact a8 i q1 q2 q3
    · rw [A 0 (by omega) (by omega)]; exact a9
    · rw [A 6 (by omega) (by omega)]; exact a10
  · obtain ⟨b1, b2, b3, b4, b5, b6, b7, b8, b9, b10⟩ := h.s
    refine ⟨fun s k hs hk h8 => ?_, fun s hs => ?_, fun s hs => ?_, fun s hs => ?_, fun s hs => ?_, fun s hs => ?_, fun s hs => ?_, fun s hs => ?_, fun s hs => ?_, fun s hs => ?_⟩
    · rw [S s k (by omega) (by omega), Sv s k (by omega) (by omega)]; exact b1 s k hs hk h8
    · rw [S s 0 (by omega) (by omega), S s 8 (by omega) (by omega), Sv s 8 (by omega) (by omega)]; exact b2 s hs
    · rw [S s 0 (by omega) (by omega), Sv s 8 (by omega) (by omega)]; exact b3 s hs
    · rw [S s 1 (by omega) (by omega)]; exact b4 s hs
    · rw [S s 2 (by omega) (by omega)]
      rcases b5 s hs with e | ⟨c, c1, c2, c3, c4⟩
      · exact Or.inl e
      · exact Or.inr ⟨c, by omega, c2, by rw [C c 3 (by omega) (by omega)]; exact c3, by rw [C c 4 (by omega) (by omega)]; exact c4⟩
    · rw [S s 3 (by omega) (by omega)]; exact b6 s hs
    · rw [S s 4 (by omega) (by omega), S s 5 (by omega) (by omega)]; exact b7 s hs
    · rw [S s 7 (by omega) (by omega)]; exact b8 s hs
    · rw [S s 14 (by omega) (by omega), Sv s 14 (by omega) (by omega), Sv s 15 (by omega) (by omega)]
      exact b9 s hs
    · rw [S s 14 (by omega) (by omega)]; exact b10 s hs
  · obtain ⟨b1, b2, b3, b4, b5, b6⟩ := h.c
    refine ⟨fun s k hs hk h8 => ?_, fun s hs => ?_, fun s hs => ?_, fun s hs => ?_, fun s hs => ?_, fun s hs => ?_⟩
    · rw [C s k (by omega) (by omega), Cv s k (by omega) (by omega)]; exact b1 s k hs hk h8
    · rw [C s 0 (by omega) (by omega)]
      obtain ⟨l, l1, l2⟩ := b2 s hs
      exact ⟨l, by omega, l2⟩
    · rw [C s 3 (by omega) (by omega)]; exact b3 s hs
    · rw [C s 8 (by omega) (by omega), C s 3 (by omega) (by omega)]; exact b4 s hs
    · rw [C s 2 (by omega) (by omega), Cv s 2 (by omega) (by omega)]
      obtain ⟨t', n, z1, z2, z3, z4, z5, z6, z7, z8⟩ := b5 s hs
      refine ⟨t', n, z1, z2, z3, z4, z5, z6, z7, fun k hk => ?_⟩
      rw [Cv s (9 + k) (by omega) (by omega)]; exact z8 k hk
    · rw [C s 2 hs (by omega)]; exact b6 s hs
  · obtain ⟨b1, b2, b3⟩ := h.n
    refine ⟨fun a ha => ?_, ?_, fun i q => ?_⟩
    · rw [cst a]; exact b1 a ha
    · rw [Av 10 (by omega) (by omega)]; exact b2
    · rw [cst 3] at q
      have := cnt_le (n := cm) (p := stC (sC w) 3)
      rw [F i (by omega), Fv i (by omega)]; exact b3 i q
  · obtain ⟨b1, b2, b3, b4, b5, b6, b7, b8, b9, b10⟩ := h.l
    refine ⟨fun l' k q1 q2 => ?_, fun l' q1 => ?_, fun l' q1 => ?_, fun l' q1 => ?_, fun l' q1 => ?_, fun l' q1 => ?_, fun l' q1 => ?_, fun l' q1 p q2 => ?_, fun l' c q1 q2 q3 => ?_, fun l' q1 => ?_⟩
    · by_cases e : l' = lm
      · subst e
        by_cases e2 : k = 0
        · rw [e2, L0, L0v]
        · rw [Lk k (by omega) q2, Lkv k (by omega) q2]
      · rw [Lc l' k (by omega) q2, Lv l' k (by omega) q2]; exact b1 l' k (by omega) q2
    · by_cases e : l' = lm
      · subst e; exact ⟨p, hp, L0⟩
      · rw [Lc l' 0 (by omega) (by omega)]; exact b2 l' (by omega)
    · rw [cls]
      by_cases e : l' = lm
      · subst e; rw [En 1 (by omega), z2]
      · rw [E l' 1 (by omega) (by omega)]; exact b3 l' (by omega)
    · rw [cls]
      by_cases e : l' = lm
      · subst e; rw [En 2 (by omega), z2]
      · rw [E l' 2 (by omega) (by omega)]; exact b4 l' (by omega)
    · rw [csu _ _ (by omega)]
      by_cases e : l' = lm
      · subst e; rw [En 3 (by omega), z3]
      · rw [E l' 3 (by omega) (by omega)]; exact b5 l' (by omega)
    · rw [csu _ _ (by omega)]
      by_cases e : l' = lm
      · subst e; rw [En 4 (by omega), z3]
      · rw [E l' 4 (by omega) (by omega)]; exact b6 l' (by omega)
    · rw [clo]
      by_cases e : l' = lm
      · subst e; rw [Lk 1 (by omega) (by omega), z1]
      · rw [Lc l' 1 (by omega) (by omega)]; exact b7 l' (by omega)
    · rw [clo] at q2
      by_cases e : l' = lm
      · subst e; rw [z1] at q2; omega
      · obtain ⟨c, y1, y2, y3, y4⟩ := b8 l' (by omega) p q2
        exact ⟨c, y1, y2, by rw [C c 0 (by omega) (by omega)]; exact y3, by rw [C c 1 (by omega) (by omega)]; exact y4⟩
    · rw [C c 0 (by omega) (by omega)] at q3
      by_cases e : l' = lm
      · subst e; exact absurd q3 (lotn c q2)
      · obtain ⟨p, p1, p2, p3⟩ := b9 l' c (by omega) q2 q3
        exact ⟨p, by rw [clo]; exact p1, by rw [C c 1 (by omega) (by omega)]; exact p2, p3⟩
    · rw [clo]
      by_cases e : l' = lm
      · subst e
        rw [z1]
        exact ⟨0, Nat.le_refl _, En 0 (by omega), fun p c r1 => by omega, fun c r1 => by omega⟩
      · obtain ⟨q, p1, p2, p3, p4⟩ := b10 l' (by omega)
        exact ⟨q, p1, by rw [E l' 0 (by omega) (by omega)]; exact p2, fun p c r1 r2 r3 => (fn c r2).mpr (p3 p c r1 r2 r3), fun c r1 r2 r3 f => p4 c r1 r2 r3 ((fn c r2).mp f)⟩
  · obtain ⟨b1, b2⟩ := h.d
    have ht : sA w 6 = nI 0 := by rw [← sA_r (v := w) (by omega)]; exact htime
    obtain ⟨d0, d1, d2, d3⟩ := hday
    refine ⟨fun d t q1 q2 q3 q4 => ?_, fun d t l i q1 q2 q3 q4 q5 q6 => ?_⟩
    · rw [A 0 (by omega) (by omega)] at q3
      rw [A 6 (by omega) (by omega)] at q4
      rw [Av 11 (by omega) (by omega)]
      exact b1 d t q1 q2 q3 q4
    · rw [A 0 (by omega) (by omega)] at q3
      rw [A 6 (by omega) (by omega), ht] at q4
      have := nI_inj (by omega) (by omega) q4
      subst this
      rw [Nat.zero_div] at q6
      omega
  · intro q hq
    rw [C q 3 (by omega) (by omega), C q 4 (by omega) (by omega)]; exact h.wh q hq
end
section
theorem QR.stat {v w iv v2 w2 : Nat → Int32} {bp dl df tx tx2 : Nat → Nat → Int32} {nt nt2 sm lm cm B U ty p t len : Nat} {m : Int32} (h : QR v w iv bp dl df tx nt sm lm cm B U) (hsm : sm < 6) (hty : ty < 4) (hp1 : 1 ≤ p) (hp : p ≤ 99)
    (hv : ∀ i, i ≠ 7 → (i < 17 + 16 * sm ∨ 33 + 16 * sm ≤ i) → v2 i = v i) (hv7 : v2 7 = nI (sm + 1)) (hv0 : v2 (17 + 16 * sm + 0) = nI ty) (hv1 : v2 (17 + 16 * sm + 1) = nI p) (hv2 : v2 (17 + 16 * sm + 2) = m1) (hvk : ∀ k, 3 ≤ k → k < 14 → k ≠ 8 → v2 (17 + 16 * sm + k) = nI 0) (hv8 : v2 (17 + 16 * sm + 8) = if ty = 3 then nI 0 else m1) (hvn : v2 (17 + 16 * sm + 14) = nI len) (hvm : v2 (17 + 16 * sm + 15) = m)
    (hw : ∀ i, i ≠ 7 → (i < 17 + 16 * sm ∨ 33 + 16 * sm ≤ i) → w2 i = w i) (hw7 : w2 7 = nI (sm + 1)) (hw0 : w2 (17 + 16 * sm + 0) = nI ty) (hw1 : w2 (17 + 16 * sm + 1) = nI p) (hw2 : w2 (17 + 16 * sm + 2) = m1) (hwk : ∀ k, 3 ≤ k → k < 14 → w2 (17 + 16 * sm + k) = nI 0) (hwt : w2 (17 + 16 * sm + 14) = nI t)
    (hnt : nt ≤ nt2) (htx : ∀ t', 1 ≤ t' → t' ≤ nt → tx2 t' = tx t') (ht1 : 1 ≤ t) (ht2 : t ≤ nt2) (ht31 : t < 2 ^ 31) (hl1 : 1 ≤ len) (hl : len ≤ 12) (ht0 : tx2 t 0 = nI len) (hbits : ∀ k, k < len → (tx2 t (1 + k) = nI 49 ↔ (m >>> nI k) &&& nI 1 = nI 1)) : QR v2 w2 iv bp dl df tx2 nt2 (sm + 1) lm cm B U := by
  have hlm := h.a.lm6; have hcm := h.a.cm30
  have A : ∀ i, i < 17 → i ≠ 7 → sA w2 i = sA w i := fun i a b => by rw [← sA_r (v := w2) a, ← sA_r (v := w) a]; exact hw i b (by omega)
  have Av : ∀ i, i < 17 → i ≠ 7 → sA v2 i = sA v i := fun i a b => by rw [← sA_r (v := v2) a, ← sA_r (v := v) a]; exact hv i b (by omega)
  have S : ∀ s k, s < 6 → s ≠ sm → k < 16 → sS w2 s k = sS w s k := fun s k a c b => by rw [← sS_r (v := w2) a b, ← sS_r (v := w) a b]; exact hw _ (by omega) (by omega)
  have Sv : ∀ s k, s < 6 → s ≠ sm → k < 16 → sS v2 s k = sS v s k := fun s k a c b => by rw [← sS_r (v := v2) a b, ← sS_r (v := v) a b]; exact hv _ (by omega) (by omega)
  have N : ∀ k, k < 16 → sS w2 sm k = w2 (17 + 16 * sm + k) := fun k b => (sS_r (v := w2) hsm b).symm
  have Nv : ∀ k, k < 16 → sS v2 sm k = v2 (17 + 16 * sm + k) := fun k b => (sS_r (v := v2) hsm b).symm
  have eL : sL w2 = sL w := by
    funext a b; unfold sL
    split
    · exact hw _ (by omega) (by omega)
    · rfl
  have eLv : sL v2 = sL v := by
    funext a b; unfold sL
    split
    · exact hv _ (by omega) (by omega)
    · rfl
  have eE : sE w2 = sE w := by
    funext a b; unfold sE
    split
    · exact hw _ (by omega) (by omega)
    · rfl
  have eC : sC w2 = sC w := by
    funext a b; unfold sC
    split
    · exact hw _ (by omega) (by omega)
    · rfl
  have eCv : sC v2 = sC v := by
    funext a b; unfold sC
    split
    · exact hv _ (by omega) (by omega)
    · rfl
  have eF : sF w2 = sF w := by
    funext a; unfold sF
    split
    · exact hw _ (by omega) (by omega)
    · rfl
  have eFv : sF v2 = sF v := by
    funext a; unfold sF
    split
    · exact hv _ (by omega) (by omega)
    · rfl
  have ePv : sP v2 = sP v := by
    funext a; unfold sP
    split
    · exact hv _ (by omega) (by omega)
    · rfl
  refine ⟨?_, ?_, ?_, ?_, ?_, ?_, ?_⟩
  · obtain ⟨a1, a2, a3, a4, a5, a6, a7, a8, a9, a10⟩ := h.a
    refine ⟨by omega, a2, a3, a4, ?_, ?_, ?_, fun i q1 q2 q3 => ?_, ?_, ?_⟩
    · rw [← sA_r (v := w2) (by omega)]; exact hw7
    · rw [A 8 (by omega) (by omega)]; exact a6
    · rw [A 9 (by omega) (by omega)]; exact a7
    · by_cases e : i = 7
      · subst e; rw [← sA_r (v := v2) (by omega), ← sA_r (v := w2) (by omega), hv7, hw7]
      · rw [A i q1 e, Av i q1 e]; exact a8 i q1 q2 q3
    · rw [A 0 (by omega) (by omega)]; exact a9
    · rw [A 6 (by omega) (by omega)]; exact a10
  · rw [eC]
    obtain ⟨b1, b2, b3, b4, b5, b6, b7, b8, b9, b10⟩ := h.s
    have x0 : sS w2 sm 0 = nI ty := (N 0 (by omega)).trans hw0
    have x8 : sS w2 sm 8 = nI 0 := (N 8 (by omega)).trans (hwk 8 (by omega) (by omega))
    have y8 : sS v2 sm 8 = if ty = 3 then nI 0 else m1 := (Nv 8 (by omega)).trans hv8
    refine ⟨fun s k hs hk h8 => ?_, fun s hs => ?_, fun s hs => ?_, fun s hs => ?_, fun s hs => ?_, fun s hs => ?_, fun s hs => ?_, fun s hs => ?_, fun s hs => ?_, fun s hs => ?_⟩
    · by_cases e : s = sm
      · subst e
        rw [N k (by omega), Nv k (by omega)]
        rcases (show k = 0 ∨ k = 1 ∨ k = 2 ∨ 3 ≤ k by omega) with rfl | rfl | rfl | k3
        · rw [hv0, hw0]
        · rw [hv1, hw1]
        · rw [hv2, hw2]
        · rw [hvk k k3 hk h8, hwk k k3 hk]
      · rw [S s k (by omega) e (by omega), Sv s k (by omega) e (by omega)]; exact b1 s k (by omega) hk h8
    · by_cases e : s = sm
      · subst e
        rw [x0, x8, y8]
        intro q
        have := nI_inj (by omega) (by omega) q
        rw [if_pos this]
        exact ⟨rfl, 0, by omega, rfl⟩
      · rw [S s 0 (by omega) e (by omega), S s 8 (by omega) e (by omega), Sv s 8 (by omega) e (by omega)]; exact b2 s (by omega)
    · by_cases e : s = sm
      · subst e
        rw [x0, y8]
        intro q
        exact if_neg fun z => q (by rw [z])
      · rw [S s 0 (by omega) e (by omega), Sv s 8 (by omega) e (by omega)]; exact b3 s (by omega)
    · by_cases e : s = sm
      · subst e; exact ⟨p, hp1, hp, (N 1 (by omega)).trans hw1⟩
      · rw [S s 1 (by omega) e (by omega)]; exact b4 s (by omega)
    · by_cases e : s = sm
      · subst e; exact Or.inl ((N 2 (by omega)).trans hw2)
      · rw [S s 2 (by omega) e (by omega)]; exact b5 s (by omega)
    · by_cases e : s = sm
      · subst e; exact ⟨0, by omega, (N 3 (by omega)).trans (hwk 3 (by omega) (by omega))⟩
      · rw [S s 3 (by omega) e (by omega)]; exact b6 s (by omega)
    · by_cases e : s = sm
      · subst e; exact ⟨⟨0, by omega, (N 4 (by omega)).trans (hwk 4 (by omega) (by omega))⟩, 0, by omega, (N 5 (by omega)).trans (hwk 5 (by omega) (by omega))⟩
      · rw [S s 4 (by omega) e (by omega), S s 5 (by omega) e (by omega)]; exact b7 s (by omega)
    · by_cases e : s = sm
      · subst e; exact Or.inl ((N 7 (by omega)).trans (hwk 7 (by omega) (by omega)))
      · rw [S s 7 (by omega) e (by omega)]; exact b8 s (by omega)
    · by_cases e : s = sm
      · subst e
        rw [N 14 (by omega), Nv 14 (by omega), Nv 15 (by omega), hwt, hvn, hvm]
        exact ⟨t, len, ht1, ht2, rfl, ht0, hl1, hl, rfl, hbits⟩
      · rw [S s 14 (by omega) e (by omega), Sv s 14 (by omega) e (by omega), Sv s 15 (by omega) e (by omega)]
        obtain ⟨t', n, z1, z2, z3, z4, z5, z6, z7, z8⟩ := b9 s (by omega)
        exact ⟨t', n, z1, by omega, z3, by rw [htx t' z1 z2]; exact z4, z5, z6, z7, fun k hk => by rw [htx t' z1 z2]; exact z8 k hk⟩
    · by_cases e : s = sm
      · subst e; rw [N 14 (by omega), hwt, nI_clamp ht31]; exact ht2
      · rw [S s 14 (by omega) e (by omega)]; exact Nat.le_trans (b10 s hs) hnt
  · rw [eC, eCv]
    obtain ⟨b1, b2, b3, b4, b5, b6⟩ := h.c
    refine ⟨b1, b2, b3, b4, fun s hs => ?_, fun s hs => Nat.le_trans (b6 s hs) hnt⟩
    obtain ⟨t', n, z1, z2, z3, z4, z5, z6, z7, z8⟩ := b5 s hs
    exact ⟨t', n, z1, by omega, z3, by rw [htx t' z1 z2]; exact z4, z5, z6, z7, fun k hk => by rw [htx t' z1 z2]; exact z8 k hk⟩
  · rw [eC, eF, eFv]
    obtain ⟨b1, b2, b3⟩ := h.n
    exact ⟨b1, by rw [Av 10 (by omega) (by omega)]; exact b2, b3⟩
  · rw [eC, eL, eLv, eE]; exact h.l
  · rw [ePv]
    obtain ⟨b1, b2⟩ := h.d
    refine ⟨fun d t q1 q2 q3 q4 => ?_, fun d t l i q1 q2 q3 q4 q5 q6 => ?_⟩
    · rw [A 0 (by omega) (by omega)] at q3
      rw [A 6 (by omega) (by omega)] at q4
      rw [Av 11 (by omega) (by omega)]
      exact b1 d t q1 q2 q3 q4
    · rw [A 0 (by omega) (by omega)] at q3
      rw [A 6 (by omega) (by omega)] at q4
      exact b2 d t l i q1 q2 q3 q4 q5 q6
  · rw [eC]; exact h.wh
theorem QR.fresh {v w iv : Nat → Int32} {bp dl df tx : Nat → Nat → Int32} {nt B U d : Nat} (hB : B < 2000000000) (hd1 : 1 ≤ d) (hd : d ≤ 2000) (e0 : w 0 = nI d) (e6 : w 6 = nI 0) (e7 : w 7 = nI 0) (e8 : w 8 = nI 0) (e9 : w 9 = nI 0) (heq : ∀ i, i < 17 → i ≠ 10 → i ≠ 11 → v i = w i) (v10 : v 10 = nI 0) (v11 : v 11 = nI 0) (hiv : ∀ a, a < 5 → iv a = nI 0) (ht : TIr w nt) : QR v w iv bp dl df tx nt 0 0 0 B U := by
  refine ⟨⟨by omega, by omega, by omega, hB, ?_, ?_, ?_, fun i q1 q2 q3 => ?_, ⟨d, hd1, hd, ?_⟩, ⟨0, by omega, ?_⟩⟩, ⟨fun s k hs => absurd hs (by omega), fun s hs => absurd hs (by omega), fun s hs => absurd hs (by omega), fun s hs => absurd hs (by omega), fun s hs => absurd hs (by omega), fun s hs => absurd hs (by omega), fun s hs => absurd hs (by omega), fun s hs => absurd hs (by omega), fun s hs => absurd hs (by omega), ht.1⟩, ⟨fun s k hs => absurd hs (by omega), fun s hs => absurd hs (by omega), fun s hs => absurd hs (by omega), fun s hs => absurd hs (by omega), fun s hs => absurd hs (by omega), ht.2⟩, ⟨fun a ha => hiv a ha, ?_, fun i q => ?_⟩, ⟨fun s k hs => absurd hs (by omega), fun s hs => absurd hs (by omega), fun s hs => absurd hs (by omega), fun s hs => absurd hs (by omega), fun s hs => absurd hs (by omega), fun s hs => absurd hs (by omega), fun s hs => absurd hs (by omega), fun s hs => absurd hs (by omega), fun s q hs => absurd hs (by omega), fun s hs => absurd hs (by omega)⟩, ⟨fun d t q1 q2 q3 q4 => ?_, fun d t l i q1 q2 q3 q4 q5 => absurd q5 (by omega)⟩, fun c hc => absurd hc (by omega)⟩
  · rw [← sA_r (v := w) (by omega)]; exact e7
  · rw [← sA_r (v := w) (by omega)]; exact e8
  · rw [← sA_r (v := w) (by omega)]; exact e9
  · rw [← sA_r (v := v) q1, ← sA_r (v := w) q1]; exact heq i q1 q2 q3
  · rw [← sA_r (v := w) (by omega)]; exact e0
  · rw [← sA_r (v := w) (by omega)]; exact e6
  · rw [← sA_r (v := v) (by omega), v10, hiv 3 (by omega)]
  · exact absurd q (by show ¬ i < 0; omega)
  · rw [← sA_r (v := w) (by omega), e6] at q4
    have := nI_inj (by omega) (by omega) q4
    rw [← this, Nat.zero_div, Nat.min_zero, ← sA_r (v := v) (by omega)]
    exact v11
end
section
noncomputable def XC (nt : Nat) (u' u : RS) : Prop := (∀ R, R ≠ 0 → R ≠ 4 → R ≠ 5 → R ≠ 6 → ¬ OWN 1 R → R ≤ 500 + nt → u' R = u R) ∧ (∀ i, i ≠ 6 → i ≠ 7 → i ≠ 8 → i ≠ 10 → i ≠ 11 → u' 0 i = u 0 i) ∧ u' 5 0 = u 5 0
noncomputable def XW (w' w : RS) : Prop := (∀ R, R ≠ 0 → R ≠ 1 → R ≠ 7 → R ≠ 8 → w' R = w R) ∧ ∀ i, i ≠ 9 → i ≠ 10 → i ≠ 11 → i ≠ 12 → i ≠ 14 → i ≠ 19 → w' 0 i = w 0 i
theorem FC.x {u' u : RS} {nt : Nat} (h : FC u' u) : XC nt u' u := ⟨fun R a _ _ _ _ _ => h.1 R a, fun i a b c _ _ => h.2 i a b c, by rw [h.1 5 (by decide)]⟩
theorem FW1.x {w' w : RS} (h : FW1 w' w) : XW w' w := ⟨fun R a b _ _ => h.1 R a b, fun i a b c d _ _ => h.2 i a b c d⟩
theorem XC.trans {a b c : RS} {n m : Nat} (h : XC n a b) (h2 : XC m b c) (hm : m ≤ n) : XC m a c := ⟨fun R p q r s t z => (h.1 R p q r s t (by omega)).trans (h2.1 R p q r s t z), fun i p q r s t => (h.2.1 i p q r s t).trans (h2.2.1 i p q r s t), h.2.2.trans h2.2.2⟩
theorem XW.trans {a b c : RS} (h : XW a b) (h2 : XW b c) : XW a c := ⟨fun R p q r s => (h.1 R p q r s).trans (h2.1 R p q r s), fun i p q r s t z => (h.2 i p q r s t z).trans (h2.2 i p q r s t z)⟩
noncomputable def DR (u w : RS) (g : CG) (sm lm cm B : Nat) : Prop := QY u g 1 (w 1) sm lm cm B B ∧ (∀ s k, sm ≤ s → s < 6 → 3 ≤ k → k < 14 → k ≠ 8 → w 1 (17 + 16 * s + k) = nI 0) ∧ (∀ l k, lm ≤ l → l < 6 → 1 ≤ k → k < 4 → w 1 (113 + 4 * l + k) = nI 0) ∧ u (10 + 1) 6 = nI 0 ∧ TI g u
theorem DR.fr {u w u' w' : RS} {g : CG} {sm lm cm B : Nat} (h : DR u w g sm lm cm B) (fc : FC u' u) (fw : FW w' w) : DR u' w' g sm lm cm B := by
  obtain ⟨h1, h2, h3, h4, h5⟩ := h
  have e1 : w' 1 = w 1 := fw.1 1 (by decide)
  refine ⟨?_, by rw [e1]; exact h2, by rw [e1]; exact h3, by rw [fc.1 _ (by omega)]; exact h4, TI_fc h5 fc⟩
  rw [e1]
  exact QY.frame (by omega) h1 (Nat.le_refl _) (fun R hR => fc.1 R (by unfold OWN at hR; omega)) (fun t _ _ => fc.1 _ (by omega))
noncomputable def OUT (b : Nat → Int32) (n B m : Nat) (g : CG) (u w : RS) (g' : CG) (u' w' : RS) : Prop := XC g.nt u' u ∧ XW w' w ∧ g'.1 = g.1 ∧ g.nt ≤ g'.nt ∧ g'.nt ≤ g.nt + 1 ∧ ((∃ i sm lm cm, m ≤ i ∧ OKs b n i u' w' ∧ DR u' w' g' sm lm cm B) ∨ (ERs b n u' w' ∧ TI g' u'))
theorem TI.xl {g : CG} {u u' : RS} (h : TI g u) (hr : ∀ R, 10 ≤ R → R < 22 → u' R = u R) : TI g u' := fun L hL => by rw [hr _ (by omega) (by omega)]; exact h L hL
theorem many0 {w : RS} : F8_tooMany w (0 : Int32) = some w := by
  unfold F8_tooMany
  rw [if_pos rfl, bS]
theorem many1 {b : Nat → Int32} {n i s : Nat} {g : CG} {u w : RS} (h : OKs b n i u w) (h14 : w 0 14 = nI s) (hs : s ≤ 600) : ∃ u' w', C5_error g u (4 : Int32) (nI s) = some u' ∧ F8_tooMany w (1 : Int32) = some w' ∧ ERs b n u' w' ∧ FC u' u ∧ FW w' w := by
  obtain ⟨h1, h2, h3, h4, h5, h6, h7⟩ := h
  obtain ⟨u', w', e1, e2, e3, e4, e5⟩ := err2 (g := g) (u := u) (w := up w 0 10 (nI s)) (i := i) (e := 4) (p := s) h1 (h2.fr (FW.up (by omega))) h3 h4 h6 (by rw [up_ne (by omega)]; exact h7) up_eq hs (by omega) (by omega)
  refine ⟨u', w', e1, ?_, e3, e4, e5.trans (FW.up (by omega))⟩
  unfold F8_tooMany
  rw [if_neg (show ¬ (1 : Int32) = 0 by decide), h14, pt_n, bS, show (4 : Int32) = nI 4 from rfl, e2, bS, bS]
theorem sb1 {n : Nat} (hn : n ≤ 100) : (nI n - (1 : Int32)).toInt ≤ 2000 := by
  have := sub1_toInt (n := n) (by omega)
  show (nI n - nI 1).toInt ≤ 2000
  omega
theorem lot2 {b : Nat → Int32} {n i s sm lm cm B : Nat} {g : CG} {u w : RS} (hb : BB b n) (h : OKs b n i u w) (h1i : 1 ≤ i) (hd : DR u w g sm lm cm B) (h14 : w 0 14 = nI s) (hs : s ≤ 600) : ∃ u' w', C5_readLot g u 1 (nI s) = some u' ∧ F8_lotPart w = some w' ∧ OUT b n B i g u w g u' w' := by
  have hq := hd.1
  have hlm := hq.a.lm6
  unfold C5_readLot F8_lotPart
  rw [hq.n8, hq.v8]
  by_cases c : lm < 6
  · rw [if_pos (show nI lm < (6 : Int32) from nI_lt (b := 6) c (by omega)), if_neg (show ¬ nI lm = (6 : Int32) from nI_ne (b := 6) (by omega) (by omega) (by omega)), bS, many0, bS]
    obtain ⟨u1, w1, y, x, e1, e2, e3, e4, e5⟩ := num2 (g := g) (lo := 0) (a2 := 9) hb h (by omega) (by decide)
    rw [show (0 : Int32) = nI 0 from rfl, e1, e2, bS, bS]
    dsimp only
    rcases e5 with ⟨i', V, q1, q2, rfl, rfl, q5, q6⟩ | ⟨q1, q2⟩
    · have hd1 := hd.fr e3 e4
      have hq1 := hd1.1
      have hV : V ≤ 9 := by
        have : (9 : Int32).toInt = 9 := rfl
        omega
      rw [q2.fine, bS, if_neg nz0, if_pos (show w1 0 11 = nI 0 from q2.w0)]
      unfold C3_addLot C4_begin
      simp only [pt_n, bS]
      rw [hq1.n8, if_neg (show ¬ (6 : Int32) ≤ nI lm from nI_ge (b := 6) c (by omega)), ix_n c (by omega), bS]
      rw [hq1.v8, show (113 : Int32) + 4 * nI lm + nI 0 = nI (113 + 4 * lm + 0) by
        show nI 113 + nI 4 * nI lm + nI 0 = _
        rw [nI_mul, nI_add, nI_add], ws_n (by omega) (by omega)]
      simp only [bS]
      rw [show (8 : Int32) = nI 8 from rfl, ws_n (by omega) (by omega), up_ne (k := 1) (r := 1) (by omega), hq1.v8, show nI lm + 1 = nI (lm + 1) from nI_add _ 1]
      simp only [bS]
      generalize hU : up (up (up (up (up (up (up (up (up u1 (10 + 1) (113 + 4 * lm + 0) (nI V)) (10 + 1) (113 + 4 * lm + 1) (0 : Int32)) (10 + 1) (1100 + 8 * lm + 0) (0 : Int32)) (10 + 1) (1100 + 8 * lm + 1) (0 : Int32)) (10 + 1) (1100 + 8 * lm + 2) (0 : Int32)) (10 + 1) (1100 + 8 * lm + 3) (0 : Int32)) (10 + 1) (1100 + 8 * lm + 4) (0 : Int32)) (10 + 1) (113 + 4 * lm + 2) (0 : Int32)) (10 + 1) (113 + 4 * lm + 3) (0 : Int32) = U
      have ur : ∀ R, R ≠ 10 + 1 → U R = u1 R := fun R hR => by rw [← hU]; simp only [up_or hR]
      have ui : ∀ j, (j < 113 + 4 * lm ∨ 117 + 4 * lm ≤ j) → (j < 1100 + 8 * lm ∨ 1108 + 8 * lm ≤ j) → U (10 + 1) j = u1 (10 + 1) j := fun j p q => by rw [← hU]; simp (disch := omega) only [up_ne]
      have u0 : U (10 + 1) (113 + 4 * lm + 0) = nI V := by rw [← hU]; simp (disch := omega) only [up_ne, up_eq]
      have uk : ∀ k, 1 ≤ k → k < 4 → U (10 + 1) (113 + 4 * lm + k) = nI 0 := fun k p q => by
        rw [← hU]
        rcases (show k = 1 ∨ k = 2 ∨ k = 3 by omega) with rfl | rfl | rfl <;> (simp (disch := omega) only [up_ne, up_eq]; rfl)
      have ue : ∀ k, k < 5 → U (10 + 1) (1100 + 8 * lm + k) = nI 0 := fun k p => by
        rw [← hU]
        rcases (show k = 0 ∨ k = 1 ∨ k = 2 ∨ k = 3 ∨ k = 4 by omega) with rfl | rfl | rfl | rfl | rfl <;> (simp (disch := omega) only [up_ne, up_eq]; rfl)
      clear hU
      rw [ui 8 (by omega) (by omega), hq1.n8, show nI lm + 1 = nI (lm + 1) from nI_add _ 1]
      obtain ⟨d0, d1, d2, d3⟩ := hq1.a.day
      rw [← sA_r (v := u1 (10 + 1)) (by omega)] at d3
      have hqn := QR.lot (v2 := up (up w1 1 (113 + 4 * lm + 0) (nI V)) 1 8 (nI (lm + 1)) 1) (w2 := up U (10 + 1) 8 (nI (lm + 1)) (10 + 1)) (p := V) hq1 c hV (fun j p q => by rw [up_ne (by omega), up_ne (by omega)]) up_eq (by rw [up_ne (by omega), up_eq]) (fun k p q => by rw [up_ne (by omega), up_ne (by omega)]; exact hd1.2.2.1 lm k (Nat.le_refl _) c p q) (fun j p q s => by rw [up_ne (by omega)]; exact ui j q s) up_eq (by rw [up_ne (by omega)]; exact u0) (fun k p q => by rw [up_ne (by omega)]; exact uk k p q) (fun k p => by rw [up_ne (by omega)]; exact ue k p) hd1.2.2.2.1 ⟨d0, d1, d2, d3⟩
      refine ⟨_, _, rfl, rfl, ?_, ?_, rfl, Nat.le_refl _, Nat.le_succ _, Or.inl ⟨i', sm, lm + 1, cm, by omega, ?_, ?_, ?_, ?_, ?_, ?_⟩⟩
      · refine ⟨fun R p _ _ _ s _ => ?_, fun j p q s _ _ => ?_, ?_⟩
        · have : R ≠ 10 + 1 := fun z => s (Or.inl z)
          rw [up_or this, ur R this]; exact e3.1 R p
        · rw [up_ne (by omega), ur 0 (by omega)]; exact e3.2 j p q s
        · rw [up_ne (by omega), ur 5 (by omega), e3.1 5 (by omega)]
      · exact (FW1.up.trans (FW1.up.trans e4.w1)).x
      · obtain ⟨z1, z2, z3, z4, z5, z6, z7⟩ := (q2.w1 (i := 113 + 4 * lm + 0) (x := nI V)).w1 (i := 8) (x := nI (lm + 1))
        have e0 : up U (10 + 1) 8 (nI (lm + 1)) 0 = u1 0 := by rw [up_or (by omega), ur 0 (by omega)]
        have e03 : up U (10 + 1) 8 (nI (lm + 1)) 3 = u1 3 := by rw [up_or (by omega), ur 3 (by omega)]
        exact ⟨⟨by rw [e0]; exact z1.1, fun k hk => by rw [e03]; exact z1.2 k hk⟩, z2, z3, by rw [e0]; exact z4, z5, by rw [e0]; exact z6, z7⟩
      · have : up U (10 + 1) 8 (nI (lm + 1)) (400 + 1) = u1 (400 + 1) := by rw [up_or (by omega), ur _ (by omega)]
        unfold QY
        rw [this]
        exact hqn.congr (Nat.le_refl _) (fun l hl => by rw [up_or (by omega), ur _ (by omega)]) (fun l hl => by rw [up_or (by omega), ur _ (by omega)]) (fun l hl => by rw [up_or (by omega), ur _ (by omega)]) (fun t _ _ => by rw [up_or (by omega), ur _ (by omega)])
      · intro s k p q r s' t
        rw [up_ne (by omega), up_ne (by omega)]; exact hd1.2.1 s k p q r s' t
      · intro l k p q r s'
        rw [up_ne (by omega), up_ne (by omega)]; exact hd1.2.2.1 l k (by omega) q r s'
      · rw [up_ne (by omega), ui 6 (by omega) (by omega)]; exact hd1.2.2.2.1
      · intro L hL
        by_cases e : L = 1
        · subst e
          refine ⟨fun s hs => ?_, fun q hq => ?_⟩
          · rw [up_ne (by omega), ui _ (by omega) (by omega)]; exact (hd1.2.2.2.2 1 hL).1 s hs
          · rw [up_ne (by omega), ui _ (by omega) (by omega)]; exact (hd1.2.2.2.2 1 hL).2 q hq
        · rw [up_or (by omega), ur _ (by omega)]; exact hd1.2.2.2.2 L hL
    · rw [q1.fine, bS, if_pos rfl, bS, if_neg (show ¬ w1 0 11 = nI 0 from q1.ne.1), bS]
      exact ⟨u1, w1, rfl, rfl, e3.x, e4.w1.x, rfl, Nat.le_refl _, Nat.le_succ _, Or.inr ⟨q1, TI_fc hd.2.2.2.2 e3⟩⟩
  · obtain ⟨u', w', e1, e2, e3, e4, e5⟩ := many1 (g := g) h h14 hs
    obtain ⟨x, y⟩ := e3.ne
    have hl : lm = 6 := by omega
    rw [hl, if_neg (show ¬ nI 6 < (6 : Int32) by decide), if_pos (show nI 6 = (6 : Int32) from rfl), e1, bS, bS, e2, bS]
    unfold F8_number
    rw [if_neg x, bS]
    dsimp only
    rw [if_neg x, bS]
    exact ⟨u', w', rfl, rfl, e4.x, e5.w1.x, rfl, Nat.le_refl _, Nat.le_succ _, Or.inr ⟨e3, TI_fc hd.2.2.2.2 e4⟩⟩
end
section
theorem OUT.err {b : Nat → Int32} {n B m : Nat} {g : CG} {u w u' w' : RS} (hc : FC u' u) (hw : XW w' w) (h : ERs b n u' w') (ht : TI g u) : OUT b n B m g u w g u' w' :=
  ⟨hc.x, hw, rfl, Nat.le_refl _, Nat.le_succ _, Or.inr ⟨h, TI_fc ht hc⟩⟩
theorem rest2 {b : Nat → Int32} {n i sm lm cm B : Nat} {g : CG} {u w : RS} (hb : BB b n) (h : OKs b n i u w) (h1i : 1 ≤ i) (hd : DR u w g sm lm cm B) : ∃ u' w', C5_readRest g u 1 = some u' ∧ F8_restPart w = some w' ∧ OUT b n B i g u w g u' w' := by
  have hq := hd.1
  have hsm := hq.a.sm6
  unfold C5_readRest F8_restPart
  rw [hq.n7, hq.v7]
  obtain ⟨u1, w1, y1, x1, e1, e2, e3, e4, e5⟩ := num2 (g := g) (lo := 0) (a2 := nI sm - 1) hb h (by omega) (sb1 (by omega))
  rw [show (0 : Int32) = nI 0 from rfl, e1, e2, bS, bS]
  dsimp only
  rw [show C5_readNumber g u1 (1 : Int32) (99 : Int32) = C5_readNumber g u1 (nI 1) (99 : Int32) from rfl, show F8_number w1 (1 : Int32) (99 : Int32) = F8_number w1 (nI 1) (99 : Int32) from rfl]
  rcases e5 with ⟨i1, V1, q1, q2, rfl, rfl, q5, q6⟩ | ⟨q1, q2⟩
  · obtain ⟨u2, w2, y2, x2, f1, f2, f3, f4, f5⟩ := num2 (g := g) (lo := 1) (a2 := 99) hb q2 (by omega) (by decide)
    rw [f1, f2, bS, bS]
    dsimp only
    rw [show C5_readNumber g u2 (1 : Int32) (99 : Int32) = C5_readNumber g u2 (nI 1) (99 : Int32) from rfl, show F8_number w2 (1 : Int32) (99 : Int32) = F8_number w2 (nI 1) (99 : Int32) from rfl]
    rcases f5 with ⟨i2, V2, r1, r2, rfl, rfl, r5, r6⟩ | ⟨r1, r2⟩
    · obtain ⟨u3, w3, y3, x3, g1, g2, g3, g4, g5⟩ := num2 (g := g) (lo := 1) (a2 := 99) hb r2 (by omega) (by decide)
      rw [g1, g2, bS, bS]
      dsimp only
      have FCu : FC u3 u := g3.trans (f3.trans e3)
      have FWw : FW w3 w := g4.trans (f4.trans e4)
      rcases g5 with ⟨i3, V3, s1, s2, rfl, rfl, s5, s6⟩ | ⟨s1, s2⟩
      · have hd3 := hd.fr FCu FWw
        have hV : V1 < sm := by
          have := sub1_toInt (n := sm) (by omega)
          have q7 : (V1 : Int) ≤ (nI sm - nI 1).toInt := q6
          omega
        rw [s2.fine, bS, if_neg nz0, if_pos (show w3 0 11 = nI 0 from s2.w0), ix_n (show V1 < 6 by omega) (by omega), bS, pt_n, bS, bS, pt_n, bS, bS]
        rw [show F8_sets w3 (nI V1) (9 : Int32) (nI V2) = some (up w3 1 (17 + 16 * V1 + 9) (nI V2)) from F8_sets_n (k := 9) (by omega) (by omega), bS, show F8_sets (up w3 1 (17 + 16 * V1 + 9) (nI V2)) (nI V1) (10 : Int32) (nI V3) = some (up (up w3 1 (17 + 16 * V1 + 9) (nI V2)) 1 (17 + 16 * V1 + 10) (nI V3)) from F8_sets_n (k := 10) (by omega) (by omega), bS, bS]
        have hqn := QR.free (x := nI V3) 10 (by omega) (show V1 < 6 by omega) (QR.free (x := nI V2) 9 (by omega) (show V1 < 6 by omega) hd3.1)
        have hu : up (up u3 (10 + 1) (17 + 16 * V1 + 9) (nI V2)) (10 + 1) (17 + 16 * V1 + 10) (nI V3) = setL u3 1 (upd (upd (u3 (10 + 1)) (17 + 16 * V1 + 9) (nI V2)) (17 + 16 * V1 + 10) (nI V3)) (u3 (400 + 1)) := by
          rw [upC (c := u3), up_setL_w]
        have hw : up (up w3 1 (17 + 16 * V1 + 9) (nI V2)) 1 (17 + 16 * V1 + 10) (nI V3) 1 = upd (upd (w3 1) (17 + 16 * V1 + 9) (nI V2)) (17 + 16 * V1 + 10) (nI V3) := by
          rw [up1, setR_1, up1, setR_1]
        refine ⟨_, _, rfl, rfl, ?_, (FW1.up.trans (FW1.up.trans FWw.w1)).x, rfl, Nat.le_refl _, Nat.le_succ _, Or.inl ⟨i3, sm, lm, cm, by omega, ?_, ?_, ?_, ?_, ?_, ?_⟩⟩
        · refine ⟨fun R p _ _ _ s _ => ?_, fun j p q s _ _ => ?_, ?_⟩
          · have : R ≠ 10 + 1 := fun z => s (Or.inl z)
            rw [up_or this, up_or this]; exact FCu.1 R p
          · rw [up_ne (by omega), up_ne (by omega)]; exact FCu.2 j p q s
          · rw [up_ne (by omega), up_ne (by omega), FCu.1 5 (by omega)]
        · obtain ⟨z1, z2, z3, z4, z5, z6, z7⟩ := (s2.w1 (i := 17 + 16 * V1 + 9) (x := nI V2)).w1 (i := 17 + 16 * V1 + 10) (x := nI V3)
          refine ⟨⟨by rw [up_ne (by omega), up_ne (by omega)]; exact z1.1, fun k hk => by rw [up_ne (by omega), up_ne (by omega)]; exact z1.2 k hk⟩, z2, z3, by rw [up_ne (by omega), up_ne (by omega)]; exact z4, z5, by rw [up_ne (by omega), up_ne (by omega)]; exact z6, z7⟩
        · rw [hu, hw]
          exact QX.toY (by omega) hqn
        · intro s k p q r s' t
          rw [up_ne (by omega), up_ne (by omega)]; exact hd3.2.1 s k p q r s' t
        · intro l k p q r s'
          rw [up_ne (by omega), up_ne (by omega)]; exact hd3.2.2.1 l k p q r s'
        · rw [up_ne (by omega), up_ne (by omega)]; exact hd3.2.2.2.1
        · intro L hL
          by_cases e : L = 1
          · subst e
            refine ⟨fun s hs => ?_, fun q hq => ?_⟩
            · rw [up_ne (by omega), up_ne (by omega)]; exact (hd3.2.2.2.2 1 hL).1 s hs
            · rw [up_ne (by omega), up_ne (by omega)]; exact (hd3.2.2.2.2 1 hL).2 q hq
          · rw [up_or (by omega), up_or (by omega)]; exact hd3.2.2.2.2 L hL
      · rw [s1.fine, bS, if_pos rfl, bS, if_neg (show ¬ w3 0 11 = nI 0 from s1.ne.1), bS]
        exact ⟨u3, w3, rfl, rfl, OUT.err FCu FWw.w1.x s1 hd.2.2.2.2⟩
    · obtain ⟨u3, y3, g1, g2, g3, g4⟩ := numE (g := g) (a1 := nI 1) (a2 := 99) hb r1
      rw [g1, g2, bS, bS]
      dsimp only
      rw [g4.fine, bS, if_pos rfl, bS, if_neg (show ¬ w2 0 11 = nI 0 from g4.ne.1), bS]
      exact ⟨u3, w2, rfl, rfl, OUT.err (g3.trans (f3.trans e3)) (f4.trans e4).w1.x g4 hd.2.2.2.2⟩
  · obtain ⟨u2, y2, f1, f2, f3, f4⟩ := numE (g := g) (a1 := nI 1) (a2 := 99) hb q1
    rw [f1, f2, bS, bS]
    dsimp only
    rw [show C5_readNumber g u2 (1 : Int32) (99 : Int32) = C5_readNumber g u2 (nI 1) (99 : Int32) from rfl, show F8_number w1 (1 : Int32) (99 : Int32) = F8_number w1 (nI 1) (99 : Int32) from rfl]
    obtain ⟨u3, y3, g1, g2, g3, g4⟩ := numE (g := g) (a1 := nI 1) (a2 := 99) hb f4
    rw [g1, g2, bS, bS]
    dsimp only
    rw [g4.fine, bS, if_pos rfl, bS, if_neg (show ¬ w1 0 11 = nI 0 from g4.ne.1), bS]
    exact ⟨u3, w1, rfl, rfl, OUT.err (g3.trans (f3.trans e3)) e4.w1.x g4 hd.2.2.2.2⟩
theorem scrE {b : Nat → Int32} {n st : Nat} {g : CG} {u w : RS} (hb : BB b n) (h : ERs b n u w) : ∃ u', C5_readScript g u = some (0, g, u') ∧ F8_scriptPart w (nI st) = some w ∧ FC u' u ∧ ERs b n u' w := by
  obtain ⟨i, h3, h4⟩ := h.2.2.1
  have h1 := h.1
  have hn := hb.1
  have hs := SK_le (b := b) h3
  have hdl := dg_le (b := b) (n - SK b n i) (SK b n i)
  unfold C5_readScript F8_scriptPart
  rw [skipC hb h1 h4 h3, if_neg h.ne.1, bS, bS, if_neg h.ne.1]
  dsimp only
  have hsc := scrLC (g := g) (t1 := (nI (SK b n i), up u 0 6 (nI (SK b n i)))) hb (n - SK b n i) (SK b n i) FUEL 1 (up u 0 6 (nI (SK b n i))) (by omega) (by show n - SK b n i < 10000; omega) (by omega) (h1.fr (FC.up (by omega))) up_eq
  rw [Nat.one_mul] at hsc
  rw [show (1 : Int32) = nI 1 from rfl, hsc, bS, up_up]
  dsimp only
  have he := h.fc (i := dg b (n - SK b n i) (SK b n i)) (by omega)
  have e0 : ∀ e p, C5_error g (up u 0 6 (nI (dg b (n - SK b n i) (SK b n i)))) e p = some (up u 0 6 (nI (dg b (n - SK b n i) (SK b n i)))) := fun e p => he.errC
  refine ⟨up u 0 6 (nI (dg b (n - SK b n i) (SK b n i))), ?_, rfl, FC.up (by omega), he⟩
  have e1 : ((if up u 0 6 (nI (dg b (n - SK b n i) (SK b n i))) 0 6 = nI (SK b n i) then ((C5_error g (up u 0 6 (nI (dg b (n - SK b n i) (SK b n i)))) (nI 1) (nI (SK b n i))).bind fun u28 => some u28) else (if nI (sfl b (n - SK b n i) (SK b n i)) = 0 then ((C5_error g (up u 0 6 (nI (dg b (n - SK b n i) (SK b n i)))) 2 (nI (SK b n i))).bind fun u23 => some u23) else (if (up u 0 6 (nI (dg b (n - SK b n i) (SK b n i))) 0 6) - nI (SK b n i) ≤ 12 then (some (up u 0 6 (nI (dg b (n - SK b n i) (SK b n i))))) else ((C5_error g (up u 0 6 (nI (dg b (n - SK b n i) (SK b n i)))) 2 (nI (SK b n i))).bind fun u26 => some u26)))) : Option RS) = some (up u 0 6 (nI (dg b (n - SK b n i) (SK b n i)))) := by
    simp only [e0, bS]
    repeat' split
    all_goals rfl
  rw [e1, bS, he.fine, bS, if_pos (show nI 0 = (0 : Int32) from rfl)]
end
section
theorem FW1.one {w' w : RS} (h : FW1 w' w) : XW w' w := h.x
theorem stat2 {b : Nat → Int32} {n i s ty sm lm cm B : Nat} {g : CG} {u w : RS} (hb : BB b n) (h : OKs b n i u w) (h1i : 1 ≤ i) (hd : DR u w g sm lm cm B) (h14 : w 0 14 = nI s) (hs : s ≤ 600) (hty : ty < 4) (hg : g.nt < 1000000) : ∃ g' u' w', C5_readStation g u 1 (nI ty) (nI s) = some (g', u') ∧ F8_stationPart w (nI ty) = some w' ∧ OUT b n B i g u w g' u' w' := by
  have hq := hd.1
  have hsm := hq.a.sm6
  unfold C5_readStation F8_stationPart
  rw [hq.n7, hq.v7]
  by_cases c : sm < 6
  · rw [if_pos (show nI sm < (6 : Int32) from nI_lt (b := 6) c (by omega)), if_neg (show ¬ nI sm = (6 : Int32) from nI_ne (b := 6) (by omega) (by omega) (by omega)), bS, many0, bS, if_pos h.w0, hq.v7]
    rw [show F8_sets w (nI sm) (0 : Int32) (nI ty) = some (up w 1 (17 + 16 * sm + 0) (nI ty)) from F8_sets_n (k := 0) c (by omega), bS]
    obtain ⟨P, hP, hP1, hP2, hP3⟩ : ∃ P, P ≤ 99 ∧ C7_mostPace (nI ty) = some (nI P) ∧ F8_mostPace (nI ty) = some (nI P) ∧ (nI P).toInt = P := by
      by_cases z : ty = 3
      · refine ⟨9, by omega, ?_, ?_, by decide⟩
        · unfold C7_mostPace; rw [z, if_pos (show nI 3 = (3 : Int32) from rfl)]; rfl
        · unfold F8_mostPace; rw [z, if_pos (show nI 3 = (3 : Int32) from rfl)]; rfl
      · refine ⟨99, by omega, ?_, ?_, by decide⟩
        · unfold C7_mostPace; rw [if_neg (show ¬ nI ty = (3 : Int32) from nI_ne (b := 3) z (by omega) (by omega))]; rfl
        · unfold F8_mostPace; rw [if_neg (show ¬ nI ty = (3 : Int32) from nI_ne (b := 3) z (by omega) (by omega))]; rfl
    rw [hP1, hP2, bS, bS]
    obtain ⟨e8, he8, hE8⟩ : ∃ x, x = (if ty = 3 then nI 0 else m1) ∧ (if nI ty = (3 : Int32) then (some (0 : Int32)) else (some (-1 : Int32)) : Option Int32) = some x := by
      by_cases z : ty = 3
      · exact ⟨nI 0, by rw [if_pos z], by rw [z, if_pos (show nI 3 = (3 : Int32) from rfl)]; rfl⟩
      · exact ⟨m1, by rw [if_neg z], by rw [if_neg (show ¬ nI ty = (3 : Int32) from nI_ne (b := 3) z (by omega) (by omega))]; rfl⟩
    rw [hE8]
    obtain ⟨u1, w1, y, x, e1, e2, e3, e4, e5⟩ := num2 (g := g) (lo := 1) (a2 := nI P) hb (h.w1 (i := 17 + 16 * sm + 0) (x := nI ty)) (by omega) (by omega)
    rw [show (1 : Int32) = nI 1 from rfl, e1, e2, bS, bS]
    dsimp only
    rw [F8_sets_n c (by omega), bS, show F8_sets (up w1 1 (17 + 16 * sm + 1) x) (nI sm) (2 : Int32) (-nI 1) = some (up (up w1 1 (17 + 16 * sm + 1) x) 1 (17 + 16 * sm + 2) (-nI 1)) from F8_sets_n (k := 2) c (by omega), bS, bS, show F8_sets (up (up w1 1 (17 + 16 * sm + 1) x) 1 (17 + 16 * sm + 2) (-nI 1)) (nI sm) (8 : Int32) e8 = some (up (up (up w1 1 (17 + 16 * sm + 1) x) 1 (17 + 16 * sm + 2) (-nI 1)) 1 (17 + 16 * sm + 8) e8) from F8_sets_n (k := 8) c (by omega), bS]
    have hTI1 := TI_fc hd.2.2.2.2 e3
    have fw1 : FW1 (up (up (up w1 1 (17 + 16 * sm + 1) x) 1 (17 + 16 * sm + 2) (-nI 1)) 1 (17 + 16 * sm + 8) e8) w := FW1.up.trans (FW1.up.trans (FW1.up.trans (e4.w1.trans FW1.up)))
    rcases e5 with ⟨i1, V, q1, q2, rfl, rfl, q5, q6⟩ | ⟨q1, q2⟩
    · rcases scr2 (g := g) (st := sm) hb ((q2.w1 (i := 17 + 16 * sm + 1) (x := nI V)).w1 (i := 17 + 16 * sm + 2) (x := -nI 1) |>.w1 (i := 17 + 16 * sm + 8) (x := e8)) (by omega) c hg hTI1 with ⟨i2, len, m, u2, u3, w2, k1, k2, k3, k4, k5, k6, k7, k8, k9, k10⟩ | ⟨u2, w2, k1, k2, k3, k4, k5⟩
      · rw [k1, k2, bS, bS, k4.fine, bS, if_neg (show ¬ nI 1 = (0 : Int32) from nz0)]
        have r1 : ∀ j, j ≠ 7 → (j < 17 + 16 * sm ∨ 33 + 16 * sm ≤ j) → w2 1 j = w 1 j := fun j p q => by
          rw [k7.1 1 (by decide), up_ne (by omega), up_ne (by omega), up_ne (by omega), e4.1 1 (by decide), up_ne (by omega)]
        have r7 : w2 1 7 = nI sm := by
          rw [k7.1 1 (by decide), up_ne (by omega), up_ne (by omega), up_ne (by omega), e4.1 1 (by decide), up_ne (by omega)]; exact hq.v7
        have rk : ∀ k, k < 16 → k ≠ 0 → k ≠ 1 → k ≠ 2 → k ≠ 8 → w2 1 (17 + 16 * sm + k) = w 1 (17 + 16 * sm + k) := fun k p a0 a1 a2 a8 => by
          rw [k7.1 1 (by decide), up_ne (by omega), up_ne (by omega), up_ne (by omega), e4.1 1 (by decide), up_ne (by omega)]
        have rk0 : w2 1 (17 + 16 * sm + 0) = nI ty := by
          rw [k7.1 1 (by decide), up_ne (by omega), up_ne (by omega), up_ne (by omega), e4.1 1 (by decide), up_eq]
        have rk1 : w2 1 (17 + 16 * sm + 1) = nI V := by
          rw [k7.1 1 (by decide), up_ne (by omega), up_ne (by omega), up_eq]
        have rk2 : w2 1 (17 + 16 * sm + 2) = m1 := by
          rw [k7.1 1 (by decide), up_ne (by omega), up_eq]; rfl
        have rk8 : w2 1 (17 + 16 * sm + 8) = e8 := by rw [k7.1 1 (by decide), up_eq]
        have c0 : ∀ R, R ≠ 0 → R ≠ 500 + (g.nt + 1) → u3 R = u R := fun R a b => (k6.2.2 R b).trans ((k5.1 R a).trans (e3.1 R a))
        have c7 : u3 (10 + 1) 7 = nI sm := by rw [c0 _ (by omega) (by omega)]; exact hq.n7
        unfold C3_addStation C6_begin
        simp only [pt_n, bS]
        rw [c7, if_neg (show ¬ (6 : Int32) ≤ nI sm from nI_ge (b := 6) c (by omega)), ix_n c (by omega)]
        rw [show (7 : Int32) = nI 7 from rfl, ws_n (by omega) (by omega)]
        simp only [bS]
        generalize hU : up (up (up (up (up (up (up (up (up (up (up (up (up (up (up u3 (10 + 1) (17 + 16 * sm + 0) (nI ty)) (10 + 1) (17 + 16 * sm + 1) (nI V)) (10 + 1) (17 + 16 * sm + 14) (nI (g.nt + 1))) (10 + 1) (17 + 16 * sm + 2) (-1)) (10 + 1) (17 + 16 * sm + 3) 0) (10 + 1) (17 + 16 * sm + 4) 0) (10 + 1) (17 + 16 * sm + 13) 0) (10 + 1) (17 + 16 * sm + 5) 0) (10 + 1) (17 + 16 * sm + 6) 0) (10 + 1) (17 + 16 * sm + 7) 0) (10 + 1) (17 + 16 * sm + 8) 0) (10 + 1) (17 + 16 * sm + 9) 0) (10 + 1) (17 + 16 * sm + 10) 0) (10 + 1) (17 + 16 * sm + 11) 0) (10 + 1) (17 + 16 * sm + 12) 0 = U
        have ur : ∀ R, R ≠ 10 + 1 → U R = u3 R := fun R hR => by rw [← hU]; simp only [up_or hR]
        have ui : ∀ j, (j < 17 + 16 * sm ∨ 33 + 16 * sm ≤ j) → U (10 + 1) j = u3 (10 + 1) j := fun j p => by rw [← hU]; simp (disch := omega) only [up_ne]
        have y0 : U (10 + 1) (17 + 16 * sm + 0) = nI ty := by rw [← hU]; simp (disch := omega) only [up_ne, up_eq]
        have y1 : U (10 + 1) (17 + 16 * sm + 1) = nI V := by rw [← hU]; simp (disch := omega) only [up_ne, up_eq]
        have y2 : U (10 + 1) (17 + 16 * sm + 2) = m1 := by rw [← hU]; simp (disch := omega) only [up_ne, up_eq]; rfl
        have y14 : U (10 + 1) (17 + 16 * sm + 14) = nI (g.nt + 1) := by rw [← hU]; simp (disch := omega) only [up_ne, up_eq]
        have yk : ∀ k, 3 ≤ k → k < 14 → U (10 + 1) (17 + 16 * sm + k) = nI 0 := fun k p q => by
          rw [← hU]
          rcases (show k = 3 ∨ k = 4 ∨ k = 5 ∨ k = 6 ∨ k = 7 ∨ k = 8 ∨ k = 9 ∨ k = 10 ∨ k = 11 ∨ k = 12 ∨ k = 13 by omega) with rfl | rfl | rfl | rfl | rfl | rfl | rfl | rfl | rfl | rfl | rfl <;> (simp (disch := omega) only [up_ne, up_eq]; rfl)
        clear hU
        have e7c : U (10 + 1) 7 + 1 = nI (sm + 1) := by rw [ui 7 (by omega), c7]; exact nI_add sm 1
        have e7r : up (up w2 1 (17 + 16 * sm + 14) (nI len)) 1 (17 + 16 * sm + 15) (nI m) 1 7 + nI 1 = nI (sm + 1) := by rw [up_ne (by omega), up_ne (by omega), r7]; exact nI_add sm 1
        have hV : V ≤ 99 := by rw [hP3] at q6; omega
        have hqn := QR.stat (v := w 1) (w := u (10 + 1)) (v2 := up (up (up w2 1 (17 + 16 * sm + 14) (nI len)) 1 (17 + 16 * sm + 15) (nI m)) 1 7 (up (up w2 1 (17 + 16 * sm + 14) (nI len)) 1 (17 + 16 * sm + 15) (nI m) 1 7 + nI 1) 1) (w2 := up U (10 + 1) 7 (U (10 + 1) 7 + 1) (10 + 1)) (ty := ty) (p := V) (t := g.nt + 1) (len := len) (m := nI m) (nt2 := g.nt + 1) (tx2 := fun t => u3 (500 + t)) hq c hty q5 hV
          (fun j p q => by rw [up_ne (by omega), up_ne (by omega), up_ne (by omega)]; exact r1 j p q) (by rw [up_eq]; exact e7r) (by rw [up_ne (by omega), up_ne (by omega), up_ne (by omega)]; exact rk0) (by rw [up_ne (by omega), up_ne (by omega), up_ne (by omega)]; exact rk1) (by rw [up_ne (by omega), up_ne (by omega), up_ne (by omega)]; exact rk2) (fun k p q z => by rw [up_ne (by omega), up_ne (by omega), up_ne (by omega), rk k (by omega) (by omega) (by omega) (by omega) z]; exact hd.2.1 sm k (Nat.le_refl _) c p q z) (by rw [up_ne (by omega), up_ne (by omega), up_ne (by omega), rk8]; exact he8) (by rw [up_ne (by omega), up_ne (by omega), up_eq]) (by rw [up_ne (by omega), up_eq])
          (fun j p q => by rw [up_ne (by omega), ui j q, c0 _ (by omega) (by omega)]) (by rw [up_eq]; exact e7c) (by rw [up_ne (by omega)]; exact y0) (by rw [up_ne (by omega)]; exact y1) (by rw [up_ne (by omega)]; exact y2) (fun k p q => by rw [up_ne (by omega)]; exact yk k p q) (by rw [up_ne (by omega)]; exact y14)
          (Nat.le_succ _) (fun t' z1 z2 => c0 _ (by omega) (by omega)) (by omega) (Nat.le_refl _) (by omega) k8 k9 k6.1 k10
        refine ⟨_, _, _, rfl, rfl, ?_, (FW1.up.trans (FW1.up.trans (FW1.up.trans (k7.w1.trans fw1)))).x, rfl, Nat.le_succ _, Nat.le_refl _, Or.inl ⟨i2, sm + 1, lm, cm, by omega, ?_, ?_, ?_, ?_, ?_, ?_⟩⟩
        · refine ⟨fun R p _ _ _ s z => ?_, fun j p q s _ _ => ?_, ?_⟩
          · have : R ≠ 10 + 1 := fun z => s (Or.inl z)
            rw [up_or this, ur R this]; exact c0 R p (by omega)
          · rw [up_ne (by omega), ur 0 (by omega), k6.2.2 0 (by omega), k5.2 j p q s]; exact e3.2 j p q s
          · rw [up_ne (by omega), ur 5 (by omega), c0 5 (by omega) (by omega)]
        · obtain ⟨z1, z2, z3, z4, z5, z6, z7⟩ := k4.w1 (i := 7) (x := up (up w2 1 (17 + 16 * sm + 14) (nI len)) 1 (17 + 16 * sm + 15) (nI m) 1 7 + nI 1)
          have ee0 : up U (10 + 1) 7 (U (10 + 1) 7 + 1) 0 = u3 0 := by rw [up_or (by omega), ur 0 (by omega)]
          have ee3 : up U (10 + 1) 7 (U (10 + 1) 7 + 1) 3 = u3 3 := by rw [up_or (by omega), ur 3 (by omega)]
          exact ⟨⟨by rw [ee0]; exact z1.1, fun k hk => by rw [ee3]; exact z1.2 k hk⟩, z2, z3, by rw [ee0]; exact z4, z5, by rw [ee0]; exact z6, z7⟩
        · have e400 : up U (10 + 1) 7 (U (10 + 1) 7 + 1) (400 + 1) = u (400 + 1) := by rw [up_or (by omega), ur _ (by omega), c0 _ (by omega) (by omega)]
          unfold QY
          rw [e400]
          exact hqn.congr (Nat.le_refl _) (fun l hl => by rw [up_or (by omega), ur _ (by omega), c0 _ (by omega) (by omega)]) (fun l hl => by rw [up_or (by omega), ur _ (by omega), c0 _ (by omega) (by omega)]) (fun l hl => by rw [up_or (by omega), ur _ (by omega), c0 _ (by omega) (by omega)]) (fun t _ _ => by rw [up_or (by omega), ur _ (by omega)])
        · intro s k p q r s' t
          rw [up_ne (by omega), up_ne (by omega), up_ne (by omega), r1 _ (by omega) (by omega)]; exact hd.2.1 s k (by omega) q r s' t
        · intro l k p q r s'
          rw [up_ne (by omega), up_ne (by omega), up_ne (by omega), r1 _ (by omega) (by omega)]; exact hd.2.2.1 l k p q r s'
        · rw [up_ne (by omega), ui 6 (by omega), c0 _ (by omega) (by omega)]; exact hd.2.2.2.1
        · intro L hL
          have gn : (ga g).nt = g.nt + 1 := rfl
          rw [gn]
          by_cases e : L = 1
          · subst e
            refine ⟨fun s hs => ?_, fun q hq => ?_⟩
            · by_cases es : s = sm
              · subst es; rw [up_ne (by omega), y14, nI_clamp (by omega)]; exact Nat.le_refl _
              · rw [up_ne (by omega), ui _ (by omega), c0 _ (by omega) (by omega)]; exact Nat.le_succ_of_le ((hd.2.2.2.2 1 hL).1 s hs)
            · rw [up_ne (by omega), ui _ (by omega), c0 _ (by omega) (by omega)]; exact Nat.le_succ_of_le ((hd.2.2.2.2 1 hL).2 q hq)
          · rw [up_or (by omega), ur _ (by omega), c0 _ (by omega) (by omega)]
            exact ⟨fun s hs => Nat.le_succ_of_le ((hd.2.2.2.2 L hL).1 s hs), fun q hq => Nat.le_succ_of_le ((hd.2.2.2.2 L hL).2 q hq)⟩
      · rw [k1, k2, bS, bS, k5.fine, bS, if_pos (show nI 0 = (0 : Int32) from rfl), bS, show (7 : Int32) = nI 7 from rfl, ws_n (by omega) (by omega), bS]
        exact ⟨g, u2, _, rfl, rfl, OUT.err (k3.trans e3) ((FW1.up.trans k4).trans fw1).x k5.w1 hd.2.2.2.2⟩
    · obtain ⟨u2, k1, k2, k3, k4⟩ := scrE (st := sm) (g := g) hb ((q1.w1 (i := 17 + 16 * sm + 1) (x := x)).w1 (i := 17 + 16 * sm + 2) (x := -nI 1) |>.w1 (i := 17 + 16 * sm + 8) (x := e8))
      rw [k1, k2, bS, bS, k4.fine, bS, if_pos (show nI 0 = (0 : Int32) from rfl), bS, show (7 : Int32) = nI 7 from rfl, ws_n (by omega) (by omega), bS]
      exact ⟨g, u2, _, rfl, rfl, OUT.err (k3.trans e3) (FW1.up.trans fw1).x k4.w1 hd.2.2.2.2⟩
  · obtain ⟨u', w', e1, e2, e3, e4, e5⟩ := many1 (g := g) h h14 hs
    obtain ⟨x, y⟩ := e3.ne
    have hl : sm = 6 := by omega
    rw [hl, if_neg (show ¬ nI 6 < (6 : Int32) by decide), if_pos (show nI 6 = (6 : Int32) from rfl), e1, bS, bS, e2, bS, if_neg x]
    exact ⟨g, u', w', rfl, rfl, OUT.err e4 e5.w1.x e3 hd.2.2.2.2⟩
end
