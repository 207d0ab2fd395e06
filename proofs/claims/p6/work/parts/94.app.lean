theorem z32b {x : Int32} : x = 0 ↔ x.toBitVec = 0#32 := ⟨fun h => by rw [h]; rfl, fun h => Int32.toBitVec_inj.mp h⟩
theorem m255 : ∀ i : Nat, i < 32 → (255#64).getLsbD i = decide (i < 8) := by decide +kernel
theorem bvz (v : BitVec 64) (n : Nat) (hn : n ≤ 56) : ((((v >>> n).signExtend 32).signExtend 8).signExtend 32 = 0#32) ↔ (((v.sshiftRight n) &&& 255#64).signExtend 32 = 0#32) := by
  have key1 : ((((v >>> n).signExtend 32).signExtend 8).signExtend 32 = 0#32) ↔ ∀ i : Nat, i < 8 → v.getLsbD (n + i) = false := by
    constructor
    · intro h i hi
      have e := congrArg (fun x : BitVec 32 => x.getLsbD i) h
      simp only [BitVec.getLsbD_signExtend, BitVec.getLsbD_ushiftRight, BitVec.getLsbD_zero] at e
      simpa [show i < 32 by omega, hi, show i < 64 by omega] using e
    · intro h
      apply BitVec.eq_of_getLsbD_eq
      intro i hi
      have h7 := h 7 (by decide)
      simp only [BitVec.getLsbD_signExtend, BitVec.getLsbD_ushiftRight, BitVec.getLsbD_zero, BitVec.msb_eq_getLsbD_last]
      by_cases h8 : i < 8
      · have := h i h8
        simp [h8, this, hi, show i < 64 by omega, show ¬ 64 ≤ i by omega]
      · simp [h8, h7]
  have key2 : (((v.sshiftRight n) &&& 255#64).signExtend 32 = 0#32) ↔ ∀ i : Nat, i < 8 → v.getLsbD (n + i) = false := by
    constructor
    · intro h i hi
      have e := congrArg (fun x : BitVec 32 => x.getLsbD i) h
      simp only [BitVec.getLsbD_signExtend, BitVec.getLsbD_and, BitVec.getLsbD_sshiftRight, BitVec.getLsbD_zero, m255 i (by omega)] at e
      simpa [show i < 32 by omega, hi, show i < 64 by omega, show n + i < 64 by omega, show ¬ 64 ≤ i by omega] using e
    · intro h
      apply BitVec.eq_of_getLsbD_eq
      intro i hi
      simp only [BitVec.getLsbD_signExtend, BitVec.getLsbD_and, BitVec.getLsbD_sshiftRight, BitVec.getLsbD_zero, m255 i hi]
      by_cases h8 : i < 8
      · have := h i h8
        have h9 : v[n + i]'(by omega) = false := by rw [← BitVec.getLsbD_eq_getElem]; exact this
        simp [h8, h9, hi, show n + i < 64 by omega, show i < 64 by omega]
      · simp [h8, hi, show ¬ 64 ≤ i by omega]
  exact key1.trans key2.symm
theorem bve (v : BitVec 64) (n : Nat) (hn : n ≤ 56) : ((v >>> n).signExtend 32).signExtend 8 = (((v.sshiftRight n) &&& 255#64).signExtend 32).signExtend 8 := by
  apply BitVec.eq_of_getLsbD_eq
  intro i hi
  simp only [BitVec.getLsbD_signExtend, BitVec.getLsbD_ushiftRight, BitVec.getLsbD_and, BitVec.getLsbD_sshiftRight, m255 i (by omega)]
  simp [show i < 32 by omega, hi, show i < 64 by omega, show n + i < 64 by omega, show ¬ 64 ≤ i by omega]
noncomputable def kB (a : Int64) (y : Int32) : Int32 := (((a.toUInt64 >>> ((y).toInt64.toUInt64 &&& Int64.toUInt64 63)).toInt64).toInt32).toInt8.toInt32
noncomputable def fB (a : Int64) (k : Int32) : Int32 := (((a >>> (((8 * (7 - k))).toInt64 &&& 63)) &&& 255)).toInt32
noncomputable def yk (k : Nat) : Int32 := Int32.ofInt (56 - 8 * (k : Int))
theorem kz {a : Int64} {k : Nat} (hk : k < 8) : kB a (yk k) = 0 ↔ fB a (nI k) = 0 := by
  rw [z32b, z32b]
  rcases (show k = 0 ∨ k = 1 ∨ k = 2 ∨ k = 3 ∨ k = 4 ∨ k = 5 ∨ k = 6 ∨ k = 7 by omega) with rfl | rfl | rfl | rfl | rfl | rfl | rfl | rfl
  · exact bvz a.toBitVec 56 (by decide)
  · exact bvz a.toBitVec 48 (by decide)
  · exact bvz a.toBitVec 40 (by decide)
  · exact bvz a.toBitVec 32 (by decide)
  · exact bvz a.toBitVec 24 (by decide)
  · exact bvz a.toBitVec 16 (by decide)
  · exact bvz a.toBitVec 8 (by decide)
  · exact bvz a.toBitVec 0 (by decide)
noncomputable def kC (a : Int64) (y : Int32) : Int8 := (((a.toUInt64 >>> ((y).toInt64.toUInt64 &&& Int64.toUInt64 63)).toInt64).toInt32).toInt8
theorem ke {a : Int64} {k : Nat} (hk : k < 8) : kC a (yk k) = (fB a (nI k)).toInt8 := by
  rw [← Int8.toBitVec_inj]
  rcases (show k = 0 ∨ k = 1 ∨ k = 2 ∨ k = 3 ∨ k = 4 ∨ k = 5 ∨ k = 6 ∨ k = 7 by omega) with rfl | rfl | rfl | rfl | rfl | rfl | rfl | rfl
  · exact bve a.toBitVec 56 (by decide)
  · exact bve a.toBitVec 48 (by decide)
  · exact bve a.toBitVec 40 (by decide)
  · exact bve a.toBitVec 32 (by decide)
  · exact bve a.toBitVec 24 (by decide)
  · exact bve a.toBitVec 16 (by decide)
  · exact bve a.toBitVec 8 (by decide)
  · exact bve a.toBitVec 0 (by decide)
theorem nar8 (x : Int8) : vp_nar .byte x.toInt32 = x.toInt32 := by
  show x.toInt32.toInt8.toInt32 = x.toInt32
  rw [Int8.toInt8_toInt32]
theorem byt8 (x : Int8) : BYT x.toInt32 := by
  unfold BYT
  rw [Int8.toInt_toInt32]
  exact ⟨Int8.le_toInt x, Int8.toInt_lt x⟩
theorem kBC {a : Int64} {y : Int32} : kB a y = (kC a y).toInt32 := Eq.trans rfl rfl
theorem nS {a : Int64} {k : Nat} (hk : k < 8) : vp_nar .byte (fB a (nI k)).toInt8.toInt32 = kB a (yk k) ∧ vp_nar .byte (kB a (yk k)) = kB a (yk k) ∧ BYT (kB a (yk k)) := by
  rw [kBC, nar8, nar8, ke hk]
  exact ⟨rfl, rfl, byt8 _⟩
theorem yk_s {k : Nat} (hk : k < 8) : yk k + (-8) = yk (k + 1) ∧ ¬ yk k < 0 := by
  rcases (show k = 0 ∨ k = 1 ∨ k = 2 ∨ k = 3 ∨ k = 4 ∨ k = 5 ∨ k = 6 ∨ k = 7 by omega) with rfl | rfl | rfl | rfl | rfl | rfl | rfl | rfl <;> decide
theorem yk_8 : yk 8 < 0 := by decide
noncomputable def cf (a : Int64) : Nat → Nat → Nat
  | 0, _ => 0
  | j + 1, k => (if fB a (nI k) = 0 then 0 else 1) + cf a j (k + 1)
theorem cf_le {a : Int64} : ∀ j k, cf a j k ≤ j
  | 0, _ => Nat.le_refl _
  | j + 1, k => by
    have := cf_le (a := a) j (k + 1)
    unfold cf; split <;> omega
theorem app_F10 {a : Int64} {u : RS} : ∀ (j k f m : Nat), k + j = 8 → j < f → m + j < 10000 → F8_append_L10 a u f (nI k) (nI m) = some (nI 8, nI (m + cf a j k))
  | 0, k, f, m, h1, h2, h3 => by
    obtain ⟨f, rfl⟩ : ∃ n, f = n + 1 := ⟨f - 1, by omega⟩
    obtain rfl : k = 8 := by omega
    rw [F8_append_L10]
    rw [if_pos (show (8 : Int32) ≤ nI 8 by decide)]; rfl
  | j + 1, k, f, m, h1, h2, h3 => by
    obtain ⟨f, rfl⟩ : ∃ n, f = n + 1 := ⟨f - 1, by omega⟩
    rw [F8_append_L10]
    have hge : ¬ (8 : Int32) ≤ nI k := by rw [lit32]; exact nI_ge (by omega) (by omega)
    rw [if_neg hge]
    show (some (fB a (nI k))).bind _ = _
    rw [bS]
    have e1 : nI k + 1 = nI (k + 1) := nI_add _ 1
    by_cases hz : fB a (nI k) = 0
    · rw [if_pos hz, bS, e1, show nI m + 0 = nI m from Int32.add_zero _, app_F10 j (k + 1) f m (by omega) (by omega) (by omega)]
      show some (nI 8, nI (m + cf a j (k + 1))) = some (nI 8, nI (m + ((if fB a (nI k) = 0 then 0 else 1) + cf a j (k + 1))))
      rw [if_pos hz, Nat.zero_add]
    · rw [if_neg hz, bS, e1, show nI m + 1 = nI (m + 1) from nI_add _ 1, app_F10 j (k + 1) f (m + 1) (by omega) (by omega) (by omega)]
      show some (nI 8, nI (m + 1 + cf a j (k + 1))) = some (nI 8, nI (m + ((if fB a (nI k) = 0 then 0 else 1) + cf a j (k + 1))))
      rw [if_neg hz, Nat.add_assoc]
theorem app_C9 {a : Int64} {g : CG} {u : RS} : ∀ (j k f m : Nat), k + j = 8 → j < f → m + j < 10000 → C5_add_L9 a g u f (yk k) (nI m) = some (yk 8, nI (m + cf a j k))
  | 0, k, f, m, h1, h2, h3 => by
    obtain ⟨f, rfl⟩ : ∃ n, f = n + 1 := ⟨f - 1, by omega⟩
    obtain rfl : k = 8 := by omega
    rw [C5_add_L9, if_pos yk_8]; rfl
  | j + 1, k, f, m, h1, h2, h3 => by
    obtain ⟨f, rfl⟩ : ∃ n, f = n + 1 := ⟨f - 1, by omega⟩
    obtain ⟨e1, e2⟩ := yk_s (k := k) (by omega)
    rw [C5_add_L9, if_neg e2]
    show (if kB a (yk k) = 0 then (some (nI m)) else (some (nI m + 1)) : Option Int32).bind _ = _
    have hzz := kz (a := a) (k := k) (by omega)
    by_cases hz : fB a (nI k) = 0
    · rw [if_pos (hzz.mpr hz), bS, e1, app_C9 j (k + 1) f m (by omega) (by omega) (by omega)]
      show some (yk 8, nI (m + cf a j (k + 1))) = some (yk 8, nI (m + ((if fB a (nI k) = 0 then 0 else 1) + cf a j (k + 1))))
      rw [if_pos hz, Nat.zero_add]
    · rw [if_neg (fun q => hz (hzz.mp q)), bS, e1, show nI m + 1 = nI (m + 1) from nI_add _ 1, app_C9 j (k + 1) f (m + 1) (by omega) (by omega) (by omega)]
      show some (yk 8, nI (m + 1 + cf a j (k + 1))) = some (yk 8, nI (m + ((if fB a (nI k) = 0 then 0 else 1) + cf a j (k + 1))))
      rw [if_neg hz, Nat.add_assoc]
noncomputable def BFn (r c : RS) (n : Nat) : Prop := n ≤ 600 ∧ c 0 5 = nI n ∧ r 0 8 = nI n ∧ ∀ k, k < n → c 3 k = r 6 k ∧ BYT (c 3 k)
noncomputable def APr (w r : RS) : Prop := (∀ R, R ≠ 0 → R ≠ 6 → w R = r R) ∧ (∀ i, i ≠ 8 → w 0 i = r 0 i)
noncomputable def APc (u c : RS) : Prop := (∀ R, R ≠ 0 → R ≠ 3 → u R = c R) ∧ (∀ i, i ≠ 5 → u 0 i = c 0 i)
theorem app_L {a : Int64} {g : CG} {r c : RS} {t7 t3 : Int32 × Int32} : ∀ (j k f f2 n : Nat) (u w : RS), k + j = 8 → j < f → j < f2 → BFn w u n → n + cf a j k ≤ 600 → APr w r → APc u c → ∃ u2 w2, C5_add_L45 t3 a g f (yk k) u = some (yk 8, u2) ∧ F8_append_L58 t7 a f2 (nI k) w = some (nI 8, w2) ∧ BFn w2 u2 (n + cf a j k) ∧ APr w2 r ∧ APc u2 c
  | 0, k, f, f2, n, u, w, h1, h2, h3, hb, h4, h5, h6 => by
    obtain ⟨f, rfl⟩ : ∃ n, f = n + 1 := ⟨f - 1, by omega⟩
    obtain ⟨f2, rfl⟩ : ∃ n, f2 = n + 1 := ⟨f2 - 1, by omega⟩
    obtain rfl : k = 8 := by omega
    refine ⟨u, w, ?_, ?_, hb, h5, h6⟩
    · rw [C5_add_L45, if_pos yk_8]
    · rw [F8_append_L58, if_pos (show (8 : Int32) ≤ nI 8 by decide)]
  | j + 1, k, f, f2, n, u, w, h1, h2, h3, hb, h4, h5, h6 => by
    obtain ⟨f, rfl⟩ : ∃ n, f = n + 1 := ⟨f - 1, by omega⟩
    obtain ⟨f2, rfl⟩ : ∃ n, f2 = n + 1 := ⟨f2 - 1, by omega⟩
    obtain ⟨e1, e2⟩ := yk_s (k := k) (by omega)
    have hge : ¬ (8 : Int32) ≤ nI k := by rw [lit32]; exact nI_ge (by omega) (by omega)
    have e3 : nI k + 1 = nI (k + 1) := nI_add _ 1
    have hzz := kz (a := a) (k := k) (by omega)
    rw [C5_add_L45, F8_append_L58, if_neg e2, if_neg hge]
    have hcf : cf a (j + 1) k = (if fB a (nI k) = 0 then 0 else 1) + cf a j (k + 1) := rfl
    have hl := cf_le (a := a) j (k + 1)
    have eF : F8_byteOf a (nI k) = some (fB a (nI k)) := rfl
    rw [eF, bS, bS, e1, e3]
    show ∃ u2 w2, ((if kB a (yk k) = 0 then (some u) else (if 600 ≤ (u 0 5) then (some u) else ((ws u 3 600 (u 0 5) (vp_nar .byte (kB a (yk k)))).bind fun u22 => (pt u22 0 5 ((u22 0 5) + 1)).bind fun u24 => some u24)) : Option RS).bind fun t18 => C5_add_L45 t3 a g f (yk (k + 1)) t18) = some (yk 8, u2) ∧ _ ∧ _
    by_cases hz : fB a (nI k) = 0
    · rw [if_pos hz, bS, if_pos (hzz.mpr hz), bS]
      rw [if_pos hz, Nat.zero_add] at hcf
      rw [hcf] at h4 ⊢
      exact app_L j (k + 1) f f2 n u w (by omega) (by omega) (by omega) hb h4 h5 h6
    · rw [if_neg hz] at hcf
      rw [hcf] at h4 ⊢
      obtain ⟨b1, b2, b3, b4⟩ := hb
      obtain ⟨s1, s2, s3⟩ := nS (a := a) (k := k) (by omega)
      have h600 : ¬ (600 : Int32) ≤ nI n := by rw [lit32]; exact nI_ge (by omega) (by omega)
      rw [if_neg hz, if_neg (fun q => hz (hzz.mp q)), b2, b3, if_neg h600, s1, s2, ws_n (by omega) (by omega), ws_n (by omega) (by omega), bS, bS, pt_n, pt_n, bS, bS, bS, bS, up_ne (by omega), up_ne (by omega), b2, b3, show nI n + 1 = nI (n + 1) from nI_add _ 1]
      have := app_L (a := a) (r := r) (c := c) (t7 := t7) (t3 := t3) (g := g) j (k + 1) f f2 (n + 1) (up (up u 3 n (kB a (yk k))) 0 5 (nI (n + 1))) (up (up w 6 n (kB a (yk k))) 0 8 (nI (n + 1))) (by omega) (by omega) (by omega) ⟨by omega, up_eq, up_eq, fun i hi => ?_⟩ (by omega) ⟨fun R a b => ?_, fun i a => ?_⟩ ⟨fun R a b => ?_, fun i a => ?_⟩
      · rw [show n + (1 + cf a j (k + 1)) = n + 1 + cf a j (k + 1) by omega]
        exact this
      · rw [up_or (r := 3) (k := 0) (by decide), up_or (r := 6) (k := 0) (by decide)]
        by_cases e : i = n
        · subst e; rw [up_eq, up_eq]; exact ⟨rfl, s3⟩
        · rw [up_ne (by omega), up_ne (by omega)]; exact b4 i (by omega)
      · rw [up_or a, up_or b]; exact h5.1 R a b
      · rw [up_ne (by omega), up_ne (by omega)]; exact h5.2 i a
      · rw [up_or a, up_or b]; exact h6.1 R a b
      · rw [up_ne (by omega), up_ne (by omega)]; exact h6.2 i a
theorem GI.buf {r c r2 c2 : RS} {g : CG} {B T n : Nat} (h : GI r c g B T) (hr : APr r2 r) (hc : APc c2 c) (hb : BFn r2 c2 n) : GI r2 c2 g B T := by
  obtain ⟨b1, b2, b3, b4⟩ := hb
  have cR : ∀ R, R ≠ 0 → R ≠ 3 → c2 R = c R := hc.1
  refine ⟨?_, fun L hL => ?_, ?_, ?_, ⟨by rw [cR 5 (by decide) (by decide)]; exact h.b.1, n, b1, b2, b3, b4⟩, ?_, ?_, h.n⟩
  · rw [hr.1 1 (by decide) (by decide)]
    exact h.l.frame (by omega) (Nat.le_refl _) (fun R hR => cR R (by unfold OWN at hR; omega) (by unfold OWN at hR; omega)) (fun t _ _ => cR _ (by omega) (by omega))
  · rw [cR _ (by omega) (by omega)]; exact h.ti L hL
  · exact h.p.frame (Nat.le_refl _) (fun _ _ _ q => q) (hc.2 3 (by decide)) (hc.2 4 (by decide)) (hr.2 5 (by decide)) (hr.1 3 (by decide) (by decide)) (fun L R a b hR => cR R (by unfold OWN at hR; omega) (by unfold OWN at hR; omega)) (fun t _ _ => cR _ (by omega) (by omega))
  · exact h.s.frame (Nat.le_refl _) (fun _ _ _ => rfl) (hr.1 5 (by decide) (by decide)) (hr.1 4 (by decide) (by decide)) (fun L R a b hR => cR R (by unfold OWN at hR; omega) (by unfold OWN at hR; omega)) (fun t _ _ => cR _ (by omega) (by omega))
  · exact h.e.frame (hc.2 1 (by decide)) (hc.2 2 (by decide)) (hr.2 15 (by decide)) (hr.2 16 (by decide))
  · exact h.o.frame (hc.2 0 (by decide)) (hr.2 22 (by decide))
theorem a_append {r c : RS} {g : CG} {B T : Nat} {a : Int64} (h : GI r c g B T) : BT (F8_append r a) (C7_append g c a) g B T := by
  obtain ⟨bz, n, b1, b2, b3, b4⟩ := h.b
  have hl := cf_le (a := a) 8 0
  have hF := app_F10 (a := a) (u := th r 0) 8 0 FUEL 0 (by omega) (by show 8 < 10000; omega) (by omega)
  have hC := app_C9 (a := a) (g := g) (u := c) 8 0 FUEL n (by omega) (by show 8 < 10000; omega) (by omega)
  rw [Nat.zero_add] at hF
  unfold F8_append C7_append C5_add
  have e0 : pt r 0 6 0 = some (th r 0) := Eq.trans rfl rfl
  have e8 : th r 0 0 8 = nI n := by rw [th_0 (by decide)]; exact b3
  rw [e0, bS]
  rw [show (0 : Int32) = nI 0 from lit32 0, show (56 : Int32) = yk 0 from rfl, hF, bS, b2, hC, bS]
  dsimp only
  rw [e8, nI_add, lit32 600]
  by_cases hfit : n + cf a 8 0 ≤ 600
  · obtain ⟨u2, w2, k1, k2, k3, k4, k5⟩ := app_L (a := a) (g := g) (r := th r 0) (c := c) (t7 := (nI 8, nI (cf a 8 0))) (t3 := (yk 8, nI (n + cf a 8 0))) 8 0 FUEL FUEL n c (th r 0) (by omega) (by show 8 < 10000; omega) (by show 8 < 10000; omega) ⟨b1, b2, e8, fun k hk => by rw [th_o (by decide)]; exact b4 k hk⟩ hfit ⟨fun _ _ _ => rfl, fun _ _ => rfl⟩ ⟨fun _ _ _ => rfl, fun _ _ => rfl⟩
    have hle : nI (n + cf a 8 0) ≤ nI 600 := nI_le (by omega) (by omega)
    rw [if_pos hle, if_pos hle, k2, bS, k1, bS, bS]
    dsimp only
    rw [show (1 : Int32) = nI 1 from lit32 1, if_neg nz0, bS]
    refine ⟨_, _, _, rfl, ?_, (h.thr (k := 0)).buf k4 k5 k3, ?_⟩
    · rw [k3.2.1, k3.2.2.1]
    · rw [k4.2 6 (by decide), th_6]
  · have hle : ¬ nI (n + cf a 8 0) ≤ nI 600 := nI_ge (by omega) (by omega)
    rw [if_neg hle, if_neg hle, bS]
    dsimp only
    rw [if_pos rfl, bS]
    exact ⟨_, _, _, rfl, rfl, h.thr, th_6⟩
