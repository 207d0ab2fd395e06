section
theorem inStateOf_L {r : RS} {v : Nat → Int32} {l a cm : Nat} (ha : a < 5) (hcm : cm ≤ 30) (h9 : v 9 = nI cm) : ∀ (d y fu s : Nat), y + d = cm → d < fu → s = cnt y (lsC (sC v) l a) → F8_inStateOf_L5 (nI l) (nI a) (setR r v) fu (nI y) (nI s) = some (nI cm, nI (cnt cm (lsC (sC v) l a))) := by
  intro d
  induction d with
  | zero =>
    intro y fu s hy hfu hs
    obtain ⟨fu, rfl⟩ : ∃ m, fu = m + 1 := ⟨fu - 1, by omega⟩
    obtain rfl : y = cm := by omega
    rw [F8_inStateOf_L5]
    simp (disch := omega) only [lit32, neg1, nI_add, nI_mul, bS, pt_n, ix_n, rd_n, ws_n, rdo_n, wso_n, setR_1, setL_w, setL_iv, up_setR, up_setL_w, up_setL_iv, nz_0, nz_1, h9]
    rw [if_pos (nI_le (by omega) (by omega)), hs]
  | succ d ih =>
    intro y fu s hy hfu hs
    obtain ⟨fu, rfl⟩ : ∃ m, fu = m + 1 := ⟨fu - 1, by omega⟩
    rw [F8_inStateOf_L5]
    simp (disch := omega) only [lit32, neg1, nI_add, nI_mul, bS, pt_n, ix_n, rd_n, ws_n, rdo_n, wso_n, setR_1, setL_w, setL_iv, up_setR, up_setL_w, up_setL_iv, nz_0, nz_1, h9, F8_ofCard_v]
    rw [if_neg (nI_ge (by omega) (by omega))]
    have e : (if v (137 + 25 * y + 0) = nI l then (if v (137 + 25 * y + 3) = nI a then some (nI 1) else some (nI 0)) else some (nI 0) : Option Int32) = some (nI (if lsC (sC v) l a y then 1 else 0)) := by
      unfold lsC
      rw [← sC_r (v := v) (by omega) (by omega), ← sC_r (v := v) (by omega) (by omega)]
      by_cases h : v (137 + 25 * y + 0) = nI l
      · rw [if_pos h]
        by_cases h2 : v (137 + 25 * y + 3) = nI a
        · rw [if_pos h2, if_pos (decide_eq_true ⟨h, h2⟩)]
        · rw [if_neg h2, if_neg (by simpa using fun _ => h2)]
      · rw [if_neg h, if_neg (by simpa using fun q => absurd q h)]
    rw [e]
    simp (disch := omega) only [lit32, neg1, nI_add, nI_mul, bS, pt_n, ix_n, rd_n, ws_n, rdo_n, wso_n, setR_1, setL_w, setL_iv, up_setR, up_setL_w, up_setL_iv, nz_0, nz_1]
    refine ih (y + 1) fu _ (by omega) (by omega) ?_
    rw [hs]; rfl
theorem inStateOf_ok {r : RS} {v : Nat → Int32} {l a cm : Nat} (ha : a < 5) (hcm : cm ≤ 30) (h9 : v 9 = nI cm) : F8_inStateOf (setR r v) (nI l) (nI a) = some (nI (cnt cm (lsC (sC v) l a))) := by
  unfold F8_inStateOf
  simp only [lit32]
  rw [inStateOf_L ha hcm h9 cm 0 FUEL 0 (by omega) (by show cm < 10000; omega) rfl, bS]
theorem sumOf_L {r : RS} {v : Nat → Int32} {l k cm : Nat} (hk : k < 25) (hcm : cm ≤ 30) (h9 : v 9 = nI cm) : ∀ (d y fu : Nat) (s : Int32), y + d = cm → d < fu → s = sumI y (suC (sC v) l k) → F8_sumOf_L5 (nI l) (nI k) (setR r v) fu (nI y) s = some (nI cm, sumI cm (suC (sC v) l k)) := by
  intro d
  induction d with
  | zero =>
    intro y fu s hy hfu hs
    obtain ⟨fu, rfl⟩ : ∃ m, fu = m + 1 := ⟨fu - 1, by omega⟩
    obtain rfl : y = cm := by omega
    rw [F8_sumOf_L5]
    simp (disch := omega) only [lit32, neg1, nI_add, nI_mul, bS, pt_n, ix_n, rd_n, ws_n, rdo_n, wso_n, setR_1, setL_w, setL_iv, up_setR, up_setL_w, up_setL_iv, nz_0, nz_1, h9]
    rw [if_pos (nI_le (by omega) (by omega)), hs]
  | succ d ih =>
    intro y fu s hy hfu hs
    obtain ⟨fu, rfl⟩ : ∃ m, fu = m + 1 := ⟨fu - 1, by omega⟩
    rw [F8_sumOf_L5]
    simp (disch := omega) only [lit32, neg1, nI_add, nI_mul, bS, pt_n, ix_n, rd_n, ws_n, rdo_n, wso_n, setR_1, setL_w, setL_iv, up_setR, up_setL_w, up_setL_iv, nz_0, nz_1, h9, F8_ofCard_v]
    rw [if_neg (nI_ge (by omega) (by omega))]
    have e : (if v (137 + 25 * y + 0) = nI l then some (v (137 + 25 * y + k)) else some (nI 0) : Option Int32) = some (suC (sC v) l k y) := by
      unfold suC
      rw [← sC_r (v := v) (by omega) (by omega), ← sC_r (v := v) (by omega) hk]
      by_cases h : v (137 + 25 * y + 0) = nI l
      · rw [if_pos h, if_pos h]
      · rw [if_neg h, if_neg h]
    rw [e]
    simp (disch := omega) only [lit32, neg1, nI_add, nI_mul, bS, pt_n, ix_n, rd_n, ws_n, rdo_n, wso_n, setR_1, setL_w, setL_iv, up_setR, up_setL_w, up_setL_iv, nz_0, nz_1]
    refine ih (y + 1) fu _ (by omega) (by omega) ?_
    rw [hs]; rfl
theorem sumOf_ok {r : RS} {v : Nat → Int32} {l k cm : Nat} (hk : k < 25) (hcm : cm ≤ 30) (h9 : v 9 = nI cm) : F8_sumOf (setR r v) (nI l) (nI k) = some (sumI cm (suC (sC v) l k)) := by
  unfold F8_sumOf
  simp only [lit32]
  rw [sumOf_L hk hcm h9 cm 0 FUEL (nI 0) (by omega) (by show cm < 10000; omega) nI_0, bS]
theorem q_lot {r c : RS} {g : CG} {B T : Nat} {a b : Int32} (h : GI r c g B T) : QT (F8_lot r a b) (C7_lot g c a b) r 0 := by
  obtain ⟨sm, lm, cm, h0⟩ := h.l
  have hlm := h0.a.lm6; have hcm := h0.a.cm30
  unfold F8_lot C7_lot
  simp only [lit32, neg1]
  rcases argLo (r := r) (c := c) (g := g) (a := a) (n := lm) (by omega) h0.v8 h0.n8 with ⟨l, s1, rfl, s2, s3⟩ | ⟨s2, s3⟩
  · have hl6 : l < 6 := by omega
    rw [s2, s3, bS, bS, isThrown_1, bS, trR, ix_n hl6 (by omega), bS]
    simp only [if_true]
    have e : ∀ k, k < 4 → r 1 (113 + 4 * l + k) = c (10 + 0) (113 + 4 * l + k) := fun k hk => by
      rw [sL_r (v := r 1) hl6 hk, sL_r (v := c (10 + 0)) hl6 hk]; exact h0.l.eql l k s1 hk
    have C : ∀ q k, q < cm → k < 9 → k ≠ 2 → sC (r 1) q k = sC (c (10 + 0)) q k := fun q k a b d => h0.c.eqc q k a b d
    have eE : ∀ k, k < 8 → c (10 + 0) (1100 + 8 * l + k) = sE (c (10 + 0)) l k := fun k hk => sE_r (v := c (10 + 0)) hl6 hk
    have cls : ∀ a, cnt cm (lsC (sC (r 1)) l a) = cnt cm (lsC (sC (c (10 + 0))) l a) := fun a => cnt_congr fun i hi => by unfold lsC; rw [C i 0 hi (by omega) (by omega), C i 3 hi (by omega) (by omega)]
    have csu : ∀ k, k < 9 → k ≠ 2 → sumI cm (suC (sC (r 1)) l k) = sumI cm (suC (sC (c (10 + 0))) l k) := fun k hk h2 => sumI_congr fun i hi => by unfold suC; rw [C i 0 hi (by omega) (by omega), C i k hi hk h2]
    rcases argR (a := b) (lo := 0) (hi := 6) (by omega) (by omega) (l := 0) (h := 6) rfl rfl with ⟨k, k1, k2, rfl, k3, k4⟩ | ⟨k3, k4, k5⟩
    · rw [k3, isThrown_1, bS, th_th, thR]
      simp only [if_true]
      rcases (show k = 0 ∨ k = 1 ∨ k = 2 ∨ k = 3 ∨ k = 4 ∨ k = 5 ∨ k = 6 by omega) with rfl | rfl | rfl | rfl | rfl | rfl | rfl
      · simp (disch := omega) only [ifn, if_true]
        rw [F8_ofLot_v hl6 (by omega), bS, ← thR, e 0 (by omega)]; exact Or.inl ⟨_, rfl, rfl⟩
      · simp (disch := omega) only [ifn, if_true]
        rw [F8_ofLot_v hl6 (by omega), bS, ← thR, e 1 (by omega)]; exact Or.inl ⟨_, rfl, rfl⟩
      · simp (disch := omega) only [ifn, if_true]
        rw [inStateOf_ok (by omega) hcm h0.v9, bS, ← thR, cls, eE 1 (by omega), h0.l.left l s1]; exact Or.inl ⟨_, rfl, rfl⟩
      · simp (disch := omega) only [ifn, if_true]
        rw [inStateOf_ok (by omega) hcm h0.v9, bS, ← thR, cls, eE 2 (by omega), h0.l.gave l s1]; exact Or.inl ⟨_, rfl, rfl⟩
      · simp (disch := omega) only [ifn, if_true]
        rw [sumOf_ok (by omega) hcm h0.v9, bS, ← thR, csu 5 (by omega) (by omega), eE 3 (by omega), h0.l.fails l s1]; exact Or.inl ⟨_, rfl, rfl⟩
      · simp (disch := omega) only [ifn, if_true]
        rw [sumOf_ok (by omega) hcm h0.v9, bS, ← thR, csu 6 (by omega) (by omega), eE 4 (by omega), h0.l.scraps l s1]; exact Or.inl ⟨_, rfl, rfl⟩
      · obtain ⟨x, x1, x2, -⟩ := next_ok (r := th r 0) (by omega : 0 < 12) h0 s1
        rw [← cL (L := 0)] at x2
        simp (disch := omega) only [ifn, if_true]
        rw [x1, bS, x2, bS, ← thR]; exact Or.inl ⟨_, rfl, rfl⟩
    · rw [k3, isThrown_0, bS, th_th]
      refine Or.inr ⟨2, by omega, by omega, ?_, ?_⟩
      · simp only [nz0, if_false]
      · have e := fun (x : Nat) (hx : x < 7) {α : Type} (p q : α) => ifo (x := p) (y := q) (n := 7) (k := x) (a := b) (by omega) hx (by omega)
        simp (disch := omega) only [e]
  · rw [s2, s3, bS, bS, isThrown_0, bS, trL]
    refine Or.inr ⟨1, by omega, by omega, ?_, rfl⟩
    simp only [nz0, if_false]
noncomputable def mtch (v : Nat → Int32) (a b : Int32) (k : Nat) : Prop := v (137 + 25 * k + 0) = a ∧ v (137 + 25 * k + 1) = b
theorem at_L {r : RS} {v : Nat → Int32} {a b : Int32} {cm : Nat} (hcm : cm ≤ 30) (h9 : v 9 = nI cm) : ∀ (d y fu : Nat), y + d = cm → d < fu → (∀ k, k < y → ¬ mtch v a b k) → (∃ k, k < cm ∧ mtch v a b k ∧ F8_at_L2 a b (setR r v) fu (nI y) = some (.inl (nI k))) ∨ ((∀ k, k < cm → ¬ mtch v a b k) ∧ F8_at_L2 a b (setR r v) fu (nI y) = some (.inr (nI cm))) := by
  intro d
  induction d with
  | zero =>
    intro y fu hy hfu hn
    obtain ⟨fu, rfl⟩ : ∃ m, fu = m + 1 := ⟨fu - 1, by omega⟩
    obtain rfl : y = cm := by omega
    refine Or.inr ⟨hn, ?_⟩
    rw [F8_at_L2]
    simp (disch := omega) only [lit32, neg1, nI_add, nI_mul, bS, pt_n, ix_n, rd_n, ws_n, rdo_n, wso_n, setR_1, setL_w, setL_iv, up_setR, up_setL_w, up_setL_iv, nz_0, nz_1, h9]
    rw [if_pos (nI_le (by omega) (by omega))]
  | succ d ih =>
    intro y fu hy hfu hn
    obtain ⟨fu, rfl⟩ : ∃ m, fu = m + 1 := ⟨fu - 1, by omega⟩
    rw [F8_at_L2]
    simp (disch := omega) only [lit32, neg1, nI_add, nI_mul, bS, pt_n, ix_n, rd_n, ws_n, rdo_n, wso_n, setR_1, setL_w, setL_iv, up_setR, up_setL_w, up_setL_iv, nz_0, nz_1, h9, F8_ofCard_v]
    rw [if_neg (nI_ge (by omega) (by omega))]
    by_cases h0 : v (137 + 25 * y + 0) = a
    · rw [if_pos h0]
      by_cases h1 : v (137 + 25 * y + 1) = b
      · rw [if_pos h1]; exact Or.inl ⟨y, by omega, ⟨h0, h1⟩, rfl⟩
      · rw [if_neg h1]
        refine ih (y + 1) fu (by omega) (by omega) fun k hk q => ?_
        by_cases e : k = y
        · rw [e] at q; exact h1 q.2
        · exact hn k (by omega) q
    · rw [if_neg h0]
      refine ih (y + 1) fu (by omega) (by omega) fun k hk q => ?_
      by_cases e : k = y
      · rw [e] at q; exact h0 q.1
      · exact hn k (by omega) q
theorem q_cardOf {r c : RS} {g : CG} {B T : Nat} {a b : Int32} (h : GI r c g B T) : QT (F8_cardOf r a b) (C7_cardOf g c a b) r 0 := by
  obtain ⟨sm, lm, cm, h0⟩ := h.l
  have hlm := h0.a.lm6; have hcm := h0.a.cm30
  unfold F8_cardOf C7_cardOf
  simp only [lit32, neg1]
  rcases argLo (r := r) (c := c) (g := g) (a := a) (n := lm) (by omega) h0.v8 h0.n8 with ⟨l, s1, rfl, s2, s3⟩ | ⟨s2, s3⟩
  · have hl6 : l < 6 := by omega
    rw [s2, s3, bS, bS, isThrown_1, bS, trR, ix_n hl6 (by omega), bS]
    simp only [if_true]
    have C : ∀ q k, q < cm → k < 9 → k ≠ 2 → r 1 (137 + 25 * q + k) = sC (c (10 + 0)) q k := fun q k a b d => by
      rw [QR.rc h0 a b d, sC_r (v := c (10 + 0)) (by omega) (by omega)]
    have hz : cnt cm (loC (sC (c (10 + 0))) l) ≤ 30 := Nat.le_trans cnt_le hcm
    have hsz : c (10 + 0) (113 + 4 * l + 1) = nI (cnt cm (loC (sC (c (10 + 0))) l)) := by rw [sL_r (v := c (10 + 0)) hl6 (by omega)]; exact h0.l.size l s1
    have key := at_L (r := th r 0) (v := r 1) (a := nI l) (b := b) hcm h0.v9 cm 0 FUEL (by omega) (by show cm < 10000; omega) (fun k hk => by omega)
    have hF : ∀ x, ((F8_at_L2 (nI l) b (setR (th r 0) (r 1)) FUEL (nI 0)).bind fun t3 => match t3 with | .inl r => some r | .inr t7 => some m1) = some x → F8_at (th r 0) (nI l) b = some x := fun x e => by
      unfold F8_at; simp only [lit32, neg1]; rw [thR]; exact e
    unfold C4_cardAt
    simp only [lit32, neg1]
    rw [hsz]
    rcases below (a := b) (n := cnt cm (loC (sC (c (10 + 0))) l)) (by omega) with ⟨p, hp, rfl⟩ | hb
    · obtain ⟨q, q1, q2, q3, q4⟩ := h0.l.byp l s1 p hp
      rw [if_neg (nI_nlt (by omega) (by omega)), if_neg (nI_ge hp (by omega)), rd_n (by omega) (by omega), bS, bS, bS]
      rcases key with ⟨k, k1, ⟨k2, k3⟩, k4⟩ | ⟨k1, -⟩
      · rw [C k 0 k1 (by omega) (by omega)] at k2
        rw [C k 1 k1 (by omega) (by omega)] at k3
        obtain ⟨p', p1, p2, p3⟩ := h0.l.place l k s1 k1 k2
        obtain rfl : p' = p := (nI_eq (by omega) (by omega)).mp (p2.symm.trans k3)
        rw [hF (nI k) (by rw [k4]; rfl), bS, bS]
        exact Or.inl ⟨_, rfl, by rw [← p3]⟩
      · exact absurd ⟨by rw [C q 0 q1 (by omega) (by omega)]; exact q3, by rw [C q 1 q1 (by omega) (by omega)]; exact q4⟩ (k1 q q1)
    · have hC : (if b < nI 0 then some m1 else (if nI (cnt cm (loC (sC (c (10 + 0))) l)) ≤ b then some m1 else ((rd c (100 + 6 * 0 + l) 30 b).bind fun x6 => some x6)) : Option Int32) = some m1 := by
        by_cases hb0 : b < nI 0
        · rw [if_pos hb0]
        · have hb1 : ¬ b.toInt < 0 := fun q => hb0 (lt0.mpr q)
          rw [if_neg hb0, if_pos ((gen (by omega)).mpr (by omega))]
      rw [hC, bS, bS]
      rcases key with ⟨k, k1, ⟨k2, k3⟩, k4⟩ | ⟨-, k4⟩
      · rw [C k 0 k1 (by omega) (by omega)] at k2
        rw [C k 1 k1 (by omega) (by omega)] at k3
        obtain ⟨p', p1, p2, p3⟩ := h0.l.place l k s1 k1 k2
        rw [← k3, p2, nI_toInt (by omega)] at hb
        omega
      · rw [hF m1 (by rw [k4]; rfl), bS, bS]
        exact Or.inl ⟨_, rfl, rfl⟩
  · rw [s2, s3, bS, bS, isThrown_0, bS, trL]
    refine Or.inr ⟨1, by omega, by omega, ?_, rfl⟩
    simp only [nz0, if_false, bS]
theorem tray_L {r c : RS} {g : CG} {cm k : Nat} {v : Nat → Int32} (hk : k < 2 ^ 31) (hcm : cm ≤ 30) (h9v : v 9 = nI cm) (h9w : c (10 + 0) 9 = nI cm) (e3 : ∀ q, q < cm → v (137 + 25 * q + 3) = c (10 + 0) (137 + 25 * q + 3)) : ∀ (d y fu fu2 b : Nat), y + d = cm → d < fu → d < fu2 → b ≤ k → b ≤ y →
    (∃ q, F8_trayAt_L9 (nI k) (setR r v) fu (nI y) (nI (k - b)) = some (.inl (nI q, setR r v)) ∧ C7_trayAt_L4 (nI k) g c fu2 (nI y) (nI b) = some (.inl (nI q))) ∨ (∃ t t2, F8_trayAt_L9 (nI k) (setR r v) fu (nI y) (nI (k - b)) = some (.inr t) ∧ C7_trayAt_L4 (nI k) g c fu2 (nI y) (nI b) = some (.inr t2)) := by
  intro d
  induction d with
  | zero =>
    intro y fu fu2 b hy hfu hfu2 hb hby
    obtain ⟨fu, rfl⟩ : ∃ m, fu = m + 1 := ⟨fu - 1, by omega⟩
    obtain ⟨fu2, rfl⟩ : ∃ m, fu2 = m + 1 := ⟨fu2 - 1, by omega⟩
    obtain rfl : y = cm := by omega
    right
    rw [F8_trayAt_L9, C7_trayAt_L4, setR_1, h9v, h9w, if_pos (nI_le (by omega) (by omega)), if_pos (nI_le (by omega) (by omega))]
    exact ⟨_, _, rfl, rfl⟩
  | succ d ih =>
    intro y fu fu2 b hy hfu hfu2 hb hby
    obtain ⟨fu, rfl⟩ : ∃ m, fu = m + 1 := ⟨fu - 1, by omega⟩
    obtain ⟨fu2, rfl⟩ : ∃ m, fu2 = m + 1 := ⟨fu2 - 1, by omega⟩
    rw [F8_trayAt_L9, C7_trayAt_L4]
    simp only [lit32, neg1]
    rw [setR_1, h9v, h9w, if_neg (nI_ge (by omega) (by omega)), if_neg (nI_ge (by omega) (by omega)), if_neg (nI_nlt (by omega) (by omega)), F8_ofCard_v (by omega) (by omega), bS, ix_n (by omega) (by omega), bS, e3 y (by omega)]
    by_cases h2 : c (10 + 0) (137 + 25 * y + 3) = nI 2
    · rw [if_pos h2, if_pos h2]
      by_cases h0 : b = k
      · rw [if_pos (by rw [h0, Nat.sub_self]), if_pos (by rw [h0])]
        exact Or.inl ⟨y, rfl, rfl⟩
      · rw [if_neg (nI_ne (by omega) (by omega) (by omega)), if_neg (nI_ne h0 (by omega) (by omega)), im1 (by omega), nI_add, nI_add, show k - b - 1 = k - (b + 1) by omega]
        exact ih (y + 1) fu fu2 (b + 1) (by omega) (by omega) (by omega) (by omega) (by omega)
    · rw [if_neg h2, if_neg h2, nI_add]
      exact ih (y + 1) fu fu2 b (by omega) (by omega) (by omega) hb (by omega)
theorem trayN_L {c : RS} {g : CG} {cm : Nat} {a : Int32} (ha : a.toInt < 0) (hcm : cm ≤ 30) (h9w : c (10 + 0) 9 = nI cm) : ∀ (d y fu2 b : Nat), y + d = cm → d < fu2 → b ≤ y → ∃ t2, C7_trayAt_L4 a g c fu2 (nI y) (nI b) = some (.inr t2) := by
  intro d
  induction d with
  | zero =>
    intro y fu2 b hy hfu2 hby
    obtain ⟨fu2, rfl⟩ : ∃ m, fu2 = m + 1 := ⟨fu2 - 1, by omega⟩
    obtain rfl : y = cm := by omega
    rw [C7_trayAt_L4, h9w, if_pos (nI_le (by omega) (by omega))]
    exact ⟨_, rfl⟩
  | succ d ih =>
    intro y fu2 b hy hfu2 hby
    obtain ⟨fu2, rfl⟩ : ∃ m, fu2 = m + 1 := ⟨fu2 - 1, by omega⟩
    rw [C7_trayAt_L4]
    simp only [lit32]
    rw [h9w, if_neg (nI_ge (by omega) (by omega)), ix_n (by omega) (by omega), bS, nI_add, nI_add, if_neg (c := nI b = a) (fun e => by rw [← e, nI_toInt (by omega)] at ha; omega)]
    by_cases h2 : c (10 + 0) (137 + 25 * y + 3) = nI 2
    · rw [if_pos h2]; exact ih (y + 1) fu2 (b + 1) (by omega) (by omega) (by omega)
    · rw [if_neg h2]; exact ih (y + 1) fu2 b (by omega) (by omega) (by omega)
theorem q_trayAt {r c : RS} {g : CG} {B T : Nat} {a : Int32} (h : GI r c g B T) : QP (F8_trayAt r a) (C7_trayAt g c a) r := by
  obtain ⟨sm, lm, cm, h0⟩ := h.l
  have hcm := h0.a.cm30
  unfold F8_trayAt C7_trayAt
  simp only [lit32, neg1]
  rw [zth, bS]
  by_cases ha : 0 ≤ a.toInt
  · obtain ⟨e, hk⟩ := nI_ofInt ha
    generalize a.toInt.toNat = k at e hk
    subst e
    rcases tray_L (r := th r 0) (c := c) (g := g) (v := r 1) hk hcm h0.v9 h0.n9 (fun q hq => QR.rc h0 hq (by omega) (by omega)) cm 0 FUEL FUEL 0 (by omega) (by show cm < 10000; omega) (by show cm < 10000; omega) (by omega) (by omega) with ⟨q, q1, q2⟩ | ⟨t, t2, q1, q2⟩
    · rw [Nat.sub_zero] at q1
      refine ⟨nI q, ?_, ?_⟩
      · rw [thR, q1, bS]
      · rw [q2, bS]
    · rw [Nat.sub_zero] at q1
      refine ⟨m1, ?_, ?_⟩
      · rw [thR, q1, bS]
      · rw [q2, bS]
  · obtain ⟨t2, q2⟩ := trayN_L (c := c) (g := g) (a := a) (by omega) hcm h0.n9 cm 0 FUEL 0 (by omega) (by show cm < 10000; omega) (by omega)
    refine ⟨m1, ?_, ?_⟩
    · show ((F8_trayAt_L9 a (th r 0) (9999 + 1) (nI 0) a).bind _) = _
      rw [F8_trayAt_L9, th1, h0.v9]
      simp only [lit32]
      by_cases hc : nI cm ≤ nI 0
      · rw [if_pos hc, bS]
      · rw [if_neg hc, if_pos (lt0.mpr (by omega)), bS]
    · rw [q2, bS]
theorem q_day {r c : RS} {g : CG} {B T : Nat} {a b d : Int32} (h : GI r c g B T) : QT (F8_day r a b d) (C7_day g c a b d) r 0 := by
  obtain ⟨sm, lm, cm, h0⟩ := h.l
  have hlm := h0.a.lm6; have hBB := h0.a.bb
  unfold F8_day C7_day
  simp only [lit32, neg1]
  rcases argLo (r := r) (c := c) (g := g) (a := b) (n := lm) (by omega) h0.v8 h0.n8 with ⟨l, s1, rfl, s2, s3⟩ | ⟨s2, s3⟩
  · have hl6 : l < 6 := by omega
    rw [s2, s3, bS, bS, isThrown_1, bS, trR]
    simp only [if_true]
    by_cases ha : a < nI 0
    · rw [if_pos ha, if_pos ha, bS, isThrown_0, bS, th_th]
      refine Or.inr ⟨2, by omega, by omega, ?_, rfl⟩
      simp only [nz0, if_false]
    · rw [if_neg ha, if_neg ha]
      have ha1 : ¬ a.toInt < 0 := fun q => ha (lt0.mpr q)
      obtain ⟨ea, hk⟩ := nI_ofInt (a := a) (by omega)
      generalize a.toInt.toNat = k at ea hk
      subst ea
      rcases argR (a := d) (lo := 0) (hi := 1) (by omega) (by omega) (l := 0) (h := 1) rfl rfl with ⟨w, k1, k2, rfl, k3, k4⟩ | ⟨k3, k4, k5⟩
      · rw [k3, if_neg nz0, bS, isThrown_1, bS, th_th, if_neg (nI_nlt (by omega) (by omega)), if_pos (nI_le k2 (by omega))]
        simp only [if_true]
        obtain ⟨t, t1, t2⟩ := h0.a.time
        obtain ⟨y, y1, y2, y3⟩ := h0.a.day
        have c6 : c (10 + 0) 6 = nI t := by rw [sA_r (v := c (10 + 0)) (by omega)]; exact t2
        have c0 : c (10 + 0) 0 = nI y := by rw [sA_r (v := c (10 + 0)) (by omega)]; exact y3
        have v11 : r 1 11 = nI (min 10 (t / y)) := by rw [sA_r (v := r 1) (by omega)]; exact h0.d.many y t (by omega) (by omega) y3 t2
        have q2 : t / y ≤ t := Nat.div_le_self _ _
        have hD : C3_daysOver g c 0 = some (nI (t / y)) := by
          unfold C3_daysOver
          simp only [lit32]
          rw [c0, c6, if_neg (nI_ge (by omega) (by omega))]
          unfold dv
          rw [if_neg (show ¬ nI y = 0 from nI_ne0 (by omega) (by omega)), pk_div (by omega) (by omega) (by omega), bS, bS]
        rw [hD, bS, th1, v11]
        by_cases hi : k < min 10 (t / y)
        · have hr := h0.d.ring y t l k (by omega) (by omega) y3 t2 s1 hi
          rw [if_neg (nI_ge hi (by omega)), if_neg (nI_ge (by omega) (by omega)), if_pos (nI_lt (by omega) (by omega))]
          simp only [nI_add, nI_mul]
          rw [rd_n (by omega) (by omega), bS, bS, nI_sub (by omega), nI_sub (by omega), rm_n (by omega) (by omega) (by omega), bS, th1, ix_n hl6 (by omega)]
          have hm : (t / y - 1 - k) % 10 < 10 := Nat.mod_lt _ (by omega)
          rcases (show w = 0 ∨ w = 1 by omega) with rfl | rfl
          · rw [if_pos rfl, bS, rd_n hm (by omega), bS, bS]
            refine Or.inl ⟨_, rfl, ?_⟩
            rw [← hr.1, ← sP_r (v := r 1) (by omega)]
            exact congrArg (fun x => some (Sum.inr (r 1 x))) (by omega)
          · rw [if_neg nz0, bS, rd_n hm (by omega), bS, bS]
            refine Or.inl ⟨_, rfl, ?_⟩
            rw [← hr.2, ← sP_r (v := r 1) (by omega)]
            exact congrArg (fun x => some (Sum.inr (r 1 x))) (by omega)
        · rw [if_pos (nI_le (by omega) hk), bS]
          by_cases h10 : nI 10 ≤ nI k
          · rw [if_pos h10]; exact Or.inl ⟨_, rfl, rfl⟩
          · have h10' : k < 10 := by
              by_cases q : k < 10
              · exact q
              · exact absurd (nI_le (by omega) hk) h10
            rw [if_neg h10, if_neg (nI_nlt (by omega) (by omega))]; exact Or.inl ⟨_, rfl, rfl⟩
      · rw [k3, if_pos rfl, bS, isThrown_0, bS, th_th]
        have hC : ∀ X : Option (Sum Int32 Int32), (if d < nI 0 then some (.inl (nI 2)) else (if d ≤ nI 1 then X else some (.inl (nI 2))) : Option (Sum Int32 Int32)) = some (.inl (nI 2)) := fun X => by
          by_cases hd : d < nI 0
          · rw [if_pos hd]
          · have hd1 : ¬ d.toInt < 0 := fun q => hd (lt0.mpr q)
            rw [if_neg hd, if_neg (fun q => by have := (len (by omega)).mp q; omega)]
        refine Or.inr ⟨2, by omega, by omega, ?_, hC _⟩
        simp only [nz0, if_false]
  · rw [s2, s3, bS, bS, isThrown_0, bS, trL]
    refine Or.inr ⟨1, by omega, by omega, ?_, rfl⟩
    simp only [nz0, if_false]
end
section
theorem log_le {k n : Nat} (h0 : k ≠ 0) (h : k < 2 ^ n) : k.log2 < n := by
  have := Nat.log2_self_le h0
  by_cases q : k.log2 < n
  · exact q
  · have : 2 ^ n ≤ 2 ^ k.log2 := Nat.pow_le_pow_right (by omega) (by omega)
    omega
theorem near_pos {num den : Nat} (h0 : 0 < den) (h : den ≤ num) : FP.Core.nearest num den ≠ 0 := by
  have := Nat.div_pos h h0
  unfold FP.Core.nearest
  split
  · omega
  · split
    · omega
    · omega
theorem lead_le {k : Nat} : FP.Core.leading k 1 ≤ k.log2 := by
  unfold FP.Core.leading
  simp only
  have e : Nat.log2 1 = 0 := by decide
  rw [e]
  split <;> omega
noncomputable def fnn (p : Nat) (qx : Int) : FP.Core.Datum → Prop
  | .nan => False
  | .inf _ => True
  | .fin _ c q => c < 2 ^ p ∧ q ≤ qx
theorem t_32 : FP.Core.Fmt.tails FP.Core.b32 = 8388608 := by decide
theorem x_32 : FP.Core.Fmt.exps FP.Core.b32 = 256 := by decide
theorem n_32 : FP.Core.Fmt.qmin FP.Core.b32 = -149 := by decide
theorem m_32 : FP.Core.Fmt.qmax FP.Core.b32 = 104 := by decide
theorem p_32 : FP.Core.Fmt.p FP.Core.b32 = 24 := rfl
theorem w_32 : 2 ^ 24 = 16777216 := by decide
theorem bd_32 {s : Bool} {c : Nat} {q : Int} (h : c < 2 ^ 24) : fnn 24 104 (FP.Core.bound FP.Core.b32 s c q) := by
  unfold FP.Core.bound
  split
  · rename_i k; rw [m_32] at k; exact ⟨h, k⟩
  · trivial
theorem rr_32 {s : Bool} {c d : Nat} {q : Int} : fnn 24 104 (FP.Core.roundRatio FP.Core.b32 s c d q) := by
  unfold FP.Core.roundRatio
  split
  · refine ⟨Nat.two_pow_pos _, ?_⟩; rw [n_32]; decide
  · unfold FP.Core.roundAt FP.Core.settle
    rw [p_32]
    split
    · rename_i h; exact bd_32 h
    · refine bd_32 ?_; rw [t_32, w_32]; omega
theorem en_32 {d : FP.Core.Datum} (h : fnn 24 104 d) : ∃ s e t, s ≤ 1 ∧ e < 256 ∧ t < 8388608 ∧ (e = 255 → t = 0) ∧ FP.Core.encode FP.Core.b32 d = (s * 256 + e) * 8388608 + t := by
  cases d with
  | nan => exact absurd h (by simp [fnn])
  | inf s =>
    refine ⟨s.toNat, 255, 0, by cases s <;> decide, by omega, by omega, fun _ => rfl, ?_⟩
    unfold FP.Core.encode FP.Core.assemble
    rw [t_32, x_32]
  | fin s c q =>
    obtain ⟨h1, h2⟩ := h
    rw [w_32] at h1
    unfold FP.Core.encode FP.Core.assemble
    rw [t_32, x_32, n_32]
    dsimp only
    by_cases hc : c < 8388608
    · rw [if_pos hc]
      exact ⟨s.toNat, 0, c, by cases s <;> decide, by omega, hc, fun q => by omega, rfl⟩
    · rw [if_neg hc]
      exact ⟨s.toNat, (q - (-149)).toNat + 1, c - 8388608, by cases s <;> decide, by omega, by omega, fun q => by omega, rfl⟩
theorem fe_32 {s e t : Nat} (he : e < 256) (ht : t < 8388608) : FP.Core.fieldE FP.Core.b32 ((s * 256 + e) * 8388608 + t) = e := by
  unfold FP.Core.fieldE
  rw [t_32, x_32]
  rw [show ((s * 256 + e) * 8388608 + t) / 8388608 = s * 256 + e by omega]
  omega
theorem ft_32 {s e t : Nat} (ht : t < 8388608) : FP.Core.fieldT FP.Core.b32 ((s * 256 + e) * 8388608 + t) = t := by
  unfold FP.Core.fieldT
  rw [t_32]
  omega
theorem de_32 {s e t : Nat} (he : e < 256) (ht : t < 8388608) (h : e = 255 → t = 0) : FP.Core.decode FP.Core.b32 ((s * 256 + e) * 8388608 + t) ≠ .nan := by
  unfold FP.Core.decode
  rw [fe_32 he ht, ft_32 ht, x_32]
  split
  · rename_i q; rw [if_pos (h (by omega))]; exact fun k => by cases k
  · split <;> exact fun k => by cases k
theorem sz_32 {s e t : Nat} (hs : s ≤ 1) (he : e < 256) (ht : t < 8388608) : (s * 256 + e) * 8388608 + t < 4294967296 := by omega
theorem it_32 {a : Int32} : FP.Core.decode FP.Core.b32 (FP.i2f a).toNat ≠ .nan := by
  show FP.Core.decode FP.Core.b32 (UInt32.ofNat (FP.Core.encode FP.Core.b32 (FP.Core.round FP.Core.b32 (FP.Core.ofInt a.toInt)))).toNat ≠ .nan
  have h : fnn 24 104 (FP.Core.round FP.Core.b32 (FP.Core.ofInt a.toInt)) := by unfold FP.Core.ofInt FP.Core.round; exact rr_32
  obtain ⟨s, e, t, h1, h2, h3, h4, h5⟩ := en_32 h
  rw [h5, UInt32.toNat_ofNat_of_lt' (by show _ < 4294967296; exact sz_32 h1 h2 h3)]
  exact de_32 h2 h3 h4
theorem ip_32 {a : Int32} (ha : a ≠ nI 0) : ∃ s c q, FP.Core.decode FP.Core.b32 (FP.i2f a).toNat = .fin s c q ∧ c ≠ 0 := by
  show ∃ s c q, FP.Core.decode FP.Core.b32 (UInt32.ofNat (FP.Core.encode FP.Core.b32 (FP.Core.round FP.Core.b32 (FP.Core.ofInt a.toInt)))).toNat = .fin s c q ∧ c ≠ 0
  have h0 : a.toInt.natAbs ≠ 0 := fun e => ha (Int32.toInt_inj.mp (by rw [nI_toInt (by omega)]; omega))
  have hk : a.toInt.natAbs < 2 ^ 32 := by
    have h1 : a.toInt < 2 ^ 31 := Int32.toInt_lt a
    have h2 : -2 ^ 31 ≤ a.toInt := Int32.le_toInt a
    omega
  have hd : ∃ s c q, FP.Core.round FP.Core.b32 (FP.Core.ofInt a.toInt) = .fin s c q ∧ c ≠ 0 := by
    unfold FP.Core.ofInt FP.Core.round FP.Core.roundRatio
    dsimp only
    generalize a.toInt.natAbs = k at h0 hk
    rw [if_neg (by omega)]
    unfold FP.Core.roundAt
    have hl := log_le h0 hk
    have hl2 := @lead_le k
    have hq : FP.Core.quantum FP.Core.b32 k 1 0 = max (-149) (FP.Core.leading k 1 + 0 - ((24 : Int) - 1)) := by
      unfold FP.Core.quantum; rw [n_32]; rfl
    rw [hq]
    generalize hQ : max (-149 : Int) (FP.Core.leading k 1 + 0 - ((24 : Int) - 1)) = Q
    have hQ1 : Q ≤ 32 := by omega
    have hQ2 : 0 < Q → Q ≤ k.log2 := by omega
    have hN : FP.Core.nearest (FP.Core.unitsNum k 0 Q) (FP.Core.unitsDen 1 0 Q) ≠ 0 := by
      refine near_pos ?_ ?_
      · unfold FP.Core.unitsDen; rw [Nat.one_mul]; exact Nat.two_pow_pos _
      · unfold FP.Core.unitsDen FP.Core.unitsNum
        rw [Nat.one_mul]
        by_cases c : 0 < Q
        · have : 2 ^ (Q - 0).toNat ≤ 2 ^ k.log2 := Nat.pow_le_pow_right (by omega) (by have := hQ2 c; omega)
          have h2 := Nat.log2_self_le h0
          have h3 : (0 - Q).toNat = 0 := by omega
          rw [h3]; omega
        · have h3 : (Q - 0).toNat = 0 := by omega
          rw [h3]
          have := Nat.two_pow_pos (0 - Q).toNat
          exact Nat.mul_pos (by omega) this
    generalize FP.Core.nearest (FP.Core.unitsNum k 0 Q) (FP.Core.unitsDen 1 0 Q) = N at hN
    unfold FP.Core.settle
    split
    · unfold FP.Core.bound
      rw [if_pos (by rw [m_32]; omega)]
      exact ⟨_, _, _, rfl, hN⟩
    · unfold FP.Core.bound
      rw [if_pos (by rw [m_32]; omega)]
      exact ⟨_, _, _, rfl, by rw [t_32]; omega⟩
  obtain ⟨s, c, q, e1, e2⟩ := hd
  have h : fnn 24 104 (FP.Core.round FP.Core.b32 (FP.Core.ofInt a.toInt)) := by unfold FP.Core.ofInt FP.Core.round; exact rr_32
  rw [e1] at h
  rw [e1]
  obtain ⟨h1, h2⟩ := h
  rw [w_32] at h1
  unfold FP.Core.encode FP.Core.assemble
  rw [t_32, x_32, n_32]
  dsimp only
  have hs : s.toNat ≤ 1 := by cases s <;> decide
  by_cases hc : c < 8388608
  · rw [if_pos hc, UInt32.toNat_ofNat_of_lt' (by show _ < 4294967296; exact sz_32 hs (by omega) hc)]
    unfold FP.Core.decode
    rw [fe_32 (by omega) hc, ft_32 hc, x_32, if_neg (by omega), if_pos rfl]
    exact ⟨_, _, _, rfl, e2⟩
  · rw [if_neg hc, UInt32.toNat_ofNat_of_lt' (by show _ < 4294967296; exact sz_32 hs (by omega) (by omega))]
    unfold FP.Core.decode
    rw [fe_32 (by omega) (by omega), ft_32 (by omega), x_32, if_neg (by omega), if_neg (by omega), t_32]
    exact ⟨_, _, _, rfl, by omega⟩
theorem qn_32 {x y : FP.Core.Datum} (hx : x ≠ .nan) {s : Bool} {c : Nat} {q : Int} (hy : y = .fin s c q) (hc : c ≠ 0) : fnn 24 104 (FP.Core.quotient FP.Core.b32 x y) := by
  subst hy
  cases x with
  | nan => exact absurd rfl hx
  | inf t => trivial
  | fin t d r =>
    unfold FP.Core.quotient
    simp only
    rw [if_neg hc]
    exact rr_32
theorem and_32 {n : Nat} (hn : n < 4294967296) (h : n % 2147483648 ≤ 2139095040) : UInt32.ofNat n &&& 2147483647 ≤ 2139095040 := by
  rw [UInt32.le_iff_toNat_le, UInt32.toNat_and, UInt32.toNat_ofNat_of_lt' (by show _ < 4294967296; exact hn)]
  show n &&& (2 ^ 31 - 1) ≤ 2139095040
  rw [Nat.and_two_pow_sub_one_eq_mod]
  exact h
theorem fd_nz {a b : Int32} (h0 : b ≠ nI 0) : fd (FP.i2f a) (FP.i2f b) = some (FP.fdiv (FP.i2f a) (FP.i2f b)) := by
  unfold fd
  refine if_pos ?_
  obtain ⟨s, c, q, e1, e2⟩ := ip_32 h0
  have h := qn_32 (it_32 (a := a)) e1 e2
  obtain ⟨s, e, t, h1, h2, h3, h4, h5⟩ := en_32 h
  have hz := sz_32 h1 h2 h3
  show UInt32.ofNat (FP.Core.encode FP.Core.b32 (FP.Core.quotient FP.Core.b32 (FP.Core.decode FP.Core.b32 (FP.i2f a).toNat) (FP.Core.decode FP.Core.b32 (FP.i2f b).toNat))) &&& 2147483647 ≤ 2139095040
  rw [h5]
  exact and_32 hz (by omega)
theorem fd_ok {a : Int32} {k : Nat} (h0 : k ≠ 0) (hk : k < 2 ^ 31) : fd (FP.i2f a) (FP.i2f (nI k)) = some (FP.fdiv (FP.i2f a) (FP.i2f (nI k))) := fd_nz (nI_ne h0 hk (by omega))
theorem t_64 : FP.Core.Fmt.tails FP.Core.b64 = 4503599627370496 := by decide
theorem x_64 : FP.Core.Fmt.exps FP.Core.b64 = 2048 := by decide
theorem n_64 : FP.Core.Fmt.qmin FP.Core.b64 = -1074 := by decide
theorem m_64 : FP.Core.Fmt.qmax FP.Core.b64 = 971 := by decide
theorem p_64 : FP.Core.Fmt.p FP.Core.b64 = 53 := rfl
theorem w_64 : 2 ^ 53 = 9007199254740992 := by decide
theorem bd_64 {s : Bool} {c : Nat} {q : Int} (h : c < 2 ^ 53) : fnn 53 971 (FP.Core.bound FP.Core.b64 s c q) := by
  unfold FP.Core.bound
  split
  · rename_i k; rw [m_64] at k; exact ⟨h, k⟩
  · trivial
theorem rr_64 {s : Bool} {c d : Nat} {q : Int} : fnn 53 971 (FP.Core.roundRatio FP.Core.b64 s c d q) := by
  unfold FP.Core.roundRatio
  split
  · refine ⟨Nat.two_pow_pos _, ?_⟩; rw [n_64]; decide
  · unfold FP.Core.roundAt FP.Core.settle
    rw [p_64]
    split
    · rename_i h; exact bd_64 h
    · refine bd_64 ?_; rw [t_64, w_64]; omega
theorem en_64 {d : FP.Core.Datum} (h : fnn 53 971 d) : ∃ s e t, s ≤ 1 ∧ e < 2048 ∧ t < 4503599627370496 ∧ (e = 2047 → t = 0) ∧ FP.Core.encode FP.Core.b64 d = (s * 2048 + e) * 4503599627370496 + t := by
  cases d with
  | nan => exact absurd h (by simp [fnn])
  | inf s =>
    refine ⟨s.toNat, 2047, 0, by cases s <;> decide, by omega, by omega, fun _ => rfl, ?_⟩
    unfold FP.Core.encode FP.Core.assemble
    rw [t_64, x_64]
  | fin s c q =>
    obtain ⟨h1, h2⟩ := h
    rw [w_64] at h1
    unfold FP.Core.encode FP.Core.assemble
    rw [t_64, x_64, n_64]
    dsimp only
    by_cases hc : c < 4503599627370496
    · rw [if_pos hc]
      exact ⟨s.toNat, 0, c, by cases s <;> decide, by omega, hc, fun q => by omega, rfl⟩
    · rw [if_neg hc]
      exact ⟨s.toNat, (q - (-1074)).toNat + 1, c - 4503599627370496, by cases s <;> decide, by omega, by omega, fun q => by omega, rfl⟩
theorem fe_64 {s e t : Nat} (he : e < 2048) (ht : t < 4503599627370496) : FP.Core.fieldE FP.Core.b64 ((s * 2048 + e) * 4503599627370496 + t) = e := by
  unfold FP.Core.fieldE
  rw [t_64, x_64]
  rw [show ((s * 2048 + e) * 4503599627370496 + t) / 4503599627370496 = s * 2048 + e by omega]
  omega
theorem ft_64 {s e t : Nat} (ht : t < 4503599627370496) : FP.Core.fieldT FP.Core.b64 ((s * 2048 + e) * 4503599627370496 + t) = t := by
  unfold FP.Core.fieldT
  rw [t_64]
  omega
theorem de_64 {s e t : Nat} (he : e < 2048) (ht : t < 4503599627370496) (h : e = 2047 → t = 0) : FP.Core.decode FP.Core.b64 ((s * 2048 + e) * 4503599627370496 + t) ≠ .nan := by
  unfold FP.Core.decode
  rw [fe_64 he ht, ft_64 ht, x_64]
  split
  · rename_i q; rw [if_pos (h (by omega))]; exact fun k => by cases k
  · split <;> exact fun k => by cases k
theorem sz_64 {s e t : Nat} (hs : s ≤ 1) (he : e < 2048) (ht : t < 4503599627370496) : (s * 2048 + e) * 4503599627370496 + t < 18446744073709551616 := by omega
theorem it_64 {a : Int32} : FP.Core.decode FP.Core.b64 (FP.i2d a).toNat ≠ .nan := by
  show FP.Core.decode FP.Core.b64 (UInt64.ofNat (FP.Core.encode FP.Core.b64 (FP.Core.round FP.Core.b64 (FP.Core.ofInt a.toInt)))).toNat ≠ .nan
  have h : fnn 53 971 (FP.Core.round FP.Core.b64 (FP.Core.ofInt a.toInt)) := by unfold FP.Core.ofInt FP.Core.round; exact rr_64
  obtain ⟨s, e, t, h1, h2, h3, h4, h5⟩ := en_64 h
  rw [h5, UInt64.toNat_ofNat_of_lt' (by show _ < 18446744073709551616; exact sz_64 h1 h2 h3)]
  exact de_64 h2 h3 h4
theorem ip_64 {a : Int32} (ha : a ≠ nI 0) : ∃ s c q, FP.Core.decode FP.Core.b64 (FP.i2d a).toNat = .fin s c q ∧ c ≠ 0 := by
  show ∃ s c q, FP.Core.decode FP.Core.b64 (UInt64.ofNat (FP.Core.encode FP.Core.b64 (FP.Core.round FP.Core.b64 (FP.Core.ofInt a.toInt)))).toNat = .fin s c q ∧ c ≠ 0
  have h0 : a.toInt.natAbs ≠ 0 := fun e => ha (Int32.toInt_inj.mp (by rw [nI_toInt (by omega)]; omega))
  have hk : a.toInt.natAbs < 2 ^ 32 := by
    have h1 : a.toInt < 2 ^ 31 := Int32.toInt_lt a
    have h2 : -2 ^ 31 ≤ a.toInt := Int32.le_toInt a
    omega
  have hd : ∃ s c q, FP.Core.round FP.Core.b64 (FP.Core.ofInt a.toInt) = .fin s c q ∧ c ≠ 0 := by
    unfold FP.Core.ofInt FP.Core.round FP.Core.roundRatio
    dsimp only
    generalize a.toInt.natAbs = k at h0 hk
    rw [if_neg (by omega)]
    unfold FP.Core.roundAt
    have hl := log_le h0 hk
    have hl2 := @lead_le k
    have hq : FP.Core.quantum FP.Core.b64 k 1 0 = max (-1074) (FP.Core.leading k 1 + 0 - ((53 : Int) - 1)) := by
      unfold FP.Core.quantum; rw [n_64]; rfl
    rw [hq]
    generalize hQ : max (-1074 : Int) (FP.Core.leading k 1 + 0 - ((53 : Int) - 1)) = Q
    have hQ1 : Q ≤ 32 := by omega
    have hQ2 : 0 < Q → Q ≤ k.log2 := by omega
    have hN : FP.Core.nearest (FP.Core.unitsNum k 0 Q) (FP.Core.unitsDen 1 0 Q) ≠ 0 := by
      refine near_pos ?_ ?_
      · unfold FP.Core.unitsDen; rw [Nat.one_mul]; exact Nat.two_pow_pos _
      · unfold FP.Core.unitsDen FP.Core.unitsNum
        rw [Nat.one_mul]
        by_cases c : 0 < Q
        · have : 2 ^ (Q - 0).toNat ≤ 2 ^ k.log2 := Nat.pow_le_pow_right (by omega) (by have := hQ2 c; omega)
          have h2 := Nat.log2_self_le h0
          have h3 : (0 - Q).toNat = 0 := by omega
          rw [h3]; omega
        · have h3 : (Q - 0).toNat = 0 := by omega
          rw [h3]
          have := Nat.two_pow_pos (0 - Q).toNat
          exact Nat.mul_pos (by omega) this
    generalize FP.Core.nearest (FP.Core.unitsNum k 0 Q) (FP.Core.unitsDen 1 0 Q) = N at hN
    unfold FP.Core.settle
    split
    · unfold FP.Core.bound
      rw [if_pos (by rw [m_64]; omega)]
      exact ⟨_, _, _, rfl, hN⟩
    · unfold FP.Core.bound
      rw [if_pos (by rw [m_64]; omega)]
      exact ⟨_, _, _, rfl, by rw [t_64]; omega⟩
  obtain ⟨s, c, q, e1, e2⟩ := hd
  have h : fnn 53 971 (FP.Core.round FP.Core.b64 (FP.Core.ofInt a.toInt)) := by unfold FP.Core.ofInt FP.Core.round; exact rr_64
  rw [e1] at h
  rw [e1]
  obtain ⟨h1, h2⟩ := h
  rw [w_64] at h1
  unfold FP.Core.encode FP.Core.assemble
  rw [t_64, x_64, n_64]
  dsimp only
  have hs : s.toNat ≤ 1 := by cases s <;> decide
  by_cases hc : c < 4503599627370496
  · rw [if_pos hc, UInt64.toNat_ofNat_of_lt' (by show _ < 18446744073709551616; exact sz_64 hs (by omega) hc)]
    unfold FP.Core.decode
    rw [fe_64 (by omega) hc, ft_64 hc, x_64, if_neg (by omega), if_pos rfl]
    exact ⟨_, _, _, rfl, e2⟩
  · rw [if_neg hc, UInt64.toNat_ofNat_of_lt' (by show _ < 18446744073709551616; exact sz_64 hs (by omega) (by omega))]
    unfold FP.Core.decode
    rw [fe_64 (by omega) (by omega), ft_64 (by omega), x_64, if_neg (by omega), if_neg (by omega), t_64]
    exact ⟨_, _, _, rfl, by omega⟩
theorem qn_64 {x y : FP.Core.Datum} (hx : x ≠ .nan) {s : Bool} {c : Nat} {q : Int} (hy : y = .fin s c q) (hc : c ≠ 0) : fnn 53 971 (FP.Core.quotient FP.Core.b64 x y) := by
  subst hy
  cases x with
  | nan => exact absurd rfl hx
  | inf t => trivial
  | fin t d r =>
    unfold FP.Core.quotient
    simp only
    rw [if_neg hc]
    exact rr_64
theorem and_64 {n : Nat} (hn : n < 18446744073709551616) (h : n % 9223372036854775808 ≤ 9218868437227405312) : UInt64.ofNat n &&& 9223372036854775807 ≤ 9218868437227405312 := by
  rw [UInt64.le_iff_toNat_le, UInt64.toNat_and, UInt64.toNat_ofNat_of_lt' (by show _ < 18446744073709551616; exact hn)]
  show n &&& (2 ^ 63 - 1) ≤ 9218868437227405312
  rw [Nat.and_two_pow_sub_one_eq_mod]
  exact h
theorem dd_nz {a b : Int32} (h0 : b ≠ nI 0) : dd (FP.i2d a) (FP.i2d b) = some (FP.ddiv (FP.i2d a) (FP.i2d b)) := by
  unfold dd
  refine if_pos ?_
  obtain ⟨s, c, q, e1, e2⟩ := ip_64 h0
  have h := qn_64 (it_64 (a := a)) e1 e2
  obtain ⟨s, e, t, h1, h2, h3, h4, h5⟩ := en_64 h
  have hz := sz_64 h1 h2 h3
  show UInt64.ofNat (FP.Core.encode FP.Core.b64 (FP.Core.quotient FP.Core.b64 (FP.Core.decode FP.Core.b64 (FP.i2d a).toNat) (FP.Core.decode FP.Core.b64 (FP.i2d b).toNat))) &&& 9223372036854775807 ≤ 9218868437227405312
  rw [h5]
  exact and_64 hz (by omega)
end
section
noncomputable def QTf (F : Option (UInt32 × RS)) (C : Option (Sum Int32 UInt32)) (r : RS) : Prop := (∃ x, F = some (x, th r 0) ∧ C = some (.inr x)) ∨ (F = some (FP.fconst0, th r 1) ∧ C = some (.inl (nI 1)))
theorem q_yieldPart {r c : RS} {g : CG} {B T : Nat} (h : GI r c g B T) : QP (F8_yieldPart r) (C7_yieldPart g c) r := by
  obtain ⟨sm, lm, cm, h0⟩ := h.l
  have e12 : r 1 12 = c (10 + 0) 12 := QR.ra h0 (by omega) (by omega) (by omega)
  have v10 : r 1 10 = c (400 + 0) 3 := by rw [sA_r (v := r 1) (by omega), h0.n.nl]
  unfold F8_yieldPart C7_yieldPart
  simp only [lit32]
  rw [zth, bS]
  simp only [th1, Nat.add_zero]
  rw [← show r 1 12 = c 10 12 from e12, v10]
  by_cases e : r 1 12 = nI 0
  · rw [e, if_pos rfl, bS, bS]; exact ⟨_, rfl, rfl⟩
  · rw [if_neg e, dd_nz e, bS, bS, bS]; exact ⟨_, rfl, rfl⟩
theorem q_meanFails {r c : RS} {g : CG} {B T : Nat} (h : GI r c g B T) : QP (F8_meanFails r) (C7_meanFails g c) r := by
  obtain ⟨sm, lm, cm, h0⟩ := h.l
  have hcm := h0.a.cm30
  have e13 : r 1 13 = c (10 + 0) (12 + 1) := QR.ra h0 (by omega) (by omega) (by omega)
  unfold F8_meanFails C7_meanFails
  simp only [lit32]
  rw [zth, bS]
  simp only [th1]
  rw [h0.v9, h0.n9, e13]
  by_cases k0 : cm = 0
  · rw [if_pos (congrArg nI k0), bS]
    rw [bS]; exact ⟨_, rfl, rfl⟩
  · rw [if_neg (nI_ne k0 (by omega) (by omega)), fd_ok k0 (by omega), bS, bS]
    rw [bS]; exact ⟨_, rfl, rfl⟩
theorem q_busyPart {r c : RS} {g : CG} {B T : Nat} {a : Int32} (h : GI r c g B T) : QTf (F8_busyPart r a) (C7_busyPart g c a) r := by
  obtain ⟨sm, lm, cm, h0⟩ := h.l
  have hsm := h0.a.sm6; have hbb := h0.a.bb
  obtain ⟨t, t1, t2⟩ := h0.a.time
  have c6 : c (10 + 0) 6 = nI t := by rw [sA_r (v := c (10 + 0)) (by omega)]; exact t2
  have v6 : r 1 6 = nI t := (QR.ra h0 (by omega) (by omega) (by omega)).trans c6
  unfold F8_busyPart C7_busyPart
  simp only [lit32]
  rcases argSt (r := r) (c := c) (g := g) (a := a) (n := sm) (by omega) h0.v7 h0.n7 with ⟨s, s1, rfl, s2, s3⟩ | ⟨s2, s3⟩
  · have hs6 : s < 6 := by omega
    have e : r 1 (17 + 16 * s + 12) = c (10 + 0) (17 + 16 * s + 12) := QR.rs h0 s1 (by omega) (by omega)
    rw [s2, s3, bS, bS, isThrown_1, bS, trR]
    simp only [if_true, th1]
    rw [v6, c6]
    by_cases k0 : t = 0
    · rw [if_pos (congrArg nI k0), bS, if_pos (congrArg nI k0), bS]; exact Or.inl ⟨_, rfl, rfl⟩
    · rw [if_neg (nI_ne k0 (by omega) (by omega)), if_neg (nI_ne k0 (by omega) (by omega)), ix_n hs6 (by omega), bS, fd_ok k0 (by omega), bS, bS]
      rw [thR, F8_of_v hs6 (by omega), bS, e, fd_ok k0 (by omega), bS, bS, ← thR]
      exact Or.inl ⟨_, rfl, rfl⟩
  · rw [s2, s3, bS, bS, isThrown_0, bS, trL]
    refine Or.inr ⟨?_, rfl⟩
    simp only [nz0, if_false]
theorem toCome_L {r c : RS} {g : CG} {sm lm cm B U s : Nat} {v : Nat → Int32} {x7 x8 : Int32} (hg : g.nt < 2 ^ 31) (h : QY c g 0 v sm lm cm B U) (hs : s < sm) : ∀ (d y fu fu2 : Nat) (z : Int32), y + d = cm → d < fu → d < fu2 → ∃ z2, F8_bottleneck_L28 (nI s) x7 x8 (setR r v) fu (nI y) z = some (nI cm, z2) ∧ C3_ticksToCome_L4 0 (nI s) g c fu2 (nI y) z = some (nI cm, z2) := by
  have hcm := h.a.cm30; have hsm := h.a.sm6
  have h9v : v 9 = nI cm := h.v9
  intro d
  induction d with
  | zero =>
    intro y fu fu2 z hy hfu hfu2
    obtain ⟨fu, rfl⟩ : ∃ m, fu = m + 1 := ⟨fu - 1, by omega⟩
    obtain ⟨fu2, rfl⟩ : ∃ m, fu2 = m + 1 := ⟨fu2 - 1, by omega⟩
    obtain rfl : y = cm := by omega
    rw [F8_bottleneck_L28, C3_ticksToCome_L4, setR_1, h9v, h.n9, if_pos (nI_le (by omega) (by omega)), if_pos (nI_le (by omega) (by omega))]
    exact ⟨z, rfl, rfl⟩
  | succ d ih =>
    intro y fu fu2 z hy hfu hfu2
    obtain ⟨fu, rfl⟩ : ∃ m, fu = m + 1 := ⟨fu - 1, by omega⟩
    obtain ⟨fu2, rfl⟩ : ∃ m, fu2 = m + 1 := ⟨fu2 - 1, by omega⟩
    have hy : y < cm := by omega
    obtain ⟨a, a1, a2⟩ := h.c.state y hy
    have e3 : v (137 + 25 * y + 3) = nI a := by rw [QR.rc h hy (by omega) (by omega), sC_r (v := c (10 + 0)) (by omega) (by omega)]; exact a2
    have e3c : c (10 + 0) (137 + 25 * y + 3) = nI a := by rw [sC_r (v := c (10 + 0)) (by omega) (by omega)]; exact a2
    have fC := isFin_w (c := c) (g := g) (L := 0) (iv := c (400 + 0)) (w := c (10 + 0)) a1 e3c
    rw [← cL (L := 0)] at fC
    obtain ⟨n, n1, n2, n3⟩ := ticks_ok (r := r) hg h hs hy
    rw [F8_bottleneck_L28, C3_ticksToCome_L4]
    simp only [lit32]
    rw [setR_1, h9v, h.n9, if_neg (nI_ge (by omega) (by omega)), if_neg (nI_ge (by omega) (by omega)), isFin_v (by omega) a1 e3, bS, ix_n (by omega) (by omega), bS, fC, bS, ix_n (by omega) (by omega), bS, bS, n3, bS, n2, bS, nI_add]
    by_cases ha : a < 3
    · rw [if_pos ha, if_pos rfl, bS, if_neg (c := a = 3 ∨ a = 4) (by omega), if_pos rfl, bS]
      exact ih (y + 1) fu fu2 _ (by omega) (by omega) (by omega)
    · rw [if_neg ha, if_neg nz0, bS, if_pos (c := a = 3 ∨ a = 4) (by omega), if_neg nz0, bS, nI_z]
      exact ih (y + 1) fu fu2 _ (by omega) (by omega) (by omega)
theorem bott_L {r c : RS} {g : CG} {sm lm cm B U : Nat} {v : Nat → Int32} (hg : g.nt < 2 ^ 31) (h : QY c g 0 v sm lm cm B U) : ∀ (d y fu fu2 : Nat) (most best : Int32), y + d = sm → d < fu → d < fu2 → ∃ z2 z3, F8_bottleneck_L11 (setR r v) fu (nI y) most best = some (nI sm, z2, z3) ∧ C7_bottleneck_L6 g c fu2 (nI y) most best = some (nI sm, z2, z3) := by
  have hcm := h.a.cm30; have hsm := h.a.sm6
  have h7v : v 7 = nI sm := h.v7
  intro d
  induction d with
  | zero =>
    intro y fu fu2 m b hy hfu hfu2
    obtain ⟨fu, rfl⟩ : ∃ m, fu = m + 1 := ⟨fu - 1, by omega⟩
    obtain ⟨fu2, rfl⟩ : ∃ m, fu2 = m + 1 := ⟨fu2 - 1, by omega⟩
    obtain rfl : y = sm := by omega
    rw [F8_bottleneck_L11, C7_bottleneck_L6, setR_1, h7v, h.n7, if_pos (nI_le (by omega) (by omega)), if_pos (nI_le (by omega) (by omega))]
    exact ⟨m, b, rfl, rfl⟩
  | succ d ih =>
    intro y fu fu2 m b hy hfu hfu2
    obtain ⟨fu, rfl⟩ : ∃ m, fu = m + 1 := ⟨fu - 1, by omega⟩
    obtain ⟨fu2, rfl⟩ : ∃ m, fu2 = m + 1 := ⟨fu2 - 1, by omega⟩
    obtain ⟨z, k1, k2⟩ := toCome_L (r := r) (x7 := m) (x8 := b) hg h (s := y) (by omega) cm 0 FUEL FUEL (nI 0) (by omega) (by show cm < 10000; omega) (by show cm < 10000; omega)
    have k3 : C3_ticksToCome g c 0 (nI y) = some z := by unfold C3_ticksToCome; simp only [lit32]; rw [k2, bS]
    rw [F8_bottleneck_L11, C7_bottleneck_L6]
    simp only [lit32]
    rw [setR_1, h7v, h.n7, if_neg (nI_ge (by omega) (by omega)), if_neg (nI_ge (by omega) (by omega)), k1, bS, k3, bS, nI_add]
    by_cases hz : z ≤ m
    · have hz2 : ¬ m < z := fun q => by rw [Int32.lt_iff_toInt_lt] at q; rw [Int32.le_iff_toInt_le] at hz; omega
      rw [if_pos hz, if_pos hz, bS, bS]
      simp only [if_neg hz2]
      exact ih (y + 1) fu fu2 m b (by omega) (by omega) (by omega)
    · have hz2 : m < z := by rw [Int32.lt_iff_toInt_lt]; rw [Int32.le_iff_toInt_le] at hz; omega
      rw [if_neg hz, if_neg hz, bS, bS]
      simp only [if_pos hz2]
      exact ih (y + 1) fu fu2 z (nI y) (by omega) (by omega) (by omega)
theorem q_bottleneck {r c : RS} {g : CG} {B T : Nat} (h : GI r c g B T) (hT : T < 2 ^ 31) : QP (F8_bottleneck r) (C7_bottleneck g c) r := by
  obtain ⟨sm, lm, cm, h0⟩ := h.l
  have hsm := h0.a.sm6
  have hg : g.nt < 2 ^ 31 := Nat.lt_of_le_of_lt h.n hT
  obtain ⟨z2, z3, k1, k2⟩ := bott_L (r := th r 0) hg h0 sm 0 FUEL FUEL m1 m1 (by omega) (by show sm < 10000; omega) (by show sm < 10000; omega)
  refine ⟨z3, ?_, ?_⟩
  · unfold F8_bottleneck
    simp only [lit32, neg1]
    rw [zth, bS, thR, k1, bS]
  · unfold C7_bottleneck
    simp only [lit32, neg1]
    rw [k2, bS]
theorem q_outputByte {r c : RS} {g : CG} {B T : Nat} {a : Int32} (h : GI r c g B T) : ∃ x y, F8_outputByte r a = some (x, th r 0) ∧ C7_outputByte g c a = some y := by
  obtain ⟨p, q, p1, q1, p2, q2⟩ := h.o
  have hF : ∃ x, F8_outputByte r a = some (x, th r 0) := by
    unfold F8_outputByte
    simp only [lit32, neg1]
    rw [zth, bS, th_0 (by decide), q2]
    rcases below (a := a) (n := q) (by omega) with ⟨k, hk, rfl⟩ | hb
    · rw [inB_pos (p := 0) (q := (q : Int) - 1) (by decide) (by rw [Int32.toInt_toInt64, sub1_toInt (by omega)]) (by rw [nI_toInt (by omega)]; omega), if_neg nz0, rd_n (by omega) (by omega), bS, bS]
      exact ⟨_, rfl⟩
    · rw [inB_neg (p := 0) (q := (q : Int) - 1) (by decide) (by rw [Int32.toInt_toInt64, sub1_toInt (by omega)]) (by omega), if_pos rfl, bS]
      exact ⟨_, rfl⟩
  have hC : ∃ y, C7_outputByte g c a = some y := by
    unfold C7_outputByte
    simp only [lit32, neg1]
    rw [p2]
    by_cases h0 : a < nI 0
    · rw [if_pos h0, bS]; exact ⟨_, rfl⟩
    · rw [if_neg h0]
      by_cases h1 : nI p ≤ a
      · rw [if_pos h1, bS]; exact ⟨_, rfl⟩
      · rw [if_neg h1]
        have a0 : ¬ a.toInt < 0 := fun q => h0 (lt0.mpr q)
        have a1 : ¬ (p : Int) ≤ a.toInt := fun q => h1 ((gen (by omega)).mpr q)
        obtain ⟨e, -⟩ := nI_ofInt (a := a) (by omega)
        rw [e, rd_n (by omega) (by omega), bS, bS]; exact ⟨_, rfl⟩
  obtain ⟨x, hx⟩ := hF
  obtain ⟨y, hy⟩ := hC
  exact ⟨x, y, hx, hy⟩
end
section
theorem ul_row {u : RS} {L R : Nat} (hL : L < 12) (h : ¬ OWN L R) : ul u L R = u R := by
  funext I
  unfold ul
  refine if_neg fun e => h ?_
  obtain ⟨k, hk, hl⟩ := Option.bind_eq_some_iff.mp e
  unfold own at hk
  unfold OWN
  by_cases c0 : R = 0
  · rw [if_pos c0] at hk
    by_cases cx0 : I < 5
    · rw [if_pos cx0] at hk
      obtain rfl := Option.some.inj hk; exact absurd hl (fun q => by cases q)
    rw [if_neg cx0] at hk
    obtain rfl := Option.some.inj hk; exact absurd hl (fun q => by cases q)
  rw [if_neg c0] at hk
  by_cases c1 : R = 1
  · rw [if_pos c1] at hk
    obtain rfl := Option.some.inj hk; exact absurd hl (fun q => by cases q)
  rw [if_neg c1] at hk
  by_cases c2 : R = 2
  · rw [if_pos c2] at hk
    obtain rfl := Option.some.inj hk; exact absurd hl (fun q => by cases q)
  rw [if_neg c2] at hk
  by_cases c3 : R = 3
  · rw [if_pos c3] at hk
    obtain rfl := Option.some.inj hk; exact absurd hl (fun q => by cases q)
  rw [if_neg c3] at hk
  by_cases c4 : R = 4
  · rw [if_pos c4] at hk
    obtain rfl := Option.some.inj hk; exact absurd hl (fun q => by cases q)
  rw [if_neg c4] at hk
  by_cases c5 : R = 5
  · rw [if_pos c5] at hk
    obtain rfl := Option.some.inj hk; exact absurd hl (fun q => by cases q)
  rw [if_neg c5] at hk
  by_cases c6 : R = 6
  · rw [if_pos c6] at hk
    obtain rfl := Option.some.inj hk; exact absurd hl (fun q => by cases q)
  rw [if_neg c6] at hk
  by_cases c7 : R < 10
  · rw [if_pos c7] at hk
    cases hk
  rw [if_neg c7] at hk
  by_cases c8 : R < 22
  · rw [if_pos c8] at hk
    by_cases cx0 : I < 10
    · rw [if_pos cx0] at hk
      obtain rfl := Option.some.inj hk; have q : R - 10 = L := Option.some.inj hl; omega
    rw [if_neg cx0] at hk
    by_cases cx1 : I < 12
    · rw [if_pos cx1] at hk
      cases hk
    rw [if_neg cx1] at hk
    by_cases cx2 : I < 17
    · rw [if_pos cx2] at hk
      obtain rfl := Option.some.inj hk; have q : R - 10 = L := Option.some.inj hl; omega
    rw [if_neg cx2] at hk
    by_cases cx3 : I < 113
    · rw [if_pos cx3] at hk
      obtain rfl := Option.some.inj hk; have q : R - 10 = L := Option.some.inj hl; omega
    rw [if_neg cx3] at hk
    by_cases cx4 : I < 137
    · rw [if_pos cx4] at hk
      obtain rfl := Option.some.inj hk; have q : R - 10 = L := Option.some.inj hl; omega
    rw [if_neg cx4] at hk
    by_cases cx5 : I < 887
    · rw [if_pos cx5] at hk
      obtain rfl := Option.some.inj hk; have q : R - 10 = L := Option.some.inj hl; omega
    rw [if_neg cx5] at hk
    by_cases cx6 : I < 917
    · rw [if_pos cx6] at hk
      obtain rfl := Option.some.inj hk; have q : R - 10 = L := Option.some.inj hl; omega
    rw [if_neg cx6] at hk
    by_cases cx7 : I = 1060
    · rw [if_pos cx7] at hk
      obtain rfl := Option.some.inj hk; have q : R - 10 = L := Option.some.inj hl; omega
    rw [if_neg cx7] at hk
    by_cases cx8 : 1100 ≤ I ∧ I < 1148
    · rw [if_pos cx8] at hk
      obtain rfl := Option.some.inj hk; have q : R - 10 = L := Option.some.inj hl; omega
    rw [if_neg cx8] at hk
    cases hk
  rw [if_neg c8] at hk
  by_cases c9 : R < 100
  · rw [if_pos c9] at hk
    cases hk
  rw [if_neg c9] at hk
  by_cases c10 : R < 172
  · rw [if_pos c10] at hk
    obtain rfl := Option.some.inj hk; have q : (R - 100) / 6 = L := Option.some.inj hl; omega
  rw [if_neg c10] at hk
  by_cases c11 : R < 200
  · rw [if_pos c11] at hk
    cases hk
  rw [if_neg c11] at hk
  by_cases c12 : R < 272
  · rw [if_pos c12] at hk
    obtain rfl := Option.some.inj hk; have q : (R - 200) / 6 = L := Option.some.inj hl; omega
  rw [if_neg c12] at hk
  by_cases c13 : R < 300
  · rw [if_pos c13] at hk
    cases hk
  rw [if_neg c13] at hk
  by_cases c14 : R < 372
  · rw [if_pos c14] at hk
    obtain rfl := Option.some.inj hk; have q : (R - 300) / 6 = L := Option.some.inj hl; omega
  rw [if_neg c14] at hk
  by_cases c15 : R < 400
  · rw [if_pos c15] at hk
    cases hk
  rw [if_neg c15] at hk
  by_cases c16 : R < 412
  · rw [if_pos c16] at hk
    obtain rfl := Option.some.inj hk; have q : R - 400 = L := Option.some.inj hl; omega
  rw [if_neg c16] at hk
  by_cases c17 : R < 501
  · rw [if_pos c17] at hk
    cases hk
  rw [if_neg c17] at hk
  obtain rfl := Option.some.inj hk; exact absurd hl (fun q => by cases q)
theorem ul_tir {u : RS} {L nt : Nat} (hL : L < 12) : TIr (ul u L (10 + L)) nt := by
  refine ⟨fun s hs => ?_, fun q hq => ?_⟩
  · rw [← sS_r (v := ul u L (10 + L)) hs (by omega), ul_z (own_st hL hs (k := 14) (by omega)) rfl (by omega)]
    exact Nat.zero_le _
  · rw [← sC_r (v := ul u L (10 + L)) hq (by omega), ul_z (own_cd hL hq (k := 2) (by omega)) rfl (by omega)]
    exact Nat.zero_le _
noncomputable def shK (r : RS) (y : Nat) : RS := fun R j => if R = 3 ∧ j < y then r 3 (j + 1037) else r R j
theorem shK_o {r : RS} {y R : Nat} (h : R ≠ 3) : shK r y R = r R := by funext j; exact if_neg fun q => h q.1
theorem keep_L {r : RS} : ∀ (d y fu : Nat), y + d = 7259 → d < fu → F8_keeps_L11 fu (nI y) (shK r y) = some (nI 7259, shK r 7259) := by
  intro d
  induction d with
  | zero =>
    intro y fu hy hfu
    obtain ⟨fu, rfl⟩ : ∃ m, fu = m + 1 := ⟨fu - 1, by omega⟩
    obtain rfl : y = 7259 := by omega
    rw [F8_keeps_L11]
    simp only [lit32]
    rw [if_pos (nI_le (by omega) (by omega))]
  | succ d ih =>
    intro y fu hy hfu
    obtain ⟨fu, rfl⟩ : ∃ m, fu = m + 1 := ⟨fu - 1, by omega⟩
    have e1 : shK r y 3 (y + 1037) = r 3 (y + 1037) := if_neg (by omega)
    have e2 : up (shK r y) 3 y (r 3 (y + 1037)) = shK r (y + 1) := by
      funext R j
      rw [up_at]
      unfold shK
      by_cases h : R = 3 ∧ j = y
      · rw [if_pos h, if_pos (by omega), h.2]
      · rw [if_neg h]
        by_cases h2 : R = 3 ∧ j < y
        · rw [if_pos h2, if_pos (by omega)]
        · rw [if_neg h2, if_neg (by omega)]
    rw [F8_keeps_L11]
    simp only [lit32, nI_add]
    rw [if_neg (nI_ge (by omega) (by omega)), rd_n (by omega) (by omega), bS, ws_n (by omega) (by omega), bS, e1, e2]
    exact ih (y + 1) fu (by omega) (by omega)
theorem QY.ext {c : RS} {g : CG} {L sm lm cm B U : Nat} {v v2 : Nat → Int32} (h : QY c g L v sm lm cm B U) (e : ∀ j, j < 1037 → v2 j = v j) : QY c g L v2 sm lm cm B U := by
  have eA : sA v2 = sA v := by
    funext i; unfold sA; split
    · exact e _ (by omega)
    · rfl
  have eS : sS v2 = sS v := by
    funext i j; unfold sS; split
    · exact e _ (by omega)
    · rfl
  have eC : sC v2 = sC v := by
    funext i j; unfold sC; split
    · exact e _ (by omega)
    · rfl
  have eF : sF v2 = sF v := by
    funext i; unfold sF; split
    · exact e _ (by omega)
    · rfl
  have eL : sL v2 = sL v := by
    funext i j; unfold sL; split
    · exact e _ (by omega)
    · rfl
  have eP : sP v2 = sP v := by
    funext i; unfold sP; split
    · exact e _ (by omega)
    · rfl
  obtain ⟨a, s, q, n, l, d, z⟩ := h
  exact ⟨by rw [eA]; exact a, by rw [eS]; exact s, by rw [eC]; exact q, by rw [eA, eF]; exact n, by rw [eL]; exact l, by rw [eA, eP]; exact d, z⟩
theorem LQ.ext {c : RS} {g : CG} {L B : Nat} {v v2 : Nat → Int32} (h : LQ c g L v B) (e : ∀ j, j < 1037 → v2 j = v j) : LQ c g L v2 B := by
  obtain ⟨sm, lm, cm, h⟩ := h
  exact ⟨sm, lm, cm, QY.ext h e⟩
theorem keep8 {r c : RS} {g : CG} {B o : Nat} (h : PAi r c g B o 8) : PAi (up (shK r 7259) 0 5 (nI 7)) (up (up c 0 3 (nI ((o + 1) % 8))) 0 4 (nI 7)) g B ((o + 1) % 8) 7 := by
  obtain ⟨h1, h2, h3, h4, h5, h6⟩ := h
  refine ⟨Nat.mod_lt _ (by omega), by omega, ?_, up_eq, up_eq, fun i hi => ?_⟩
  · rw [up_ne (by omega), up_eq]
  · have e : ((o + 1) % 8 + i) % 8 = (o + (i + 1)) % 8 := by omega
    obtain ⟨a, b⟩ := h6 (i + 1) (by omega)
    rw [e]
    refine ⟨a, ?_⟩
    have hb := b.ext (v2 := ROW (up (shK r 7259) 0 5 (nI 7)) 3 i) (fun j hj => by
      show up (shK r 7259) 0 5 (nI 7) 3 (1037 * i + j) = r 3 (1037 * (i + 1) + j)
      rw [up_ne (by omega)]
      unfold shK
      rw [if_pos (by omega)]
      exact congrArg (r 3) (by omega))
    exact hb.frame (by omega) (Nat.le_refl _) (fun R hR => by unfold OWN at hR; rw [up_or (by omega), up_or (by omega)]) (fun t _ _ => by rw [up_or (by omega), up_or (by omega)])
noncomputable def KP (r c : RS) (g : CG) (r2 c2 : RS) (g2 : CG) : Prop := g2.nt = g.nt ∧ (∀ R, R ≠ 3 → R ≠ 0 → r2 R = r R) ∧ (∀ i, i ≠ 5 → r2 0 i = r 0 i) ∧ (∀ R, OWN 0 R → c2 R = c R) ∧ (∀ R, 500 ≤ R → c2 R = c R)
theorem keep7 {r c : RS} {g : CG} {B T o n sm lm cm : Nat} (h : GI r c g B T) (hp : PAi r c g B o n) (hn : n ≤ 7) (h0 : QY c g 0 (r 1) sm lm cm B B) :
    ∃ r2 c2 g2, (F8_copies_1_3 r (nI 0) (nI n)).bind (fun u5 => (pt u5 0 5 ((u5 0 5) + nI 1)).bind fun u7 => some u7) = some r2 ∧
      ((rm (c 0 3 + c 0 4) (nI 8)).bind fun x5 => (ix 8 x5).bind fun n7 => if g.pl (2 + n7) = true then ((C3_copyFrom g c (2 + n7) 0).bind fun u10 => (pt u10 0 4 ((u10 0 4) + nI 1)).bind fun u12 => some (g, u12)) else ((some (gl g (2 + n7))).bind fun g21 => (some (ul c (2 + n7))).bind fun u19 => (C3_copyFrom g21 u19 (2 + n7) 0).bind fun u23 => (pt u23 0 4 ((u23 0 4) + nI 1)).bind fun u25 => some (g21, u25))) = some (g2, c2) ∧
      GI r2 c2 g2 B T ∧ QY c2 g2 0 (r2 1) sm lm cm B B ∧ KP r c g r2 c2 g2 := by
  obtain ⟨p1, p2, p3, p4, p5, p6⟩ := hp
  have hm : (o + n) % 8 < 8 := Nat.mod_lt _ (by omega)
  generalize hL : 2 + (o + n) % 8 = L at *
  -- the class: the same step out of an old Line or a new one
  obtain ⟨g2, c1, e1, e2, e3, e4, e5⟩ : ∃ g2 c1, (∀ X : CG → RS → Option (CG × RS), (if g.pl L = true then X g c else X (gl g L) (ul c L)) = X g2 c1) ∧ (∀ R, ¬ OWN L R → c1 R = c R) ∧ TIr (c1 (10 + L)) g.nt ∧ g2.nt = g.nt ∧ (∀ j, g2.pl j = if j = L then true else g.pl j) := by
    by_cases q : g.pl L = true
    · refine ⟨g, c, fun X => if_pos q, fun _ _ => rfl, h.ti L (by omega), rfl, fun j => ?_⟩
      by_cases e : j = L
      · rw [if_pos e, e]; exact q
      · rw [if_neg e]
    · refine ⟨gl g L, ul c L, fun X => if_neg q, fun R hR => ul_row (by omega) hR, ul_tir (by omega), rfl, fun j => ?_⟩
      by_cases e : j = L
      · rw [if_pos e, e]; exact gl_pl
      · rw [if_neg e]; exact gl_ne e
  have h01 : QY c1 g2 0 (r 1) sm lm cm B B := h0.frame (by omega) (Nat.le_of_eq e4.symm) (fun R hR => e2 R (by unfold OWN at hR ⊢; omega)) (fun t q1 q2 => e2 _ (by unfold OWN; omega))
  obtain ⟨c2, k1, k2, k3⟩ := copyFrom_ok (L := L) (L2 := 0) (by omega) (by omega) (by omega) h01 (by rw [e4]; exact e3)
  have cc : ∀ R, ¬ OWN L R → c2 R = c R := fun R hR => (k2 R hR).trans (e2 R hR)
  refine ⟨up (cpA r 1 0 3 n) 0 5 (nI (n + 1)), up c2 0 4 (nI (n + 1)), g2, ?_, ?_, ?_, ?_, e4, ?_, ?_, ?_, ?_⟩
  · rw [cp_1_3 (by omega) (by omega), bS, cpA_o (by decide), p5, nI_add, pt_n, bS]
  · rw [p3, p4, nI_add, rm_n (by omega) (by omega) (by omega), bS, ix_n hm (by omega), bS, hL]
    have X1 := e1 (fun g3 c3 => (C3_copyFrom g3 c3 L 0).bind fun u10 => (pt u10 0 4 ((u10 0 4) + nI 1)).bind fun u12 => some (g3, u12))
    rw [k1, bS, cc 0 (by unfold OWN; omega), p4, nI_add, pt_n, bS] at X1
    exact X1
  · have r1 : (up (cpA r 1 0 3 n) 0 5 (nI (n + 1))) 1 = r 1 := by rw [up_or (by decide), cpA_o (by decide)]
    have cu : ∀ R, ¬ OWN L R → R ≠ 0 → up c2 0 4 (nI (n + 1)) R = c R := fun R a b => by rw [up_or b, cc R a]
    have c0 : ∀ i, i ≠ 4 → up c2 0 4 (nI (n + 1)) 0 i = c 0 i := fun i hi => by rw [up_ne (by omega), cc 0 (by unfold OWN; omega)]
    have r0 : ∀ i, i ≠ 5 → up (cpA r 1 0 3 n) 0 5 (nI (n + 1)) 0 i = r 0 i := fun i hi => by rw [up_ne (by omega), cpA_o (by decide)]
    refine ⟨⟨sm, lm, cm, ?_⟩, fun L' hL' => ?_, ⟨o, n + 1, p1, by omega, (c0 3 (by omega)).trans p3, up_eq, up_eq, fun i hi => ?_⟩, ?_, ?_, ?_, ?_, ?_⟩
    · rw [r1]
      exact h0.frame (by omega) (Nat.le_of_eq e4.symm) (fun R hR => cu R (by unfold OWN at hR ⊢; omega) (by unfold OWN at hR; omega)) (fun t q1 q2 => cu _ (by unfold OWN; omega) (by omega))
    · rw [up_or (by omega), e4]
      by_cases e : L' = L
      · rw [e]; have := k3.tir; rw [e4] at this; exact this
      · rw [cc _ (by unfold OWN; omega)]; exact h.ti L' hL'
    · by_cases e : i = n
      · subst e
        rw [hL]
        refine ⟨by rw [e5, if_pos rfl], ?_⟩
        refine (LQ.ext (v := r 1) ⟨sm, lm, cm, QY.frame (c2 := up c2 0 4 (nI (i + 1))) (g2 := g2) (by omega) k3 (Nat.le_refl _) (fun R hR => up_or (by unfold OWN at hR; omega)) (fun t _ _ => up_or (by omega))⟩ fun j hj => ?_)
        show up (cpA r 1 0 3 i) 0 5 (nI (i + 1)) 3 (1037 * i + j) = r 1 j
        rw [up_ne (by omega), cpA_n hj]
        exact congrArg (r 1) (by omega)
      · obtain ⟨a, b⟩ := p6 i (by omega)
        have hne : 2 + (o + i) % 8 ≠ L := by omega
        refine ⟨by rw [e5, if_neg hne]; exact a, ?_⟩
        refine LQ.ext (v := ROW r 3 i) (b.frame (by omega) (Nat.le_of_eq e4.symm) (fun R hR => cu R (by unfold OWN at hR ⊢; omega) (by unfold OWN at hR; omega)) (fun t q1 q2 => cu _ (by unfold OWN; omega) (by omega))) fun j hj => ?_
        show up (cpA r 1 0 3 n) 0 5 (nI (n + 1)) 3 (1037 * i + j) = r 3 (1037 * i + j)
        rw [up_ne (by omega), cpA_s (by omega)]
    · exact h.s.frame (Nat.le_of_eq e4.symm) (fun i a b => by rw [e5, if_neg (by omega)]) (by rw [up_or (by decide), cpA_o (by decide)]) (by rw [up_or (by decide), cpA_o (by decide)]) (fun L' R a b hR => cu R (by unfold OWN at hR ⊢; omega) (by unfold OWN at hR; omega)) (fun t q1 q2 => cu _ (by unfold OWN; omega) (by omega))
    · exact h.b.frame (c0 5 (by omega)) (r0 8 (by omega)) (cu 3 (by unfold OWN; omega) (by omega)) (by rw [up_or (by decide), cpA_o (by decide)]) (cu 5 (by unfold OWN; omega) (by omega))
    · exact h.e.frame (c0 1 (by omega)) (c0 2 (by omega)) (r0 15 (by omega)) (r0 16 (by omega))
    · exact h.o.frame (c0 0 (by omega)) (r0 22 (by omega))
    · rw [e4]; exact h.n
  · have r1 : (up (cpA r 1 0 3 n) 0 5 (nI (n + 1))) 1 = r 1 := by rw [up_or (by decide), cpA_o (by decide)]
    rw [r1]
    exact h0.frame (by omega) (Nat.le_of_eq e4.symm) (fun R hR => by rw [up_or (by unfold OWN at hR; omega)]; exact cc R (by unfold OWN at hR ⊢; omega)) (fun t q1 q2 => by rw [up_or (by omega)]; exact cc _ (by unfold OWN; omega))
  · intro R a b; rw [up_or b, cpA_o a]
  · intro i hi; rw [up_ne (by omega), cpA_o (by decide)]
  · intro R hR; rw [up_or (by unfold OWN at hR; omega)]; exact cc R (by unfold OWN at hR ⊢; omega)
  · intro R hR; rw [up_or (by omega)]; exact cc R (by unfold OWN; omega)
theorem keeps_ok {r c : RS} {g : CG} {B T sm lm cm : Nat} (h : GI r c g B T) (h0 : QY c g 0 (r 1) sm lm cm B B) :
    ∃ r2 c2 g2, F8_keeps r = some r2 ∧ C7_remember g c = some (g2, c2) ∧ GI r2 c2 g2 B T ∧ QY c2 g2 0 (r2 1) sm lm cm B B ∧ KP r c g r2 c2 g2 := by
  obtain ⟨o, n, hp⟩ := h.p
  have hp' := hp
  obtain ⟨p1, p2, p3, p4, p5, p6⟩ := hp'
  unfold F8_keeps C7_remember
  simp only [lit32]
  by_cases h8 : n = 8
  · subst h8
    have k8 := keep8 hp
    have hsk : r = shK r 0 := by funext R j; exact (if_neg (by omega)).symm
    have kl := keep_L (r := r) 7259 0 FUEL (by omega) (by show 7259 < 10000; omega)
    rw [← hsk] at kl
    have hG : GI (up (shK r 7259) 0 5 (nI 7)) (up (up c 0 3 (nI ((o + 1) % 8))) 0 4 (nI 7)) g B T := by
      have cu : ∀ R, R ≠ 0 → up (up c 0 3 (nI ((o + 1) % 8))) 0 4 (nI 7) R = c R := fun R a => by rw [up_or a, up_or a]
      have ru : ∀ R, R ≠ 0 → R ≠ 3 → up (shK r 7259) 0 5 (nI 7) R = r R := fun R a b => by rw [up_or a, shK_o b]
      have c0 : ∀ i, i ≠ 3 → i ≠ 4 → up (up c 0 3 (nI ((o + 1) % 8))) 0 4 (nI 7) 0 i = c 0 i := fun i a b => by rw [up_ne (by omega), up_ne (by omega)]
      have r0 : ∀ i, i ≠ 5 → up (shK r 7259) 0 5 (nI 7) 0 i = r 0 i := fun i a => by rw [up_ne (by omega), shK_o (by decide)]
      refine ⟨?_, fun L hL => by rw [cu _ (by omega)]; exact h.ti L hL, ⟨_, _, k8⟩, ?_, ?_, ?_, ?_, h.n⟩
      · rw [ru 1 (by decide) (by decide)]
        exact h.l.frame (by omega) (Nat.le_refl _) (fun R hR => cu R (by unfold OWN at hR; omega)) (fun t _ _ => cu _ (by omega))
      · exact h.s.frame (Nat.le_refl _) (fun _ _ _ => rfl) (ru 5 (by decide) (by decide)) (ru 4 (by decide) (by decide)) (fun L R _ _ hR => cu R (by unfold OWN at hR; omega)) (fun t _ _ => cu _ (by omega))
      · exact h.b.frame (c0 5 (by decide) (by decide)) (r0 8 (by decide)) (cu 3 (by decide)) (ru 6 (by decide) (by decide)) (cu 5 (by decide))
      · exact h.e.frame (c0 1 (by decide) (by decide)) (c0 2 (by decide) (by decide)) (r0 15 (by decide)) (r0 16 (by decide))
      · exact h.o.frame (c0 0 (by decide) (by decide)) (r0 22 (by decide))
    have h0' : QY (up (up c 0 3 (nI ((o + 1) % 8))) 0 4 (nI 7)) g 0 ((up (shK r 7259) 0 5 (nI 7)) 1) sm lm cm B B := by
      rw [up_or (r := 1) (by decide), shK_o (by decide)]
      exact h0.frame (by omega) (Nat.le_refl _) (fun R hR => by rw [up_or (by unfold OWN at hR; omega), up_or (by unfold OWN at hR; omega)]) (fun t _ _ => by rw [up_or (by omega), up_or (by omega)])
    obtain ⟨r2, c2, g2, k1, k2, k3, k4, q1, q2, q3, q4, q5⟩ := keep7 hG k8 (by omega) h0'
    refine ⟨r2, c2, g2, ?_, ?_, k3, k4, q1, fun R a b => ?_, fun i hi => ?_, fun R hR => ?_, fun R hR => ?_⟩
    · rw [p5, if_pos rfl, kl, bS]
      simp only
      rw [shK_o (by decide), p5, nI_sub (by omega), pt_n, bS, bS, up_eq]
      exact k1
    · rw [p4, if_pos rfl, p3, nI_add, rm_n (by omega) (by omega) (by omega), bS, pt_n, bS, up_ne (by omega), p4, nI_sub (by omega), pt_n, bS, bS]
      exact k2
    · rw [q2 R a b, up_or b, shK_o a]
    · rw [q3 i hi, up_ne (by omega), shK_o (by decide)]
    · rw [q4 R hR, up_or (by unfold OWN at hR; omega), up_or (by unfold OWN at hR; omega)]
    · rw [q5 R hR, up_or (by omega), up_or (by omega)]
  · obtain ⟨r2, c2, g2, k1, k2, k3, k4, k5⟩ := keep7 h hp (by omega) h0
    refine ⟨r2, c2, g2, ?_, ?_, k3, k4, k5⟩
    · rw [p5, if_neg (nI_ne h8 (by omega) (by omega)), bS, p5]
      exact k1
    · rw [p4, if_neg (nI_ne h8 (by omega) (by omega)), bS]
      rw [p4] at k2
      rw [p4]
      exact k2
end
section
theorem QX.toY {c : RS} {g : CG} {L sm lm cm B U : Nat} {v w iv : Nat → Int32} (hL : L < 12) (h : QX c g L v w iv sm lm cm B U) : QY (setL c L w iv) g L v sm lm cm B U := by
  unfold QY
  rw [setL_w, setL_iv]
  exact QX.frame hL h (Nat.le_refl _) (fun R h1 h2 hR => setL_o (by omega) (by omega)) (fun t _ _ => setL_o (by omega) (by omega))
theorem GI.line {r c c' : RS} {g : CG} {B B2 T sm lm cm : Nat} {v' w' iv' : Nat → Int32} (h : GI r c g B T) (hc : ∀ R, ¬ OWN 0 R → c' R = c R) (hq : QX c' g 0 v' w' iv' sm lm cm B2 B2) (hB : B ≤ B2) : GI (setR r v') (setL c' 0 w' iv') g B2 T := by
  have hbb := hq.a.bb
  have cu : ∀ R, ¬ OWN 0 R → setL c' 0 w' iv' R = c R := fun R hR => by
    rw [setL_o (by unfold OWN at hR; omega) (by unfold OWN at hR; omega)]; exact hc R hR
  have c0 : setL c' 0 w' iv' 0 = c 0 := cu 0 (by unfold OWN; omega)
  have r0 : setR r v' 0 = r 0 := setR_o (by decide)
  refine ⟨?_, fun L hL => ?_, ?_, ?_, ?_, ?_, ?_, h.n⟩
  · rw [setR_1]; exact ⟨sm, lm, cm, QX.toY (by omega) hq⟩
  · by_cases e : L = 0
    · subst e; rw [setL_w]; exact hq.tir
    · rw [cu _ (by unfold OWN; omega)]; exact h.ti L hL
  · exact (h.p.mono hB hbb).frame (Nat.le_refl _) (fun _ _ _ q => q) (by rw [c0]) (by rw [c0]) (by rw [r0]) (setR_o (by decide)) (fun L R a b hR => cu R (by unfold OWN at hR ⊢; omega)) (fun t _ _ => cu _ (by unfold OWN; omega))
  · exact (h.s.mono hB hbb).frame (Nat.le_refl _) (fun _ _ _ => rfl) (setR_o (by decide)) (setR_o (by decide)) (fun L R a b hR => cu R (by unfold OWN at hR ⊢; omega)) (fun t _ _ => cu _ (by unfold OWN; omega))
  · exact h.b.frame (by rw [c0]) (by rw [r0]) (cu 3 (by unfold OWN; omega)) (setR_o (by decide)) (cu 5 (by unfold OWN; omega))
  · exact h.e.frame (by rw [c0]) (by rw [c0]) (by rw [r0]) (by rw [r0])
  · exact h.o.frame (by rw [c0]) (by rw [r0])
theorem up1 {r : RS} {i : Nat} {x : Int32} : up r 1 i x = setR r (upd (r 1) i x) := by
  have h := up_setR (r := r) (v := r 1) (i := i) (x := x)
  rw [← setR_self] at h; exact h
theorem upC {c : RS} {L i : Nat} {x : Int32} : up c (10 + L) i x = setL c L (upd (c (10 + L)) i x) (c (400 + L)) := by
  have h := up_setL_w (c := c) (L := L) (w := c (10 + L)) (iv := c (400 + L)) (i := i) (x := x)
  rw [← setL_self] at h; exact h
noncomputable def AT (F : Option (Int32 × RS)) (C : Option (Sum Int32 (Int32 × CG × RS))) (r : RS) (sh B T : Nat) : Prop := (∃ x r2 c2 g2, F = some (x, r2) ∧ C = some (.inr (x, g2, c2)) ∧ GI r2 c2 g2 B T ∧ r2 0 6 = nI 0) ∨ (∃ k, 1 ≤ k ∧ k ≤ 2 ∧ F = some (nI 0, th r k) ∧ C = some (.inl (nI (k + sh))))
theorem AT.same {F : Option (Int32 × RS)} {C : Option (Sum Int32 (Int32 × CG × RS))} {r c : RS} {g : CG} {sh B T : Nat} {x : Int32} (h : GI r c g B T) (h1 : F = some (x, th r 0)) (h2 : C = some (.inr (x, g, c))) : AT F C r sh B T := Or.inl ⟨x, th r 0, c, g, h1, h2, h.thr, th_6⟩
theorem KP.t {r c r2 c2 : RS} {g g2 : CG} (h : KP (th r 0) c g r2 c2 g2) : r2 0 6 = nI 0 := (h.2.2.1 6 (by decide)).trans th_6
theorem puts_v {r r2 : RS} {i : Nat} {x : Int32} (h : F8_keeps r = some r2) (hi : i < 1037) : F8_puts r (nI i) x = some (r2 1 i, setR r2 (upd (r2 1) i x)) := by
  unfold F8_puts
  rw [h, bS, rd_n hi (by omega), bS, ws_n hi (by omega), bS, up1]
theorem setR0 {r : RS} {v : Nat → Int32} {i : Nat} : setR r v 0 i = r 0 i := by rw [setR_o (by decide)]
theorem AT.act {F : Option (Int32 × RS)} {C : Option (Sum Int32 (Int32 × CG × RS))} {r r2 c2 c' : RS} {g2 : CG} {sh B B2 T sm lm cm : Nat} {x : Int32} {v' w' iv' : Nat → Int32} (hF : F = some (x, setR r2 v')) (hC : C = some (.inr (x, g2, setL c' 0 w' iv'))) (h : GI r2 c2 g2 B T) (hc : ∀ R, ¬ OWN 0 R → c' R = c2 R) (hq : QX c' g2 0 v' w' iv' sm lm cm B2 B2) (ht : r2 0 6 = nI 0) (hB : B ≤ B2) : AT F C r sh B2 T :=
  Or.inl ⟨x, setR r2 v', setL c' 0 w' iv', g2, hF, hC, h.line hc hq hB, setR0.trans ht⟩
theorem a_setTries {r c : RS} {g : CG} {B T : Nat} {a : Int32} (h : GI r c g B T) : AT (F8_setTries r a) (C7_setTries g c a) r 1 B T := by
  unfold F8_setTries C7_setTries
  simp only [lit32]
  rcases argR (a := a) (lo := 1) (hi := 9) (by omega) (by omega) (l := 1) (h := 9) rfl rfl with ⟨k, k1, k2, rfl, k3, k4⟩ | ⟨k3, k4, k5⟩
  · obtain ⟨sm, lm, cm, h0⟩ := (h.thr (k := 0)).l
    obtain ⟨r2, c2, g2, e1, e2, e3, e4, e5⟩ := keeps_ok h.thr h0
    have ev : r2 1 2 = c2 (10 + 0) 2 := QR.ra e4 (by omega) (by omega) (by omega)
    rw [k3, k4, isThrown_1, bS, bS, trR]
    simp only [if_true]
    rw [puts_v e1 (by omega), bS, bS, e2, bS, pt_n, bS, upC, ev]
    exact AT.act (r2 := r2) (c2 := c2) (c' := c2) (g2 := g2) rfl rfl e3 (fun _ _ => rfl) (QR.tot (by omega) e4) e5.t (Nat.le_refl _)
  · rw [k3, k4, isThrown_0, bS, bS, trL]
    refine Or.inr ⟨1, by omega, by omega, ?_, rfl⟩
    simp only [nz0, if_false, bS]
theorem a_setTray {r c : RS} {g : CG} {B T : Nat} {a : Int32} (h : GI r c g B T) : AT (F8_setTray r a) (C7_setTray g c a) r 1 B T := by
  unfold F8_setTray C7_setTray
  simp only [lit32]
  rcases argR (a := a) (lo := 1) (hi := 20) (by omega) (by omega) (l := 1) (h := 20) rfl rfl with ⟨k, k1, k2, rfl, k3, k4⟩ | ⟨k3, k4, k5⟩
  · obtain ⟨sm, lm, cm, h0⟩ := (h.thr (k := 0)).l
    obtain ⟨r2, c2, g2, e1, e2, e3, e4, e5⟩ := keeps_ok h.thr h0
    have ev : r2 1 1 = c2 (10 + 0) 1 := QR.ra e4 (by omega) (by omega) (by omega)
    rw [k3, k4, isThrown_1, bS, bS, trR]
    simp only [if_true]
    rw [puts_v e1 (by omega), bS, bS, e2, bS, pt_n, bS, upC, ev]
    exact AT.act (r2 := r2) (c2 := c2) (c' := c2) (g2 := g2) rfl rfl e3 (fun _ _ => rfl) (QR.tot (by omega) e4) e5.t (Nat.le_refl _)
  · rw [k3, k4, isThrown_0, bS, bS, trL]
    refine Or.inr ⟨1, by omega, by omega, ?_, rfl⟩
    simp only [nz0, if_false, bS]
theorem a_refill {r c : RS} {g : CG} {B T : Nat} {a : Int32} (h : GI r c g B T) : AT (F8_refill r a) (C7_refill g c a) r 1 B T := by
  unfold F8_refill C7_refill
  simp only [lit32, neg1]
  rcases argR (a := a) (lo := 1) (hi := 999) (by omega) (by omega) (l := 1) (h := 999) rfl rfl with ⟨k, k1, k2, rfl, k3, k4⟩ | ⟨k3, k4, k5⟩
  · obtain ⟨sm, lm, cm, h0⟩ := (h.thr (k := 0)).l
    have ev5 : th r 0 1 5 = c (10 + 0) 5 := QR.ra h0 (by omega) (by omega) (by omega)
    rw [k3, k4, isThrown_1, bS, bS, trR]
    simp only [if_true]
    rw [ev5]
    by_cases q : c (10 + 0) 5 + nI k ≤ nI 9999
    · obtain ⟨r2, c2, g2, e1, e2, e3, e4, e5⟩ := keeps_ok h.thr h0
      have w5 : r2 1 5 = c2 (10 + 0) 5 := QR.ra e4 (by omega) (by omega) (by omega)
      have w4 : r2 1 4 = c2 (10 + 0) 4 := QR.ra e4 (by omega) (by omega) (by omega)
      rw [if_pos q, if_pos q, e1, e2, bS, bS, ws_n (by omega) (by omega), bS, pt_n, bS, ws_n (by omega) (by omega), bS, pt_n, bS]
      refine Or.inl ⟨c2 (10 + 0) 5 + nI k, setR r2 (upd (upd (r2 1) 5 (c2 (10 + 0) 5 + nI k)) 4 (c2 (10 + 0) 4 + nI k)), setL c2 0 (upd (upd (c2 (10 + 0)) 5 (c2 (10 + 0) 5 + nI k)) 4 (c2 (10 + 0) 4 + nI k)) (c2 (400 + 0)), g2, ?_, ?_, e3.line (fun _ _ => rfl) (QR.tot (by omega) (QR.tot (by omega) e4)) (Nat.le_refl _), setR0.trans e5.t⟩
      · simp only [up1 (r := r2), up_setR, setR_1]
        rw [upd_n (i := 5) (j := 4) (by decide), upd_n (i := 4) (j := 5) (by decide), upd_e, w5, w4]
      · simp only [upC (c := c2) (L := 0), up_setL_w, setL_w]
        rw [upd_n (i := 5) (j := 4) (by decide), upd_n (i := 4) (j := 5) (by decide), upd_e]
    · rw [if_neg q, if_neg q]
      exact AT.same h rfl rfl
  · rw [k3, k4, isThrown_0, bS, bS, trL]
    refine Or.inr ⟨1, by omega, by omega, ?_, rfl⟩
    simp only [nz0, if_false]
theorem QL.rk {vl wl we wc bp : Nat → Nat → Int32} {lm cm l p : Nat} (hp : p ≤ 9) (h : QL vl wl we wc bp lm cm) : QL (up2 vl l 0 (nI p)) (up2 wl l 0 (nI p)) we wc bp lm cm := by
  obtain ⟨b1, b2, b3, b4, b5, b6, b7, b8, b9, b10⟩ := h
  refine ⟨fun l' k hl hk => ?_, fun l' hl => ?_, b3, b4, b5, b6, fun l' hl => ?_, b8, b9, b10⟩
  · rw [up2_at, up2_at]; split
    · rfl
    · exact b1 l' k hl hk
  · rw [up2_at]; split
    · exact ⟨p, hp, rfl⟩
    · exact b2 l' hl
  · rw [up2_ne (by decide)]; exact b7 l' hl
theorem QR.rank {v w iv : Nat → Int32} {bp dl df tx : Nat → Nat → Int32} {nt sm lm cm B U l p : Nat} (hp : p ≤ 9) (hl : l < 6) (h : QR v w iv bp dl df tx nt sm lm cm B U) : QR (upd v (113 + 4 * l + 0) (nI p)) (upd w (113 + 4 * l + 0) (nI p)) iv bp dl df tx nt sm lm cm B U := by
  refine ⟨?_, ?_, ?_, ?_, ?_, ?_, ?_⟩
  · simp (disch := omega) only [sA_A, sA_S, sA_L, sA_C, sA_F, sA_P, sA_E, sA_M, sS_A, sS_S, sS_L, sS_C, sS_F, sS_P, sS_E, sS_M, sL_A, sL_S, sL_L, sL_C, sL_F, sL_P, sL_E, sL_M, sC_A, sC_S, sC_L, sC_C, sC_F, sC_P, sC_E, sC_M, sF_A, sF_S, sF_L, sF_C, sF_F, sF_P, sF_E, sF_M, sP_A, sP_S, sP_L, sP_C, sP_F, sP_P, sP_E, sP_M, sE_A, sE_S, sE_L, sE_C, sE_F, sE_P, sE_E, sE_M]; exact h.a
  · simp (disch := omega) only [sA_A, sA_S, sA_L, sA_C, sA_F, sA_P, sA_E, sA_M, sS_A, sS_S, sS_L, sS_C, sS_F, sS_P, sS_E, sS_M, sL_A, sL_S, sL_L, sL_C, sL_F, sL_P, sL_E, sL_M, sC_A, sC_S, sC_L, sC_C, sC_F, sC_P, sC_E, sC_M, sF_A, sF_S, sF_L, sF_C, sF_F, sF_P, sF_E, sF_M, sP_A, sP_S, sP_L, sP_C, sP_F, sP_P, sP_E, sP_M, sE_A, sE_S, sE_L, sE_C, sE_F, sE_P, sE_E, sE_M]; exact h.s
  · simp (disch := omega) only [sA_A, sA_S, sA_L, sA_C, sA_F, sA_P, sA_E, sA_M, sS_A, sS_S, sS_L, sS_C, sS_F, sS_P, sS_E, sS_M, sL_A, sL_S, sL_L, sL_C, sL_F, sL_P, sL_E, sL_M, sC_A, sC_S, sC_L, sC_C, sC_F, sC_P, sC_E, sC_M, sF_A, sF_S, sF_L, sF_C, sF_F, sF_P, sF_E, sF_M, sP_A, sP_S, sP_L, sP_C, sP_F, sP_P, sP_E, sP_M, sE_A, sE_S, sE_L, sE_C, sE_F, sE_P, sE_E, sE_M]; exact h.c
  · simp (disch := omega) only [sA_A, sA_S, sA_L, sA_C, sA_F, sA_P, sA_E, sA_M, sS_A, sS_S, sS_L, sS_C, sS_F, sS_P, sS_E, sS_M, sL_A, sL_S, sL_L, sL_C, sL_F, sL_P, sL_E, sL_M, sC_A, sC_S, sC_L, sC_C, sC_F, sC_P, sC_E, sC_M, sF_A, sF_S, sF_L, sF_C, sF_F, sF_P, sF_E, sF_M, sP_A, sP_S, sP_L, sP_C, sP_F, sP_P, sP_E, sP_M, sE_A, sE_S, sE_L, sE_C, sE_F, sE_P, sE_E, sE_M]; exact h.n
  · simp (disch := omega) only [sA_A, sA_S, sA_L, sA_C, sA_F, sA_P, sA_E, sA_M, sS_A, sS_S, sS_L, sS_C, sS_F, sS_P, sS_E, sS_M, sL_A, sL_S, sL_L, sL_C, sL_F, sL_P, sL_E, sL_M, sC_A, sC_S, sC_L, sC_C, sC_F, sC_P, sC_E, sC_M, sF_A, sF_S, sF_L, sF_C, sF_F, sF_P, sF_E, sF_M, sP_A, sP_S, sP_L, sP_C, sP_F, sP_P, sP_E, sP_M, sE_A, sE_S, sE_L, sE_C, sE_F, sE_P, sE_E, sE_M]; exact h.l.rk hp
  · simp (disch := omega) only [sA_A, sA_S, sA_L, sA_C, sA_F, sA_P, sA_E, sA_M, sS_A, sS_S, sS_L, sS_C, sS_F, sS_P, sS_E, sS_M, sL_A, sL_S, sL_L, sL_C, sL_F, sL_P, sL_E, sL_M, sC_A, sC_S, sC_L, sC_C, sC_F, sC_P, sC_E, sC_M, sF_A, sF_S, sF_L, sF_C, sF_F, sF_P, sF_E, sF_M, sP_A, sP_S, sP_L, sP_C, sP_F, sP_P, sP_E, sP_M, sE_A, sE_S, sE_L, sE_C, sE_F, sE_P, sE_E, sE_M]; exact h.d
  · simp (disch := omega) only [sA_A, sA_S, sA_L, sA_C, sA_F, sA_P, sA_E, sA_M, sS_A, sS_S, sS_L, sS_C, sS_F, sS_P, sS_E, sS_M, sL_A, sL_S, sL_L, sL_C, sL_F, sL_P, sL_E, sL_M, sC_A, sC_S, sC_L, sC_C, sC_F, sC_P, sC_E, sC_M, sF_A, sF_S, sF_L, sF_C, sF_F, sF_P, sF_E, sF_M, sP_A, sP_S, sP_L, sP_C, sP_F, sP_P, sP_E, sP_M, sE_A, sE_S, sE_L, sE_C, sE_F, sE_P, sE_E, sE_M]; exact h.wh
theorem a_setRank {r c : RS} {g : CG} {B T : Nat} {a b : Int32} (h : GI r c g B T) : AT (F8_setRank r a b) (C7_setRank g c a b) r 0 B T := by
  obtain ⟨sm, lm, cm, h0⟩ := h.l
  have hlm := h0.a.lm6
  unfold F8_setRank C7_setRank
  simp only [lit32]
  rcases argLo (r := r) (c := c) (g := g) (a := a) (n := lm) (by omega) h0.v8 h0.n8 with ⟨l, s1, rfl, s2, s3⟩ | ⟨s2, s3⟩
  · have hl6 : l < 6 := by omega
    rw [s2, s3, bS, bS, isThrown_1, bS, trR]
    simp only [if_true]
    rcases argR (a := b) (lo := 0) (hi := 9) (by omega) (by omega) (l := 0) (h := 9) rfl rfl with ⟨k, k1, k2, rfl, k3, k4⟩ | ⟨k3, k4, k5⟩
    · rw [k3, k4, isThrown_1, bS, bS, trR, th_th]
      simp only [if_true]
      have h1 : QY c g 0 (th r 0 1) sm lm cm B B := by rw [th_o (by decide)]; exact h0
      obtain ⟨r2, c2, g2, e1, e2, e3, e4, e5⟩ := keeps_ok h.thr h1
      have ev : r2 1 (113 + 4 * l + 0) = c2 (10 + 0) (113 + 4 * l + 0) := by
        rw [sL_r (v := r2 1) hl6 (by omega), sL_r (v := c2 (10 + 0)) hl6 (by omega)]; exact e4.l.eql l 0 s1 (by omega)
      simp only [nI_add, nI_mul]
      rw [puts_v e1 (by omega), bS, e2, bS, ix_n hl6 (by omega), bS, bS, pt_n, bS, upC, ev]
      exact AT.act (r2 := r2) (c2 := c2) (c' := c2) (g2 := g2) rfl rfl e3 (fun _ _ => rfl) (QR.rank k2 hl6 e4) e5.t (Nat.le_refl _)
    · rw [k3, k4, isThrown_0, bS, bS, trL, th_th]
      refine Or.inr ⟨2, by omega, by omega, ?_, rfl⟩
      simp only [nz0, if_false]
  · rw [s2, s3, bS, bS, isThrown_0, bS, trL]
    refine Or.inr ⟨1, by omega, by omega, ?_, rfl⟩
    simp only [nz0, if_false]
theorem QS.uPace {vs ws wc tx : Nat → Nat → Int32} {nt sm cm U s p : Nat} (hp : 1 ≤ p) (hp2 : p ≤ 99) (h : QS vs ws wc tx nt sm cm U) : QS (up2 vs s 1 (nI p)) (up2 ws s 1 (nI p)) wc tx nt sm cm U := by
  obtain ⟨b1, b2, b3, b4, b5, b6, b7, b8, b9, b10⟩ := h
  refine ⟨fun s' k' h1 h2 h3 => ?_, fun s' h1 => ?_, fun s' h1 => ?_, fun s' h1 => ?_, fun s' h1 => ?_, fun s' h1 => ?_, fun s' h1 => ?_, fun s' h1 => ?_, fun s' h1 => ?_, fun s' h1 => ?_⟩
  · rw [up2_at, up2_at]; split
    · rfl
    · exact b1 s' k' h1 h2 h3
  · simpa [up2_at] using b2 s' h1
  · simpa [up2_at] using b3 s' h1
  · rw [up2_at]; split
    · exact ⟨p, hp, hp2, rfl⟩
    · exact b4 s' h1
  · simpa [up2_at] using b5 s' h1
  · simpa [up2_at] using b6 s' h1
  · simpa [up2_at] using b7 s' h1
  · simpa [up2_at] using b8 s' h1
  · simpa [up2_at] using b9 s' h1
  · simpa [up2_at] using b10 s' h1
theorem QS.uStop {vs ws wc tx : Nat → Nat → Int32} {nt sm cm U s : Nat} {x : Int32} (hx : x = nI 0 ∨ x = nI 1) (h : QS vs ws wc tx nt sm cm U) : QS (up2 vs s 7 x) (up2 ws s 7 x) wc tx nt sm cm U := by
  obtain ⟨b1, b2, b3, b4, b5, b6, b7, b8, b9, b10⟩ := h
  refine ⟨fun s' k' h1 h2 h3 => ?_, fun s' h1 => ?_, fun s' h1 => ?_, fun s' h1 => ?_, fun s' h1 => ?_, fun s' h1 => ?_, fun s' h1 => ?_, fun s' h1 => ?_, fun s' h1 => ?_, fun s' h1 => ?_⟩
  · rw [up2_at, up2_at]; split
    · rfl
    · exact b1 s' k' h1 h2 h3
  · simpa [up2_at] using b2 s' h1
  · simpa [up2_at] using b3 s' h1
  · simpa [up2_at] using b4 s' h1
  · simpa [up2_at] using b5 s' h1
  · simpa [up2_at] using b6 s' h1
  · simpa [up2_at] using b7 s' h1
  · rw [up2_at]; split
    · exact hx
    · exact b8 s' h1
  · simpa [up2_at] using b9 s' h1
  · simpa [up2_at] using b10 s' h1
theorem a_setPace {r c : RS} {g : CG} {B T : Nat} {a b : Int32} (h : GI r c g B T) : AT (F8_setPace r a b) (C7_setPace g c a b) r 0 B T := by
  obtain ⟨sm, lm, cm, h0⟩ := h.l
  have hsm := h0.a.sm6
  unfold F8_setPace C7_setPace
  simp only [lit32]
  rcases argSt (r := r) (c := c) (g := g) (a := a) (n := sm) (by omega) h0.v7 h0.n7 with ⟨s, s1, rfl, s2, s3⟩ | ⟨s2, s3⟩
  · have hs6 : s < 6 := by omega
    rw [s2, s3, bS, bS, isThrown_1, bS, trR, ix_n hs6 (by omega), bS]
    simp only [if_true]
    have ek : r 1 (17 + 16 * s + 0) = c (10 + 0) (17 + 16 * s + 0) := QR.rs h0 s1 (by omega) (by omega)
    obtain ⟨m, m0, mF, mC⟩ : ∃ m, 1 ≤ m ∧ m ≤ 99 ∧ F8_mostPace (c (10 + 0) (17 + 16 * s + 0)) = some (nI m) ∧ C7_mostPace (c (10 + 0) (17 + 16 * s + 0)) = some (nI m) := by
      unfold F8_mostPace C7_mostPace
      simp only [lit32]
      by_cases q : c (10 + 0) (17 + 16 * s + 0) = nI 3
      · rw [if_pos q, bS]; exact ⟨9, by omega, by omega, rfl, rfl⟩
      · rw [if_neg q, bS]; exact ⟨99, by omega, by omega, rfl, rfl⟩
    have hF0 : F8_of (th r 0) (nI s) (nI 0) = some (c (10 + 0) (17 + 16 * s + 0)) := by rw [thR, F8_of_v hs6 (by omega), ek]
    rw [hF0, bS, mC.1, bS, mC.2, bS]
    rcases argR (a := b) (lo := 1) (hi := m) (by omega) m0 (l := 1) (h := (nI m).toInt64) rfl (by rw [Int32.toInt_toInt64, nI_toInt (by omega)]) with ⟨k, k1, k2, rfl, k3, k4⟩ | ⟨k3, k4, k5⟩
    · rw [k3, k4, isThrown_1, bS, bS, trR, th_th]
      simp only [if_true]
      have h1 : QY c g 0 (th r 0 1) sm lm cm B B := by rw [th_o (by decide)]; exact h0
      obtain ⟨r2, c2, g2, e1, e2, e3, e4, e5⟩ := keeps_ok h.thr h1
      have ev : r2 1 (17 + 16 * s + 1) = c2 (10 + 0) (17 + 16 * s + 1) := QR.rs e4 s1 (by omega) (by omega)
      simp only [nI_add, nI_mul]
      rw [puts_v e1 (by omega), bS, e2, bS, pt_n, bS, upC, ev]
      exact AT.act (r2 := r2) (c2 := c2) (c' := c2) (g2 := g2) rfl rfl e3 (fun _ _ => rfl) (QR.upS e4 hs6 (by omega) (QS.uPace k1 (by omega) e4.s)) e5.t (Nat.le_refl _)
    · rw [k3, k4, isThrown_0, bS, bS, trL, th_th]
      refine Or.inr ⟨2, by omega, by omega, ?_, rfl⟩
      simp only [nz0, if_false]
  · rw [s2, s3, bS, bS, isThrown_0, bS, trL]
    refine Or.inr ⟨1, by omega, by omega, ?_, rfl⟩
    simp only [nz0, if_false]
theorem stop_L {r c : RS} {g : CG} {sm lm cm B U : Nat} {v : Nat → Int32} {x1 x2 : Int32} {t4 : CG × RS} (h : QY c g 0 v sm lm cm B U) : ∀ (d y fu fu2 s : Nat), y + d = sm → d < fu → d < fu2 → s ≤ y → ∃ z, F8_stop_L40 x1 x2 (setR r v) fu (nI y) (nI s) = some (nI sm, z) ∧ C7_stop_L27 x1 x2 t4 c fu2 (nI y) (nI s) = some (nI sm, z) := by
  have hsm := h.a.sm6
  have h7 : v 7 = nI sm := h.v7
  intro d
  induction d with
  | zero =>
    intro y fu fu2 s hy hfu hfu2 hs
    obtain ⟨fu, rfl⟩ : ∃ m, fu = m + 1 := ⟨fu - 1, by omega⟩
    obtain ⟨fu2, rfl⟩ : ∃ m, fu2 = m + 1 := ⟨fu2 - 1, by omega⟩
    obtain rfl : y = sm := by omega
    rw [F8_stop_L40, C7_stop_L27, setR_1, h7, h.n7, if_pos (nI_le (by omega) (by omega)), if_pos (nI_le (by omega) (by omega))]
    exact ⟨_, rfl, rfl⟩
  | succ d ih =>
    intro y fu fu2 s hy hfu hfu2 hs
    obtain ⟨fu, rfl⟩ : ∃ m, fu = m + 1 := ⟨fu - 1, by omega⟩
    obtain ⟨fu2, rfl⟩ : ∃ m, fu2 = m + 1 := ⟨fu2 - 1, by omega⟩
    have e7 : v (17 + 16 * y + 7) = c (10 + 0) (17 + 16 * y + 7) := QR.rs h (by omega) (by omega) (by omega)
    have e7c : c (10 + 0) (17 + 16 * y + 7) = sS (c (10 + 0)) y 7 := sS_r (v := c (10 + 0)) (by omega) (by omega)
    rw [F8_stop_L40, C7_stop_L27]
    simp only [lit32]
    rw [setR_1, h7, h.n7, if_neg (nI_ge (by omega) (by omega)), if_neg (nI_ge (by omega) (by omega)), F8_of_v (by omega) (by omega), bS, ix_n (by omega) (by omega), bS, e7, nI_add]
    rcases h.s.stop y (by omega) with q | q
    · rw [e7c, q, if_pos rfl, bS, nI_z]; exact ih (y + 1) fu fu2 s (by omega) (by omega) (by omega) (by omega)
    · rw [e7c, q, if_neg nz0, bS, nI_add]; exact ih (y + 1) fu fu2 (s + 1) (by omega) (by omega) (by omega) (by omega)
theorem a_stop {r c : RS} {g : CG} {B T : Nat} {a b : Int32} (hb : b = nI 0 ∨ b = nI 1) (h : GI r c g B T) : AT (F8_stop r a b) (C7_stop g c a b) r 0 B T := by
  obtain ⟨sm, lm, cm, h0⟩ := h.l
  have hsm := h0.a.sm6
  unfold F8_stop C7_stop
  simp only [lit32]
  rcases argSt (r := r) (c := c) (g := g) (a := a) (n := sm) (by omega) h0.v7 h0.n7 with ⟨s, s1, rfl, s2, s3⟩ | ⟨s2, s3⟩
  · have hs6 : s < 6 := by omega
    rw [s2, s3, bS, bS, isThrown_1, bS, trR]
    simp only [if_true]
    have h1 : QY c g 0 (th r 0 1) sm lm cm B B := by rw [th_o (by decide)]; exact h0
    obtain ⟨r2, c2, g2, e1, e2, e3, e4, e5⟩ := keeps_ok h.thr h1
    have hb2 : (if b = nI 0 then some (nI 0) else some (nI 1) : Option Int32) = some b := by
      rcases hb with rfl | rfl
      · exact if_pos rfl
      · exact if_neg nz0
    have q4 := QR.upS e4 hs6 (by omega) (QS.uStop (s := s) hb e4.s)
    have q5 := QX.toY (by omega) q4
    obtain ⟨z, z1, z2⟩ := stop_L (r := r2) (x1 := nI s) (x2 := b) (t4 := (g2, c2)) q5 sm 0 FUEL FUEL 0 (by omega) (by show sm < 10000; omega) (by show sm < 10000; omega) (by omega)
    rw [e1, bS, hb2, bS, setR_self (r := r2), F8_sets_s hs6 (by omega), bS, z1, bS, e2, bS, ix_n hs6 (by omega), bS, nz_of hb, bS, pt_n, bS]
    simp only
    rw [upC, z2, bS]
    exact AT.act (r2 := r2) (c2 := c2) (c' := c2) (g2 := g2) rfl rfl e3 (fun _ _ => rfl) q4 e5.t (Nat.le_refl _)
  · rw [s2, s3, bS, bS, isThrown_0, bS, trL]
    refine Or.inr ⟨1, by omega, by omega, ?_, rfl⟩
    simp only [nz0, if_false]
end
section
theorem a_setRest {r c : RS} {g : CG} {B T : Nat} {a b d : Int32} (h : GI r c g B T) : AT (F8_setRest r a b d) (C7_setRest g c a b d) r 0 B T := by
  obtain ⟨sm, lm, cm, h0⟩ := h.l
  have hsm := h0.a.sm6
  unfold F8_setRest C7_setRest
  simp only [lit32]
  have hF : ∀ x t, (if b = nI 0 then some (nI 1) else (if inB b.toInt64 1 99 = nI 0 then some (nI 0) else (if inB d.toInt64 1 99 = nI 0 then some (nI 0) else some (nI 1))) : Option Int32) = some x → F8_isThrown (th r 0) x (nI 2) = some t → True := fun _ _ _ _ => trivial
  rcases argSt (r := r) (c := c) (g := g) (a := a) (n := sm) (by omega) h0.v7 h0.n7 with ⟨s, s1, rfl, s2, s3⟩ | ⟨s2, s3⟩
  · have hs6 : s < 6 := by omega
    have h1 : QY c g 0 (th r 0 1) sm lm cm B B := by rw [th_o (by decide)]; exact h0
    rcases argR (a := b) (lo := 0) (hi := 99) (by omega) (by omega) (l := 0) (h := 99) rfl rfl with ⟨k, k1, k2, rfl, k3, k4⟩ | ⟨k3, k4, k5⟩
    · by_cases z : k = 0
      · subst z
        obtain ⟨r2, c2, g2, e1, e2, e3, e4, e5⟩ := keeps_ok h.thr h1
        have ev : r2 1 (17 + 16 * s + 9) = c2 (10 + 0) (17 + 16 * s + 9) := QR.rs e4 s1 (by omega) (by omega)
        have hK : F8_keeps (th r 0) = some (setR r2 (r2 1)) := by rw [← setR_self]; exact e1
        rw [if_pos rfl, bS, s2, s3, bS, bS, isThrown_1, bS, trR, k4, bS, trR, if_pos (nI_le (Nat.le_refl 0) (by omega)), e2, bS, ix_n hs6 (by omega), bS, if_pos (nI_le (Nat.le_refl 0) (by omega))]
        simp only [if_true]
        rw [isThrown_1, bS, th_th]
        simp only [if_true]
        rw [hK, bS, F8_of_v hs6 (by omega), bS, F8_sets_s hs6 (by omega), bS, bS, F8_sets_s hs6 (by omega), bS, pt_n, bS, bS, pt_n, bS, upC (c := c2), up_setL_w, ev]
        exact AT.act (r2 := r2) (c2 := c2) (c' := c2) (g2 := g2) rfl rfl e3 (fun _ _ => rfl) (QR.free 10 (by omega) hs6 (QR.free 9 (by omega) hs6 e4)) e5.t (Nat.le_refl _)
      · have n0 : ¬ nI k = nI 0 := nI_ne z (by omega) (by omega)
        have nle : ¬ nI k ≤ nI 0 := nI_ge (by omega) (by omega)
        have k6 : inB (nI k).toInt64 1 99 = nI 1 := inB_pos (p := 1) (q := 99) rfl rfl (by rw [nI_toInt (by omega)]; omega)
        rw [if_neg n0, k6, if_neg nz0, s2, s3, bS, trR, k4, bS, trR, if_neg nle]
        rcases argR (a := d) (lo := 1) (hi := 99) (by omega) (by omega) (l := 1) (h := 99) rfl rfl with ⟨j, j1, j2, rfl, j3, j4⟩ | ⟨j3, j4, j5⟩
        · obtain ⟨r2, c2, g2, e1, e2, e3, e4, e5⟩ := keeps_ok h.thr h1
          have ev : r2 1 (17 + 16 * s + 9) = c2 (10 + 0) (17 + 16 * s + 9) := QR.rs e4 s1 (by omega) (by omega)
          have hK : F8_keeps (th r 0) = some (setR r2 (r2 1)) := by rw [← setR_self]; exact e1
          rw [j3, if_neg nz0, bS, bS, isThrown_1, bS, j4, bS, trR, e2, bS, ix_n hs6 (by omega), bS, if_neg nle]
          simp only [if_true]
          rw [isThrown_1, bS, th_th]
          simp only [if_true]
          rw [hK, bS, F8_of_v hs6 (by omega), bS, F8_sets_s hs6 (by omega), bS, if_neg n0, bS, F8_sets_s hs6 (by omega), bS, pt_n, bS, bS, pt_n, bS, upC (c := c2), up_setL_w, ev]
          exact AT.act (r2 := r2) (c2 := c2) (c' := c2) (g2 := g2) rfl rfl e3 (fun _ _ => rfl) (QR.free 10 (by omega) hs6 (QR.free 9 (by omega) hs6 e4)) e5.t (Nat.le_refl _)
        · rw [j3, if_pos rfl, bS, bS, isThrown_1, bS, j4, bS, trL]
          simp only [if_true]
          rw [isThrown_0, bS, th_th]
          refine Or.inr ⟨2, by omega, by omega, ?_, rfl⟩
          simp only [nz0, if_false]
    · have n0 : ¬ b = nI 0 := fun e => by rw [e, nI_toInt (by omega)] at k5; omega
      have k6 : inB b.toInt64 1 99 = nI 0 := inB_neg (p := 1) (q := 99) rfl rfl (by omega)
      rw [if_neg n0, k6, if_pos rfl, bS, s2, s3, bS, bS, isThrown_1, bS, trR, k4, bS, trL]
      simp only [if_true]
      rw [isThrown_0, bS, th_th]
      refine Or.inr ⟨2, by omega, by omega, ?_, rfl⟩
      simp only [nz0, if_false]
  · rw [s2, s3, bS, trL]
    have hX : ∃ x, (if b = nI 0 then some (nI 1) else (if inB b.toInt64 1 99 = nI 0 then some (nI 0) else (if inB d.toInt64 1 99 = nI 0 then some (nI 0) else some (nI 1))) : Option Int32) = some x := by
      split
      · exact ⟨_, rfl⟩
      · split
        · exact ⟨_, rfl⟩
        · split <;> exact ⟨_, rfl⟩
    obtain ⟨x, hx⟩ := hX
    rw [hx, bS, bS, isThrown_0, bS]
    refine Or.inr ⟨1, by omega, by omega, ?_, rfl⟩
    simp only [nz0, if_false]
theorem rush_L {r c : RS} {g : CG} {sm lm cm B U : Nat} {v : Nat → Int32} {x1 : Int32} {t4 : CG × RS} (h : QY c g 0 v sm lm cm B U) : ∀ (d y fu fu2 s : Nat), y + d = cm → d < fu → d < fu2 → s ≤ y → ∃ z, F8_rush_L43 x1 (setR r v) fu (nI y) (nI s) = some (nI cm, z) ∧ C7_rush_L37 x1 t4 c fu2 (nI y) (nI s) = some (nI cm, z) := by
  have hcm := h.a.cm30
  have h9 : v 9 = nI cm := h.v9
  intro d
  induction d with
  | zero =>
    intro y fu fu2 s hy hfu hfu2 hs
    obtain ⟨fu, rfl⟩ : ∃ m, fu = m + 1 := ⟨fu - 1, by omega⟩
    obtain ⟨fu2, rfl⟩ : ∃ m, fu2 = m + 1 := ⟨fu2 - 1, by omega⟩
    obtain rfl : y = cm := by omega
    rw [F8_rush_L43, C7_rush_L37, setR_1, h9, h.n9, if_pos (nI_le (by omega) (by omega)), if_pos (nI_le (by omega) (by omega))]
    exact ⟨_, rfl, rfl⟩
  | succ d ih =>
    intro y fu fu2 s hy hfu hfu2 hs
    obtain ⟨fu, rfl⟩ : ∃ m, fu = m + 1 := ⟨fu - 1, by omega⟩
    obtain ⟨fu2, rfl⟩ : ∃ m, fu2 = m + 1 := ⟨fu2 - 1, by omega⟩
    have e8 : v (137 + 25 * y + 8) = c (10 + 0) (137 + 25 * y + 8) := QR.rc h (by omega) (by omega) (by omega)
    have e8c : c (10 + 0) (137 + 25 * y + 8) = sC (c (10 + 0)) y 8 := sC_r (v := c (10 + 0)) (by omega) (by omega)
    rw [F8_rush_L43, C7_rush_L37]
    simp only [lit32]
    rw [setR_1, h9, h.n9, if_neg (nI_ge (by omega) (by omega)), if_neg (nI_ge (by omega) (by omega)), F8_ofCard_v (by omega) (by omega), bS, ix_n (by omega) (by omega), bS, e8, nI_add]
    rcases h.c.rush y (by omega) with q | ⟨q, -⟩
    · rw [e8c, q, if_pos rfl, bS, nI_z]; exact ih (y + 1) fu fu2 s (by omega) (by omega) (by omega) (by omega)
    · rw [e8c, q, if_neg nz0, bS, nI_add]; exact ih (y + 1) fu fu2 (s + 1) (by omega) (by omega) (by omega) (by omega)
theorem waits_ok {r c : RS} {g : CG} {sm lm cm B U q : Nat} {v : Nat → Int32} (h : QY c g 0 v sm lm cm B U) (hq : q < cm) : F8_ofCard (setR r v) (nI q) (nI 3) = some (c (10 + 0) (137 + 25 * q + 3)) ∧ C7_waits g c (nI q) = some (if c (10 + 0) (137 + 25 * q + 3) = nI 0 then nI 1 else nI 0) := by
  have hcm := h.a.cm30
  refine ⟨by rw [F8_ofCard_v (by omega) (by omega), QR.rc h hq (by omega) (by omega)], ?_⟩
  unfold C7_waits
  simp only [lit32]
  rw [ix_n (by omega) (by omega), bS]
  by_cases e : c (10 + 0) (137 + 25 * q + 3) = nI 0
  · rw [if_pos e, if_pos e, bS, nz_1, bS]
  · rw [if_neg e, if_neg e, bS, nz_0, bS]
theorem a_rush {r c : RS} {g : CG} {B T : Nat} {a : Int32} (h : GI r c g B T) : AT (F8_rush r a) (C7_rush g c a) r 0 B T := by
  obtain ⟨sm, lm, cm, h0⟩ := h.l
  have hcm := h0.a.cm30
  unfold F8_rush C7_rush
  simp only [lit32, neg1]
  rcases argCd (r := r) (c := c) (g := g) (a := a) (n := cm) (by omega) h0.v9 h0.n9 with ⟨q, s1, rfl, s2, s3⟩ | ⟨s2, s3⟩
  · have hq : q < 30 := by omega
    obtain ⟨w1, w2⟩ := waits_ok (r := th r 0) h0 s1
    rw [s2, s3, bS, bS, isThrown_1, bS, trR, w2, bS]
    simp only [if_true]
    have w1' : F8_ofCard (th r 0) (nI q) (nI 3) = some (c (10 + 0) (137 + 25 * q + 3)) := by rw [thR]; exact w1
    rw [w1', bS]
    by_cases e : c (10 + 0) (137 + 25 * q + 3) = nI 0
    · rw [if_pos e, if_pos e, if_neg nz0]
      have h1 : QY c g 0 (th r 0 1) sm lm cm B B := by rw [th_o (by decide)]; exact h0
      obtain ⟨r2, c2, g2, e1, e2, e3, e4, e5⟩ := keeps_ok h.thr h1
      have es : sC (c2 (10 + 0)) q 3 = nI 0 := by
        rw [← sC_r (v := c2 (10 + 0)) hq (by omega), e5.2.2.2.1 (10 + 0) (Or.inl rfl)]; exact e
      have q4 := QR.rush (x := nI 1) (Or.inr ⟨rfl, es⟩) e4 s1
      have q5 := QX.toY (by omega) q4
      obtain ⟨z, z1, z2⟩ := rush_L (r := r2) (x1 := nI q) (t4 := (g2, c2)) q5 cm 0 FUEL FUEL 0 (by omega) (by show cm < 10000; omega) (by show cm < 10000; omega) (by omega)
      have hK : F8_keeps (th r 0) = some (setR r2 (r2 1)) := by rw [← setR_self]; exact e1
      rw [hK, bS, F8_setsCard_s hq (by omega), bS, z1, bS, e2, bS, ix_n hq (by omega), bS, pt_n, bS]
      simp only
      rw [upC, z2, bS]
      exact AT.act (r2 := r2) (c2 := c2) (c' := c2) (g2 := g2) rfl rfl e3 (fun _ _ => rfl) q4 e5.t (Nat.le_refl _)
    · rw [if_neg e, if_neg e, if_pos rfl]
      exact AT.same h rfl rfl
  · rw [s2, s3, bS, bS, isThrown_0, bS, trL]
    refine Or.inr ⟨1, by omega, by omega, ?_, rfl⟩
    simp only [nz0, if_false]
theorem give_ok {c : RS} {g : CG} {L sm lm cm B U q : Nat} {v w iv : Nat → Int32} (hL : L < 12) (h : QX c g L v w iv sm lm cm B U) (hq : q < cm) (es : sC w q 3 = nI 0) :
    ∃ w' iv', C3_abandon g (setL c L w iv) L (nI q) = some (setL c L w' iv') ∧ QX c g L (upd (upd v (137 + 25 * q + 3) (nI 4)) (137 + 25 * q + 8) (nI 0)) w' iv' sm lm cm B U := by
  have hcm := h.a.cm30; have hlm := h.a.lm6
  have hq30 : q < 30 := by omega
  obtain ⟨l, hl, e0⟩ := h.c.lot q hq
  have hl6 : l < 6 := by omega
  obtain ⟨q0, f1, f2, f3, f4⟩ := h.l.next l hl
  have hz30 : cnt cm (loC (sC w) l) ≤ 30 := Nat.le_trans cnt_le hcm
  obtain ⟨q2, k1, k2, k3, k4, k5⟩ := abandon_w (c := c) (g := g) (iv := iv) (w := w) (z := cnt cm (loC (sC w) l)) (q0 := q0) (a := 0) (l := l) hL hq30 hq hl6 hz30 hcm f1 (by rw [sC_r (v := w) (by omega) (by omega)]; exact e0) (by omega) (by rw [sC_r (v := w) (by omega) (by omega)]; exact es) (by rw [sL_r (v := w) (by omega) (by omega)]; exact h.l.size l hl) (by rw [sE_r (v := w) (by omega) (by omega)]; exact f2) (fun p hp => by obtain ⟨k, m1, m2, -⟩ := h.l.byp l hl p hp; exact ⟨k, m1, m2⟩) (fun k hk => by obtain ⟨a, m1, m2⟩ := h.c.state k hk; exact ⟨a, m1, by rw [sC_r (v := w) (by omega) (by omega)]; exact m2⟩)
  have nf := not_fin (a := 0) (by omega) es
  have w4 : sC w q 4 = m1 := by
    rcases h.wh q hq with p | p
    · rw [es] at p; exact absurd p (nI_ne (by omega) (by omega) (by omega))
    · exact p
  have nh := h.s.nh1 hcm hq (by rw [es]; exact nI_ne (by omega) (by omega) (by omega))
  have eE : w (1100 + 8 * l + 2) = sE w l (4 - 2) := sE_r (v := w) (by omega) (by omega)
  refine ⟨_, _, k3, ?_⟩
  have C1 : sC (upd (upd v (137 + 25 * q + 3) (nI 4)) (137 + 25 * q + 8) (nI 0)) = up2 (up2 (sC v) q 3 (nI 4)) q 8 (nI 0) := by simp (disch := omega) only [sA_A, sA_S, sA_L, sA_C, sA_F, sA_P, sA_E, sA_M, sS_A, sS_S, sS_L, sS_C, sS_F, sS_P, sS_E, sS_M, sL_A, sL_S, sL_L, sL_C, sL_F, sL_P, sL_E, sL_M, sC_A, sC_S, sC_L, sC_C, sC_F, sC_P, sC_E, sC_M, sF_A, sF_S, sF_L, sF_C, sF_F, sF_P, sF_E, sF_M, sP_A, sP_S, sP_L, sP_C, sP_F, sP_P, sP_E, sP_M, sE_A, sE_S, sE_L, sE_C, sE_F, sE_P, sE_E, sE_M]
  have C2 : sC (upd (upd (upd (upd (upd w (137 + 25 * q + 8) (nI 0)) (137 + 25 * q + 3) (nI 4)) (137 + 25 * q + 4) m1) (1100 + 8 * l + 2) (w (1100 + 8 * l + 2) + nI 1)) (1100 + 8 * l + 0) (nI q2)) = up2 (up2 (sC w) q 8 (nI 0)) q 3 (nI 4) := by
    simp (disch := omega) only [sA_A, sA_S, sA_L, sA_C, sA_F, sA_P, sA_E, sA_M, sS_A, sS_S, sS_L, sS_C, sS_F, sS_P, sS_E, sS_M, sL_A, sL_S, sL_L, sL_C, sL_F, sL_P, sL_E, sL_M, sC_A, sC_S, sC_L, sC_C, sC_F, sC_P, sC_E, sC_M, sF_A, sF_S, sF_L, sF_C, sF_F, sF_P, sF_E, sF_M, sP_A, sP_S, sP_L, sP_C, sP_F, sP_P, sP_E, sP_M, sE_A, sE_S, sE_L, sE_C, sE_F, sE_P, sE_E, sE_M]
    refine up2_s ?_
    rw [up2_ne (by decide), up2_ne (by decide)]; exact w4
  have C3 : up2 (up2 (sC v) q 3 (nI 4)) q 8 (nI 0) = up2 (up2 (sC v) q 8 (nI 0)) q 3 (nI 4) := by
    (funext a b; simp only [up2_at]; repeat' split)
    all_goals (first | rfl | (exfalso; omega))
  have r8 : up2 (sC w) q 8 (nI 0) q 8 = nI 0 := up2_eq
  have es8 : up2 (sC w) q 8 (nI 0) q 3 = nI 0 := by rw [up2_ne (by decide)]; exact es
  have e08 : up2 (sC w) q 8 (nI 0) q 0 = nI l := by rw [up2_ne (by decide)]; exact e0
  have nf8 : ¬ fin (up2 (sC w) q 8 (nI 0)) q := not_fin (a := 0) (by omega) es8
  have lz : cnt cm (loC (up2 (sC w) q 8 (nI 0)) l) = cnt cm (loC (sC w) l) := by rw [loC_at (by decide)]
  have fe : ∀ k, fin (up2 (up2 (sC w) q 8 (nI 0)) q 3 (nI 4)) k ↔ fin (up2 (sC w) q 3 (nI 4)) k := fun k => by
    unfold fin
    by_cases e : k = q
    · rw [e, up2_eq, up2_eq]
    · rw [up2_ne1 e, up2_ne1 e, up2_ne1 e]
  refine ⟨?_, ?_, ?_, ?_, ?_, ?_, ?_⟩
  · simp (disch := omega) only [sA_A, sA_S, sA_L, sA_C, sA_F, sA_P, sA_E, sA_M, sS_A, sS_S, sS_L, sS_C, sS_F, sS_P, sS_E, sS_M, sL_A, sL_S, sL_L, sL_C, sL_F, sL_P, sL_E, sL_M, sC_A, sC_S, sC_L, sC_C, sC_F, sC_P, sC_E, sC_M, sF_A, sF_S, sF_L, sF_C, sF_F, sF_P, sF_E, sF_M, sP_A, sP_S, sP_L, sP_C, sP_F, sP_P, sP_E, sP_M, sE_A, sE_S, sE_L, sE_C, sE_F, sE_P, sE_E, sE_M]; exact h.a
  · rw [C2]; simp (disch := omega) only [sA_A, sA_S, sA_L, sA_C, sA_F, sA_P, sA_E, sA_M, sS_A, sS_S, sS_L, sS_C, sS_F, sS_P, sS_E, sS_M, sL_A, sL_S, sL_L, sL_C, sL_F, sL_P, sL_E, sL_M, sC_A, sC_S, sC_L, sC_C, sC_F, sC_P, sC_E, sC_M, sF_A, sF_S, sF_L, sF_C, sF_F, sF_P, sF_E, sF_M, sP_A, sP_S, sP_L, sP_C, sP_F, sP_P, sP_E, sP_M, sE_A, sE_S, sE_L, sE_C, sE_F, sE_P, sE_E, sE_M]; exact (h.s.cardk (by decide) (by decide)).card hq hcm nh
  · rw [C1, C2, C3]; exact QC.uState (by omega) (Or.inr r8) (QC.rushed (Or.inl rfl) h.c)
  · rw [C2]; simp (disch := omega) only [sA_A, sA_S, sA_L, sA_C, sA_F, sA_P, sA_E, sA_M, sS_A, sS_S, sS_L, sS_C, sS_F, sS_P, sS_E, sS_M, sL_A, sL_S, sL_L, sL_C, sL_F, sL_P, sL_E, sL_M, sC_A, sC_S, sC_L, sC_C, sC_F, sC_P, sC_E, sC_M, sF_A, sF_S, sF_L, sF_C, sF_F, sF_P, sF_E, sF_M, sP_A, sP_S, sP_L, sP_C, sP_F, sP_P, sP_E, sP_M, sE_A, sE_S, sE_L, sE_C, sE_F, sE_P, sE_E, sE_M]; exact QN.move hcm hq (by omega) (by omega) (by omega) (by omega) (by omega) es8 (h.n.cardk (by decide))
  · rw [C2]; simp (disch := omega) only [sA_A, sA_S, sA_L, sA_C, sA_F, sA_P, sA_E, sA_M, sS_A, sS_S, sS_L, sS_C, sS_F, sS_P, sS_E, sS_M, sL_A, sL_S, sL_L, sL_C, sL_F, sL_P, sL_E, sL_M, sC_A, sC_S, sC_L, sC_C, sC_F, sC_P, sC_E, sC_M, sF_A, sF_S, sF_L, sF_C, sF_F, sF_P, sF_E, sF_M, sP_A, sP_S, sP_L, sP_C, sP_F, sP_P, sP_E, sP_M, sE_A, sE_S, sE_L, sE_C, sE_F, sE_P, sE_E, sE_M, eE]
    refine QL.finish (b := 4) hcm hlm hq hl e08 nf8 (Or.inr rfl) (by rw [lz]; exact k2) (fun p c' hp hc' e => ?_) (by rw [lz]; exact fun k a b d => fun f => k5 k a b d ((fe k).mp f)) (h.l.cardk (by omega))
    refine (fe c').mpr ?_
    by_cases hp0 : p < q0
    · have := f3 p c' hp0 hc' e
      by_cases ec : c' = q
      · rw [ec] at this; exact absurd this nf
      · exact (fin_at (Or.inr ec)).mpr this
    · exact k4 p c' (by omega) hp hc' e
  · simp (disch := omega) only [sA_A, sA_S, sA_L, sA_C, sA_F, sA_P, sA_E, sA_M, sS_A, sS_S, sS_L, sS_C, sS_F, sS_P, sS_E, sS_M, sL_A, sL_S, sL_L, sL_C, sL_F, sL_P, sL_E, sL_M, sC_A, sC_S, sC_L, sC_C, sC_F, sC_P, sC_E, sC_M, sF_A, sF_S, sF_L, sF_C, sF_F, sF_P, sF_E, sF_M, sP_A, sP_S, sP_L, sP_C, sP_F, sP_P, sP_E, sP_M, sE_A, sE_S, sE_L, sE_C, sE_F, sE_P, sE_E, sE_M]; exact h.d
  · rw [C2]
    intro k hk
    by_cases e : k = q
    · right; rw [e, up2_ne (by decide), up2_ne (by decide)]; exact w4
    · rw [up2_ne1 e, up2_ne1 e, up2_ne1 e, up2_ne1 e]; exact h.wh k hk
theorem a_giveUp {r c : RS} {g : CG} {B T : Nat} {a : Int32} (h : GI r c g B T) : AT (F8_giveUp r a) (C7_giveUp g c a) r 0 B T := by
  obtain ⟨sm, lm, cm, h0⟩ := h.l
  have hcm := h0.a.cm30
  unfold F8_giveUp C7_giveUp
  simp only [lit32, neg1]
  rcases argCd (r := r) (c := c) (g := g) (a := a) (n := cm) (by omega) h0.v9 h0.n9 with ⟨q, s1, rfl, s2, s3⟩ | ⟨s2, s3⟩
  · have hq : q < 30 := by omega
    obtain ⟨w1, w2⟩ := waits_ok (r := th r 0) h0 s1
    rw [s2, s3, bS, bS, isThrown_1, bS, trR, w2, bS]
    simp only [if_true]
    have w1' : F8_ofCard (th r 0) (nI q) (nI 3) = some (c (10 + 0) (137 + 25 * q + 3)) := by rw [thR]; exact w1
    rw [w1', bS]
    by_cases e : c (10 + 0) (137 + 25 * q + 3) = nI 0
    · rw [if_pos e, if_pos e, if_neg nz0]
      have h1 : QY c g 0 (th r 0 1) sm lm cm B B := by rw [th_o (by decide)]; exact h0
      obtain ⟨r2, c2, g2, e1, e2, e3, e4, e5⟩ := keeps_ok h.thr h1
      have es : sC (c2 (10 + 0)) q 3 = nI 0 := by
        rw [← sC_r (v := c2 (10 + 0)) hq (by omega), e5.2.2.2.1 (10 + 0) (Or.inl rfl)]; exact e
      obtain ⟨w', iv', j1, j2⟩ := give_ok (L := 0) (by omega) e4 s1 es
      rw [← cL (L := 0)] at j1
      have hK : F8_keeps (th r 0) = some (setR r2 (r2 1)) := by rw [← setR_self]; exact e1
      have iS := inState_ok (r := r2) (a := 0) j2 (by omega)
      rw [hK, bS, F8_setsCard_s hq (by omega), bS, F8_setsCard_s hq (by omega), bS, iS, bS, e2, bS]
      simp only
      rw [j1, bS]
      have e400 : setL c2 0 w' iv' (400 + 0) 0 = iv' 0 := by rw [setL_iv]
      rw [e400]
      exact AT.act (r2 := r2) (c2 := c2) (c' := c2) (g2 := g2) rfl rfl e3 (fun _ _ => rfl) j2 e5.t (Nat.le_refl _)
    · rw [if_neg e, if_neg e, if_pos rfl]
      exact AT.same h rfl rfl
  · rw [s2, s3, bS, bS, isThrown_0, bS, trL]
    refine Or.inr ⟨1, by omega, by omega, ?_, rfl⟩
    simp only [nz0, if_false]
end
