theorem inStateOf_L {r : RS} {v : Nat → Int32} {l a cm : Nat} (ha : a < 5) (hcm : cm ≤ 30) (h9 : v 9 = nI cm) : ∀ (d y fu s : Nat), y + d = cm → d < fu → s = cnt y (lsC (sC v) l a) → F8_inStateOf_L5 (nI l) (nI a) (setR r v) fu (nI y) (nI s) = some (nI cm, nI (cnt cm (lsC (sC v) l a))) := by
  intro d
  induction d with
  | zero =>
    intro y fu s hy hfu hs
    obtain ⟨fu, rfl⟩ : ∃ m, fu = m + 1 := ⟨fu - 1, by omega⟩
    obtain rfl : y = cm := by omega
    rw [F8_inStateOf_L5]
    simp (disch := omega) only [lit32, neg1, nI_add, nI_mul, bS, pt_n, ix_n, rd_n, ws_n, rdo_n, wso_n, setR_1, setL_w, setL_iv, up_setR, up_setL_w, up_setL_iv, nz_0, nz_1, h9]
    rw [if_pos (nI_le (by omega) (by omega)), hs]
  | succ d ih =>
    intro y fu s hy hfu hs
    obtain ⟨fu, rfl⟩ : ∃ m, fu = m + 1 := ⟨fu - 1, by omega⟩
    rw [F8_inStateOf_L5]
    simp (disch := omega) only [lit32, neg1, nI_add, nI_mul, bS, pt_n, ix_n, rd_n, ws_n, rdo_n, wso_n, setR_1, setL_w, setL_iv, up_setR, up_setL_w, up_setL_iv, nz_0, nz_1, h9, F8_ofCard_v]
    rw [if_neg (nI_ge (by omega) (by omega))]
    have e : (if v (137 + 25 * y + 0) = nI l then (if v (137 + 25 * y + 3) = nI a then some (nI 1) else some (nI 0)) else some (nI 0) : Option Int32) = some (nI (if lsC (sC v) l a y then 1 else 0)) := by
      unfold lsC
      rw [← sC_r (v := v) (by omega) (by omega), ← sC_r (v := v) (by omega) (by omega)]
      by_cases h : v (137 + 25 * y + 0) = nI l
      · rw [if_pos h]
        by_cases h2 : v (137 + 25 * y + 3) = nI a
        · rw [if_pos h2, if_pos (decide_eq_true ⟨h, h2⟩)]
        · rw [if_neg h2, if_neg (by simpa using fun _ => h2)]
      · rw [if_neg h, if_neg (by simpa using fun q => absurd q h)]
    rw [e]
    simp (disch := omega) only [lit32, neg1, nI_add, nI_mul, bS, pt_n, ix_n, rd_n, ws_n, rdo_n, wso_n, setR_1, setL_w, setL_iv, up_setR, up_setL_w, up_setL_iv, nz_0, nz_1]
    refine ih (y + 1) fu _ (by omega) (by omega) ?_
    rw [hs]; rfl
theorem inStateOf_ok {r : RS} {v : Nat → Int32} {l a cm : Nat} (ha : a < 5) (hcm : cm ≤ 30) (h9 : v 9 = nI cm) : F8_inStateOf (setR r v) (nI l) (nI a) = some (nI (cnt cm (lsC (sC v) l a))) := by
  unfold F8_inStateOf
  simp only [lit32]
  rw [inStateOf_L ha hcm h9 cm 0 FUEL 0 (by omega) (by show cm < 10000; omega) rfl, bS]
theorem sumOf_L {r : RS} {v : Nat → Int32} {l k cm : Nat} (hk : k < 25) (hcm : cm ≤ 30) (h9 : v 9 = nI cm) : ∀ (d y fu : Nat) (s : Int32), y + d = cm → d < fu → s = sumI y (suC (sC v) l k) → F8_sumOf_L5 (nI l) (nI k) (setR r v) fu (nI y) s = some (nI cm, sumI cm (suC (sC v) l k)) := by
  intro d
  induction d with
  | zero =>
    intro y fu s hy hfu hs
    obtain ⟨fu, rfl⟩ : ∃ m, fu = m + 1 := ⟨fu - 1, by omega⟩
    obtain rfl : y = cm := by omega
    rw [F8_sumOf_L5]
    simp (disch := omega) only [lit32, neg1, nI_add, nI_mul, bS, pt_n, ix_n, rd_n, ws_n, rdo_n, wso_n, setR_1, setL_w, setL_iv, up_setR, up_setL_w, up_setL_iv, nz_0, nz_1, h9]
    rw [if_pos (nI_le (by omega) (by omega)), hs]
  | succ d ih =>
    intro y fu s hy hfu hs
    obtain ⟨fu, rfl⟩ : ∃ m, fu = m + 1 := ⟨fu - 1, by omega⟩
    rw [F8_sumOf_L5]
    simp (disch := omega) only [lit32, neg1, nI_add, nI_mul, bS, pt_n, ix_n, rd_n, ws_n, rdo_n, wso_n, setR_1, setL_w, setL_iv, up_setR, up_setL_w, up_setL_iv, nz_0, nz_1, h9, F8_ofCard_v]
    rw [if_neg (nI_ge (by omega) (by omega))]
    have e : (if v (137 + 25 * y + 0) = nI l then some (v (137 + 25 * y + k)) else some (nI 0) : Option Int32) = some (suC (sC v) l k y) := by
      unfold suC
      rw [← sC_r (v := v) (by omega) (by omega), ← sC_r (v := v) (by omega) hk]
      by_cases h : v (137 + 25 * y + 0) = nI l
      · rw [if_pos h, if_pos h]
      · rw [if_neg h, if_neg h]
    rw [e]
    simp (disch := omega) only [lit32, neg1, nI_add, nI_mul, bS, pt_n, ix_n, rd_n, ws_n, rdo_n, wso_n, setR_1, setL_w, setL_iv, up_setR, up_setL_w, up_setL_iv, nz_0, nz_1]
    refine ih (y + 1) fu _ (by omega) (by omega) ?_
    rw [hs]; rfl
theorem sumOf_ok {r : RS} {v : Nat → Int32} {l k cm : Nat} (hk : k < 25) (hcm : cm ≤ 30) (h9 : v 9 = nI cm) : F8_sumOf (setR r v) (nI l) (nI k) = some (sumI cm (suC (sC v) l k)) := by
  unfold F8_sumOf
  simp only [lit32]
  rw [sumOf_L hk hcm h9 cm 0 FUEL (nI 0) (by omega) (by show cm < 10000; omega) nI_0, bS]
theorem q_lot {r c : RS} {g : CG} {B T : Nat} {a b : Int32} (h : GI r c g B T) : QT (F8_lot r a b) (C7_lot g c a b) r 0 := by
  obtain ⟨sm, lm, cm, h0⟩ := h.l
  have hlm := h0.a.lm6; have hcm := h0.a.cm30
  unfold F8_lot C7_lot
  simp only [lit32, neg1]
  rcases argLo (r := r) (c := c) (g := g) (a := a) (n := lm) (by omega) h0.v8 h0.n8 with ⟨l, s1, rfl, s2, s3⟩ | ⟨s2, s3⟩
  · have hl6 : l < 6 := by omega
    rw [s2, s3, bS, bS, isThrown_1, bS, trR, ix_n hl6 (by omega), bS]
    simp only [if_true]
    have e : ∀ k, k < 4 → r 1 (113 + 4 * l + k) = c (10 + 0) (113 + 4 * l + k) := fun k hk => by
      rw [sL_r (v := r 1) hl6 hk, sL_r (v := c (10 + 0)) hl6 hk]; exact h0.l.eql l k s1 hk
    have C : ∀ q k, q < cm → k < 9 → k ≠ 2 → sC (r 1) q k = sC (c (10 + 0)) q k := fun q k a b d => h0.c.eqc q k a b d
    have eE : ∀ k, k < 8 → c (10 + 0) (1100 + 8 * l + k) = sE (c (10 + 0)) l k := fun k hk => sE_r (v := c (10 + 0)) hl6 hk
    have cls : ∀ a, cnt cm (lsC (sC (r 1)) l a) = cnt cm (lsC (sC (c (10 + 0))) l a) := fun a => cnt_congr fun i hi => by unfold lsC; rw [C i 0 hi (by omega) (by omega), C i 3 hi (by omega) (by omega)]
    have csu : ∀ k, k < 9 → k ≠ 2 → sumI cm (suC (sC (r 1)) l k) = sumI cm (suC (sC (c (10 + 0))) l k) := fun k hk h2 => sumI_congr fun i hi => by unfold suC; rw [C i 0 hi (by omega) (by omega), C i k hi hk h2]
    rcases argR (a := b) (lo := 0) (hi := 6) (by omega) (by omega) (l := 0) (h := 6) rfl rfl with ⟨k, k1, k2, rfl, k3, k4⟩ | ⟨k3, k4, k5⟩
    · rw [k3, isThrown_1, bS, th_th, thR]
      simp only [if_true]
      rcases (show k = 0 ∨ k = 1 ∨ k = 2 ∨ k = 3 ∨ k = 4 ∨ k = 5 ∨ k = 6 by omega) with rfl | rfl | rfl | rfl | rfl | rfl | rfl
      · simp (disch := omega) only [ifn, if_true]
        rw [F8_ofLot_v hl6 (by omega), bS, ← thR, e 0 (by omega)]; exact Or.inl ⟨_, rfl, rfl⟩
      · simp (disch := omega) only [ifn, if_true]
        rw [F8_ofLot_v hl6 (by omega), bS, ← thR, e 1 (by omega)]; exact Or.inl ⟨_, rfl, rfl⟩
      · simp (disch := omega) only [ifn, if_true]
        rw [inStateOf_ok (by omega) hcm h0.v9, bS, ← thR, cls, eE 1 (by omega), h0.l.left l s1]; exact Or.inl ⟨_, rfl, rfl⟩
      · simp (disch := omega) only [ifn, if_true]
        rw [inStateOf_ok (by omega) hcm h0.v9, bS, ← thR, cls, eE 2 (by omega), h0.l.gave l s1]; exact Or.inl ⟨_, rfl, rfl⟩
      · simp (disch := omega) only [ifn, if_true]
        rw [sumOf_ok (by omega) hcm h0.v9, bS, ← thR, csu 5 (by omega) (by omega), eE 3 (by omega), h0.l.fails l s1]; exact Or.inl ⟨_, rfl, rfl⟩
      · simp (disch := omega) only [ifn, if_true]
        rw [sumOf_ok (by omega) hcm h0.v9, bS, ← thR, csu 6 (by omega) (by omega), eE 4 (by omega), h0.l.scraps l s1]; exact Or.inl ⟨_, rfl, rfl⟩
      · obtain ⟨x, x1, x2, -⟩ := next_ok (r := th r 0) (by omega : 0 < 12) h0 s1
        rw [← cL (L := 0)] at x2
        simp (disch := omega) only [ifn, if_true]
        rw [x1, bS, x2, bS, ← thR]; exact Or.inl ⟨_, rfl, rfl⟩
    · rw [k3, isThrown_0, bS, th_th]
      refine Or.inr ⟨2, by omega, by omega, ?_, ?_⟩
      · simp only [nz0, if_false]
      · have e := fun (x : Nat) (hx : x < 7) {α : Type} (p q : α) => ifo (x := p) (y := q) (n := 7) (k := x) (a := b) (by omega) hx (by omega)
        simp (disch := omega) only [e]
  · rw [s2, s3, bS, bS, isThrown_0, bS, trL]
    refine Or.inr ⟨1, by omega, by omega, ?_, rfl⟩
    simp only [nz0, if_false]
noncomputable def mtch (v : Nat → Int32) (a b : Int32) (k : Nat) : Prop := v (137 + 25 * k + 0) = a ∧ v (137 + 25 * k + 1) = b
theorem at_L {r : RS} {v : Nat → Int32} {a b : Int32} {cm : Nat} (hcm : cm ≤ 30) (h9 : v 9 = nI cm) : ∀ (d y fu : Nat), y + d = cm → d < fu → (∀ k, k < y → ¬ mtch v a b k) → (∃ k, k < cm ∧ mtch v a b k ∧ F8_at_L2 a b (setR r v) fu (nI y) = some (.inl (nI k))) ∨ ((∀ k, k < cm → ¬ mtch v a b k) ∧ F8_at_L2 a b (setR r v) fu (nI y) = some (.inr (nI cm))) := by
  intro d
  induction d with
  | zero =>
    intro y fu hy hfu hn
    obtain ⟨fu, rfl⟩ : ∃ m, fu = m + 1 := ⟨fu - 1, by omega⟩
    obtain rfl : y = cm := by omega
    refine Or.inr ⟨hn, ?_⟩
    rw [F8_at_L2]
    simp (disch := omega) only [lit32, neg1, nI_add, nI_mul, bS, pt_n, ix_n, rd_n, ws_n, rdo_n, wso_n, setR_1, setL_w, setL_iv, up_setR, up_setL_w, up_setL_iv, nz_0, nz_1, h9]
    rw [if_pos (nI_le (by omega) (by omega))]
  | succ d ih =>
    intro y fu hy hfu hn
    obtain ⟨fu, rfl⟩ : ∃ m, fu = m + 1 := ⟨fu - 1, by omega⟩
    rw [F8_at_L2]
    simp (disch := omega) only [lit32, neg1, nI_add, nI_mul, bS, pt_n, ix_n, rd_n, ws_n, rdo_n, wso_n, setR_1, setL_w, setL_iv, up_setR, up_setL_w, up_setL_iv, nz_0, nz_1, h9, F8_ofCard_v]
    rw [if_neg (nI_ge (by omega) (by omega))]
    by_cases h0 : v (137 + 25 * y + 0) = a
    · rw [if_pos h0]
      by_cases h1 : v (137 + 25 * y + 1) = b
      · rw [if_pos h1]; exact Or.inl ⟨y, by omega, ⟨h0, h1⟩, rfl⟩
      · rw [if_neg h1]
        refine ih (y + 1) fu (by omega) (by omega) fun k hk q => ?_
        by_cases e : k = y
        · rw [e] at q; exact h1 q.2
        · exact hn k (by omega) q
    · rw [if_neg h0]
      refine ih (y + 1) fu (by omega) (by omega) fun k hk q => ?_
      by_cases e : k = y
      · rw [e] at q; exact h0 q.1
      · exact hn k (by omega) q
theorem q_cardOf {r c : RS} {g : CG} {B T : Nat} {a b : Int32} (h : GI r c g B T) : QT (F8_cardOf r a b) (C7_cardOf g c a b) r 0 := by
  obtain ⟨sm, lm, cm, h0⟩ := h.l
  have hlm := h0.a.lm6; have hcm := h0.a.cm30
  unfold F8_cardOf C7_cardOf
  simp only [lit32, neg1]
  rcases argLo (r := r) (c := c) (g := g) (a := a) (n := lm) (by omega) h0.v8 h0.n8 with ⟨l, s1, rfl, s2, s3⟩ | ⟨s2, s3⟩
  · have hl6 : l < 6 := by omega
    rw [s2, s3, bS, bS, isThrown_1, bS, trR, ix_n hl6 (by omega), bS]
    simp only [if_true]
    have C : ∀ q k, q < cm → k < 9 → k ≠ 2 → r 1 (137 + 25 * q + k) = sC (c (10 + 0)) q k := fun q k a b d => by
      rw [QR.rc h0 a b d, sC_r (v := c (10 + 0)) (by omega) (by omega)]
    have hz : cnt cm (loC (sC (c (10 + 0))) l) ≤ 30 := Nat.le_trans cnt_le hcm
    have hsz : c (10 + 0) (113 + 4 * l + 1) = nI (cnt cm (loC (sC (c (10 + 0))) l)) := by rw [sL_r (v := c (10 + 0)) hl6 (by omega)]; exact h0.l.size l s1
    have key := at_L (r := th r 0) (v := r 1) (a := nI l) (b := b) hcm h0.v9 cm 0 FUEL (by omega) (by show cm < 10000; omega) (fun k hk => by omega)
    have hF : ∀ x, ((F8_at_L2 (nI l) b (setR (th r 0) (r 1)) FUEL (nI 0)).bind fun t3 => match t3 with | .inl r => some r | .inr t7 => some m1) = some x → F8_at (th r 0) (nI l) b = some x := fun x e => by
      unfold F8_at; simp only [lit32, neg1]; rw [thR]; exact e
    unfold C4_cardAt
    simp only [lit32, neg1]
    rw [hsz]
    rcases below (a := b) (n := cnt cm (loC (sC (c (10 + 0))) l)) (by omega) with ⟨p, hp, rfl⟩ | hb
    · obtain ⟨q, q1, q2, q3, q4⟩ := h0.l.byp l s1 p hp
      rw [if_neg (nI_nlt (by omega) (by omega)), if_neg (nI_ge hp (by omega)), rd_n (by omega) (by omega), bS, bS, bS]
      rcases key with ⟨k, k1, ⟨k2, k3⟩, k4⟩ | ⟨k1, -⟩
      · rw [C k 0 k1 (by omega) (by omega)] at k2
        rw [C k 1 k1 (by omega) (by omega)] at k3
        obtain ⟨p', p1, p2, p3⟩ := h0.l.place l k s1 k1 k2
        obtain rfl : p' = p := (nI_eq (by omega) (by omega)).mp (p2.symm.trans k3)
        rw [hF (nI k) (by rw [k4]; rfl), bS, bS]
        exact Or.inl ⟨_, rfl, by rw [← p3]⟩
      · exact absurd ⟨by rw [C q 0 q1 (by omega) (by omega)]; exact q3, by rw [C q 1 q1 (by omega) (by omega)]; exact q4⟩ (k1 q q1)
    · have hC : (if b < nI 0 then some m1 else (if nI (cnt cm (loC (sC (c (10 + 0))) l)) ≤ b then some m1 else ((rd c (100 + 6 * 0 + l) 30 b).bind fun x6 => some x6)) : Option Int32) = some m1 := by
        by_cases hb0 : b < nI 0
        · rw [if_pos hb0]
        · have hb1 : ¬ b.toInt < 0 := fun q => hb0 (lt0.mpr q)
          rw [if_neg hb0, if_pos ((gen (by omega)).mpr (by omega))]
      rw [hC, bS, bS]
      rcases key with ⟨k, k1, ⟨k2, k3⟩, k4⟩ | ⟨-, k4⟩
      · rw [C k 0 k1 (by omega) (by omega)] at k2
        rw [C k 1 k1 (by omega) (by omega)] at k3
        obtain ⟨p', p1, p2, p3⟩ := h0.l.place l k s1 k1 k2
        rw [← k3, p2, nI_toInt (by omega)] at hb
        omega
      · rw [hF m1 (by rw [k4]; rfl), bS, bS]
        exact Or.inl ⟨_, rfl, rfl⟩
  · rw [s2, s3, bS, bS, isThrown_0, bS, trL]
    refine Or.inr ⟨1, by omega, by omega, ?_, rfl⟩
    simp only [nz0, if_false, bS]
theorem tray_L {r c : RS} {g : CG} {cm k : Nat} {v : Nat → Int32} (hk : k < 2 ^ 31) (hcm : cm ≤ 30) (h9v : v 9 = nI cm) (h9w : c (10 + 0) 9 = nI cm) (e3 : ∀ q, q < cm → v (137 + 25 * q + 3) = c (10 + 0) (137 + 25 * q + 3)) : ∀ (d y fu fu2 b : Nat), y + d = cm → d < fu → d < fu2 → b ≤ k → b ≤ y →
    (∃ q, F8_trayAt_L9 (nI k) (setR r v) fu (nI y) (nI (k - b)) = some (.inl (nI q, setR r v)) ∧ C7_trayAt_L4 (nI k) g c fu2 (nI y) (nI b) = some (.inl (nI q))) ∨ (∃ t t2, F8_trayAt_L9 (nI k) (setR r v) fu (nI y) (nI (k - b)) = some (.inr t) ∧ C7_trayAt_L4 (nI k) g c fu2 (nI y) (nI b) = some (.inr t2)) := by
  intro d
  induction d with
  | zero =>
    intro y fu fu2 b hy hfu hfu2 hb hby
    obtain ⟨fu, rfl⟩ : ∃ m, fu = m + 1 := ⟨fu - 1, by omega⟩
    obtain ⟨fu2, rfl⟩ : ∃ m, fu2 = m + 1 := ⟨fu2 - 1, by omega⟩
    obtain rfl : y = cm := by omega
    right
    rw [F8_trayAt_L9, C7_trayAt_L4, setR_1, h9v, h9w, if_pos (nI_le (by omega) (by omega)), if_pos (nI_le (by omega) (by omega))]
    exact ⟨_, _, rfl, rfl⟩
  | succ d ih =>
    intro y fu fu2 b hy hfu hfu2 hb hby
    obtain ⟨fu, rfl⟩ : ∃ m, fu = m + 1 := ⟨fu - 1, by omega⟩
    obtain ⟨fu2, rfl⟩ : ∃ m, fu2 = m + 1 := ⟨fu2 - 1, by omega⟩
    rw [F8_trayAt_L9, C7_trayAt_L4]
    simp only [lit32, neg1]
    rw [setR_1, h9v, h9w, if_neg (nI_ge (by omega) (by omega)), if_neg (nI_ge (by omega) (by omega)), if_neg (nI_nlt (by omega) (by omega)), F8_ofCard_v (by omega) (by omega), bS, ix_n (by omega) (by omega), bS, e3 y (by omega)]
    by_cases h2 : c (10 + 0) (137 + 25 * y + 3) = nI 2
    · rw [if_pos h2, if_pos h2]
      by_cases h0 : b = k
      · rw [if_pos (by rw [h0, Nat.sub_self]), if_pos (by rw [h0])]
        exact Or.inl ⟨y, rfl, rfl⟩
      · rw [if_neg (nI_ne (by omega) (by omega) (by omega)), if_neg (nI_ne h0 (by omega) (by omega)), im1 (by omega), nI_add, nI_add, show k - b - 1 = k - (b + 1) by omega]
        exact ih (y + 1) fu fu2 (b + 1) (by omega) (by omega) (by omega) (by omega) (by omega)
    · rw [if_neg h2, if_neg h2, nI_add]
      exact ih (y + 1) fu fu2 b (by omega) (by omega) (by omega) hb (by omega)
theorem trayN_L {c : RS} {g : CG} {cm : Nat} {a : Int32} (ha : a.toInt < 0) (hcm : cm ≤ 30) (h9w : c (10 + 0) 9 = nI cm) : ∀ (d y fu2 b : Nat), y + d = cm → d < fu2 → b ≤ y → ∃ t2, C7_trayAt_L4 a g c fu2 (nI y) (nI b) = some (.inr t2) := by
  intro d
  induction d with
  | zero =>
    intro y fu2 b hy hfu2 hby
    obtain ⟨fu2, rfl⟩ : ∃ m, fu2 = m + 1 := ⟨fu2 - 1, by omega⟩
    obtain rfl : y = cm := by omega
    rw [C7_trayAt_L4, h9w, if_pos (nI_le (by omega) (by omega))]
    exact ⟨_, rfl⟩
  | succ d ih =>
    intro y fu2 b hy hfu2 hby
    obtain ⟨fu2, rfl⟩ : ∃ m, fu2 = m + 1 := ⟨fu2 - 1, by omega⟩
    rw [C7_trayAt_L4]
    simp only [lit32]
    rw [h9w, if_neg (nI_ge (by omega) (by omega)), ix_n (by omega) (by omega), bS, nI_add, nI_add, if_neg (c := nI b = a) (fun e => by rw [← e, nI_toInt (by omega)] at ha; omega)]
    by_cases h2 : c (10 + 0) (137 + 25 * y + 3) = nI 2
    · rw [if_pos h2]; exact ih (y + 1) fu2 (b + 1) (by omega) (by omega) (by omega)
    · rw [if_neg h2]; exact ih (y + 1) fu2 b (by omega) (by omega) (by omega)
theorem q_trayAt {r c : RS} {g : CG} {B T : Nat} {a : Int32} (h : GI r c g B T) : QP (F8_trayAt r a) (C7_trayAt g c a) r := by
  obtain ⟨sm, lm, cm, h0⟩ := h.l
  have hcm := h0.a.cm30
  unfold F8_trayAt C7_trayAt
  simp only [lit32, neg1]
  rw [zth, bS]
  by_cases ha : 0 ≤ a.toInt
  · obtain ⟨e, hk⟩ := nI_ofInt ha
    generalize a.toInt.toNat = k at e hk
    subst e
    rcases tray_L (r := th r 0) (c := c) (g := g) (v := r 1) hk hcm h0.v9 h0.n9 (fun q hq => QR.rc h0 hq (by omega) (by omega)) cm 0 FUEL FUEL 0 (by omega) (by show cm < 10000; omega) (by show cm < 10000; omega) (by omega) (by omega) with ⟨q, q1, q2⟩ | ⟨t, t2, q1, q2⟩
    · rw [Nat.sub_zero] at q1
      refine ⟨nI q, ?_, ?_⟩
      · rw [thR, q1, bS]
      · rw [q2, bS]
    · rw [Nat.sub_zero] at q1
      refine ⟨m1, ?_, ?_⟩
      · rw [thR, q1, bS]
      · rw [q2, bS]
  · obtain ⟨t2, q2⟩ := trayN_L (c := c) (g := g) (a := a) (by omega) hcm h0.n9 cm 0 FUEL 0 (by omega) (by show cm < 10000; omega) (by omega)
    refine ⟨m1, ?_, ?_⟩
    · show ((F8_trayAt_L9 a (th r 0) (9999 + 1) (nI 0) a).bind _) = _
      rw [F8_trayAt_L9, th1, h0.v9]
      simp only [lit32]
      by_cases hc : nI cm ≤ nI 0
      · rw [if_pos hc, bS]
      · rw [if_neg hc, if_pos (lt0.mpr (by omega)), bS]
    · rw [q2, bS]
theorem q_day {r c : RS} {g : CG} {B T : Nat} {a b d : Int32} (h : GI r c g B T) : QT (F8_day r a b d) (C7_day g c a b d) r 0 := by
  obtain ⟨sm, lm, cm, h0⟩ := h.l
  have hlm := h0.a.lm6; have hBB := h0.a.bb
  unfold F8_day C7_day
  simp only [lit32, neg1]
  rcases argLo (r := r) (c := c) (g := g) (a := b) (n := lm) (by omega) h0.v8 h0.n8 with ⟨l, s1, rfl, s2, s3⟩ | ⟨s2, s3⟩
  · have hl6 : l < 6 := by omega
    rw [s2, s3, bS, bS, isThrown_1, bS, trR]
    simp only [if_true]
    by_cases ha : a < nI 0
    · rw [if_pos ha, if_pos ha, bS, isThrown_0, bS, th_th]
      refine Or.inr ⟨2, by omega, by omega, ?_, rfl⟩
      simp only [nz0, if_false]
    · rw [if_neg ha, if_neg ha]
      have ha1 : ¬ a.toInt < 0 := fun q => ha (lt0.mpr q)
      obtain ⟨ea, hk⟩ := nI_ofInt (a := a) (by omega)
      generalize a.toInt.toNat = k at ea hk
      subst ea
      rcases argR (a := d) (lo := 0) (hi := 1) (by omega) (by omega) (l := 0) (h := 1) rfl rfl with ⟨w, k1, k2, rfl, k3, k4⟩ | ⟨k3, k4, k5⟩
      · rw [k3, if_neg nz0, bS, isThrown_1, bS, th_th, if_neg (nI_nlt (by omega) (by omega)), if_pos (nI_le k2 (by omega))]
        simp only [if_true]
        obtain ⟨t, t1, t2⟩ := h0.a.time
        obtain ⟨y, y1, y2, y3⟩ := h0.a.day
        have c6 : c (10 + 0) 6 = nI t := by rw [sA_r (v := c (10 + 0)) (by omega)]; exact t2
        have c0 : c (10 + 0) 0 = nI y := by rw [sA_r (v := c (10 + 0)) (by omega)]; exact y3
        have v11 : r 1 11 = nI (min 10 (t / y)) := by rw [sA_r (v := r 1) (by omega)]; exact h0.d.many y t (by omega) (by omega) y3 t2
        have q2 : t / y ≤ t := Nat.div_le_self _ _
        have hD : C3_daysOver g c 0 = some (nI (t / y)) := by
          unfold C3_daysOver
          simp only [lit32]
          rw [c0, c6, if_neg (nI_ge (by omega) (by omega))]
          unfold dv
          rw [if_neg (show ¬ nI y = 0 from nI_ne0 (by omega) (by omega)), pk_div (by omega) (by omega) (by omega), bS, bS]
        rw [hD, bS, th1, v11]
        by_cases hi : k < min 10 (t / y)
        · have hr := h0.d.ring y t l k (by omega) (by omega) y3 t2 s1 hi
          rw [if_neg (nI_ge hi (by omega)), if_neg (nI_ge (by omega) (by omega)), if_pos (nI_lt (by omega) (by omega))]
          simp only [nI_add, nI_mul]
          rw [rd_n (by omega) (by omega), bS, bS, nI_sub (by omega), nI_sub (by omega), rm_n (by omega) (by omega) (by omega), bS, th1, ix_n hl6 (by omega)]
          have hm : (t / y - 1 - k) % 10 < 10 := Nat.mod_lt _ (by omega)
          rcases (show w = 0 ∨ w = 1 by omega) with rfl | rfl
          · rw [if_pos rfl, bS, rd_n hm (by omega), bS, bS]
            refine Or.inl ⟨_, rfl, ?_⟩
            rw [← hr.1, ← sP_r (v := r 1) (by omega)]
            exact congrArg (fun x => some (Sum.inr (r 1 x))) (by omega)
          · rw [if_neg nz0, bS, rd_n hm (by omega), bS, bS]
            refine Or.inl ⟨_, rfl, ?_⟩
            rw [← hr.2, ← sP_r (v := r 1) (by omega)]
            exact congrArg (fun x => some (Sum.inr (r 1 x))) (by omega)
        · rw [if_pos (nI_le (by omega) hk), bS]
          by_cases h10 : nI 10 ≤ nI k
          · rw [if_pos h10]; exact Or.inl ⟨_, rfl, rfl⟩
          · have h10' : k < 10 := by
              by_cases q : k < 10
              · exact q
              · exact absurd (nI_le (by omega) hk) h10
            rw [if_neg h10, if_neg (nI_nlt (by omega) (by omega))]; exact Or.inl ⟨_, rfl, rfl⟩
      · rw [k3, if_pos rfl, bS, isThrown_0, bS, th_th]
        have hC : ∀ X : Option (Sum Int32 Int32), (if d < nI 0 then some (.inl (nI 2)) else (if d ≤ nI 1 then X else some (.inl (nI 2))) : Option (Sum Int32 Int32)) = some (.inl (nI 2)) := fun X => by
          by_cases hd : d < nI 0
          · rw [if_pos hd]
          · have hd1 : ¬ d.toInt < 0 := fun q => hd (lt0.mpr q)
            rw [if_neg hd, if_neg (fun q => by have := (len (by omega)).mp q; omega)]
        refine Or.inr ⟨2, by omega, by omega, ?_, hC _⟩
        simp only [nz0, if_false]
  · rw [s2, s3, bS, bS, isThrown_0, bS, trL]
    refine Or.inr ⟨1, by omega, by omega, ?_, rfl⟩
    simp only [nz0, if_false]
