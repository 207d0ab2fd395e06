noncomputable def clsN (v : Nat → Int32) (k : Nat) : Nat := if v (137 + 25 * k + 8) = nI 1 then 0 else if v (137 + 25 * k + 5) + v (137 + 25 * k + 6) ≤ nI 0 then 2 else 1
theorem classOf_v {r : RS} {v : Nat → Int32} {k : Nat} (hk : k < 30) : F8_classOf (setR r v) (nI k) = some (nI (clsN v k)) := by
  unfold F8_classOf clsN
  simp (disch := omega) only [lit32, neg1, nI_add, nI_mul, bS, pt_n, ix_n, rd_n, ws_n, rdo_n, wso_n, setR_1, setL_w, setL_iv, up_setR, up_setL_w, up_setL_iv, nz_0, nz_1, F8_ofCard_v]
  by_cases h8 : v (137 + 25 * k + 8) = nI 1
  · rw [if_pos h8, if_pos h8, bS]
  · rw [if_neg h8, if_neg h8]
    by_cases h5 : v (137 + 25 * k + 5) + v (137 + 25 * k + 6) ≤ nI 0
    · rw [if_pos h5, if_pos h5, bS]
    · rw [if_neg h5, if_neg h5, bS]
theorem clsN_le {v : Nat → Int32} {k : Nat} : clsN v k ≤ 2 := by
  unfold clsN
  split
  · omega
  · split <;> omega
theorem isAhead_v {r : RS} {v : Nat → Int32} {a b la lb pa pb : Nat} (ha : a < 30) (hb : b < 30) (hla : la < 6) (hlb : lb < 6) (ea : v (137 + 25 * a + 0) = nI la) (eb : v (137 + 25 * b + 0) = nI lb) (ra : v (113 + 4 * la + 0) = nI pa) (rb : v (113 + 4 * lb + 0) = nI pb) (hpa : pa ≤ 9) (hpb : pb ≤ 9) : F8_isAhead (setR r v) (nI a) (nI b) = some (if clsN v a < clsN v b ∨ (clsN v a = 2 ∧ clsN v b = 2 ∧ pb < pa) then nI 1 else nI 0) := by
  have h1 := @clsN_le v a; have h2 := @clsN_le v b
  unfold F8_isAhead F8_rankOf
  simp (disch := omega) only [lit32, neg1, nI_add, nI_mul, bS, pt_n, ix_n, rd_n, ws_n, rdo_n, wso_n, setR_1, setL_w, setL_iv, up_setR, up_setL_w, up_setL_iv, nz_0, nz_1, classOf_v, F8_ofCard_v, ea, eb, F8_ofLot_v, ra, rb]
  by_cases e : clsN v a = clsN v b
  · rw [if_pos (congrArg nI e)]
    by_cases e2 : clsN v a = 2
    · rw [if_pos (congrArg nI e2)]
      by_cases e3 : pa ≤ pb
      · rw [if_pos (nI_le e3 (by omega)), if_neg (show ¬ (clsN v a < clsN v b ∨ (clsN v a = 2 ∧ clsN v b = 2 ∧ pb < pa)) by omega), bS, nz_0, bS]
      · rw [if_neg (nI_ge (by omega) (by omega)), if_pos (show clsN v a < clsN v b ∨ (clsN v a = 2 ∧ clsN v b = 2 ∧ pb < pa) by omega), bS, nz_1, bS]
    · rw [if_neg (nI_ne e2 (by omega) (by omega)), if_neg (show ¬ (clsN v a < clsN v b ∨ (clsN v a = 2 ∧ clsN v b = 2 ∧ pb < pa)) by omega), bS, nz_0, bS]
  · rw [if_neg (nI_ne e (by omega) (by omega))]
    by_cases e3 : clsN v b ≤ clsN v a
    · rw [if_pos (nI_le e3 (by omega)), if_neg (show ¬ (clsN v a < clsN v b ∨ (clsN v a = 2 ∧ clsN v b = 2 ∧ pb < pa)) by omega), bS, nz_0, bS]
    · rw [if_neg (nI_ge (by omega) (by omega)), if_pos (show clsN v a < clsN v b ∨ (clsN v a = 2 ∧ clsN v b = 2 ∧ pb < pa) by omega), bS, nz_1, bS]
noncomputable def LR (v : Nat → Int32) (cm : Nat) (lo rk : Nat → Nat) : Prop := ∀ k, k < cm → v (137 + 25 * k + 0) = nI (lo k) ∧ lo k < 6 ∧ v (113 + 4 * lo k + 0) = nI (rk k) ∧ rk k ≤ 9
theorem feedF_0 {r : RS} {v : Nat → Int32} {cm fu y : Nat} {b : Int32} (hcm : cm ≤ 30) (h9 : v 9 = nI cm) (hy : y < cm) (e : ¬ v (137 + 25 * y + 3) = nI 0) : F8_toFeed_L4 (setR r v) (fu + 1) (nI y) b = F8_toFeed_L4 (setR r v) fu (nI (y + 1)) b := by
  rw [F8_toFeed_L4]
  simp (disch := omega) only [lit32, neg1, nI_add, nI_mul, bS, pt_n, ix_n, rd_n, ws_n, rdo_n, wso_n, setR_1, setL_w, setL_iv, up_setR, up_setL_w, up_setL_iv, nz_0, nz_1, h9, F8_ofCard_v]
  rw [if_neg (nI_ge (by omega) (by omega)), if_neg e, bS]
theorem feedF_1 {r : RS} {v : Nat → Int32} {cm fu y : Nat} (hcm : cm ≤ 30) (h9 : v 9 = nI cm) (hy : y < cm) (e : v (137 + 25 * y + 3) = nI 0) : F8_toFeed_L4 (setR r v) (fu + 1) (nI y) m1 = F8_toFeed_L4 (setR r v) fu (nI (y + 1)) (nI y) := by
  rw [F8_toFeed_L4]
  simp (disch := omega) only [lit32, neg1, nI_add, nI_mul, bS, pt_n, ix_n, rd_n, ws_n, rdo_n, wso_n, setR_1, setL_w, setL_iv, up_setR, up_setL_w, up_setL_iv, nz_0, nz_1, h9, F8_ofCard_v, e]
  rw [if_neg (nI_ge (by omega) (by omega)), if_pos trivial, if_pos trivial, bS]
theorem feedF_2 {r : RS} {v : Nat → Int32} {cm fu y k : Nat} {lo rk : Nat → Nat} (hcm : cm ≤ 30) (h9 : v 9 = nI cm) (hlr : LR v cm lo rk) (hy : y < cm) (hk : k < cm) (e : v (137 + 25 * y + 3) = nI 0) : F8_toFeed_L4 (setR r v) (fu + 1) (nI y) (nI k) = F8_toFeed_L4 (setR r v) fu (nI (y + 1)) (if clsN v y < clsN v k ∨ (clsN v y = 2 ∧ clsN v k = 2 ∧ rk k < rk y) then nI y else nI k) := by
  obtain ⟨a1, a2, a3, a4⟩ := hlr y hy
  obtain ⟨b1, b2, b3, b4⟩ := hlr k hk
  rw [F8_toFeed_L4]
  simp (disch := omega) only [lit32, neg1, nI_add, nI_mul, bS, pt_n, ix_n, rd_n, ws_n, rdo_n, wso_n, setR_1, setL_w, setL_iv, up_setR, up_setL_w, up_setL_iv, nz_0, nz_1, h9, F8_ofCard_v, e]
  rw [if_neg (nI_ge (by omega) (by omega)), if_pos trivial, if_neg (m1_ne (by omega)), isAhead_v (by omega) (by omega) a2 b2 a1 b1 a3 b3 a4 b4]
  by_cases q : clsN v y < clsN v k ∨ (clsN v y = 2 ∧ clsN v k = 2 ∧ rk k < rk y)
  · rw [if_pos q, if_pos q, bS, if_neg (nI_ne (by omega) (by omega) (by omega)), bS]
  · rw [if_neg q, if_neg q, bS, if_pos (show nI 0 = nI 0 from rfl), bS]
theorem feedF_R {r : RS} {v : Nat → Int32} {cm k0 : Nat} {lo rk : Nat → Nat} (hcm : cm ≤ 30) (h9 : v 9 = nI cm) (hlr : LR v cm lo rk) (hk0 : k0 < cm) (h0 : clsN v k0 = 0) : ∀ (d y fu : Nat), y + d = cm → d < fu → F8_toFeed_L4 (setR r v) fu (nI y) (nI k0) = some (nI cm, nI k0) := by
  intro d
  induction d with
  | zero =>
    intro y fu hy hfu
    obtain ⟨fu, rfl⟩ : ∃ m, fu = m + 1 := ⟨fu - 1, by omega⟩
    obtain rfl : y = cm := by omega
    rw [F8_toFeed_L4]
    simp (disch := omega) only [lit32, neg1, nI_add, nI_mul, bS, pt_n, ix_n, rd_n, ws_n, rdo_n, wso_n, setR_1, setL_w, setL_iv, up_setR, up_setL_w, up_setL_iv, nz_0, nz_1, h9]
    rw [if_pos (nI_le (by omega) (by omega))]
  | succ d ih =>
    intro y fu hy hfu
    obtain ⟨fu, rfl⟩ : ∃ m, fu = m + 1 := ⟨fu - 1, by omega⟩
    by_cases e : v (137 + 25 * y + 3) = nI 0
    · rw [feedF_2 hcm h9 hlr (by omega) hk0 e, if_neg (by omega)]
      exact ih (y + 1) fu (by omega) (by omega)
    · rw [feedF_0 hcm h9 (by omega) e]
      exact ih (y + 1) fu (by omega) (by omega)
theorem feedC_0 {c : RS} {g : CG} {L cm fu y : Nat} {w iv : Nat → Int32} {y2 y3 y4 : Int32} (hcm : cm ≤ 30) (h9 : w 9 = nI cm) (hy : y < cm) (e : ¬ w (137 + 25 * y + 3) = nI 0) : C3_nextWaiting_L9 L g (setL c L w iv) (fu + 1) (nI y) y2 y3 y4 = C3_nextWaiting_L9 L g (setL c L w iv) fu (nI (y + 1)) y2 y3 y4 := by
  rw [C3_nextWaiting_L9]
  simp (disch := omega) only [lit32, neg1, nI_add, nI_mul, bS, pt_n, ix_n, rd_n, ws_n, rdo_n, wso_n, setR_1, setL_w, setL_iv, up_setR, up_setL_w, up_setL_iv, nz_0, nz_1, h9]
  rw [if_neg (nI_ge (by omega) (by omega)), if_neg e]
theorem feedC_r {c : RS} {g : CG} {L cm fu y : Nat} {w iv : Nat → Int32} {y2 y3 y4 : Int32} (hcm : cm ≤ 30) (h9 : w 9 = nI cm) (hy : y < cm) (e : w (137 + 25 * y + 3) = nI 0) (e8 : w (137 + 25 * y + 8) = nI 1) : C3_nextWaiting_L9 L g (setL c L w iv) (fu + 1) (nI y) y2 y3 y4 = some (.inl (nI y)) := by
  rw [C3_nextWaiting_L9]
  simp (disch := omega) only [lit32, neg1, nI_add, nI_mul, bS, pt_n, ix_n, rd_n, ws_n, rdo_n, wso_n, setR_1, setL_w, setL_iv, up_setR, up_setL_w, up_setL_iv, nz_0, nz_1, h9, e, e8]
  rw [if_neg (nI_ge (by omega) (by omega)), if_pos trivial, if_neg (nI_ne (by omega) (by omega) (by omega))]
theorem feedC_1 {c : RS} {g : CG} {L cm fu y : Nat} {w iv : Nat → Int32} {y2 y3 y4 : Int32} {lo rk : Nat → Nat} (hcm : cm ≤ 30) (h9 : w 9 = nI cm) (hlr : LR w cm lo rk) (hy : y < cm) (e : w (137 + 25 * y + 3) = nI 0) (e8 : w (137 + 25 * y + 8) = nI 0) : C3_nextWaiting_L9 L g (setL c L w iv) (fu + 1) (nI y) y2 y3 y4 = C3_nextWaiting_L9 L g (setL c L w iv) fu (nI (y + 1)) (if nI (rk y) ≤ y2 then y2 else nI (rk y)) (if nI (rk y) ≤ y2 then y3 else nI y) (if y4 = m1 ∧ ¬ w (137 + 25 * y + 5) + w (137 + 25 * y + 6) ≤ nI 0 then nI y else y4) := by
  obtain ⟨a1, a2, a3, a4⟩ := hlr y hy
  rw [C3_nextWaiting_L9]
  simp (disch := omega) only [lit32, neg1, nI_add, nI_mul, bS, pt_n, ix_n, rd_n, ws_n, rdo_n, wso_n, setR_1, setL_w, setL_iv, up_setR, up_setL_w, up_setL_iv, nz_0, nz_1, h9, e, e8, a1]
  rw [if_neg (nI_ge (by omega) (by omega)), if_pos trivial, if_pos trivial]
  have k4 : (if y4 = m1 then (if w (137 + 25 * y + 5) + w (137 + 25 * y + 6) ≤ nI 0 then some y4 else some (nI y)) else some y4 : Option Int32) = some (if y4 = m1 ∧ ¬ w (137 + 25 * y + 5) + w (137 + 25 * y + 6) ≤ nI 0 then nI y else y4) := by
    by_cases p : y4 = m1
    · by_cases q : w (137 + 25 * y + 5) + w (137 + 25 * y + 6) ≤ nI 0
      · rw [if_pos p, if_pos q, if_neg (fun h => h.2 q)]
      · rw [if_pos p, if_neg q, if_pos ⟨p, q⟩]
    · rw [if_neg p, if_neg (fun h => p h.1)]
  rw [k4, bS, a3]
  by_cases q : nI (rk y) ≤ y2
  · rw [if_pos q, if_pos q, if_pos q, bS]
  · rw [if_neg q, if_neg q, if_neg q, bS]
noncomputable def fdR (t : Sum Int32 (Int32 × Int32 × Int32 × Int32)) : Int32 := match t with | .inl r => r | .inr t9 => if t9.2.2.2 = m1 then t9.2.2.1 else t9.2.2.2
noncomputable def FJ (v w : Nat → Int32) (rk : Nat → Nat) (y : Nat) (b y2 y3 y4 : Int32) : Prop :=
  (b = m1 ∧ y2 = m1 ∧ y3 = m1 ∧ y4 = m1 ∧ ∀ k, k < y → ¬ w (137 + 25 * k + 3) = nI 0) ∨
  (∃ k, k < y ∧ b = nI k ∧ y2 = nI (rk k) ∧ y3 = nI k ∧ y4 = m1 ∧ w (137 + 25 * k + 3) = nI 0 ∧ clsN v k = 2) ∨
  (∃ k, k < y ∧ b = nI k ∧ y4 = nI k ∧ w (137 + 25 * k + 3) = nI 0 ∧ clsN v k = 1)
theorem feed_L {r c : RS} {g : CG} {L cm : Nat} {v w iv : Nat → Int32} {lo rk : Nat → Nat} (hcm : cm ≤ 30) (h9v : v 9 = nI cm) (h9w : w 9 = nI cm) (hlv : LR v cm lo rk) (hlw : LR w cm lo rk) (heq : ∀ k j, k < cm → j < 9 → j ≠ 2 → v (137 + 25 * k + j) = w (137 + 25 * k + j)) (hru : ∀ k, k < cm → w (137 + 25 * k + 8) = nI 0 ∨ w (137 + 25 * k + 8) = nI 1) : ∀ (d y fu fu2 : Nat) (b y2 y3 y4 : Int32), y + d = cm → d < fu → d < fu2 → FJ v w rk y b y2 y3 y4 →
    ∃ x t, F8_toFeed_L4 (setR r v) fu (nI y) b = some (nI cm, x) ∧ C3_nextWaiting_L9 L g (setL c L w iv) fu2 (nI y) y2 y3 y4 = some t ∧ fdR t = x ∧ ((x = m1 ∧ ∀ k, k < cm → ¬ w (137 + 25 * k + 3) = nI 0) ∨ ∃ k, k < cm ∧ x = nI k ∧ w (137 + 25 * k + 3) = nI 0) := by
  intro d
  induction d with
  | zero =>
    intro y fu fu2 b y2 y3 y4 hy hfu hfu2 hj
    obtain ⟨fu, rfl⟩ : ∃ m, fu = m + 1 := ⟨fu - 1, by omega⟩
    obtain ⟨fu2, rfl⟩ : ∃ m, fu2 = m + 1 := ⟨fu2 - 1, by omega⟩
    obtain rfl : y = cm := by omega
    refine ⟨b, .inr (nI y, y2, y3, y4), ?_, ?_, ?_, ?_⟩
    · rw [F8_toFeed_L4]
      simp (disch := omega) only [lit32, neg1, nI_add, nI_mul, bS, pt_n, ix_n, rd_n, ws_n, rdo_n, wso_n, setR_1, setL_w, setL_iv, up_setR, up_setL_w, up_setL_iv, nz_0, nz_1, h9v]
      rw [if_pos (nI_le (by omega) (by omega))]
    · rw [C3_nextWaiting_L9]
      simp (disch := omega) only [lit32, neg1, nI_add, nI_mul, bS, pt_n, ix_n, rd_n, ws_n, rdo_n, wso_n, setR_1, setL_w, setL_iv, up_setR, up_setL_w, up_setL_iv, nz_0, nz_1, h9w]
      rw [if_pos (nI_le (by omega) (by omega))]
    · unfold fdR
      rcases hj with ⟨rfl, -, rfl, rfl, -⟩ | ⟨k, h1, rfl, -, rfl, rfl, -⟩ | ⟨k, h1, rfl, rfl, -⟩
      · exact if_pos rfl
      · exact if_pos rfl
      · exact if_neg (m1_ne (by omega))
    · rcases hj with ⟨rfl, -, rfl, rfl, h⟩ | ⟨k, h1, rfl, -, -, -, h2, -⟩ | ⟨k, h1, rfl, -, h2, -⟩
      · exact Or.inl ⟨rfl, h⟩
      · exact Or.inr ⟨k, h1, rfl, h2⟩
      · exact Or.inr ⟨k, h1, rfl, h2⟩
  | succ d ih =>
    intro y fu fu2 b y2 y3 y4 hy hfu hfu2 hj
    obtain ⟨fu, rfl⟩ : ∃ m, fu = m + 1 := ⟨fu - 1, by omega⟩
    obtain ⟨fu2, rfl⟩ : ∃ m, fu2 = m + 1 := ⟨fu2 - 1, by omega⟩
    have hyc : y < cm := by omega
    have e3 := heq y 3 hyc (by omega) (by omega)
    have e8 := heq y 8 hyc (by omega) (by omega)
    have e5 := heq y 5 hyc (by omega) (by omega)
    have e6 := heq y 6 hyc (by omega) (by omega)
    by_cases ew : w (137 + 25 * y + 3) = nI 0
    · have ev : v (137 + 25 * y + 3) = nI 0 := e3.trans ew
      rcases hru y hyc with h8 | h8
      · have c8 : ¬ v (137 + 25 * y + 8) = nI 1 := by rw [e8, h8]; exact nI_ne (by omega) (by omega) (by omega)
        rw [feedC_1 hcm h9w hlw hyc ew h8]
        have hc : clsN v y = if w (137 + 25 * y + 5) + w (137 + 25 * y + 6) ≤ nI 0 then 2 else 1 := by
          unfold clsN; rw [if_neg c8, e5, e6]
        have rky := (hlw y hyc).2.2.2
        rcases hj with ⟨rfl, rfl, rfl, rfl, h⟩ | ⟨k, h1, rfl, rfl, rfl, rfl, h2, h3⟩ | ⟨k, h1, rfl, rfl, h2, h3⟩
        · rw [feedF_1 hcm h9v hyc ev]
          have n1 : ¬ nI (rk y) ≤ m1 := by
            rw [Int32.le_iff_toInt_le, nI_toInt (by omega), show m1.toInt = -1 from rfl]; omega
          rw [if_neg n1, if_neg n1]
          refine ih (y + 1) fu fu2 _ _ _ _ (by omega) (by omega) (by omega) ?_
          by_cases q : w (137 + 25 * y + 5) + w (137 + 25 * y + 6) ≤ nI 0
          · rw [if_pos q] at hc
            rw [if_neg (fun p => p.2 q)]
            exact Or.inr (Or.inl ⟨y, by omega, rfl, rfl, rfl, rfl, ew, hc⟩)
          · rw [if_neg q] at hc
            rw [if_pos ⟨rfl, q⟩]
            exact Or.inr (Or.inr ⟨y, by omega, rfl, rfl, ew, hc⟩)
        · rw [feedF_2 hcm h9v hlv hyc (by omega) ev]
          have rkk := (hlw k (by omega)).2.2.2
          refine ih (y + 1) fu fu2 _ _ _ _ (by omega) (by omega) (by omega) ?_
          by_cases q : w (137 + 25 * y + 5) + w (137 + 25 * y + 6) ≤ nI 0
          · rw [if_pos q] at hc
            rw [if_neg (c := m1 = m1 ∧ ¬ w (137 + 25 * y + 5) + w (137 + 25 * y + 6) ≤ nI 0) (fun p => p.2 q)]
            by_cases q2 : rk y ≤ rk k
            · rw [if_neg (by omega), if_pos (nI_le q2 (by omega)), if_pos (nI_le q2 (by omega))]
              exact Or.inr (Or.inl ⟨k, by omega, rfl, rfl, rfl, rfl, h2, h3⟩)
            · rw [if_pos (by omega), if_neg (nI_ge (by omega) (by omega)), if_neg (nI_ge (by omega) (by omega))]
              exact Or.inr (Or.inl ⟨y, by omega, rfl, rfl, rfl, rfl, ew, hc⟩)
          · rw [if_neg q] at hc
            rw [if_pos (c := m1 = m1 ∧ ¬ w (137 + 25 * y + 5) + w (137 + 25 * y + 6) ≤ nI 0) ⟨rfl, q⟩, if_pos (c := clsN v y < clsN v k ∨ (clsN v y = 2 ∧ clsN v k = 2 ∧ rk k < rk y)) (by omega)]
            exact Or.inr (Or.inr ⟨y, by omega, rfl, rfl, ew, hc⟩)
        · rw [feedF_2 hcm h9v hlv hyc (by omega) ev]
          refine ih (y + 1) fu fu2 _ _ _ _ (by omega) (by omega) (by omega) ?_
          have hc2 : 1 ≤ clsN v y := by rw [hc]; split <;> omega
          rw [if_neg (c := clsN v y < clsN v k ∨ (clsN v y = 2 ∧ clsN v k = 2 ∧ rk k < rk y)) (by omega), if_neg (c := nI k = m1 ∧ ¬ w (137 + 25 * y + 5) + w (137 + 25 * y + 6) ≤ nI 0) (fun p => m1_ne (by omega) p.1)]
          exact Or.inr (Or.inr ⟨k, by omega, rfl, rfl, h2, h3⟩)
      · have c0 : clsN v y = 0 := by unfold clsN; rw [if_pos (e8.trans h8)]
        have hF : F8_toFeed_L4 (setR r v) (fu + 1) (nI y) b = some (nI cm, nI y) := by
          rcases hj with ⟨rfl, -⟩ | ⟨k, h1, rfl, -, -, -, h2, h3⟩ | ⟨k, h1, rfl, -, h2, h3⟩
          · rw [feedF_1 hcm h9v hyc ev]
            exact feedF_R hcm h9v hlv hyc c0 d (y + 1) fu (by omega) (by omega)
          · rw [feedF_2 hcm h9v hlv hyc (by omega) ev, if_pos (by omega)]
            exact feedF_R hcm h9v hlv hyc c0 d (y + 1) fu (by omega) (by omega)
          · rw [feedF_2 hcm h9v hlv hyc (by omega) ev, if_pos (by omega)]
            exact feedF_R hcm h9v hlv hyc c0 d (y + 1) fu (by omega) (by omega)
        exact ⟨nI y, .inl (nI y), hF, feedC_r hcm h9w hyc ew h8, rfl, Or.inr ⟨y, hyc, rfl, ew⟩⟩
    · rw [feedF_0 hcm h9v hyc (fun q => ew (e3.symm.trans q)), feedC_0 hcm h9w hyc ew]
      refine ih (y + 1) fu fu2 _ _ _ _ (by omega) (by omega) (by omega) ?_
      rcases hj with ⟨rfl, rfl, rfl, rfl, h⟩ | ⟨k, h1, rfl, rfl, rfl, rfl, h2, h3⟩ | ⟨k, h1, rfl, rfl, h2, h3⟩
      · refine Or.inl ⟨rfl, rfl, rfl, rfl, fun k hk => ?_⟩
        by_cases e : k = y
        · rw [e]; exact ew
        · exact h k (by omega)
      · exact Or.inr (Or.inl ⟨k, by omega, rfl, rfl, rfl, rfl, h2, h3⟩)
      · exact Or.inr (Or.inr ⟨k, by omega, rfl, rfl, h2, h3⟩)
theorem nI_cl {x : Int32} {a N : Nat} (e : x = nI a) (ha : a < N) (hN : N < 2 ^ 31) : x = nI x.toNatClampNeg ∧ x.toNatClampNeg < N := by
  subst e; rw [nI_clamp (by omega)]; exact ⟨rfl, ha⟩
theorem toFeed_ok {r c : RS} {g : CG} {L sm lm cm B U : Nat} {v w iv : Nat → Int32} (h : QX c g L v w iv sm lm cm B U) :
    ∃ x, F8_toFeed (setR r v) = some x ∧ C3_nextWaiting g (setL c L w iv) L = some x ∧ ((x = m1 ∧ ∀ k, k < cm → ¬ sC w k 3 = nI 0) ∨ ∃ k, k < cm ∧ x = nI k ∧ sC w k 3 = nI 0) := by
  have hcm := h.a.cm30; have hlm := h.a.lm6
  have h9w : w 9 = nI cm := by rw [sA_r (v := w) (by omega)]; exact h.a.w9
  have h9v : v 9 = nI cm := by rw [h.ra (i := 9) (by omega) (by omega) (by omega)]; exact h9w
  have C : ∀ k j, k < cm → j < 25 → w (137 + 25 * k + j) = sC w k j := fun k j a b => sC_r (v := w) (by omega) b
  have lw : LR w cm (fun k => (w (137 + 25 * k + 0)).toNatClampNeg) (fun k => (w (113 + 4 * (w (137 + 25 * k + 0)).toNatClampNeg + 0)).toNatClampNeg) := fun k hk => by
    obtain ⟨l, l1, l2⟩ := h.c.lot k hk
    rw [← C k 0 hk (by omega)] at l2
    have a := nI_cl l2 (N := 6) (by omega) (by omega)
    have a3 : (w (137 + 25 * k + 0)).toNatClampNeg = l := by rw [l2, nI_clamp (by omega)]
    obtain ⟨p, p1, p2⟩ := h.l.rank l l1
    rw [← sL_r (v := w) (by omega) (by omega), ← a3] at p2
    have b := nI_cl p2 (N := 10) (by omega) (by omega)
    exact ⟨a.1, a.2, b.1, Nat.le_of_lt_succ b.2⟩
  have lv : LR v cm (fun k => (w (137 + 25 * k + 0)).toNatClampNeg) (fun k => (w (113 + 4 * (w (137 + 25 * k + 0)).toNatClampNeg + 0)).toNatClampNeg) := fun k hk => by
    obtain ⟨a1, a2, a3, a4⟩ := lw k hk
    refine ⟨(h.rc hk (by omega) (by omega)).trans a1, a2, ?_, a4⟩
    obtain ⟨l, l1, l2⟩ := h.c.lot k hk
    rw [← C k 0 hk (by omega)] at l2
    have b3 : (w (137 + 25 * k + 0)).toNatClampNeg = l := by rw [l2, nI_clamp (by omega)]
    refine Eq.trans ?_ a3
    simp only [b3]
    rw [sL_r (v := v) (by omega) (by omega), sL_r (v := w) (by omega) (by omega)]
    exact h.l.eql l 0 l1 (by omega)
  obtain ⟨x, t, g1, g2, g3, g4⟩ := feed_L (r := r) (c := c) (g := g) (L := L) (iv := iv) hcm h9v h9w lv lw (fun k j hk hj h2 => h.rc hk hj h2) (fun k hk => by
    rcases h.c.rush k hk with q | q
    · exact Or.inl ((C k 8 hk (by omega)).trans q)
    · exact Or.inr ((C k 8 hk (by omega)).trans q.1)) cm 0 FUEL FUEL m1 m1 m1 m1 (by omega) (by show cm < 10000; omega) (by show cm < 10000; omega) (Or.inl ⟨rfl, rfl, rfl, rfl, fun k hk => by omega⟩)
  refine ⟨x, ?_, ?_, ?_⟩
  · unfold F8_toFeed
    simp only [lit32, neg1]
    rw [g1]; rfl
  · unfold C3_nextWaiting
    simp only [lit32, neg1]
    rw [g2, bS, ← g3]
    unfold fdR
    rcases t with t | t
    · rfl
    · by_cases q : t.2.2.2 = m1
      · simp only [if_pos q, bS]
      · simp only [if_neg q, bS]
  · rcases g4 with ⟨a, b⟩ | ⟨k, a, b, d⟩
    · exact Or.inl ⟨a, fun k hk => by rw [← C k 3 hk (by omega)]; exact b k hk⟩
    · exact Or.inr ⟨k, a, b, by rw [← C k 3 a (by omega)]; exact d⟩
