noncomputable def rdB (v : Nat → Int32) (s : Nat) : Nat := if v (17 + 16 * s + 2) ≠ m1 ∧ v (17 + 16 * s + 3) = nI 0 then 1 else 0
noncomputable def rdS (v : Nat → Int32) : Nat → Nat → Nat
  | _, 0 => 0
  | y, z + 1 => rdB v y + rdS v (y + 1) z
theorem rdS_congr {v w : Nat → Int32} : ∀ {z y : Nat}, (∀ s, s < y + z → v (17 + 16 * s + 2) = w (17 + 16 * s + 2) ∧ v (17 + 16 * s + 3) = w (17 + 16 * s + 3)) → rdS v y z = rdS w y z := by
  intro z
  induction z with
  | zero => intro y h; rfl
  | succ z ih =>
    intro y h
    unfold rdS rdB
    rw [(h y (by omega)).1, (h y (by omega)).2, ih fun s hs => h s (by omega)]
theorem rdyB {v : Nat → Int32} {s n : Nat} (h3 : v (17 + 16 * s + 3) = nI n) (hn : n ≤ 1000) : (if v (17 + 16 * s + 2) = m1 ∨ n ≠ 0 then nI 0 else nI 1) = nI (rdB v s) := by
  unfold rdB
  have e : v (17 + 16 * s + 3) = nI 0 ↔ n = 0 := by rw [h3]; exact nI_eq (by omega) (by omega)
  by_cases h2 : v (17 + 16 * s + 2) = m1
  · rw [if_pos (Or.inl h2), if_neg (fun q => q.1 h2)]
  · by_cases h0 : n = 0
    · rw [if_neg (by rintro (q | q); exact h2 q; exact q h0), if_pos ⟨h2, e.mpr h0⟩]
    · rw [if_pos (Or.inr h0), if_neg (fun q => h0 (e.mp q.2))]
theorem rdB01 {v : Nat → Int32} {s : Nat} : rdB v s = 0 ∨ rdB v s = 1 := by
  unfold rdB; split
  · exact Or.inr rfl
  · exact Or.inl rfl
theorem stoodF {r : RS} {v : Nat → Int32} {sm : Nat} (hsm : sm ≤ 6) (h7 : v 7 = nI sm) (hn : ∀ s, s < sm → ∃ n, n ≤ 1000 ∧ v (17 + 16 * s + 3) = nI n) : ∀ (d y fu : Nat) (x : Int32), y + d = sm → d < fu → F8_passes_L67 fu (nI y) (setR r (upd v 16 x)) = some (nI sm, setR r (upd v 16 (x + nI (rdS v y d)))) := by
  intro d
  induction d with
  | zero =>
    intro y fu x hy hfu
    obtain ⟨fu, rfl⟩ : ∃ m, fu = m + 1 := ⟨fu - 1, by omega⟩
    obtain rfl : y = sm := by omega
    rw [F8_passes_L67]
    simp (disch := omega) only [lit32, neg1, nI_add, nI_mul, bS, pt_n, ix_n, rd_n, ws_n, rdo_n, wso_n, setR_1, setL_w, setL_iv, up_setR, up_setL_w, up_setL_iv, nz_0, nz_1, upd_n, h7]
    rw [if_pos (nI_le (by omega) (by omega)), show rdS v y 0 = 0 from rfl, nI_z]
  | succ d ih =>
    intro y fu x hy hfu
    obtain ⟨fu, rfl⟩ : ∃ m, fu = m + 1 := ⟨fu - 1, by omega⟩
    obtain ⟨n, n1, n2⟩ := hn y (by omega)
    have u3 : upd v 16 x (17 + 16 * y + 3) = nI n := by rw [upd_n (by omega)]; exact n2
    rw [F8_passes_L67]
    simp (disch := omega) only [lit32, neg1, nI_add, nI_mul, bS, pt_n, ix_n, rd_n, ws_n, rdo_n, wso_n, setR_1, setL_w, setL_iv, up_setR, up_setL_w, up_setL_iv, nz_0, nz_1, upd_n, h7]
    rw [if_neg (nI_ge (by omega) (by omega)), isReady_v (n := n) (by omega) rfl u3 (by omega), bS, upd_n (by omega), rdyB n2 n1]
    have e : (if nI (rdB v y) = nI 0 then some (nI 0) else some (nI 1) : Option Int32) = some (nI (rdB v y)) := by
      rcases @rdB01 v y with q | q
      · rw [q]; exact if_pos rfl
      · rw [q]; exact if_neg (nI_ne (by omega) (by omega) (by omega))
    rw [e]
    simp (disch := omega) only [lit32, neg1, nI_add, nI_mul, bS, pt_n, ix_n, rd_n, ws_n, rdo_n, wso_n, setR_1, setL_w, setL_iv, up_setR, up_setL_w, up_setL_iv, nz_0, nz_1, upd_e, upd_u]
    rw [ih (y + 1) fu _ (by omega) (by omega), show rdS v y (d + 1) = rdB v y + rdS v (y + 1) d from rfl, ← nI_add, Int32.add_assoc]
theorem stoodC {c : RS} {g : CG} {L : Nat} {w iv : Nat → Int32} {sm : Nat} (hsm : sm ≤ 6) (h7 : w 7 = nI sm) (hn : ∀ s, s < sm → ∃ n, n ≤ 1000 ∧ w (17 + 16 * s + 3) = nI n) : ∀ (d y fu : Nat) (x : Int32), y + d = sm → d < fu → C3_countReadyCards_L2 L g fu (nI y) (setL c L (upd w 16 x) iv) = some (nI sm, setL c L (upd w 16 (x + nI (rdS w y d))) iv) := by
  intro d
  induction d with
  | zero =>
    intro y fu x hy hfu
    obtain ⟨fu, rfl⟩ : ∃ m, fu = m + 1 := ⟨fu - 1, by omega⟩
    obtain rfl : y = sm := by omega
    rw [C3_countReadyCards_L2]
    simp (disch := omega) only [lit32, neg1, nI_add, nI_mul, bS, pt_n, ix_n, rd_n, ws_n, rdo_n, wso_n, setR_1, setL_w, setL_iv, up_setR, up_setL_w, up_setL_iv, nz_0, nz_1, upd_n, h7]
    rw [if_pos (nI_le (by omega) (by omega)), show rdS w y 0 = 0 from rfl, nI_z]
  | succ d ih =>
    intro y fu x hy hfu
    obtain ⟨fu, rfl⟩ : ∃ m, fu = m + 1 := ⟨fu - 1, by omega⟩
    obtain ⟨n, n1, n2⟩ := hn y (by omega)
    have u3 : upd w 16 x (17 + 16 * y + 3) = nI n := by rw [upd_n (by omega)]; exact n2
    rw [C3_countReadyCards_L2]
    simp (disch := omega) only [lit32, neg1, nI_add, nI_mul, bS, pt_n, ix_n, rd_n, ws_n, rdo_n, wso_n, setR_1, setL_w, setL_iv, up_setR, up_setL_w, up_setL_iv, nz_0, nz_1, upd_n, h7]
    rw [if_neg (nI_ge (by omega) (by omega)), hasReady_w (n := n) rfl u3 (by omega), bS, upd_n (by omega), rdyB n2 n1, show rdS w y (d + 1) = rdB w y + rdS w (y + 1) d from rfl]
    rcases @rdB01 w y with q | q
    · rw [q, if_pos (show nI 0 = nI 0 from rfl), bS, ih (y + 1) fu _ (by omega) (by omega), Nat.zero_add]
    · rw [q, if_neg (nI_ne (by omega) (by omega) (by omega))]
      rw [show (12 + 4 : Nat) = 16 from rfl, upd_e, upd_u, bS, ih (y + 1) fu _ (by omega) (by omega), ← nI_add, Int32.add_assoc]
noncomputable def shV (v : Nat → Int32) (y : Nat) : Nat → Int32 := fun j => if 917 + y < j ∧ j < 1037 then v (j - 12) else v j
theorem shiftF {r : RS} {v : Nat → Int32} : ∀ (d y fu : Nat), y = 11 + d → y ≤ 119 → d < fu → F8_dayEnds_L3 fu (nI y) (setR r (shV v y)) = some (nI 11, setR r (shV v 11)) := by
  intro d
  induction d with
  | zero =>
    intro y fu hy hy2 hfu
    obtain ⟨fu, rfl⟩ : ∃ m, fu = m + 1 := ⟨fu - 1, by omega⟩
    obtain rfl : y = 11 := by omega
    rw [F8_dayEnds_L3]
    simp only [lit32]
    rw [if_pos (nI_lt (by omega) (by omega))]
  | succ d ih =>
    intro y fu hy hy2 hfu
    obtain ⟨fu, rfl⟩ : ∃ m, fu = m + 1 := ⟨fu - 1, by omega⟩
    have e : upd (shV v y) (917 + y) (shV v y (917 + y - 12)) = shV v (y - 1) := by
      funext j
      unfold upd shV
      by_cases h1 : j = 917 + y
      · rw [if_pos h1, if_neg (by omega), if_pos (by omega), h1]
      · rw [if_neg h1]
        by_cases h2 : 917 + y < j ∧ j < 1037
        · rw [if_pos h2, if_pos (by omega)]
        · rw [if_neg h2, if_neg (by omega)]
    rw [F8_dayEnds_L3]
    simp (disch := omega) only [lit32, neg1, nI_add, nI_mul, bS, pt_n, ix_n, rd_n, ws_n, rdo_n, wso_n, setR_1, setL_w, setL_iv, up_setR, up_setL_w, up_setL_iv, nz_0, nz_1, nI_sub]
    rw [if_neg (nI_nlt (by omega) (by omega)), e, im1 (by omega)]
    exact ih (y - 1) fu (by omega) (by omega) (by omega)
noncomputable def dlV (v : Nat → Int32) (l : Nat) : Nat → Int32 := fun j => if 917 ≤ j ∧ j < 917 + 2 * l then v (113 + 4 * ((j - 917) / 2) + 2 + (j - 917) % 2) else if 113 ≤ j ∧ j < 113 + 4 * l ∧ 2 ≤ (j - 113) % 4 then nI 0 else v j
theorem dayL {r : RS} {v : Nat → Int32} {l fu : Nat} (hl : l < 6) (hfu : 2 < fu) : F8_dayEnds_L48 (nI l) fu (nI 0) (setR r (dlV v l)) = some (nI 2, setR r (dlV v (l + 1))) := by
  obtain ⟨fu, rfl⟩ : ∃ m, fu = m + 1 + 1 + 1 := ⟨fu - 3, by omega⟩
  have e : upd (upd (upd (upd (dlV v l) (917 + 2 * l + 0) (dlV v l (113 + 4 * l + (2 + 0)))) (113 + 4 * l + 2 + 0) (nI 0)) (917 + 2 * l + 1) (dlV v l (113 + 4 * l + (2 + 1)))) (113 + 4 * l + 2 + 1) (nI 0) = dlV v (l + 1) := by
    funext j
    have a2 : dlV v l (113 + 4 * l + (2 + 0)) = v (113 + 4 * l + 2) := by unfold dlV; rw [if_neg (by omega), if_neg (by omega)]
    have a3 : dlV v l (113 + 4 * l + (2 + 1)) = v (113 + 4 * l + 3) := by unfold dlV; rw [if_neg (by omega), if_neg (by omega)]
    rw [a2, a3]
    unfold upd
    by_cases h1 : j = 113 + 4 * l + 2 + 1
    · rw [if_pos h1]; unfold dlV; rw [if_neg (by omega), if_pos (by omega)]
    · rw [if_neg h1]
      by_cases h2 : j = 917 + 2 * l + 1
      · rw [if_pos h2]; unfold dlV; rw [if_pos (by omega)]; exact congrArg v (by omega)
      · rw [if_neg h2]
        by_cases h3 : j = 113 + 4 * l + 2 + 0
        · rw [if_pos h3]; unfold dlV; rw [if_neg (by omega), if_pos (by omega)]
        · rw [if_neg h3]
          by_cases h4 : j = 917 + 2 * l + 0
          · rw [if_pos h4]; unfold dlV; rw [if_pos (by omega)]; exact congrArg v (by omega)
          · rw [if_neg h4]
            unfold dlV
            by_cases h5 : 917 ≤ j ∧ j < 917 + 2 * l
            · rw [if_pos h5, if_pos (by omega)]
            · rw [if_neg h5, if_neg (c := 917 ≤ j ∧ j < 917 + 2 * (l + 1)) (by omega)]
              by_cases h6 : 113 ≤ j ∧ j < 113 + 4 * l ∧ 2 ≤ (j - 113) % 4
              · rw [if_pos h6, if_pos (by omega)]
              · rw [if_neg h6, if_neg (by omega)]
  have o1 : upd (upd (dlV v l) (917 + 2 * l + 0) (dlV v l (113 + 4 * l + (2 + 0)))) (113 + 4 * l + 2 + 0) (nI 0) (113 + 4 * l + (2 + 1)) = dlV v l (113 + 4 * l + (2 + 1)) := by
    rw [upd_n (by omega), upd_n (by omega)]
  rw [F8_dayEnds_L48]
  simp (disch := omega) only [lit32, neg1, nI_add, nI_mul, bS, pt_n, ix_n, rd_n, ws_n, rdo_n, wso_n, setR_1, setL_w, setL_iv, up_setR, up_setL_w, up_setL_iv, nz_0, nz_1, F8_ofLot_v]
  rw [if_neg (nI_ge (by omega) (by omega)), F8_dayEnds_L48]
  simp (disch := omega) only [lit32, neg1, nI_add, nI_mul, bS, pt_n, ix_n, rd_n, ws_n, rdo_n, wso_n, setR_1, setL_w, setL_iv, up_setR, up_setL_w, up_setL_iv, nz_0, nz_1, F8_ofLot_v]
  rw [if_neg (nI_ge (by omega) (by omega)), F8_dayEnds_L48]
  simp (disch := omega) only [lit32, neg1, nI_add, nI_mul, bS, pt_n, ix_n, rd_n, ws_n, rdo_n, wso_n, setR_1, setL_w, setL_iv, up_setR, up_setL_w, up_setL_iv, nz_0, nz_1]
  rw [if_pos (nI_le (by omega) (by omega))]
  simp only [Nat.zero_add]
  rw [o1, e]
theorem dayLs {r : RS} {v : Nat → Int32} : ∀ (d l fu : Nat), l + d = 6 → d < fu → F8_dayEnds_L40 fu (nI l) (setR r (dlV v l)) = some (nI 6, setR r (dlV v 6)) := by
  intro d
  induction d with
  | zero =>
    intro l fu hy hfu
    obtain ⟨fu, rfl⟩ : ∃ m, fu = m + 1 := ⟨fu - 1, by omega⟩
    obtain rfl : l = 6 := by omega
    rw [F8_dayEnds_L40]
    simp only [lit32]
    rw [if_pos (nI_le (by omega) (by omega))]
  | succ d ih =>
    intro l fu hy hfu
    obtain ⟨fu, rfl⟩ : ∃ m, fu = m + 1 := ⟨fu - 1, by omega⟩
    rw [F8_dayEnds_L40]
    simp only [lit32]
    rw [if_neg (nI_ge (by omega) (by omega)), dayL (by omega) (by show 2 < 10000; omega), bS, nI_add]
    exact ih (l + 1) fu (by omega) (by omega)
noncomputable def dyV (v : Nat → Int32) (x : Int32) : Nat → Int32 := upd (dlV (shV v 11) 6) 11 x
theorem dayEnds_v {r : RS} {v : Nat → Int32} : F8_dayEnds (setR r v) = some (setR r (dyV v (if v 11 + nI 1 < nI 10 then v 11 + nI 1 else nI 10))) := by
  have s0 : v = shV v 119 := by
    funext j; unfold shV; rw [if_neg (by omega)]
  have d0 : shV v 11 = dlV (shV v 11) 0 := by
    funext j
    have n1 : ¬ (917 ≤ j ∧ j < 917 + 2 * 0) := by omega
    have n2 : ¬ (113 ≤ j ∧ j < 113 + 4 * 0 ∧ 2 ≤ (j - 113) % 4) := by omega
    show shV v 11 j = if 917 ≤ j ∧ j < 917 + 2 * 0 then _ else _
    rw [if_neg n1, if_neg n2]
  have e11 : dlV (shV v 11) 6 11 = v 11 := by
    have n1 : ¬ (917 ≤ 11 ∧ 11 < 917 + 2 * 6) := by omega
    have n2 : ¬ (113 ≤ 11 ∧ 11 < 113 + 4 * 6 ∧ 2 ≤ (11 - 113) % 4) := by omega
    show (if 917 ≤ 11 ∧ 11 < 917 + 2 * 6 then _ else _) = v 11
    rw [if_neg n1, if_neg n2]
    unfold shV; exact if_neg (by omega)
  unfold F8_dayEnds
  simp only [lit32]
  have k1 := shiftF (r := r) (v := v) 108 119 FUEL (by omega) (by omega) (by show 108 < 10000; omega)
  rw [← s0] at k1
  have k2 := dayLs (r := r) (v := shV v 11) 6 0 FUEL (by omega) (by show 6 < 10000; omega)
  rw [← d0] at k2
  rw [k1, bS, k2, bS]
  simp only [setR_1, e11]
  rw [ws_n (by omega) (by omega), bS, up_setR]
  rfl
theorem dyA {v : Nat → Int32} {x : Int32} : sA (dyV v x) = upd (sA v) 11 x := by
  unfold dyV
  rw [sA_A (by omega)]
  congr 1
  funext a
  unfold sA
  by_cases h : a < 17
  · rw [if_pos h, if_pos h]
    unfold dlV shV
    rw [if_neg (by omega), if_neg (by omega), if_neg (by omega)]
  · rw [if_neg h, if_neg h]
theorem dyS {v : Nat → Int32} {x : Int32} : sS (dyV v x) = sS v := by
  unfold dyV
  rw [sS_A (by omega)]
  funext a b
  unfold sS
  by_cases h : a < 6 ∧ b < 16
  · rw [if_pos h, if_pos h]
    unfold dlV shV
    rw [if_neg (by omega), if_neg (by omega), if_neg (by omega)]
  · rw [if_neg h, if_neg h]
theorem dyC {v : Nat → Int32} {x : Int32} : sC (dyV v x) = sC v := by
  unfold dyV
  rw [sC_A (by omega)]
  funext a b
  unfold sC
  by_cases h : a < 30 ∧ b < 25
  · rw [if_pos h, if_pos h]
    unfold dlV shV
    rw [if_neg (by omega), if_neg (by omega), if_neg (by omega)]
  · rw [if_neg h, if_neg h]
theorem dyF {v : Nat → Int32} {x : Int32} : sF (dyV v x) = sF v := by
  unfold dyV
  rw [sF_A (by omega)]
  funext a
  unfold sF
  by_cases h : a < 30
  · rw [if_pos h, if_pos h]
    unfold dlV shV
    rw [if_neg (by omega), if_neg (by omega), if_neg (by omega)]
  · rw [if_neg h, if_neg h]
theorem dyL {v : Nat → Int32} {x : Int32} {l k : Nat} (hl : l < 6) (hk : k < 4) : sL (dyV v x) l k = if 2 ≤ k then nI 0 else sL v l k := by
  unfold dyV
  rw [sL_A (by omega), ← sL_r hl hk, ← sL_r hl hk]
  unfold dlV shV
  rw [if_neg (by omega)]
  by_cases h : 2 ≤ k
  · rw [if_pos (by omega), if_pos h]
  · rw [if_neg (by omega), if_neg (by omega), if_neg h]
theorem dyP0 {v : Nat → Int32} {x : Int32} {l k : Nat} (hl : l < 6) (hk : k < 2) : sP (dyV v x) (2 * l + k) = sL v l (2 + k) := by
  unfold dyV
  rw [sP_A (by omega), ← sP_r (by omega), ← sL_r hl (by omega)]
  unfold dlV shV
  rw [if_pos (by omega), if_neg (by omega)]
  exact congrArg v (by omega)
theorem dyP1 {v : Nat → Int32} {x : Int32} {i : Nat} (h : 12 ≤ i) (h2 : i < 120) : sP (dyV v x) i = sP v (i - 12) := by
  unfold dyV
  rw [sP_A (by omega), ← sP_r (by omega), ← sP_r (by omega)]
  unfold dlV shV
  rw [if_neg (by omega), if_neg (by omega), if_pos (by omega)]
  exact congrArg v (by omega)
noncomputable def zW (w : Nat → Int32) (l : Nat) : Nat → Int32 := fun j => if 113 ≤ j ∧ j < 113 + 4 * l ∧ 2 ≤ (j - 113) % 4 then nI 0 else w j
noncomputable def dyK (c : RS) (L k : Nat) (w : Nat → Int32) (l : Nat) : RS := fun R j => if 200 + 6 * L ≤ R ∧ R < 200 + 6 * L + l ∧ j = k then w (113 + 4 * (R - 200 - 6 * L) + 2) else if 300 + 6 * L ≤ R ∧ R < 300 + 6 * L + l ∧ j = k then w (113 + 4 * (R - 300 - 6 * L) + 3) else c R j
theorem up_setL_o {c : RS} {L R i : Nat} {w iv : Nat → Int32} {x : Int32} (h : ¬ R = 10 + L) (h2 : ¬ R = 400 + L) : up (setL c L w iv) R i x = setL (up c R i x) L w iv := by
  funext R2 j
  rw [up_at]
  by_cases a : R2 = 10 + L
  · subst a; rw [if_neg (fun q => h q.1.symm), setL_w, setL_w]
  · by_cases b : R2 = 400 + L
    · subst b; rw [if_neg (fun q => h2 q.1.symm), setL_iv, setL_iv]
    · rw [setL_o a b, setL_o a b, up_at]
theorem endDay_w {c : RS} {g : CG} {L l k : Nat} {w iv : Nat → Int32} (hL : L < 12) (hl : l < 6) (hk : k < 10) : C4_endDay g (setL (dyK c L k w l) L (zW w l) iv) L l (nI k) = some (setL (dyK c L k w (l + 1)) L (zW w (l + 1)) iv) := by
  have z2 : zW w l (113 + 4 * l + 2) = w (113 + 4 * l + 2) := by unfold zW; exact if_neg (by omega)
  have z3 : zW w l (113 + 4 * l + 3) = w (113 + 4 * l + 3) := by unfold zW; exact if_neg (by omega)
  have zz : upd (upd (zW w l) (113 + 4 * l + 2) (nI 0)) (113 + 4 * l + 3) (nI 0) = zW w (l + 1) := by
    funext j
    unfold upd zW
    by_cases h1 : j = 113 + 4 * l + 3
    · rw [if_pos h1, if_pos (by omega)]
    · rw [if_neg h1]
      by_cases h2 : j = 113 + 4 * l + 2
      · rw [if_pos h2, if_pos (by omega)]
      · rw [if_neg h2]
        by_cases h3 : 113 ≤ j ∧ j < 113 + 4 * l ∧ 2 ≤ (j - 113) % 4
        · rw [if_pos h3, if_pos (by omega)]
        · rw [if_neg h3, if_neg (by omega)]
  have kk : up (up (dyK c L k w l) (200 + 6 * L + l) k (w (113 + 4 * l + 2))) (300 + 6 * L + l) k (w (113 + 4 * l + 3)) = dyK c L k w (l + 1) := by
    funext R j
    rw [up_at, up_at]
    unfold dyK
    by_cases h1 : R = 300 + 6 * L + l ∧ j = k
    · rw [if_pos h1, if_neg (by omega), if_pos (by omega)]; congr 1; omega
    · rw [if_neg h1]
      by_cases h2 : R = 200 + 6 * L + l ∧ j = k
      · rw [if_pos h2, if_pos (by omega)]; congr 1; omega
      · rw [if_neg h2]
        by_cases h3 : 200 + 6 * L ≤ R ∧ R < 200 + 6 * L + l ∧ j = k
        · rw [if_pos h3, if_pos (by omega)]
        · rw [if_neg h3, if_neg (c := 200 + 6 * L ≤ R ∧ R < 200 + 6 * L + (l + 1) ∧ j = k) (by omega)]
          by_cases h4 : 300 + 6 * L ≤ R ∧ R < 300 + 6 * L + l ∧ j = k
          · rw [if_pos h4, if_pos (by omega)]
          · rw [if_neg h4, if_neg (by omega)]
  unfold C4_endDay
  simp (disch := omega) only [lit32, setL_w, z2, ws_n, bS, up_setL_o, z3, pt_n, up_setL_w, zz, kk]
theorem passC {c : RS} {g : CG} {L k lm : Nat} {w iv : Nat → Int32} (hL : L < 12) (hlm : lm ≤ 6) (hk : k < 10) (h8 : w 8 = nI lm) : ∀ (d l fu : Nat), l + d = lm → d < fu → C3_passTime_L41 (nI k) L g fu (nI l) (setL (dyK c L k w l) L (zW w l) iv) = some (nI lm, setL (dyK c L k w lm) L (zW w lm) iv) := by
  intro d
  induction d with
  | zero =>
    intro l fu hy hfu
    obtain ⟨fu, rfl⟩ : ∃ m, fu = m + 1 := ⟨fu - 1, by omega⟩
    obtain rfl : l = lm := by omega
    have z8 : zW w l 8 = nI l := by unfold zW; rw [if_neg (by omega)]; exact h8
    rw [C3_passTime_L41]
    simp (disch := omega) only [lit32, neg1, nI_add, nI_mul, bS, pt_n, ix_n, rd_n, ws_n, rdo_n, wso_n, setR_1, setL_w, setL_iv, up_setR, up_setL_w, up_setL_iv, nz_0, nz_1, z8]
    rw [if_pos (nI_le (by omega) (by omega))]
  | succ d ih =>
    intro l fu hy hfu
    obtain ⟨fu, rfl⟩ : ∃ m, fu = m + 1 := ⟨fu - 1, by omega⟩
    have hl6 : l < 6 := by omega
    have z8 : zW w l 8 = nI lm := by unfold zW; rw [if_neg (by omega)]; exact h8
    rw [C3_passTime_L41]
    simp only [setL_w, z8]
    rw [if_neg (nI_ge (by omega) (by omega)), if_neg (nI_pos (by omega)), ix_n hl6 (by omega), bS, endDay_w hL hl6 hk, bS, nI_1]
    exact ih (l + 1) fu (by omega) (by omega)
