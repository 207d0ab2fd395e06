section
noncomputable def sgnF (f : Nat → Int32) (s : Nat) : Nat → Int32 :=
  if f (17 + 16 * s + 9) ≤ nI 0 ∨ f (17 + 16 * s + 13) + nI 1 < f (17 + 16 * s + 9) then upd (upd f (17 + 16 * s + 4) (f (17 + 16 * s + 4) + nI 1)) (17 + 16 * s + 13) (f (17 + 16 * s + 13) + nI 1)
  else upd (upd (upd (upd f (17 + 16 * s + 4) (f (17 + 16 * s + 4) + nI 1)) (17 + 16 * s + 13) (f (17 + 16 * s + 13) + nI 1)) (17 + 16 * s + 11) (f (17 + 16 * s + 10))) (17 + 16 * s + 13) (nI 0)
theorem nI_and31 {k : Nat} (h : k < 32) : nI k &&& nI 31 = nI k := by
  rcases (show k = 0 ∨ k = 1 ∨ k = 2 ∨ k = 3 ∨ k = 4 ∨ k = 5 ∨ k = 6 ∨ k = 7 ∨ k = 8 ∨ k = 9 ∨ k = 10 ∨ k = 11 ∨ k = 12 ∨ k = 13 ∨ k = 14 ∨ k = 15 ∨ k = 16 ∨ k = 17 ∨ k = 18 ∨ k = 19 ∨ k = 20 ∨ k = 21 ∨ k = 22 ∨ k = 23 ∨ k = 24 ∨ k = 25 ∨ k = 26 ∨ k = 27 ∨ k = 28 ∨ k = 29 ∨ k = 30 ∨ k = 31 by omega) with rfl | rfl | rfl | rfl | rfl | rfl | rfl | rfl | rfl | rfl | rfl | rfl | rfl | rfl | rfl | rfl | rfl | rfl | rfl | rfl | rfl | rfl | rfl | rfl | rfl | rfl | rfl | rfl | rfl | rfl | rfl | rfl <;> decide +kernel
theorem rm_n {a d : Nat} (ha : a < 2 ^ 31) (h0 : 0 < d) (hd : d < 2 ^ 31) : rm (nI a) (nI d) = some (nI (a % d)) := by
  unfold rm
  rw [if_neg (show ¬ nI d = 0 from nI_ne0 h0 hd), pk_rem ha h0 hd]
theorem isBad_v {r : RS} {v : Nat → Int32} {s u n : Nat} (hs : s < 6) (h4 : v (17 + 16 * s + 4) = nI u) (hu : u < 2 ^ 31) (h14 : v (17 + 16 * s + 14) = nI n) (hn : 1 ≤ n) (hn2 : n ≤ 12) : F8_isBad (setR r v) (nI s) = some ((if (v (17 + 16 * s + 15) >>> nI (u % n)) &&& nI 1 = nI 1 then nI 1 else nI 0), setR r (sgnF v s)) := by
  have hm : u % n < n := Nat.mod_lt _ (by omega)
  unfold F8_isBad sgnF
  simp (disch := omega) only [lit32, neg1, nI_add, nI_mul, bS, pt_n, ix_n, rd_n, ws_n, rdo_n, wso_n, setR_1, setL_w, setL_iv, up_setR, up_setL_w, up_setL_iv, nz_0, nz_1, F8_of_v, h4, h14, rm_n]
  rw [nI_and31 (by omega)]
  have hb : ((if (v (17 + 16 * s + 15) >>> nI (u % n)) &&& nI 1 = nI 1 then some (nI 1) else some (nI 0)) : Option Int32) = some (if (v (17 + 16 * s + 15) >>> nI (u % n)) &&& nI 1 = nI 1 then nI 1 else nI 0) := by split <;> rfl
  rw [hb]
  generalize hx : (if (v (17 + 16 * s + 15) >>> nI (u % n)) &&& nI 1 = nI 1 then nI 1 else nI 0) = x
  have hnz : nz x = some x := by rw [← hx]; split <;> rfl
  simp (disch := omega) only [lit32, neg1, nI_add, nI_mul, bS, pt_n, ix_n, rd_n, ws_n, rdo_n, wso_n, setR_1, setL_w, setL_iv, up_setR, up_setL_w, up_setL_iv, nz_0, nz_1, F8_grows_v, F8_of_v, upd_n, upd_e, h4, hnz]
  by_cases e1 : v (17 + 16 * s + 9) ≤ nI 0
  · rw [if_pos e1, if_pos (Or.inl e1)]; rfl
  · rw [if_neg e1]
    by_cases e2 : v (17 + 16 * s + 13) + nI 1 < v (17 + 16 * s + 9)
    · rw [if_pos e2, if_pos (Or.inr e2)]; rfl
    · rw [if_neg e2, if_neg (by rintro (q | q); exact e1 q; exact e2 q)]
      simp (disch := omega) only [lit32, neg1, nI_add, nI_mul, bS, pt_n, ix_n, rd_n, ws_n, rdo_n, wso_n, setR_1, setL_w, setL_iv, up_setR, up_setL_w, up_setL_iv, nz_0, nz_1, F8_sets_s, hnz]
theorem useSign_w {c : RS} {g : CG} {L s t u n : Nat} {w iv : Nat → Int32} (hL : L < 12) (hs : s < 6) (h14 : w (17 + 16 * s + 14) = nI t) (t1 : 1 ≤ t) (tg : t ≤ g.nt) (t31 : t < 2 ^ 31) (hl : c (500 + t) 0 = nI n) (hn : 1 ≤ n) (hn2 : n ≤ 12) (h4 : w (17 + 16 * s + 4) = nI u) (hu : u < 2 ^ 31) : C6_useSign g (setL c L w iv) L s = some ((if c (500 + t) (1 + u % n) = nI 49 then nI 1 else nI 0), setL c L (sgnF w s) iv) := by
  have hm : u % n < n := Nat.mod_lt _ (by omega)
  have hl2 : ∀ w iv, setL c L w iv (500 + t) = c (500 + t) := fun w iv => setL_o (by omega) (by omega)
  have ht : ∀ w iv, tln g (setL c L w iv) (nI t) = some (nI n) := fun w iv => tln_n t1 tg t31 (by rw [hl2]; exact hl) (by omega)
  have hb0 : ∀ w iv, tbt g (setL c L w iv) (nI t) (nI (u % n)) = some (c (500 + t) (1 + u % n)) := fun w iv => by
    rw [tbt_n t1 tg t31 (by rw [hl2]; exact hl) (by omega) hm, hl2]
  unfold C6_useSign sgnF
  simp (disch := omega) only [lit32, neg1, nI_add, nI_mul, bS, pt_n, ix_n, rd_n, ws_n, rdo_n, wso_n, setR_1, setL_w, setL_iv, up_setR, up_setL_w, up_setL_iv, nz_0, nz_1, h14, ht, h4, rm_n, hb0]
  rw [if_neg (nI_ge (a := 0) (by omega) (by omega))]
  have hb : ((if c (500 + t) (1 + u % n) = nI 49 then some (nI 1) else some (nI 0)) : Option Int32) = some (if c (500 + t) (1 + u % n) = nI 49 then nI 1 else nI 0) := by split <;> rfl
  rw [hb]
  generalize hx : (if c (500 + t) (1 + u % n) = nI 49 then nI 1 else nI 0) = x
  have hnz : nz x = some x := by rw [← hx]; split <;> rfl
  simp (disch := omega) only [lit32, neg1, nI_add, nI_mul, bS, pt_n, ix_n, rd_n, ws_n, rdo_n, wso_n, setR_1, setL_w, setL_iv, up_setR, up_setL_w, up_setL_iv, nz_0, nz_1, upd_n, upd_e, h4, hnz]
  by_cases e1 : w (17 + 16 * s + 9) ≤ nI 0
  · rw [if_pos e1, if_pos (Or.inl e1)]; rfl
  · rw [if_neg e1]
    by_cases e2 : w (17 + 16 * s + 13) + nI 1 < w (17 + 16 * s + 9)
    · rw [if_pos e2, if_pos (Or.inr e2)]; rfl
    · rw [if_neg e2, if_neg (by rintro (q | q); exact e1 q; exact e2 q)]
      simp (disch := omega) only [lit32, neg1, nI_add, nI_mul, bS, pt_n, ix_n, rd_n, ws_n, rdo_n, wso_n, setR_1, setL_w, setL_iv, up_setR, up_setL_w, up_setL_iv, nz_0, nz_1, hnz]
theorem QR.ofS {v w v2 w2 iv : Nat → Int32} {bp dl df tx : Nat → Nat → Int32} {nt sm lm cm B U U2 : Nat} (h : QR v w iv bp dl df tx nt sm lm cm B U) (hA : sA v2 = sA v ∧ sA w2 = sA w) (hC : sC v2 = sC v ∧ sC w2 = sC w) (hF : sF v2 = sF v ∧ sF w2 = sF w) (hL : sL v2 = sL v ∧ sL w2 = sL w) (hE : sE w2 = sE w) (hP : sP v2 = sP v) (hS : QS (sS v2) (sS w2) (sC w) tx nt sm cm U2) : QR v2 w2 iv bp dl df tx nt sm lm cm B U2 := by
  refine ⟨?_, ?_, ?_, ?_, ?_, ?_, ?_⟩
  · rw [hA.1, hA.2]; exact h.a
  · rw [hC.2]; exact hS
  · rw [hC.1, hC.2]; exact h.c
  · rw [hA.1, hF.1, hF.2, hC.2]; exact h.n
  · rw [hL.1, hL.2, hE, hC.2]; exact h.l
  · rw [hA.1, hA.2, hP]; exact h.d
  · rw [hC.2]; exact h.wh
theorem QR.upS {v w iv : Nat → Int32} {bp dl df tx : Nat → Nat → Int32} {nt sm lm cm B U U2 s k : Nat} {x : Int32} (h : QR v w iv bp dl df tx nt sm lm cm B U) (hs : s < 6) (hk : k < 16) (hS : QS (up2 (sS v) s k x) (up2 (sS w) s k x) (sC w) tx nt sm cm U2) : QR (upd v (17 + 16 * s + k) x) (upd w (17 + 16 * s + k) x) iv bp dl df tx nt sm lm cm B U2 :=
  h.ofS ⟨sA_S hs hk, sA_S hs hk⟩ ⟨sC_S hs hk, sC_S hs hk⟩ ⟨sF_S hs hk, sF_S hs hk⟩ ⟨sL_S hs hk, sL_S hs hk⟩ (sE_S hs hk) (sP_S hs hk) (by rw [sS_S hs hk, sS_S hs hk]; exact hS)
theorem QR.free {v w iv : Nat → Int32} {bp dl df tx : Nat → Nat → Int32} {nt sm lm cm B U s : Nat} {x : Int32} (k : Nat) (hk : k = 5 ∨ k = 6 ∨ k = 9 ∨ k = 10 ∨ k = 11 ∨ k = 12 ∨ k = 13) (hs : s < 6) (h : QR v w iv bp dl df tx nt sm lm cm B U) : QR (upd v (17 + 16 * s + k) x) (upd w (17 + 16 * s + k) x) iv bp dl df tx nt sm lm cm B U :=
  h.upS hs (by omega) (QS.free k hk h.s)
theorem QR.rs {v w iv : Nat → Int32} {bp dl df tx : Nat → Nat → Int32} {nt sm lm cm B U s k : Nat} (h : QR v w iv bp dl df tx nt sm lm cm B U) (hs : s < sm) (hk : k < 14) (hk8 : k ≠ 8) : v (17 + 16 * s + k) = w (17 + 16 * s + k) := by
  have := h.a.sm6
  rw [sS_r (v := v) (by omega) (by omega), sS_r (v := w) (by omega) (by omega)]; exact h.s.eqs s k hs hk hk8
theorem QR.rc {v w iv : Nat → Int32} {bp dl df tx : Nat → Nat → Int32} {nt sm lm cm B U s k : Nat} (h : QR v w iv bp dl df tx nt sm lm cm B U) (hs : s < cm) (hk : k < 9) (hk8 : k ≠ 2) : v (137 + 25 * s + k) = w (137 + 25 * s + k) := by
  have := h.a.cm30
  rw [sC_r (v := v) (by omega) (by omega), sC_r (v := w) (by omega) (by omega)]; exact h.c.eqc s k hs hk hk8
theorem QR.ra {v w iv : Nat → Int32} {bp dl df tx : Nat → Nat → Int32} {nt sm lm cm B U i : Nat} (h : QR v w iv bp dl df tx nt sm lm cm B U) (hi : i < 17) (h1 : i ≠ 10) (h2 : i ≠ 11) : v i = w i := by
  rw [sA_r (v := v) hi, sA_r (v := w) hi]; exact h.a.eqa i hi h1 h2
theorem QR.sig {v w iv : Nat → Int32} {bp dl df tx : Nat → Nat → Int32} {nt sm lm cm B U s u : Nat} (h : QR v w iv bp dl df tx nt sm lm cm B U) (hs : s < sm) (hu : w (17 + 16 * s + 4) = nI u) (hU : u + 1 ≤ U) : QR (sgnF v s) (sgnF w s) iv bp dl df tx nt sm lm cm B U := by
  have hsm := h.a.sm6
  have hs6 : s < 6 := by omega
  have used : QR (upd v (17 + 16 * s + 4) (nI u + nI 1)) (upd w (17 + 16 * s + 4) (nI u + nI 1)) iv bp dl df tx nt sm lm cm B U := by
    rw [nI_add]; exact h.upS hs6 (by omega) (QS.uUsed hU h.s)
  unfold sgnF
  rw [h.rs hs (k := 4) (by omega) (by omega), h.rs hs (k := 9) (by omega) (by omega), h.rs hs (k := 10) (by omega) (by omega), h.rs hs (k := 13) (by omega) (by omega), hu]
  split
  · exact QR.free 13 (by omega) hs6 used
  · exact QR.free 13 (by omega) hs6 (QR.free 11 (by omega) hs6 (QR.free 13 (by omega) hs6 used))
end
section
theorem isFin_w {c : RS} {g : CG} {L q a : Nat} {w iv : Nat → Int32} (ha : a < 5) (e : w (137 + 25 * q + 3) = nI a) : C1_isFinished g (setL c L w iv) L q = some (if a = 3 ∨ a = 4 then nI 1 else nI 0) := by
  unfold C1_isFinished
  simp (disch := omega) only [lit32, neg1, nI_add, nI_mul, bS, pt_n, ix_n, rd_n, ws_n, rdo_n, wso_n, setR_1, setL_w, setL_iv, up_setR, up_setL_w, up_setL_iv, nz_0, nz_1, e]
  by_cases h3 : a = 3
  · subst h3; rfl
  · rw [if_neg (nI_ne h3 (by omega) (by omega))]
    by_cases h4 : a = 4
    · subst h4; rfl
    · rw [if_neg (nI_ne h4 (by omega) (by omega)), if_neg (by omega)]; rfl
theorem findNext_L {c : RS} {g : CG} {L l z cm : Nat} {iv : Nat → Int32} (hL : L < 12) (hl : l < 6) (hz : z ≤ 30) (hcm : cm ≤ 30) : ∀ (d q fu : Nat) (w : Nat → Int32), q + d = z → d < fu → w (113 + 4 * l + 1) = nI z → w (1100 + 8 * l + 0) = nI q → (∀ p, p < z → ∃ k, k < cm ∧ c (100 + 6 * L + l) p = nI k) → (∀ k, k < cm → ∃ a, a < 5 ∧ w (137 + 25 * k + 3) = nI a) →
    ∃ q2, q ≤ q2 ∧ q2 ≤ z ∧ C3_findNextCard_L0 L l g fu (setL c L w iv) = some (setL c L (upd w (1100 + 8 * l + 0) (nI q2)) iv) ∧ (∀ p k, q ≤ p → p < q2 → k < cm → c (100 + 6 * L + l) p = nI k → fin (sC w) k) ∧ (∀ k, q2 < z → k < cm → c (100 + 6 * L + l) q2 = nI k → ¬ fin (sC w) k) := by
  have fi : ∀ (w : Nat → Int32) k, k < cm → (fin (sC w) k ↔ w (137 + 25 * k + 3) = nI 3 ∨ w (137 + 25 * k + 3) = nI 4) := fun w k hk => by
    unfold fin; rw [← sC_r (v := w) (by omega) (by omega)]
  intro d
  induction d with
  | zero =>
    intro q fu w hq hfu h1 h0 hb hs
    obtain ⟨fu, rfl⟩ : ∃ m, fu = m + 1 := ⟨fu - 1, by omega⟩
    refine ⟨q, Nat.le_refl _, by omega, ?_, fun p k h1 h2 => by omega, fun k h => by omega⟩
    unfold C3_findNextCard_L0
    simp (disch := omega) only [lit32, neg1, nI_add, nI_mul, bS, pt_n, ix_n, rd_n, ws_n, rdo_n, wso_n, setR_1, setL_w, setL_iv, up_setR, up_setL_w, up_setL_iv, nz_0, nz_1, h1, h0]
    rw [if_pos (nI_le (by omega) (by omega)), ← h0, upd_s]
  | succ d ih =>
    intro q fu w hq hfu h1 h0 hb hs
    obtain ⟨fu, rfl⟩ : ∃ m, fu = m + 1 := ⟨fu - 1, by omega⟩
    obtain ⟨k, hk, ek⟩ := hb q (by omega)
    obtain ⟨a, ha, ea⟩ := hs k hk
    have hk30 : k < 30 := by omega
    unfold C3_findNextCard_L0
    simp (disch := omega) only [lit32, neg1, nI_add, nI_mul, bS, pt_n, ix_n, rd_n, ws_n, rdo_n, wso_n, setR_1, setL_w, setL_iv, up_setR, up_setL_w, up_setL_iv, nz_0, nz_1, h1, h0]
    rw [if_neg (nI_ge (by omega) (by omega)), setL_o (by omega) (by omega), ek]
    simp (disch := omega) only [lit32, neg1, nI_add, nI_mul, bS, pt_n, ix_n, rd_n, ws_n, rdo_n, wso_n, setR_1, setL_w, setL_iv, up_setR, up_setL_w, up_setL_iv, nz_0, nz_1, isFin_w ha ea]
    by_cases hf : a = 3 ∨ a = 4
    · rw [if_pos hf, if_neg (nI_ne (by omega) (by omega) (by omega))]
      obtain ⟨q2, g1, g2, g3, g4, g5⟩ := ih (q + 1) fu (upd w (1100 + 8 * l + 0) (nI (q + 1))) (by omega) (by omega) (by rw [upd_n (by omega)]; exact h1) upd_e hb (fun k hk => by rw [upd_n (by omega)]; exact hs k hk)
      have fe : ∀ k, k < cm → (fin (sC (upd w (1100 + 8 * l + 0) (nI (q + 1)))) k ↔ fin (sC w) k) := fun k hk => by rw [fi _ k hk, fi _ k hk, upd_n (by omega)]
      refine ⟨q2, by omega, g2, by rw [g3, upd_u], fun p k2 h2 h3 h4 h5 => ?_, fun k2 h2 h3 h4 => ?_⟩
      · by_cases e : p = q
        · subst e
          have : k2 = k := (nI_eq (by omega) (by omega)).mp (h5.symm.trans ek)
          subst this
          rw [fi w k2 hk, ea]
          rcases hf with rfl | rfl
          · exact Or.inl rfl
          · exact Or.inr rfl
        · exact (fe k2 h4).mp (g4 p k2 (by omega) h3 h4 h5)
      · exact fun f => g5 k2 h2 h3 h4 ((fe k2 h3).mpr f)
    · rw [if_neg hf, if_pos rfl]
      refine ⟨q, Nat.le_refl _, by omega, by rw [← h0, upd_s], fun p k h1 h2 => by omega, fun k2 h2 h3 h4 => ?_⟩
      have : k2 = k := (nI_eq (by omega) (by omega)).mp (h4.symm.trans ek)
      subst this
      rw [fi w k2 hk, ea]
      rintro (f | f)
      · exact hf (Or.inl ((nI_eq (by omega) (by omega)).mp f))
      · exact hf (Or.inr ((nI_eq (by omega) (by omega)).mp f))
theorem findNext_w {c : RS} {g : CG} {L l z q cm : Nat} {w iv : Nat → Int32} (hL : L < 12) (hl : l < 6) (hz : z ≤ 30) (hcm : cm ≤ 30) (hq : q ≤ z) (h1 : w (113 + 4 * l + 1) = nI z) (h0 : w (1100 + 8 * l + 0) = nI q) (hb : ∀ p, p < z → ∃ k, k < cm ∧ c (100 + 6 * L + l) p = nI k) (hs : ∀ k, k < cm → ∃ a, a < 5 ∧ w (137 + 25 * k + 3) = nI a) :
    ∃ q2, q ≤ q2 ∧ q2 ≤ z ∧ C3_findNextCard g (setL c L w iv) L l = some (setL c L (upd w (1100 + 8 * l + 0) (nI q2)) iv) ∧ (∀ p k, q ≤ p → p < q2 → k < cm → c (100 + 6 * L + l) p = nI k → fin (sC w) k) ∧ (∀ k, q2 < z → k < cm → c (100 + 6 * L + l) q2 = nI k → ¬ fin (sC w) k) := by
  obtain ⟨q2, g1, g2, g3, g4, g5⟩ := findNext_L (g := g) (iv := iv) hL hl hz hcm (z - q) q FUEL w (by omega) (by show z - q < 10000; omega) h1 h0 hb hs
  refine ⟨q2, g1, g2, ?_, g4, g5⟩
  unfold C3_findNextCard
  rw [g3]; rfl
end
section
noncomputable abbrev QX (c : RS) (g : CG) (L : Nat) (v w iv : Nat → Int32) (sm lm cm B U : Nat) : Prop := QR v w iv (fun l => c (100 + 6 * L + l)) (fun l => c (200 + 6 * L + l)) (fun l => c (300 + 6 * L + l)) (fun t => c (500 + t)) g.nt sm lm cm B U
noncomputable def lvV (v : Nat → Int32) (q l nl : Nat) : Nat → Int32 := upd (upd (upd (upd (upd (upd v (137 + 25 * q + 3) (nI 3)) (137 + 25 * q + 4) m1) (137 + 25 * q + 7) (v 6)) (887 + nl) (nI q)) 10 (v 10 + nI 1)) (113 + 4 * l + 2) (v (113 + 4 * l + 2) + nI 1)
noncomputable def lvW (w : Nat → Int32) (q l nl q2 : Nat) : Nat → Int32 := upd (upd (upd (upd (upd (upd (upd w (887 + nl) (nI q)) (137 + 25 * q + 7) (w 6)) (137 + 25 * q + 3) (nI 3)) (137 + 25 * q + 4) m1) (1100 + 8 * l + 1) (w (1100 + 8 * l + 1) + nI 1)) (113 + 4 * l + 2) (w (113 + 4 * l + 2) + nI 1)) (1100 + 8 * l + 0) (nI q2)
theorem leaves_v {r : RS} {v : Nat → Int32} {q l nl : Nat} (hq : q < 30) (hl : l < 6) (hn : nl < 30) (h10 : v 10 = nI nl) (h0 : v (137 + 25 * q + 0) = nI l) : F8_leaves (setR r v) (nI q) = some (setR r (lvV v q l nl)) := by
  unfold F8_leaves lvV
  simp (disch := omega) only [lit32, neg1, nI_add, nI_mul, bS, pt_n, ix_n, rd_n, ws_n, rdo_n, wso_n, setR_1, setL_w, setL_iv, up_setR, up_setL_w, up_setL_iv, nz_0, nz_1, F8_setsCard_s, F8_ofCard_v, upd_n, h10, h0]
theorem leave_w {c : RS} {g : CG} {L q l nl a z q0 cm : Nat} {w iv : Nat → Int32} (hL : L < 12) (hq : q < 30) (hqc : q < cm) (hl : l < 6) (hn : nl < 30) (hz : z ≤ 30) (hcm : cm ≤ 30) (hq0 : q0 ≤ z) (h3 : iv 3 = nI nl) (h0 : w (137 + 25 * q + 0) = nI l) (ha : a < 5) (es : w (137 + 25 * q + 3) = nI a) (hsz : w (113 + 4 * l + 1) = nI z) (hnp : w (1100 + 8 * l + 0) = nI q0) (hb : ∀ p, p < z → ∃ k, k < cm ∧ c (100 + 6 * L + l) p = nI k) (hs : ∀ k, k < cm → ∃ a, a < 5 ∧ w (137 + 25 * k + 3) = nI a) :
    ∃ q2, q0 ≤ q2 ∧ q2 ≤ z ∧ C3_leave g (setL c L w iv) L (nI q) = some (setL c L (lvW w q l nl q2) (ivM iv a 3)) ∧ (∀ p k, q0 ≤ p → p < q2 → k < cm → c (100 + 6 * L + l) p = nI k → fin (up2 (sC w) q 3 (nI 3)) k) ∧ (∀ k, q2 < z → k < cm → c (100 + 6 * L + l) q2 = nI k → ¬ fin (up2 (sC w) q 3 (nI 3)) k) := by
  obtain ⟨q2, g1, g2, g3, g4, g5⟩ := findNext_w (c := c) (g := g) (iv := ivM iv a 3) (w := upd (upd (upd (upd (upd (upd w (887 + nl) (nI q)) (137 + 25 * q + 7) (w 6)) (137 + 25 * q + 3) (nI 3)) (137 + 25 * q + 4) m1) (1100 + 8 * l + 1) (w (1100 + 8 * l + 1) + nI 1)) (113 + 4 * l + 2) (w (113 + 4 * l + 2) + nI 1)) hL hl hz hcm hq0 (by simp (disch := omega) only [upd_n]; exact hsz) (by simp (disch := omega) only [upd_n]; exact hnp) hb (fun k hk => by
    by_cases e : k = q
    · subst e; exact ⟨3, by omega, by simp (disch := omega) only [upd_n, upd_e]⟩
    · obtain ⟨a, ha, e⟩ := hs k hk
      exact ⟨a, ha, by simp (disch := omega) only [upd_n]; exact e⟩)
  have hv : ∀ k, k < cm → (fin (sC (upd (upd (upd (upd (upd (upd w (887 + nl) (nI q)) (137 + 25 * q + 7) (w 6)) (137 + 25 * q + 3) (nI 3)) (137 + 25 * q + 4) m1) (1100 + 8 * l + 1) (w (1100 + 8 * l + 1) + nI 1)) (113 + 4 * l + 2) (w (113 + 4 * l + 2) + nI 1))) k ↔ fin (up2 (sC w) q 3 (nI 3)) k) := by
    intro k hk
    simp (disch := first | decide | assumption) only [sA_A, sA_S, sA_L, sA_C, sA_F, sA_P, sA_E, sA_M, sS_A, sS_S, sS_L, sS_C, sS_F, sS_P, sS_E, sS_M, sL_A, sL_S, sL_L, sL_C, sL_F, sL_P, sL_E, sL_M, sC_A, sC_S, sC_L, sC_C, sC_F, sC_P, sC_E, sC_M, sF_A, sF_S, sF_L, sF_C, sF_F, sF_P, sF_E, sF_M, sP_A, sP_S, sP_L, sP_C, sP_F, sP_P, sP_E, sP_M, sE_A, sE_S, sE_L, sE_C, sE_F, sE_P, sE_E, sE_M]
    rw [fin_at (Or.inl (by decide))]
    unfold fin; simp [up2_at]
  refine ⟨q2, g1, g2, ?_, fun p k h1 h2 h3 h4 => (hv k h3).mp (g4 p k h1 h2 h3 h4), fun k h1 h2 h3 f => g5 k h1 h2 h3 ((hv k h2).mpr f)⟩
  unfold C3_leave lvW
  simp (disch := omega) only [lit32, neg1, nI_add, nI_mul, bS, pt_n, ix_n, rd_n, ws_n, rdo_n, wso_n, setR_1, setL_w, setL_iv, up_setR, up_setL_w, up_setL_iv, nz_0, nz_1, h3, upd_n, h0]
  rw [change_w (a := a) (b := 3) ha (by omega) (by simp (disch := omega) only [upd_n]; exact es)]
  simp (disch := omega) only [lit32, neg1, nI_add, nI_mul, bS, pt_n, ix_n, rd_n, ws_n, rdo_n, wso_n, setR_1, setL_w, setL_iv, up_setR, up_setL_w, up_setL_iv, nz_0, nz_1, upd_n, h0]
  rw [g3]; rfl
theorem leave_ok {r c : RS} {g : CG} {L sm lm cm B U q a : Nat} {v w iv : Nat → Int32} (hL : L < 12) (h : QX c g L v w iv sm lm cm B U) (hq : q < cm) (ha : a < 3) (es : sC w q 3 = nI a) (hr : sC w q 8 = nI 0) (nh : NH (sS w) sm q) :
    ∃ v' w' iv', F8_leaves (setR r v) (nI q) = some (setR r v') ∧ C3_leave g (setL c L w iv) L (nI q) = some (setL c L w' iv') ∧ QX c g L v' w' iv' sm lm cm B U ∧ sS w' = sS w ∧ sC w' q 3 = nI 3 ∧ (∀ k, k ≠ q → sC w' k 3 = sC w k 3) ∧ w' 1060 = w 1060 := by
  have hcm := h.a.cm30; have hlm := h.a.lm6
  have hq30 : q < 30 := by omega
  obtain ⟨l, hl, e0⟩ := h.c.lot q hq
  have hl6 : l < 6 := by omega
  obtain ⟨hQN, hnl⟩ := QN.leave hcm hq (by omega) (by omega) es h.n
  generalize hnle : cnt cm (stC (sC w) 3) = nl at hQN hnl
  have hiv : iv 3 = nI nl := by rw [h.n.ins 3 (by omega), hnle]
  have h10 : v 10 = nI nl := by
    have := h.n.nl; rw [← sA_r (v := v) (by omega), hiv] at this; exact this
  have hnl30 : nl < 30 := by omega
  obtain ⟨q0, f1, f2, f3, f4⟩ := h.l.next l hl
  have hz30 : cnt cm (loC (sC w) l) ≤ 30 := Nat.le_trans cnt_le hcm
  obtain ⟨q2, k1, k2, k3, k4, k5⟩ := leave_w (c := c) (g := g) (iv := iv) (w := w) (z := cnt cm (loC (sC w) l)) (q0 := q0) (nl := nl) (a := a) (l := l) hL hq30 hq hl6 (by omega) hz30 hcm f1 hiv (by rw [sC_r (v := w) (by omega) (by omega)]; exact e0) (by omega) (by rw [sC_r (v := w) (by omega) (by omega)]; exact es) (by rw [sL_r (v := w) (by omega) (by omega)]; exact h.l.size l hl) (by rw [sE_r (v := w) (by omega) (by omega)]; exact f2) (fun p hp => by obtain ⟨k, m1, m2, -⟩ := h.l.byp l hl p hp; exact ⟨k, m1, m2⟩) (fun k hk => by obtain ⟨a, m1, m2⟩ := h.c.state k hk; exact ⟨a, m1, by rw [sC_r (v := w) (by omega) (by omega)]; exact m2⟩)
  have e6 : v 6 = w 6 := h.ra (by omega) (by omega) (by omega)
  have eT : v (113 + 4 * l + 2) = w (113 + 4 * l + 2) := by
    rw [sL_r (v := v) (by omega) (by omega), sL_r (v := w) (by omega) (by omega)]; exact h.l.eql l 2 hl (by omega)
  have nf := not_fin ha es
  refine ⟨lvV v q l nl, lvW w q l nl q2, ivM iv a 3, leaves_v hq30 hl6 (by omega) h10 (by rw [h.rc hq (by omega) (by omega), sC_r (v := w) (by omega) (by omega)]; exact e0), k3, ?_, ?_, ?_, ?_, ?_⟩
  · have A1 : sA (lvV v q l nl) = upd (sA v) 10 (v 10 + nI 1) := by unfold lvV; simp (disch := first | decide | assumption) only [sA_A, sA_S, sA_L, sA_C, sA_F, sA_P, sA_E, sA_M, sS_A, sS_S, sS_L, sS_C, sS_F, sS_P, sS_E, sS_M, sL_A, sL_S, sL_L, sL_C, sL_F, sL_P, sL_E, sL_M, sC_A, sC_S, sC_L, sC_C, sC_F, sC_P, sC_E, sC_M, sF_A, sF_S, sF_L, sF_C, sF_F, sF_P, sF_E, sF_M, sP_A, sP_S, sP_L, sP_C, sP_F, sP_P, sP_E, sP_M, sE_A, sE_S, sE_L, sE_C, sE_F, sE_P, sE_E, sE_M]
    have S1 : sS (lvV v q l nl) = sS v := by unfold lvV; simp (disch := first | decide | assumption) only [sA_A, sA_S, sA_L, sA_C, sA_F, sA_P, sA_E, sA_M, sS_A, sS_S, sS_L, sS_C, sS_F, sS_P, sS_E, sS_M, sL_A, sL_S, sL_L, sL_C, sL_F, sL_P, sL_E, sL_M, sC_A, sC_S, sC_L, sC_C, sC_F, sC_P, sC_E, sC_M, sF_A, sF_S, sF_L, sF_C, sF_F, sF_P, sF_E, sF_M, sP_A, sP_S, sP_L, sP_C, sP_F, sP_P, sP_E, sP_M, sE_A, sE_S, sE_L, sE_C, sE_F, sE_P, sE_E, sE_M]
    have C1 : sC (lvV v q l nl) = up2 (up2 (up2 (sC v) q 3 (nI 3)) q 4 m1) q 7 (w 6) := by unfold lvV; simp (disch := first | decide | assumption) only [sA_A, sA_S, sA_L, sA_C, sA_F, sA_P, sA_E, sA_M, sS_A, sS_S, sS_L, sS_C, sS_F, sS_P, sS_E, sS_M, sL_A, sL_S, sL_L, sL_C, sL_F, sL_P, sL_E, sL_M, sC_A, sC_S, sC_L, sC_C, sC_F, sC_P, sC_E, sC_M, sF_A, sF_S, sF_L, sF_C, sF_F, sF_P, sF_E, sF_M, sP_A, sP_S, sP_L, sP_C, sP_F, sP_P, sP_E, sP_M, sE_A, sE_S, sE_L, sE_C, sE_F, sE_P, sE_E, sE_M, e6]
    have F1 : sF (lvV v q l nl) = upd (sF v) nl (nI q) := by unfold lvV; simp (disch := first | decide | assumption) only [sA_A, sA_S, sA_L, sA_C, sA_F, sA_P, sA_E, sA_M, sS_A, sS_S, sS_L, sS_C, sS_F, sS_P, sS_E, sS_M, sL_A, sL_S, sL_L, sL_C, sL_F, sL_P, sL_E, sL_M, sC_A, sC_S, sC_L, sC_C, sC_F, sC_P, sC_E, sC_M, sF_A, sF_S, sF_L, sF_C, sF_F, sF_P, sF_E, sF_M, sP_A, sP_S, sP_L, sP_C, sP_F, sP_P, sP_E, sP_M, sE_A, sE_S, sE_L, sE_C, sE_F, sE_P, sE_E, sE_M]
    have L1 : sL (lvV v q l nl) = up2 (sL v) l 2 (w (113 + 4 * l + 2) + nI 1) := by unfold lvV; simp (disch := first | decide | assumption) only [sA_A, sA_S, sA_L, sA_C, sA_F, sA_P, sA_E, sA_M, sS_A, sS_S, sS_L, sS_C, sS_F, sS_P, sS_E, sS_M, sL_A, sL_S, sL_L, sL_C, sL_F, sL_P, sL_E, sL_M, sC_A, sC_S, sC_L, sC_C, sC_F, sC_P, sC_E, sC_M, sF_A, sF_S, sF_L, sF_C, sF_F, sF_P, sF_E, sF_M, sP_A, sP_S, sP_L, sP_C, sP_F, sP_P, sP_E, sP_M, sE_A, sE_S, sE_L, sE_C, sE_F, sE_P, sE_E, sE_M, eT]
    have P1 : sP (lvV v q l nl) = sP v := by unfold lvV; simp (disch := first | decide | assumption) only [sA_A, sA_S, sA_L, sA_C, sA_F, sA_P, sA_E, sA_M, sS_A, sS_S, sS_L, sS_C, sS_F, sS_P, sS_E, sS_M, sL_A, sL_S, sL_L, sL_C, sL_F, sL_P, sL_E, sL_M, sC_A, sC_S, sC_L, sC_C, sC_F, sC_P, sC_E, sC_M, sF_A, sF_S, sF_L, sF_C, sF_F, sF_P, sF_E, sF_M, sP_A, sP_S, sP_L, sP_C, sP_F, sP_P, sP_E, sP_M, sE_A, sE_S, sE_L, sE_C, sE_F, sE_P, sE_E, sE_M]
    have A2 : sA (lvW w q l nl q2) = sA w := by unfold lvW; simp (disch := first | decide | assumption) only [sA_A, sA_S, sA_L, sA_C, sA_F, sA_P, sA_E, sA_M, sS_A, sS_S, sS_L, sS_C, sS_F, sS_P, sS_E, sS_M, sL_A, sL_S, sL_L, sL_C, sL_F, sL_P, sL_E, sL_M, sC_A, sC_S, sC_L, sC_C, sC_F, sC_P, sC_E, sC_M, sF_A, sF_S, sF_L, sF_C, sF_F, sF_P, sF_E, sF_M, sP_A, sP_S, sP_L, sP_C, sP_F, sP_P, sP_E, sP_M, sE_A, sE_S, sE_L, sE_C, sE_F, sE_P, sE_E, sE_M]
    have S2 : sS (lvW w q l nl q2) = sS w := by unfold lvW; simp (disch := first | decide | assumption) only [sA_A, sA_S, sA_L, sA_C, sA_F, sA_P, sA_E, sA_M, sS_A, sS_S, sS_L, sS_C, sS_F, sS_P, sS_E, sS_M, sL_A, sL_S, sL_L, sL_C, sL_F, sL_P, sL_E, sL_M, sC_A, sC_S, sC_L, sC_C, sC_F, sC_P, sC_E, sC_M, sF_A, sF_S, sF_L, sF_C, sF_F, sF_P, sF_E, sF_M, sP_A, sP_S, sP_L, sP_C, sP_F, sP_P, sP_E, sP_M, sE_A, sE_S, sE_L, sE_C, sE_F, sE_P, sE_E, sE_M]
    have C2 : sC (lvW w q l nl q2) = up2 (up2 (up2 (sC w) q 7 (w 6)) q 3 (nI 3)) q 4 m1 := by unfold lvW; simp (disch := first | decide | assumption) only [sA_A, sA_S, sA_L, sA_C, sA_F, sA_P, sA_E, sA_M, sS_A, sS_S, sS_L, sS_C, sS_F, sS_P, sS_E, sS_M, sL_A, sL_S, sL_L, sL_C, sL_F, sL_P, sL_E, sL_M, sC_A, sC_S, sC_L, sC_C, sC_F, sC_P, sC_E, sC_M, sF_A, sF_S, sF_L, sF_C, sF_F, sF_P, sF_E, sF_M, sP_A, sP_S, sP_L, sP_C, sP_F, sP_P, sP_E, sP_M, sE_A, sE_S, sE_L, sE_C, sE_F, sE_P, sE_E, sE_M]
    have C3 : up2 (up2 (up2 (sC w) q 7 (w 6)) q 3 (nI 3)) q 4 m1 = up2 (up2 (up2 (sC w) q 3 (nI 3)) q 4 m1) q 7 (w 6) := by
      (funext a b; simp only [up2_at]; repeat' split)
      all_goals (first | rfl | (exfalso; omega))
    have F2 : sF (lvW w q l nl q2) = upd (sF w) nl (nI q) := by unfold lvW; simp (disch := first | decide | assumption) only [sA_A, sA_S, sA_L, sA_C, sA_F, sA_P, sA_E, sA_M, sS_A, sS_S, sS_L, sS_C, sS_F, sS_P, sS_E, sS_M, sL_A, sL_S, sL_L, sL_C, sL_F, sL_P, sL_E, sL_M, sC_A, sC_S, sC_L, sC_C, sC_F, sC_P, sC_E, sC_M, sF_A, sF_S, sF_L, sF_C, sF_F, sF_P, sF_E, sF_M, sP_A, sP_S, sP_L, sP_C, sP_F, sP_P, sP_E, sP_M, sE_A, sE_S, sE_L, sE_C, sE_F, sE_P, sE_E, sE_M]
    have L2 : sL (lvW w q l nl q2) = up2 (sL w) l 2 (w (113 + 4 * l + 2) + nI 1) := by unfold lvW; simp (disch := first | decide | assumption) only [sA_A, sA_S, sA_L, sA_C, sA_F, sA_P, sA_E, sA_M, sS_A, sS_S, sS_L, sS_C, sS_F, sS_P, sS_E, sS_M, sL_A, sL_S, sL_L, sL_C, sL_F, sL_P, sL_E, sL_M, sC_A, sC_S, sC_L, sC_C, sC_F, sC_P, sC_E, sC_M, sF_A, sF_S, sF_L, sF_C, sF_F, sF_P, sF_E, sF_M, sP_A, sP_S, sP_L, sP_C, sP_F, sP_P, sP_E, sP_M, sE_A, sE_S, sE_L, sE_C, sE_F, sE_P, sE_E, sE_M]
    have E2 : sE (lvW w q l nl q2) = up2 (up2 (sE w) l (3 - 2) (sE w l (3 - 2) + nI 1)) l 0 (nI q2) := by
      unfold lvW; simp (disch := first | decide | assumption) only [sA_A, sA_S, sA_L, sA_C, sA_F, sA_P, sA_E, sA_M, sS_A, sS_S, sS_L, sS_C, sS_F, sS_P, sS_E, sS_M, sL_A, sL_S, sL_L, sL_C, sL_F, sL_P, sL_E, sL_M, sC_A, sC_S, sC_L, sC_C, sC_F, sC_P, sC_E, sC_M, sF_A, sF_S, sF_L, sF_C, sF_F, sF_P, sF_E, sF_M, sP_A, sP_S, sP_L, sP_C, sP_F, sP_P, sP_E, sP_M, sE_A, sE_S, sE_L, sE_C, sE_F, sE_P, sE_E, sE_M]; rw [sE_r (v := w) (by omega) (by omega)]
    refine ⟨?_, ?_, ?_, ?_, ?_, ?_, ?_⟩
    · rw [A1, A2]; exact h.a.v (Or.inl rfl)
    · rw [S1, S2, C2, C3]
      exact ((h.s.card hq hcm nh).card hq hcm nh).cardk (by decide) (by decide)
    · rw [C1, C2, C3]
      exact QC.set (by omega) (QC.set (by omega) (QC.uState (by omega) (Or.inr hr) h.c))
    · rw [A1, F1, F2, C2, C3]
      have : v 10 = sA v 10 := sA_r (v := v) (by omega)
      rw [this]
      exact (hQN.cardk (by decide)).cardk (by decide)
    · rw [L1, L2, E2, C2, C3]
      refine QL.cardk (by omega) (QL.cardk (by omega) (QL.free (by omega) (QL.finish (b := 3) hcm hlm hq hl e0 nf (Or.inl rfl) k2 (fun p c' hp hc' e => ?_) k5 h.l)))
      by_cases hp0 : p < q0
      · have := f3 p c' hp0 hc' e
        by_cases ec : c' = q
        · rw [ec] at this; exact absurd this nf
        · exact (fin_at (Or.inr ec)).mpr this
      · exact k4 p c' (by omega) hp hc' e
    · rw [A1, A2, P1]; exact h.d.v (by omega)
    · rw [C2, C3]; exact h.wh.st.up (by decide) (by decide)
  · unfold lvW; simp (disch := first | decide | assumption) only [sA_A, sA_S, sA_L, sA_C, sA_F, sA_P, sA_E, sA_M, sS_A, sS_S, sS_L, sS_C, sS_F, sS_P, sS_E, sS_M, sL_A, sL_S, sL_L, sL_C, sL_F, sL_P, sL_E, sL_M, sC_A, sC_S, sC_L, sC_C, sC_F, sC_P, sC_E, sC_M, sF_A, sF_S, sF_L, sF_C, sF_F, sF_P, sF_E, sF_M, sP_A, sP_S, sP_L, sP_C, sP_F, sP_P, sP_E, sP_M, sE_A, sE_S, sE_L, sE_C, sE_F, sE_P, sE_E, sE_M]
  · unfold lvW; simp (disch := first | decide | assumption) only [sA_A, sA_S, sA_L, sA_C, sA_F, sA_P, sA_E, sA_M, sS_A, sS_S, sS_L, sS_C, sS_F, sS_P, sS_E, sS_M, sL_A, sL_S, sL_L, sL_C, sL_F, sL_P, sL_E, sL_M, sC_A, sC_S, sC_L, sC_C, sC_F, sC_P, sC_E, sC_M, sF_A, sF_S, sF_L, sF_C, sF_F, sF_P, sF_E, sF_M, sP_A, sP_S, sP_L, sP_C, sP_F, sP_P, sP_E, sP_M, sE_A, sE_S, sE_L, sE_C, sE_F, sE_P, sE_E, sE_M]; rw [up2_ne (by decide), up2_eq]
  · intro k hk; unfold lvW; simp (disch := first | decide | assumption) only [sA_A, sA_S, sA_L, sA_C, sA_F, sA_P, sA_E, sA_M, sS_A, sS_S, sS_L, sS_C, sS_F, sS_P, sS_E, sS_M, sL_A, sL_S, sL_L, sL_C, sL_F, sL_P, sL_E, sL_M, sC_A, sC_S, sC_L, sC_C, sC_F, sC_P, sC_E, sC_M, sF_A, sF_S, sF_L, sF_C, sF_F, sF_P, sF_E, sF_M, sP_A, sP_S, sP_L, sP_C, sP_F, sP_P, sP_E, sP_M, sE_A, sE_S, sE_L, sE_C, sE_F, sE_P, sE_E, sE_M]; rw [up2_ne1 hk, up2_ne1 hk, up2_ne1 hk]
  · unfold lvW; simp (disch := omega) only [upd_n]
end
section
theorem up2_s {f : Nat → Nat → Int32} {i j : Nat} {x : Int32} (h : f i j = x) : up2 f i j x = f := by
  funext a b; rw [up2_at]; split
  · rename_i e; rw [e.1, e.2, h]
  · rfl
theorem QC.r0 {vc wc tx : Nat → Nat → Int32} {nt lm cm c a : Nat} (h : QC vc wc tx nt lm cm) (hc : c < cm) (ha : a ≠ 0) (ha5 : a < 5) (e : wc c 3 = nI a) : wc c 8 = nI 0 := by
  rcases h.rush c hc with q | q
  · exact q
  · exact absurd (q.2.symm.trans e) (nI_ne (Ne.symm ha) (by omega) (by omega))
theorem abandon_w {c : RS} {g : CG} {L q l a z q0 cm : Nat} {w iv : Nat → Int32} (hL : L < 12) (hq : q < 30) (hqc : q < cm) (hl : l < 6) (hz : z ≤ 30) (hcm : cm ≤ 30) (hq0 : q0 ≤ z) (h0 : w (137 + 25 * q + 0) = nI l) (ha : a < 5) (es : w (137 + 25 * q + 3) = nI a) (hsz : w (113 + 4 * l + 1) = nI z) (hnp : w (1100 + 8 * l + 0) = nI q0) (hb : ∀ p, p < z → ∃ k, k < cm ∧ c (100 + 6 * L + l) p = nI k) (hs : ∀ k, k < cm → ∃ a, a < 5 ∧ w (137 + 25 * k + 3) = nI a) :
    ∃ q2, q0 ≤ q2 ∧ q2 ≤ z ∧ C3_abandon g (setL c L w iv) L (nI q) = some (setL c L (upd (upd (upd (upd (upd w (137 + 25 * q + 8) (nI 0)) (137 + 25 * q + 3) (nI 4)) (137 + 25 * q + 4) m1) (1100 + 8 * l + 2) (w (1100 + 8 * l + 2) + nI 1)) (1100 + 8 * l + 0) (nI q2)) (ivM iv a 4)) ∧ (∀ p k, q0 ≤ p → p < q2 → k < cm → c (100 + 6 * L + l) p = nI k → fin (up2 (sC w) q 3 (nI 4)) k) ∧ (∀ k, q2 < z → k < cm → c (100 + 6 * L + l) q2 = nI k → ¬ fin (up2 (sC w) q 3 (nI 4)) k) := by
  obtain ⟨q2, g1, g2, g3, g4, g5⟩ := findNext_w (c := c) (g := g) (iv := ivM iv a 4) (w := upd (upd (upd (upd w (137 + 25 * q + 8) (nI 0)) (137 + 25 * q + 3) (nI 4)) (137 + 25 * q + 4) m1) (1100 + 8 * l + 2) (w (1100 + 8 * l + 2) + nI 1)) hL hl hz hcm hq0 (by simp (disch := omega) only [upd_n]; exact hsz) (by simp (disch := omega) only [upd_n]; exact hnp) hb (fun k hk => by
    by_cases e : k = q
    · subst e; exact ⟨4, by omega, by simp (disch := omega) only [upd_n, upd_e]⟩
    · obtain ⟨a, ha, e⟩ := hs k hk
      exact ⟨a, ha, by simp (disch := omega) only [upd_n]; exact e⟩)
  have hv : ∀ k, k < cm → (fin (sC (upd (upd (upd (upd w (137 + 25 * q + 8) (nI 0)) (137 + 25 * q + 3) (nI 4)) (137 + 25 * q + 4) m1) (1100 + 8 * l + 2) (w (1100 + 8 * l + 2) + nI 1))) k ↔ fin (up2 (sC w) q 3 (nI 4)) k) := by
    intro k hk
    simp (disch := first | decide | assumption) only [sA_A, sA_S, sA_L, sA_C, sA_F, sA_P, sA_E, sA_M, sS_A, sS_S, sS_L, sS_C, sS_F, sS_P, sS_E, sS_M, sL_A, sL_S, sL_L, sL_C, sL_F, sL_P, sL_E, sL_M, sC_A, sC_S, sC_L, sC_C, sC_F, sC_P, sC_E, sC_M, sF_A, sF_S, sF_L, sF_C, sF_F, sF_P, sF_E, sF_M, sP_A, sP_S, sP_L, sP_C, sP_F, sP_P, sP_E, sP_M, sE_A, sE_S, sE_L, sE_C, sE_F, sE_P, sE_E, sE_M]
    unfold fin; simp [up2_at]
  refine ⟨q2, g1, g2, ?_, fun p k h1 h2 h3 h4 => (hv k h3).mp (g4 p k h1 h2 h3 h4), fun k h1 h2 h3 f => g5 k h1 h2 h3 ((hv k h2).mpr f)⟩
  unfold C3_abandon
  simp (disch := omega) only [lit32, neg1, nI_add, nI_mul, bS, pt_n, ix_n, rd_n, ws_n, rdo_n, wso_n, setR_1, setL_w, setL_iv, up_setR, up_setL_w, up_setL_iv, nz_0, nz_1]
  rw [change_w (a := a) (b := 4) ha (by omega) (by simp (disch := omega) only [upd_n]; exact es)]
  simp (disch := omega) only [lit32, neg1, nI_add, nI_mul, bS, pt_n, ix_n, rd_n, ws_n, rdo_n, wso_n, setR_1, setL_w, setL_iv, up_setR, up_setL_w, up_setL_iv, nz_0, nz_1, upd_n, h0]
  rw [g3]; rfl
noncomputable def faV (v : Nat → Int32) (s q l b : Nat) : Nat → Int32 := upd (upd (upd (upd (upd (upd (upd v (17 + 16 * s + 2) m1) (17 + 16 * s + 5) (v (17 + 16 * s + 5) + nI 1)) (137 + 25 * q + 5) (v (137 + 25 * q + 5) + nI 1)) (137 + 25 * q + 4) m1) (137 + 25 * q + 3) (nI b)) 13 (v 13 + nI 1)) (113 + 4 * l + 3) (v (113 + 4 * l + 3) + nI 1)
noncomputable def faB (v : Nat → Int32) (q : Nat) : Nat := if v (137 + 25 * q + 5) + nI 1 < v 2 then 0 else 4
theorem failsIn_v {r : RS} {v : Nat → Int32} {s q l : Nat} (hs : s < 6) (hq : q < 30) (hl : l < 6) (h0 : v (137 + 25 * q + 0) = nI l) : F8_failsIn (setR r v) (nI s) (nI q) = some (setR r (faV v s q l (faB v q))) := by
  unfold F8_failsIn faV faB
  simp (disch := omega) only [lit32, neg1, nI_add, nI_mul, bS, pt_n, ix_n, rd_n, ws_n, rdo_n, wso_n, setR_1, setL_w, setL_iv, up_setR, up_setL_w, up_setL_iv, nz_0, nz_1, F8_setsCard_s, F8_ofCard_v, F8_sets_s, F8_grows_v, upd_n, upd_e]
  have e : ((if v (137 + 25 * q + 5) + nI 1 < v 2 then some (nI 0) else some (nI 4)) : Option Int32) = some (nI (if v (137 + 25 * q + 5) + nI 1 < v 2 then 0 else 4)) := by split <;> rfl
  rw [e]
  generalize (if v (137 + 25 * q + 5) + nI 1 < v 2 then 0 else 4) = b
  simp (disch := omega) only [lit32, neg1, nI_add, nI_mul, bS, pt_n, ix_n, rd_n, ws_n, rdo_n, wso_n, setR_1, setL_w, setL_iv, up_setR, up_setL_w, up_setL_iv, nz_0, nz_1, F8_setsCard_s, F8_ofCard_v, upd_n, h0]
noncomputable def faW (w : Nat → Int32) (s q l : Nat) : Nat → Int32 := upd (upd (upd (upd (upd (upd w (17 + 16 * s + 2) m1) (17 + 16 * s + 5) (w (17 + 16 * s + 5) + nI 1)) 13 (w 13 + nI 1)) (1100 + 8 * l + 3) (w (1100 + 8 * l + 3) + nI 1)) (113 + 4 * l + 3) (w (113 + 4 * l + 3) + nI 1)) (137 + 25 * q + 5) (w (137 + 25 * q + 5) + nI 1)
theorem fail_ok {r c : RS} {g : CG} {L sm lm cm B U s q : Nat} {v w iv : Nat → Int32} (hL : L < 12) (h : QX c g L v w iv sm lm cm B U) (hs : s < sm) (hq : q < cm) (eh : sS w s 2 = nI q) (es : sC w q 3 = nI 1) :
    ∃ v' w' iv', F8_failsIn (setR r v) (nI s) (nI q) = some (setR r v') ∧ C3_failCardIn g (setL c L w iv) L s = some (setL c L w' iv') ∧ QX c g L v' w' iv' sm lm cm B U ∧ (∀ s' k, k ≠ 2 → k ≠ 5 → sS w' s' k = sS w s' k) ∧ w' 1060 = w 1060 ∧ sS v' s 2 = m1 := by
  have hsm := h.a.sm6; have hcm := h.a.cm30; have hlm := h.a.lm6
  have hs6 : s < 6 := by omega
  have hq30 : q < 30 := by omega
  obtain ⟨l, hl, e0⟩ := h.c.lot q hq
  have hl6 : l < 6 := by omega
  have e0w : w (137 + 25 * q + 0) = nI l := by rw [sC_r (v := w) (by omega) (by omega)]; exact e0
  have ehw : w (17 + 16 * s + 2) = nI q := by rw [sS_r (v := w) (by omega) (by omega)]; exact eh
  have esw : w (137 + 25 * q + 3) = nI 1 := by rw [sC_r (v := w) (by omega) (by omega)]; exact es
  have r0 := h.c.r0 hq (by omega) (by omega) es
  have eF : v (137 + 25 * q + 5) = w (137 + 25 * q + 5) := h.rc hq (by omega) (by omega)
  have e5 : v (17 + 16 * s + 5) = w (17 + 16 * s + 5) := h.rs hs (by omega) (by omega)
  have e2 : v 2 = w 2 := h.ra (by omega) (by omega) (by omega)
  have e13 : v 13 = w 13 := h.ra (by omega) (by omega) (by omega)
  have eT : v (113 + 4 * l + 3) = w (113 + 4 * l + 3) := by
    rw [sL_r (v := v) (by omega) (by omega), sL_r (v := w) (by omega) (by omega)]; exact h.l.eql l 3 hl (by omega)
  have nf := not_fin (a := 1) (by omega) es
  have nh := h.s.nh hsm hcm hs hq30 eh
  have hF8 := failsIn_v (r := r) (v := v) hs6 hq30 hl6 (by rw [h.rc hq (by omega) (by omega)]; exact e0w)
  have hb : faB v q = faB w q := by unfold faB; rw [eF, e2]
  -- the class up to the fork
  have hC : C3_failCardIn g (setL c L w iv) L s = (if w (137 + 25 * q + 5) + nI 1 < w 2 then C3_changeState g (setL c L (faW w s q l) iv) L q (nI 0) else C3_abandon g (setL c L (faW w s q l) iv) L (nI q)) := by
    unfold C3_failCardIn C6_letFail faW
    simp (disch := omega) only [lit32, neg1, nI_add, nI_mul, bS, pt_n, ix_n, rd_n, ws_n, rdo_n, wso_n, setR_1, setL_w, setL_iv, up_setR, up_setL_w, up_setL_iv, nz_0, nz_1, ehw, upd_n, upd_e, e0w]
    simp only [show 12 + 1 = 13 from rfl]
    split
    · cases C3_changeState g _ L q (nI 0) <;> rfl
    · cases C3_abandon g _ L (nI q) <;> rfl
  have qa0 : QA (upd (sA v) 13 (w 13 + nI 1)) (upd (sA w) 13 (w 13 + nI 1)) sm lm cm B := h.a.free (by omega)
  have qs0 : QS (up2 (up2 (sS v) s 2 m1) s 5 (w (17 + 16 * s + 5) + nI 1)) (up2 (up2 (sS w) s 2 m1) s 5 (w (17 + 16 * s + 5) + nI 1)) (up2 (sC w) q 5 (w (137 + 25 * q + 5) + nI 1)) _ g.nt sm cm U := (QS.free 5 (by omega) (h.s.uHold (Or.inl rfl))).cardk (by decide) (by decide)
  have nh2 : NH (up2 (up2 (sS w) s 2 m1) s 5 (w (17 + 16 * s + 5) + nI 1)) sm q := nh.up (by decide)
  have qc0 : QC (up2 (sC v) q 5 (w (137 + 25 * q + 5) + nI 1)) (up2 (sC w) q 5 (w (137 + 25 * q + 5) + nI 1)) _ g.nt lm cm := h.c.set (by omega)
  have qn0 : QN (upd (sA v) 13 (w 13 + nI 1)) (sF v) (sF w) (up2 (sC w) q 5 (w (137 + 25 * q + 5) + nI 1)) iv cm := (h.n.cardk (by decide)).va (by omega)
  have ew5 : w (137 + 25 * q + 5) = sC w q 5 := sC_r (v := w) (by omega) (by omega)
  have ql0 : QL (up2 (sL v) l 3 (w (113 + 4 * l + 3) + nI 1)) (up2 (sL w) l 3 (w (113 + 4 * l + 3) + nI 1)) (up2 (sE w) l 3 (w (1100 + 8 * l + 3) + nI 1)) (up2 (sC w) q 5 (w (137 + 25 * q + 5) + nI 1)) (fun l => c (100 + 6 * L + l)) lm cm := by
    have := (h.l.more (k := 5) hcm hlm hq hl e0 (Or.inl rfl)).free (l := l) (k := 3) (x := w (113 + 4 * l + 3) + nI 1) (by omega)
    rw [ew5, sE_r (v := w) (by omega) (by omega)]; exact this
  have qd0 : QD (upd (sA v) 13 (w 13 + nI 1)) (sP v) (upd (sA w) 13 (w 13 + nI 1)) (fun l => c (200 + 6 * L + l)) (fun l => c (300 + 6 * L + l)) lm := h.d.free (by omega)
  have es2 : up2 (sC w) q 5 (w (137 + 25 * q + 5) + nI 1) q 3 = nI 1 := by rw [up2_ne (by decide)]; exact es
  have nf2 : ¬ fin (up2 (sC w) q 5 (w (137 + 25 * q + 5) + nI 1)) q := not_fin (a := 1) (by omega) es2
  have vA : sA (faV v s q l (faB v q)) = upd (sA v) 13 (w 13 + nI 1) := by unfold faV; simp (disch := first | decide | assumption) only [sA_A, sA_S, sA_L, sA_C, sA_F, sA_P, sA_E, sA_M, sS_A, sS_S, sS_L, sS_C, sS_F, sS_P, sS_E, sS_M, sL_A, sL_S, sL_L, sL_C, sL_F, sL_P, sL_E, sL_M, sC_A, sC_S, sC_L, sC_C, sC_F, sC_P, sC_E, sC_M, sF_A, sF_S, sF_L, sF_C, sF_F, sF_P, sF_E, sF_M, sP_A, sP_S, sP_L, sP_C, sP_F, sP_P, sP_E, sP_M, sE_A, sE_S, sE_L, sE_C, sE_F, sE_P, sE_E, sE_M, e13]
  have vS : sS (faV v s q l (faB v q)) = up2 (up2 (sS v) s 2 m1) s 5 (w (17 + 16 * s + 5) + nI 1) := by unfold faV; simp (disch := first | decide | assumption) only [sA_A, sA_S, sA_L, sA_C, sA_F, sA_P, sA_E, sA_M, sS_A, sS_S, sS_L, sS_C, sS_F, sS_P, sS_E, sS_M, sL_A, sL_S, sL_L, sL_C, sL_F, sL_P, sL_E, sL_M, sC_A, sC_S, sC_L, sC_C, sC_F, sC_P, sC_E, sC_M, sF_A, sF_S, sF_L, sF_C, sF_F, sF_P, sF_E, sF_M, sP_A, sP_S, sP_L, sP_C, sP_F, sP_P, sP_E, sP_M, sE_A, sE_S, sE_L, sE_C, sE_F, sE_P, sE_E, sE_M, e5]
  have vC : sC (faV v s q l (faB v q)) = up2 (up2 (up2 (sC v) q 5 (w (137 + 25 * q + 5) + nI 1)) q 3 (nI (faB v q))) q 4 m1 := by
    unfold faV; simp (disch := first | decide | assumption) only [sA_A, sA_S, sA_L, sA_C, sA_F, sA_P, sA_E, sA_M, sS_A, sS_S, sS_L, sS_C, sS_F, sS_P, sS_E, sS_M, sL_A, sL_S, sL_L, sL_C, sL_F, sL_P, sL_E, sL_M, sC_A, sC_S, sC_L, sC_C, sC_F, sC_P, sC_E, sC_M, sF_A, sF_S, sF_L, sF_C, sF_F, sF_P, sF_E, sF_M, sP_A, sP_S, sP_L, sP_C, sP_F, sP_P, sP_E, sP_M, sE_A, sE_S, sE_L, sE_C, sE_F, sE_P, sE_E, sE_M, eF]
    (funext a b; simp only [up2_at]; repeat' split)
    all_goals (first | rfl | (exfalso; omega))
  have vF : sF (faV v s q l (faB v q)) = sF v := by unfold faV; simp (disch := first | decide | assumption) only [sA_A, sA_S, sA_L, sA_C, sA_F, sA_P, sA_E, sA_M, sS_A, sS_S, sS_L, sS_C, sS_F, sS_P, sS_E, sS_M, sL_A, sL_S, sL_L, sL_C, sL_F, sL_P, sL_E, sL_M, sC_A, sC_S, sC_L, sC_C, sC_F, sC_P, sC_E, sC_M, sF_A, sF_S, sF_L, sF_C, sF_F, sF_P, sF_E, sF_M, sP_A, sP_S, sP_L, sP_C, sP_F, sP_P, sP_E, sP_M, sE_A, sE_S, sE_L, sE_C, sE_F, sE_P, sE_E, sE_M]
  have vL : sL (faV v s q l (faB v q)) = up2 (sL v) l 3 (w (113 + 4 * l + 3) + nI 1) := by unfold faV; simp (disch := first | decide | assumption) only [sA_A, sA_S, sA_L, sA_C, sA_F, sA_P, sA_E, sA_M, sS_A, sS_S, sS_L, sS_C, sS_F, sS_P, sS_E, sS_M, sL_A, sL_S, sL_L, sL_C, sL_F, sL_P, sL_E, sL_M, sC_A, sC_S, sC_L, sC_C, sC_F, sC_P, sC_E, sC_M, sF_A, sF_S, sF_L, sF_C, sF_F, sF_P, sF_E, sF_M, sP_A, sP_S, sP_L, sP_C, sP_F, sP_P, sP_E, sP_M, sE_A, sE_S, sE_L, sE_C, sE_F, sE_P, sE_E, sE_M, eT]
  have vP : sP (faV v s q l (faB v q)) = sP v := by unfold faV; simp (disch := first | decide | assumption) only [sA_A, sA_S, sA_L, sA_C, sA_F, sA_P, sA_E, sA_M, sS_A, sS_S, sS_L, sS_C, sS_F, sS_P, sS_E, sS_M, sL_A, sL_S, sL_L, sL_C, sL_F, sL_P, sL_E, sL_M, sC_A, sC_S, sC_L, sC_C, sC_F, sC_P, sC_E, sC_M, sF_A, sF_S, sF_L, sF_C, sF_F, sF_P, sF_E, sF_M, sP_A, sP_S, sP_L, sP_C, sP_F, sP_P, sP_E, sP_M, sE_A, sE_S, sE_L, sE_C, sE_F, sE_P, sE_E, sE_M]
  by_cases hlt : w (137 + 25 * q + 5) + nI 1 < w 2
  · have hb0 : faB v q = 0 := by rw [hb]; exact if_pos hlt
    rw [if_pos hlt, change_w (a := 1) (b := 0) (by omega) (by omega) (by unfold faW; simp (disch := omega) only [upd_n]; exact esw)] at hC
    refine ⟨_, _, _, hF8, hC, ?_, ?_, ?_, ?_⟩
    · refine ⟨?_, ?_, ?_, ?_, ?_, ?_, ?_⟩
      · rw [vA]; unfold faW; simp (disch := first | decide | assumption) only [sA_A, sA_S, sA_L, sA_C, sA_F, sA_P, sA_E, sA_M, sS_A, sS_S, sS_L, sS_C, sS_F, sS_P, sS_E, sS_M, sL_A, sL_S, sL_L, sL_C, sL_F, sL_P, sL_E, sL_M, sC_A, sC_S, sC_L, sC_C, sC_F, sC_P, sC_E, sC_M, sF_A, sF_S, sF_L, sF_C, sF_F, sF_P, sF_E, sF_M, sP_A, sP_S, sP_L, sP_C, sP_F, sP_P, sP_E, sP_M, sE_A, sE_S, sE_L, sE_C, sE_F, sE_P, sE_E, sE_M]; exact qa0
      · rw [vS]; unfold faW; simp (disch := first | decide | assumption) only [sA_A, sA_S, sA_L, sA_C, sA_F, sA_P, sA_E, sA_M, sS_A, sS_S, sS_L, sS_C, sS_F, sS_P, sS_E, sS_M, sL_A, sL_S, sL_L, sL_C, sL_F, sL_P, sL_E, sL_M, sC_A, sC_S, sC_L, sC_C, sC_F, sC_P, sC_E, sC_M, sF_A, sF_S, sF_L, sF_C, sF_F, sF_P, sF_E, sF_M, sP_A, sP_S, sP_L, sP_C, sP_F, sP_P, sP_E, sP_M, sE_A, sE_S, sE_L, sE_C, sE_F, sE_P, sE_E, sE_M]; exact (qs0.card hq hcm nh2).card hq hcm nh2
      · rw [vC, hb0]; unfold faW; simp (disch := first | decide | assumption) only [sA_A, sA_S, sA_L, sA_C, sA_F, sA_P, sA_E, sA_M, sS_A, sS_S, sS_L, sS_C, sS_F, sS_P, sS_E, sS_M, sL_A, sL_S, sL_L, sL_C, sL_F, sL_P, sL_E, sL_M, sC_A, sC_S, sC_L, sC_C, sC_F, sC_P, sC_E, sC_M, sF_A, sF_S, sF_L, sF_C, sF_F, sF_P, sF_E, sF_M, sP_A, sP_S, sP_L, sP_C, sP_F, sP_P, sP_E, sP_M, sE_A, sE_S, sE_L, sE_C, sE_F, sE_P, sE_E, sE_M]; exact QC.set (by omega) (QC.uState (by omega) (Or.inl rfl) qc0)
      · rw [vA, vF]; unfold faW; simp (disch := first | decide | assumption) only [sA_A, sA_S, sA_L, sA_C, sA_F, sA_P, sA_E, sA_M, sS_A, sS_S, sS_L, sS_C, sS_F, sS_P, sS_E, sS_M, sL_A, sL_S, sL_L, sL_C, sL_F, sL_P, sL_E, sL_M, sC_A, sC_S, sC_L, sC_C, sC_F, sC_P, sC_E, sC_M, sF_A, sF_S, sF_L, sF_C, sF_F, sF_P, sF_E, sF_M, sP_A, sP_S, sP_L, sP_C, sP_F, sP_P, sP_E, sP_M, sE_A, sE_S, sE_L, sE_C, sE_F, sE_P, sE_E, sE_M]; exact (QN.move hcm hq (by omega) (by omega) (by omega) (by omega) (by omega) es2 qn0).cardk (by decide)
      · rw [vL]; unfold faW; simp (disch := first | decide | assumption) only [sA_A, sA_S, sA_L, sA_C, sA_F, sA_P, sA_E, sA_M, sS_A, sS_S, sS_L, sS_C, sS_F, sS_P, sS_E, sS_M, sL_A, sL_S, sL_L, sL_C, sL_F, sL_P, sL_E, sL_M, sC_A, sC_S, sC_L, sC_C, sC_F, sC_P, sC_E, sC_M, sF_A, sF_S, sF_L, sF_C, sF_F, sF_P, sF_E, sF_M, sP_A, sP_S, sP_L, sP_C, sP_F, sP_P, sP_E, sP_M, sE_A, sE_S, sE_L, sE_C, sE_F, sE_P, sE_E, sE_M]; exact (ql0.state nf2 (by omega)).cardk (by omega)
      · rw [vA, vP]; unfold faW; simp (disch := first | decide | assumption) only [sA_A, sA_S, sA_L, sA_C, sA_F, sA_P, sA_E, sA_M, sS_A, sS_S, sS_L, sS_C, sS_F, sS_P, sS_E, sS_M, sL_A, sL_S, sL_L, sL_C, sL_F, sL_P, sL_E, sL_M, sC_A, sC_S, sC_L, sC_C, sC_F, sC_P, sC_E, sC_M, sF_A, sF_S, sF_L, sF_C, sF_F, sF_P, sF_E, sF_M, sP_A, sP_S, sP_L, sP_C, sP_F, sP_P, sP_E, sP_M, sE_A, sE_S, sE_L, sE_C, sE_F, sE_P, sE_E, sE_M]; exact qd0
      · unfold faW; simp (disch := first | decide | assumption) only [sA_A, sA_S, sA_L, sA_C, sA_F, sA_P, sA_E, sA_M, sS_A, sS_S, sS_L, sS_C, sS_F, sS_P, sS_E, sS_M, sL_A, sL_S, sL_L, sL_C, sL_F, sL_P, sL_E, sL_M, sC_A, sC_S, sC_L, sC_C, sC_F, sC_P, sC_E, sC_M, sF_A, sF_S, sF_L, sF_C, sF_F, sF_P, sF_E, sF_M, sP_A, sP_S, sP_L, sP_C, sP_F, sP_P, sP_E, sP_M, sE_A, sE_S, sE_L, sE_C, sE_F, sE_P, sE_E, sE_M]; exact (h.wh.up (k := 5) (by decide) (by decide)).st
    · intro s' k h2 h5; unfold faW; simp (disch := first | decide | assumption) only [sA_A, sA_S, sA_L, sA_C, sA_F, sA_P, sA_E, sA_M, sS_A, sS_S, sS_L, sS_C, sS_F, sS_P, sS_E, sS_M, sL_A, sL_S, sL_L, sL_C, sL_F, sL_P, sL_E, sL_M, sC_A, sC_S, sC_L, sC_C, sC_F, sC_P, sC_E, sC_M, sF_A, sF_S, sF_L, sF_C, sF_F, sF_P, sF_E, sF_M, sP_A, sP_S, sP_L, sP_C, sP_F, sP_P, sP_E, sP_M, sE_A, sE_S, sE_L, sE_C, sE_F, sE_P, sE_E, sE_M]; rw [up2_ne h5, up2_ne h2]
    · unfold faW; simp (disch := omega) only [upd_n]
    · rw [vS, up2_ne (by decide), up2_eq]
  · have hb4 : faB v q = 4 := by rw [hb]; exact if_neg hlt
    obtain ⟨q0, f1, f2, f3, f4⟩ := h.l.next l hl
    have hz30 : cnt cm (loC (sC w) l) ≤ 30 := Nat.le_trans cnt_le hcm
    obtain ⟨q2, k1, k2, k3, k4, k5⟩ := abandon_w (c := c) (g := g) (iv := iv) (w := faW w s q l) (z := cnt cm (loC (sC w) l)) (q0 := q0) (a := 1) (l := l) hL hq30 hq hl6 hz30 hcm f1 (by unfold faW; simp (disch := omega) only [upd_n]; exact e0w) (by omega) (by unfold faW; simp (disch := omega) only [upd_n]; exact esw) (by unfold faW; simp (disch := omega) only [upd_n]; rw [sL_r (v := w) (by omega) (by omega)]; exact h.l.size l hl) (by unfold faW; simp (disch := omega) only [upd_n]; rw [sE_r (v := w) (by omega) (by omega)]; exact f2) (fun p hp => by obtain ⟨k, m1, m2, -⟩ := h.l.byp l hl p hp; exact ⟨k, m1, m2⟩) (fun k hk => by obtain ⟨a, m1, m2⟩ := h.c.state k hk; exact ⟨a, m1, by unfold faW; simp (disch := omega) only [upd_n]; rw [sC_r (v := w) (by omega) (by omega)]; exact m2⟩)
    rw [if_neg hlt, k3] at hC
    have cW : sC (faW w s q l) = up2 (sC w) q 5 (w (137 + 25 * q + 5) + nI 1) := by unfold faW; simp (disch := first | decide | assumption) only [sA_A, sA_S, sA_L, sA_C, sA_F, sA_P, sA_E, sA_M, sS_A, sS_S, sS_L, sS_C, sS_F, sS_P, sS_E, sS_M, sL_A, sL_S, sL_L, sL_C, sL_F, sL_P, sL_E, sL_M, sC_A, sC_S, sC_L, sC_C, sC_F, sC_P, sC_E, sC_M, sF_A, sF_S, sF_L, sF_C, sF_F, sF_P, sF_E, sF_M, sP_A, sP_S, sP_L, sP_C, sP_F, sP_P, sP_E, sP_M, sE_A, sE_S, sE_L, sE_C, sE_F, sE_P, sE_E, sE_M]
    rw [cW] at k4 k5
    have eE2 : faW w s q l (1100 + 8 * l + 2) = up2 (sE w) l 3 (w (1100 + 8 * l + 3) + nI 1) l (4 - 2) := by
      unfold faW; simp (disch := omega) only [upd_n]; rw [up2_ne (by decide), sE_r (v := w) (by omega) (by omega)]
    have r8 : up2 (sC w) q 5 (w (137 + 25 * q + 5) + nI 1) q 8 = nI 0 := by rw [up2_ne (by decide)]; exact r0
    have lz : cnt cm (loC (up2 (sC w) q 5 (w (137 + 25 * q + 5) + nI 1)) l) = cnt cm (loC (sC w) l) := by rw [loC_at (by decide)]
    have e02 : up2 (sC w) q 5 (w (137 + 25 * q + 5) + nI 1) q 0 = nI l := by rw [up2_ne (by decide)]; exact e0
    refine ⟨_, _, _, hF8, hC, ?_, ?_, ?_, ?_⟩
    · refine ⟨?_, ?_, ?_, ?_, ?_, ?_, ?_⟩
      · rw [vA]; simp (disch := first | decide | assumption) only [sA_A, sA_S, sA_L, sA_C, sA_F, sA_P, sA_E, sA_M, sS_A, sS_S, sS_L, sS_C, sS_F, sS_P, sS_E, sS_M, sL_A, sL_S, sL_L, sL_C, sL_F, sL_P, sL_E, sL_M, sC_A, sC_S, sC_L, sC_C, sC_F, sC_P, sC_E, sC_M, sF_A, sF_S, sF_L, sF_C, sF_F, sF_P, sF_E, sF_M, sP_A, sP_S, sP_L, sP_C, sP_F, sP_P, sP_E, sP_M, sE_A, sE_S, sE_L, sE_C, sE_F, sE_P, sE_E, sE_M]; unfold faW; simp (disch := first | decide | assumption) only [sA_A, sA_S, sA_L, sA_C, sA_F, sA_P, sA_E, sA_M, sS_A, sS_S, sS_L, sS_C, sS_F, sS_P, sS_E, sS_M, sL_A, sL_S, sL_L, sL_C, sL_F, sL_P, sL_E, sL_M, sC_A, sC_S, sC_L, sC_C, sC_F, sC_P, sC_E, sC_M, sF_A, sF_S, sF_L, sF_C, sF_F, sF_P, sF_E, sF_M, sP_A, sP_S, sP_L, sP_C, sP_F, sP_P, sP_E, sP_M, sE_A, sE_S, sE_L, sE_C, sE_F, sE_P, sE_E, sE_M]; exact qa0
      · rw [vS]; simp (disch := first | decide | assumption) only [sA_A, sA_S, sA_L, sA_C, sA_F, sA_P, sA_E, sA_M, sS_A, sS_S, sS_L, sS_C, sS_F, sS_P, sS_E, sS_M, sL_A, sL_S, sL_L, sL_C, sL_F, sL_P, sL_E, sL_M, sC_A, sC_S, sC_L, sC_C, sC_F, sC_P, sC_E, sC_M, sF_A, sF_S, sF_L, sF_C, sF_F, sF_P, sF_E, sF_M, sP_A, sP_S, sP_L, sP_C, sP_F, sP_P, sP_E, sP_M, sE_A, sE_S, sE_L, sE_C, sE_F, sE_P, sE_E, sE_M, cW]; rw [up2_s r8]; unfold faW; simp (disch := first | decide | assumption) only [sA_A, sA_S, sA_L, sA_C, sA_F, sA_P, sA_E, sA_M, sS_A, sS_S, sS_L, sS_C, sS_F, sS_P, sS_E, sS_M, sL_A, sL_S, sL_L, sL_C, sL_F, sL_P, sL_E, sL_M, sC_A, sC_S, sC_L, sC_C, sC_F, sC_P, sC_E, sC_M, sF_A, sF_S, sF_L, sF_C, sF_F, sF_P, sF_E, sF_M, sP_A, sP_S, sP_L, sP_C, sP_F, sP_P, sP_E, sP_M, sE_A, sE_S, sE_L, sE_C, sE_F, sE_P, sE_E, sE_M]; exact (qs0.card hq hcm nh2).card hq hcm nh2
      · rw [vC, hb4]; simp (disch := first | decide | assumption) only [sA_A, sA_S, sA_L, sA_C, sA_F, sA_P, sA_E, sA_M, sS_A, sS_S, sS_L, sS_C, sS_F, sS_P, sS_E, sS_M, sL_A, sL_S, sL_L, sL_C, sL_F, sL_P, sL_E, sL_M, sC_A, sC_S, sC_L, sC_C, sC_F, sC_P, sC_E, sC_M, sF_A, sF_S, sF_L, sF_C, sF_F, sF_P, sF_E, sF_M, sP_A, sP_S, sP_L, sP_C, sP_F, sP_P, sP_E, sP_M, sE_A, sE_S, sE_L, sE_C, sE_F, sE_P, sE_E, sE_M, cW]; rw [up2_s r8]; exact QC.set (by omega) (QC.uState (by omega) (Or.inr r8) qc0)
      · rw [vA, vF]; simp (disch := first | decide | assumption) only [sA_A, sA_S, sA_L, sA_C, sA_F, sA_P, sA_E, sA_M, sS_A, sS_S, sS_L, sS_C, sS_F, sS_P, sS_E, sS_M, sL_A, sL_S, sL_L, sL_C, sL_F, sL_P, sL_E, sL_M, sC_A, sC_S, sC_L, sC_C, sC_F, sC_P, sC_E, sC_M, sF_A, sF_S, sF_L, sF_C, sF_F, sF_P, sF_E, sF_M, sP_A, sP_S, sP_L, sP_C, sP_F, sP_P, sP_E, sP_M, sE_A, sE_S, sE_L, sE_C, sE_F, sE_P, sE_E, sE_M, cW]; rw [up2_s r8]; unfold faW; simp (disch := first | decide | assumption) only [sA_A, sA_S, sA_L, sA_C, sA_F, sA_P, sA_E, sA_M, sS_A, sS_S, sS_L, sS_C, sS_F, sS_P, sS_E, sS_M, sL_A, sL_S, sL_L, sL_C, sL_F, sL_P, sL_E, sL_M, sC_A, sC_S, sC_L, sC_C, sC_F, sC_P, sC_E, sC_M, sF_A, sF_S, sF_L, sF_C, sF_F, sF_P, sF_E, sF_M, sP_A, sP_S, sP_L, sP_C, sP_F, sP_P, sP_E, sP_M, sE_A, sE_S, sE_L, sE_C, sE_F, sE_P, sE_E, sE_M]; exact (QN.move hcm hq (by omega) (by omega) (by omega) (by omega) (by omega) es2 qn0).cardk (by decide)
      · rw [vL]; simp (disch := first | decide | assumption) only [sA_A, sA_S, sA_L, sA_C, sA_F, sA_P, sA_E, sA_M, sS_A, sS_S, sS_L, sS_C, sS_F, sS_P, sS_E, sS_M, sL_A, sL_S, sL_L, sL_C, sL_F, sL_P, sL_E, sL_M, sC_A, sC_S, sC_L, sC_C, sC_F, sC_P, sC_E, sC_M, sF_A, sF_S, sF_L, sF_C, sF_F, sF_P, sF_E, sF_M, sP_A, sP_S, sP_L, sP_C, sP_F, sP_P, sP_E, sP_M, sE_A, sE_S, sE_L, sE_C, sE_F, sE_P, sE_E, sE_M, cW]; rw [up2_s r8, eE2]; unfold faW; simp (disch := first | decide | assumption) only [sA_A, sA_S, sA_L, sA_C, sA_F, sA_P, sA_E, sA_M, sS_A, sS_S, sS_L, sS_C, sS_F, sS_P, sS_E, sS_M, sL_A, sL_S, sL_L, sL_C, sL_F, sL_P, sL_E, sL_M, sC_A, sC_S, sC_L, sC_C, sC_F, sC_P, sC_E, sC_M, sF_A, sF_S, sF_L, sF_C, sF_F, sF_P, sF_E, sF_M, sP_A, sP_S, sP_L, sP_C, sP_F, sP_P, sP_E, sP_M, sE_A, sE_S, sE_L, sE_C, sE_F, sE_P, sE_E, sE_M]
        refine QL.cardk (by omega) (QL.finish (b := 4) hcm hlm hq hl e02 nf2 (Or.inr rfl) (by rw [lz]; exact k2) (fun p c' hp hc' e => ?_) (by rw [lz]; exact k5) ql0)
        by_cases hp0 : p < q0
        · have := f3 p c' hp0 hc' e
          by_cases ec : c' = q
          · rw [ec] at this; exact absurd this nf
          · exact (fin_at (Or.inr ec)).mpr ((fin_at (Or.inl (by decide))).mpr this)
        · exact k4 p c' (by omega) hp hc' e
      · rw [vA, vP]; simp (disch := first | decide | assumption) only [sA_A, sA_S, sA_L, sA_C, sA_F, sA_P, sA_E, sA_M, sS_A, sS_S, sS_L, sS_C, sS_F, sS_P, sS_E, sS_M, sL_A, sL_S, sL_L, sL_C, sL_F, sL_P, sL_E, sL_M, sC_A, sC_S, sC_L, sC_C, sC_F, sC_P, sC_E, sC_M, sF_A, sF_S, sF_L, sF_C, sF_F, sF_P, sF_E, sF_M, sP_A, sP_S, sP_L, sP_C, sP_F, sP_P, sP_E, sP_M, sE_A, sE_S, sE_L, sE_C, sE_F, sE_P, sE_E, sE_M]; unfold faW; simp (disch := first | decide | assumption) only [sA_A, sA_S, sA_L, sA_C, sA_F, sA_P, sA_E, sA_M, sS_A, sS_S, sS_L, sS_C, sS_F, sS_P, sS_E, sS_M, sL_A, sL_S, sL_L, sL_C, sL_F, sL_P, sL_E, sL_M, sC_A, sC_S, sC_L, sC_C, sC_F, sC_P, sC_E, sC_M, sF_A, sF_S, sF_L, sF_C, sF_F, sF_P, sF_E, sF_M, sP_A, sP_S, sP_L, sP_C, sP_F, sP_P, sP_E, sP_M, sE_A, sE_S, sE_L, sE_C, sE_F, sE_P, sE_E, sE_M]; exact qd0
      · simp (disch := first | decide | assumption) only [sA_A, sA_S, sA_L, sA_C, sA_F, sA_P, sA_E, sA_M, sS_A, sS_S, sS_L, sS_C, sS_F, sS_P, sS_E, sS_M, sL_A, sL_S, sL_L, sL_C, sL_F, sL_P, sL_E, sL_M, sC_A, sC_S, sC_L, sC_C, sC_F, sC_P, sC_E, sC_M, sF_A, sF_S, sF_L, sF_C, sF_F, sF_P, sF_E, sF_M, sP_A, sP_S, sP_L, sP_C, sP_F, sP_P, sP_E, sP_M, sE_A, sE_S, sE_L, sE_C, sE_F, sE_P, sE_E, sE_M, cW]; rw [up2_s r8]; exact (h.wh.up (k := 5) (by decide) (by decide)).st
    · intro s' k h2 h5; simp (disch := first | decide | assumption) only [sA_A, sA_S, sA_L, sA_C, sA_F, sA_P, sA_E, sA_M, sS_A, sS_S, sS_L, sS_C, sS_F, sS_P, sS_E, sS_M, sL_A, sL_S, sL_L, sL_C, sL_F, sL_P, sL_E, sL_M, sC_A, sC_S, sC_L, sC_C, sC_F, sC_P, sC_E, sC_M, sF_A, sF_S, sF_L, sF_C, sF_F, sF_P, sF_E, sF_M, sP_A, sP_S, sP_L, sP_C, sP_F, sP_P, sP_E, sP_M, sE_A, sE_S, sE_L, sE_C, sE_F, sE_P, sE_E, sE_M]; unfold faW; simp (disch := first | decide | assumption) only [sA_A, sA_S, sA_L, sA_C, sA_F, sA_P, sA_E, sA_M, sS_A, sS_S, sS_L, sS_C, sS_F, sS_P, sS_E, sS_M, sL_A, sL_S, sL_L, sL_C, sL_F, sL_P, sL_E, sL_M, sC_A, sC_S, sC_L, sC_C, sC_F, sC_P, sC_E, sC_M, sF_A, sF_S, sF_L, sF_C, sF_F, sF_P, sF_E, sF_M, sP_A, sP_S, sP_L, sP_C, sP_F, sP_P, sP_E, sP_M, sE_A, sE_S, sE_L, sE_C, sE_F, sE_P, sE_E, sE_M]; rw [up2_ne h5, up2_ne h2]
    · unfold faW; simp (disch := omega) only [upd_n]
    · rw [vS, up2_ne (by decide), up2_eq]
end
section
theorem isFin_v {r : RS} {v : Nat → Int32} {q a : Nat} (hq : q < 30) (ha : a < 5) (e : v (137 + 25 * q + 3) = nI a) : F8_isFinished (setR r v) (nI q) = some (if a < 3 then nI 0 else nI 1) := by
  unfold F8_isFinished
  simp (disch := omega) only [lit32, neg1, nI_add, nI_mul, bS, pt_n, ix_n, rd_n, ws_n, rdo_n, wso_n, setR_1, setL_w, setL_iv, up_setR, up_setL_w, up_setL_iv, nz_0, nz_1, F8_ofCard_v, e]
  by_cases h : a < 3
  · rw [if_pos h, if_pos (nI_lt h (by omega))]; rfl
  · rw [if_neg h, if_neg (nI_nlt (by omega) (by omega))]; rfl
noncomputable def NOi (v : Nat → Int32) (l y : Nat) (best : Int32) : Prop := (best = m1 ∧ ∀ k a, k < y → v (137 + 25 * k + 0) = nI l → v (137 + 25 * k + 3) = nI a → a < 5 → 3 ≤ a) ∨ (∃ b pb a, b < y ∧ best = nI b ∧ v (137 + 25 * b + 0) = nI l ∧ v (137 + 25 * b + 1) = nI pb ∧ pb < 31 ∧ v (137 + 25 * b + 3) = nI a ∧ a < 3 ∧ ∀ k a p, k < y → v (137 + 25 * k + 0) = nI l → v (137 + 25 * k + 3) = nI a → a < 3 → v (137 + 25 * k + 1) = nI p → p < 31 → pb ≤ p)
theorem nextOf_L {r : RS} {v : Nat → Int32} {l cm : Nat} (hl : l < 6) (hcm : cm ≤ 30) (h9 : v 9 = nI cm) (hs : ∀ k, k < cm → ∃ a, a < 5 ∧ v (137 + 25 * k + 3) = nI a) (ho : ∀ k, k < cm → ∃ a, a < 6 ∧ v (137 + 25 * k + 0) = nI a) (hp : ∀ k, k < cm → v (137 + 25 * k + 0) = nI l → ∃ p, p < 31 ∧ v (137 + 25 * k + 1) = nI p) : ∀ (d y fu : Nat) (best : Int32), y + d = cm → d < fu → NOi v l y best → ∃ b2, F8_nextOf_L4 (nI l) (setR r v) fu (nI y) best = some (nI cm, b2) ∧ NOi v l cm b2 := by
  intro d
  induction d with
  | zero =>
    intro y fu best hy hfu hi
    obtain ⟨fu, rfl⟩ : ∃ m, fu = m + 1 := ⟨fu - 1, by omega⟩
    obtain rfl : y = cm := by omega
    refine ⟨best, ?_, hi⟩
    unfold F8_nextOf_L4
    simp (disch := omega) only [lit32, neg1, nI_add, nI_mul, bS, pt_n, ix_n, rd_n, ws_n, rdo_n, wso_n, setR_1, setL_w, setL_iv, up_setR, up_setL_w, up_setL_iv, nz_0, nz_1, h9]
    rw [if_pos (nI_le (by omega) (by omega))]
  | succ d ih =>
    intro y fu best hy hfu hi
    obtain ⟨fu, rfl⟩ : ∃ m, fu = m + 1 := ⟨fu - 1, by omega⟩
    obtain ⟨a, ha, ea⟩ := hs y (by omega)
    obtain ⟨lo, hlo, elo⟩ := ho y (by omega)
    have hstep : ∀ t, NOi v l (y + 1) t → ∀ (x : Option Int32), x = some t → ∃ b2, x.bind (fun t19 => F8_nextOf_L4 (nI l) (setR r v) fu (nI (y + 1)) t19) = some (nI cm, b2) ∧ NOi v l cm b2 := fun t ht x hx => by
      rw [hx]; exact ih (y + 1) fu t (by omega) (by omega) ht
    unfold F8_nextOf_L4
    simp (disch := omega) only [lit32, neg1, nI_add, nI_mul, bS, pt_n, ix_n, rd_n, ws_n, rdo_n, wso_n, setR_1, setL_w, setL_iv, up_setR, up_setL_w, up_setL_iv, nz_0, nz_1, h9, F8_ofCard_v, elo]
    rw [if_neg (nI_ge (by omega) (by omega))]
    by_cases e : lo = l
    · subst e
      rw [if_pos rfl, isFin_v (a := a) (by omega) ha ea]
      obtain ⟨p, hp31, ep⟩ := hp y (by omega) elo
      by_cases h3 : a < 3
      · rw [if_pos h3]
        simp (disch := omega) only [lit32, neg1, nI_add, nI_mul, bS, pt_n, ix_n, rd_n, ws_n, rdo_n, wso_n, setR_1, setL_w, setL_iv, up_setR, up_setL_w, up_setL_iv, nz_0, nz_1]
        rw [if_pos trivial]
        simp (disch := omega) only [lit32, neg1, nI_add, nI_mul, bS, pt_n, ix_n, rd_n, ws_n, rdo_n, wso_n, setR_1, setL_w, setL_iv, up_setR, up_setL_w, up_setL_iv, nz_0, nz_1]
        rw [if_neg (nI_ne (by omega) (by omega) (by omega))]
        rcases hi with ⟨rfl, hi⟩ | ⟨b, pb, ab, g1, rfl, g3, g4, g5, g6, g7, g8⟩
        · rw [if_pos rfl]
          refine hstep (nI y) (Or.inr ⟨y, p, a, by omega, rfl, elo, ep, hp31, ea, h3, fun k a2 p2 hk hlk hak ha2 hpk hp2 => ?_⟩) _ rfl
          by_cases ek : k = y
          · subst ek; have := (nI_eq (by omega) (by omega)).mp (ep.symm.trans hpk); omega
          · have := hi k a2 (by omega) hlk hak (by omega); omega
        · rw [if_neg (m1_ne (by omega))]
          simp (disch := omega) only [lit32, neg1, nI_add, nI_mul, bS, pt_n, ix_n, rd_n, ws_n, rdo_n, wso_n, setR_1, setL_w, setL_iv, up_setR, up_setL_w, up_setL_iv, nz_0, nz_1, F8_ofCard_v, ep, g4]
          by_cases hle : pb ≤ p
          · rw [if_pos (nI_le hle (by omega))]
            refine hstep (nI b) (Or.inr ⟨b, pb, ab, by omega, rfl, g3, g4, g5, g6, g7, fun k a2 p2 hk hlk hak ha2 hpk hp2 => ?_⟩) _ rfl
            by_cases ek : k = y
            · subst ek; have := (nI_eq (by omega) (by omega)).mp (ep.symm.trans hpk); omega
            · exact g8 k a2 p2 (by omega) hlk hak ha2 hpk hp2
          · rw [if_neg (nI_ge (by omega) (by omega))]
            refine hstep (nI y) (Or.inr ⟨y, p, a, by omega, rfl, elo, ep, hp31, ea, h3, fun k a2 p2 hk hlk hak ha2 hpk hp2 => ?_⟩) _ rfl
            by_cases ek : k = y
            · subst ek; have := (nI_eq (by omega) (by omega)).mp (ep.symm.trans hpk); omega
            · have := g8 k a2 p2 (by omega) hlk hak ha2 hpk hp2; omega
      · rw [if_neg h3]
        simp (disch := omega) only [lit32, neg1, nI_add, nI_mul, bS, pt_n, ix_n, rd_n, ws_n, rdo_n, wso_n, setR_1, setL_w, setL_iv, up_setR, up_setL_w, up_setL_iv, nz_0, nz_1]
        rw [if_neg (nI_ne (by omega) (by omega) (by omega))]
        simp (disch := omega) only [lit32, neg1, nI_add, nI_mul, bS, pt_n, ix_n, rd_n, ws_n, rdo_n, wso_n, setR_1, setL_w, setL_iv, up_setR, up_setL_w, up_setL_iv, nz_0, nz_1]
        rw [if_pos trivial]
        refine hstep best ?_ _ rfl
        rcases hi with ⟨rfl, hi⟩ | ⟨b, pb, ab, g1, rfl, g3, g4, g5, g6, g7, g8⟩
        · refine Or.inl ⟨rfl, fun k a2 hk hlk hak ha2 => ?_⟩
          by_cases ek : k = y
          · subst ek; have := (nI_eq (by omega) (by omega)).mp (ea.symm.trans hak); omega
          · exact hi k a2 (by omega) hlk hak ha2
        · refine Or.inr ⟨b, pb, ab, by omega, rfl, g3, g4, g5, g6, g7, fun k a2 p2 hk hlk hak ha2 hpk hp2 => ?_⟩
          by_cases ek : k = y
          · subst ek; have := (nI_eq (by omega) (by omega)).mp (ea.symm.trans hak); omega
          · exact g8 k a2 p2 (by omega) hlk hak ha2 hpk hp2
    · rw [if_neg (nI_ne e (by omega) (by omega))]
      simp (disch := omega) only [lit32, neg1, nI_add, nI_mul, bS, pt_n, ix_n, rd_n, ws_n, rdo_n, wso_n, setR_1, setL_w, setL_iv, up_setR, up_setL_w, up_setL_iv, nz_0, nz_1]
      rw [if_pos trivial]
      refine hstep best ?_ _ rfl
      rcases hi with ⟨rfl, hi⟩ | ⟨b, pb, ab, g1, rfl, g3, g4, g5, g6, g7, g8⟩
      · refine Or.inl ⟨rfl, fun k a2 hk hlk hak ha2 => ?_⟩
        by_cases ek : k = y
        · subst ek; exact absurd ((nI_eq (by omega) (by omega)).mp (elo.symm.trans hlk)) e
        · exact hi k a2 (by omega) hlk hak ha2
      · refine Or.inr ⟨b, pb, ab, by omega, rfl, g3, g4, g5, g6, g7, fun k a2 p2 hk hlk hak ha2 hpk hp2 => ?_⟩
        by_cases ek : k = y
        · subst ek; exact absurd ((nI_eq (by omega) (by omega)).mp (elo.symm.trans hlk)) e
        · exact g8 k a2 p2 (by omega) hlk hak ha2 hpk hp2
theorem next_ok {r c : RS} {g : CG} {L sm lm cm B U l : Nat} {v w iv : Nat → Int32} (hL : L < 12) (h : QX c g L v w iv sm lm cm B U) (hl : l < lm) :
    ∃ x, F8_nextOf (setR r v) (nI l) = some x ∧ C4_nextCard g (setL c L w iv) L l = some x ∧ ((x = m1) ∨ ∃ q, q < cm ∧ x = nI q ∧ sC w q 0 = nI l ∧ ¬ fin (sC w) q) := by
  have hcm := h.a.cm30; have hlm := h.a.lm6
  have hl6 : l < 6 := by omega
  have hz30 : cnt cm (loC (sC w) l) ≤ 30 := Nat.le_trans cnt_le hcm
  have rc : ∀ k j, k < cm → j < 9 → j ≠ 2 → v (137 + 25 * k + j) = sC w k j := fun k j hk h1 h2 => by rw [h.rc hk h1 h2, sC_r (v := w) (by omega) (by omega)]
  have h9 : v 9 = nI cm := by
    have := h.ra (i := 9) (by omega) (by omega) (by omega)
    rw [this, sA_r (v := w) (by omega)]; exact h.a.w9
  obtain ⟨b2, g1, g2⟩ := nextOf_L (r := r) (v := v) (l := l) hl6 hcm h9 (fun k hk => by obtain ⟨a, m1, m2⟩ := h.c.state k hk; exact ⟨a, m1, by rw [rc k 3 hk (by omega) (by omega)]; exact m2⟩) (fun k hk => by obtain ⟨a, m1, m2⟩ := h.c.lot k hk; exact ⟨a, by omega, by rw [rc k 0 hk (by omega) (by omega)]; exact m2⟩) (fun k hk e => by
    rw [rc k 0 hk (by omega) (by omega)] at e
    obtain ⟨p, m1, m2, -⟩ := h.l.place l k hl hk e
    exact ⟨p, by omega, by rw [rc k 1 hk (by omega) (by omega)]; exact m2⟩) cm 0 FUEL m1 (by omega) (by show cm < 10000; omega) (Or.inl ⟨rfl, fun k a hk => by omega⟩)
  obtain ⟨q, f1, f2, f3, f4⟩ := h.l.next l hl
  have hsz : w (113 + 4 * l + 1) = nI (cnt cm (loC (sC w) l)) := by rw [sL_r (v := w) (by omega) (by omega)]; exact h.l.size l hl
  have hnp : w (1100 + 8 * l + 0) = nI q := by rw [sE_r (v := w) (by omega) (by omega)]; exact f2
  have hF : F8_nextOf (setR r v) (nI l) = some b2 := by
    unfold F8_nextOf
    simp only [lit32, neg1]
    rw [g1]; rfl
  have fa : ∀ k a, k < cm → a < 5 → sC w k 3 = nI a → (fin (sC w) k ↔ 3 ≤ a) := fun k a hk ha e => by
    unfold fin; rw [e, nI_eq (by omega) (by omega), nI_eq (by omega) (by omega)]; omega
  by_cases hq : q < cnt cm (loC (sC w) l)
  · obtain ⟨c0, k1, k2, k3, k4⟩ := h.l.byp l hl q hq
    have nf := f4 c0 hq k1 k2
    have hC : C4_nextCard g (setL c L w iv) L l = some (nI c0) := by
      unfold C4_nextCard C4_cardAt
      simp (disch := omega) only [lit32, neg1, nI_add, nI_mul, bS, pt_n, ix_n, rd_n, ws_n, rdo_n, wso_n, setR_1, setL_w, setL_iv, up_setR, up_setL_w, up_setL_iv, nz_0, nz_1, hnp, hsz]
      rw [if_neg (nI_nlt (by omega) (by omega)), if_neg (nI_ge (by omega) (by omega)), setL_o (by omega) (by omega), k2]
      rfl
    refine ⟨nI c0, ?_, hC, Or.inr ⟨c0, k1, rfl, k3, nf⟩⟩
    rw [hF]
    congr 1
    obtain ⟨a0, m1, m2⟩ := h.c.state c0 k1
    have ha0 : a0 < 3 := by
      have := (fa c0 a0 k1 m1 m2).mpr
      by_cases e : 3 ≤ a0
      · exact absurd (this e) nf
      · omega
    rcases g2 with ⟨-, g2⟩ | ⟨b, pb, ab, j1, j2, j3, j4, j5, j6, j7, j8⟩
    · have := g2 c0 a0 k1 (by rw [rc c0 0 k1 (by omega) (by omega)]; exact k3) (by rw [rc c0 3 k1 (by omega) (by omega)]; exact m2) m1
      omega
    · rw [rc b 0 j1 (by omega) (by omega)] at j3
      rw [rc b 1 j1 (by omega) (by omega)] at j4
      rw [rc b 3 j1 (by omega) (by omega)] at j6
      have le := j8 c0 a0 q k1 (by rw [rc c0 0 k1 (by omega) (by omega)]; exact k3) (by rw [rc c0 3 k1 (by omega) (by omega)]; exact m2) ha0 (by rw [rc c0 1 k1 (by omega) (by omega)]; exact k4) (by omega)
      obtain ⟨p, n1, n2, n3⟩ := h.l.place l b hl j1 j3
      have ep : p = pb := (nI_eq (by omega) (by omega)).mp (n2.symm.trans j4)
      subst ep
      have ge : ¬ p < q := fun hlt => by
        have := (fa b ab j1 (by omega) j6).mp (f3 p b hlt j1 n3)
        omega
      have : p = q := by omega
      subst this
      rw [j2]; exact n3.symm.trans k2
  · have hC : C4_nextCard g (setL c L w iv) L l = some m1 := by
      unfold C4_nextCard C4_cardAt
      simp (disch := omega) only [lit32, neg1, nI_add, nI_mul, bS, pt_n, ix_n, rd_n, ws_n, rdo_n, wso_n, setR_1, setL_w, setL_iv, up_setR, up_setL_w, up_setL_iv, nz_0, nz_1, hnp, hsz]
      rw [if_neg (nI_nlt (by omega) (by omega)), if_pos (nI_le (by omega) (by omega))]
      rfl
    refine ⟨m1, ?_, hC, Or.inl rfl⟩
    rw [hF]
    congr 1
    rcases g2 with ⟨g2, -⟩ | ⟨b, pb, ab, j1, j2, j3, j4, j5, j6, j7, j8⟩
    · exact g2
    · rw [rc b 0 j1 (by omega) (by omega)] at j3
      rw [rc b 3 j1 (by omega) (by omega)] at j6
      obtain ⟨p, n1, n2, n3⟩ := h.l.place l b hl j1 j3
      have := (fa b ab j1 (by omega) j6).mp (f3 p b (by omega) j1 n3)
      omega
end
section
theorem inState_L {r : RS} {v : Nat → Int32} {a cm : Nat} (ha : a < 5) (hcm : cm ≤ 30) (h9 : v 9 = nI cm) : ∀ (d y fu s : Nat), y + d = cm → d < fu → s = cnt y (stC (sC v) a) → F8_inState_L4 (nI a) (setR r v) fu (nI y) (nI s) = some (nI cm, nI (cnt cm (stC (sC v) a))) := by
  intro d
  induction d with
  | zero =>
    intro y fu s hy hfu hs
    obtain ⟨fu, rfl⟩ : ∃ m, fu = m + 1 := ⟨fu - 1, by omega⟩
    obtain rfl : y = cm := by omega
    unfold F8_inState_L4
    simp (disch := omega) only [lit32, neg1, nI_add, nI_mul, bS, pt_n, ix_n, rd_n, ws_n, rdo_n, wso_n, setR_1, setL_w, setL_iv, up_setR, up_setL_w, up_setL_iv, nz_0, nz_1, h9]
    rw [if_pos (nI_le (by omega) (by omega)), hs]
  | succ d ih =>
    intro y fu s hy hfu hs
    obtain ⟨fu, rfl⟩ : ∃ m, fu = m + 1 := ⟨fu - 1, by omega⟩
    unfold F8_inState_L4
    simp (disch := omega) only [lit32, neg1, nI_add, nI_mul, bS, pt_n, ix_n, rd_n, ws_n, rdo_n, wso_n, setR_1, setL_w, setL_iv, up_setR, up_setL_w, up_setL_iv, nz_0, nz_1, h9, F8_ofCard_v]
    rw [if_neg (nI_ge (by omega) (by omega))]
    have e : ((if v (137 + 25 * y + 3) = nI a then some (nI 1) else some (nI 0)) : Option Int32) = some (nI (if stC (sC v) a y then 1 else 0)) := by
      unfold stC
      rw [← sC_r (v := v) (by omega) (by omega)]
      by_cases h : v (137 + 25 * y + 3) = nI a
      · rw [if_pos h, if_pos (decide_eq_true h)]
      · rw [if_neg h, if_neg (by simpa using h)]
    rw [e]
    simp (disch := omega) only [lit32, neg1, nI_add, nI_mul, bS, pt_n, ix_n, rd_n, ws_n, rdo_n, wso_n, setR_1, setL_w, setL_iv, up_setR, up_setL_w, up_setL_iv, nz_0, nz_1]
    refine ih (y + 1) fu _ (by omega) (by omega) ?_
    rw [hs]; rfl
theorem inState_ok {r c : RS} {g : CG} {L sm lm cm B U a : Nat} {v w iv : Nat → Int32} (h : QX c g L v w iv sm lm cm B U) (ha : a < 5) : F8_inState (setR r v) (nI a) = some (iv a) := by
  have hcm := h.a.cm30
  have h9 : v 9 = nI cm := by
    have := h.ra (i := 9) (by omega) (by omega) (by omega)
    rw [this, sA_r (v := w) (by omega)]; exact h.a.w9
  unfold F8_inState
  simp only [lit32]
  rw [inState_L ha hcm h9 cm 0 FUEL 0 (by omega) (by show cm < 10000; omega) rfl, bS, h.n.ins a ha]
  refine congrArg (fun n => some (nI n)) (cnt_congr fun i hi => ?_)
  unfold stC
  rw [h.c.eqc i 3 hi (by omega) (by omega)]
theorem QR.upM {v w iv : Nat → Int32} {bp dl df tx : Nat → Nat → Int32} {nt sm lm cm B U : Nat} {x : Int32} (h : QR v w iv bp dl df tx nt sm lm cm B U) : QR v (upd w 1060 x) iv bp dl df tx nt sm lm cm B U :=
  h.ofS ⟨rfl, sA_M⟩ ⟨rfl, sC_M⟩ ⟨rfl, sF_M⟩ ⟨rfl, sL_M⟩ sE_M rfl (by rw [sS_M]; exact h.s)
theorem QR.tot {v w iv : Nat → Int32} {bp dl df tx : Nat → Nat → Int32} {nt sm lm cm B U i : Nat} {x : Int32} (hi : i < 17 ∧ i ≠ 0 ∧ i ≠ 6 ∧ i ≠ 7 ∧ i ≠ 8 ∧ i ≠ 9 ∧ i ≠ 10 ∧ i ≠ 11) (h : QR v w iv bp dl df tx nt sm lm cm B U) : QR (upd v i x) (upd w i x) iv bp dl df tx nt sm lm cm B U := by
  refine ⟨?_, ?_, ?_, ?_, ?_, ?_, ?_⟩
  · rw [sA_A hi.1, sA_A hi.1]; exact h.a.free (by omega)
  · rw [sS_A hi.1, sS_A hi.1, sC_A hi.1]; exact h.s
  · rw [sC_A hi.1, sC_A hi.1]; exact h.c
  · rw [sA_A hi.1, sF_A hi.1, sF_A hi.1, sC_A hi.1]; exact h.n.va (by omega)
  · rw [sL_A hi.1, sL_A hi.1, sE_A hi.1, sC_A hi.1]; exact h.l
  · rw [sA_A hi.1, sA_A hi.1, sP_A hi.1]; exact h.d.free (by omega)
  · rw [sC_A hi.1]; exact h.wh
theorem QR.scrap {v w iv : Nat → Int32} {bp dl df tx : Nat → Nat → Int32} {nt sm lm cm B U q l k : Nat} (hk : k = 5 ∨ k = 6) (h : QR v w iv bp dl df tx nt sm lm cm B U) (hq : q < cm) (hl : l < lm) (el : sC w q 0 = nI l) : QR (upd v (137 + 25 * q + k) (w (137 + 25 * q + k) + nI 1)) (upd (upd w (137 + 25 * q + k) (w (137 + 25 * q + k) + nI 1)) (1100 + 8 * l + (k - 2)) (w (1100 + 8 * l + (k - 2)) + nI 1)) iv bp dl df tx nt sm lm cm B U := by
  have hcm := h.a.cm30; have hlm := h.a.lm6
  have e1 : w (137 + 25 * q + k) = sC w q k := sC_r (v := w) (by omega) (by omega)
  have e2 : w (1100 + 8 * l + (k - 2)) = sE w l (k - 2) := sE_r (v := w) (by omega) (by omega)
  refine ⟨?_, ?_, ?_, ?_, ?_, ?_, ?_⟩
  · simp (disch := omega) only [sA_A, sA_S, sA_L, sA_C, sA_F, sA_P, sA_E, sA_M, sS_A, sS_S, sS_L, sS_C, sS_F, sS_P, sS_E, sS_M, sL_A, sL_S, sL_L, sL_C, sL_F, sL_P, sL_E, sL_M, sC_A, sC_S, sC_L, sC_C, sC_F, sC_P, sC_E, sC_M, sF_A, sF_S, sF_L, sF_C, sF_F, sF_P, sF_E, sF_M, sP_A, sP_S, sP_L, sP_C, sP_F, sP_P, sP_E, sP_M, sE_A, sE_S, sE_L, sE_C, sE_F, sE_P, sE_E, sE_M]; exact h.a
  · simp (disch := omega) only [sA_A, sA_S, sA_L, sA_C, sA_F, sA_P, sA_E, sA_M, sS_A, sS_S, sS_L, sS_C, sS_F, sS_P, sS_E, sS_M, sL_A, sL_S, sL_L, sL_C, sL_F, sL_P, sL_E, sL_M, sC_A, sC_S, sC_L, sC_C, sC_F, sC_P, sC_E, sC_M, sF_A, sF_S, sF_L, sF_C, sF_F, sF_P, sF_E, sF_M, sP_A, sP_S, sP_L, sP_C, sP_F, sP_P, sP_E, sP_M, sE_A, sE_S, sE_L, sE_C, sE_F, sE_P, sE_E, sE_M]; exact h.s.cardk (by omega) (by omega)
  · simp (disch := omega) only [sA_A, sA_S, sA_L, sA_C, sA_F, sA_P, sA_E, sA_M, sS_A, sS_S, sS_L, sS_C, sS_F, sS_P, sS_E, sS_M, sL_A, sL_S, sL_L, sL_C, sL_F, sL_P, sL_E, sL_M, sC_A, sC_S, sC_L, sC_C, sC_F, sC_P, sC_E, sC_M, sF_A, sF_S, sF_L, sF_C, sF_F, sF_P, sF_E, sF_M, sP_A, sP_S, sP_L, sP_C, sP_F, sP_P, sP_E, sP_M, sE_A, sE_S, sE_L, sE_C, sE_F, sE_P, sE_E, sE_M]; exact h.c.set (by omega)
  · simp (disch := omega) only [sA_A, sA_S, sA_L, sA_C, sA_F, sA_P, sA_E, sA_M, sS_A, sS_S, sS_L, sS_C, sS_F, sS_P, sS_E, sS_M, sL_A, sL_S, sL_L, sL_C, sL_F, sL_P, sL_E, sL_M, sC_A, sC_S, sC_L, sC_C, sC_F, sC_P, sC_E, sC_M, sF_A, sF_S, sF_L, sF_C, sF_F, sF_P, sF_E, sF_M, sP_A, sP_S, sP_L, sP_C, sP_F, sP_P, sP_E, sP_M, sE_A, sE_S, sE_L, sE_C, sE_F, sE_P, sE_E, sE_M]; exact h.n.cardk (by omega)
  · simp (disch := omega) only [sA_A, sA_S, sA_L, sA_C, sA_F, sA_P, sA_E, sA_M, sS_A, sS_S, sS_L, sS_C, sS_F, sS_P, sS_E, sS_M, sL_A, sL_S, sL_L, sL_C, sL_F, sL_P, sL_E, sL_M, sC_A, sC_S, sC_L, sC_C, sC_F, sC_P, sC_E, sC_M, sF_A, sF_S, sF_L, sF_C, sF_F, sF_P, sF_E, sF_M, sP_A, sP_S, sP_L, sP_C, sP_F, sP_P, sP_E, sP_M, sE_A, sE_S, sE_L, sE_C, sE_F, sE_P, sE_E, sE_M]; rw [e1, e2]; exact h.l.more hcm hlm hq hl el hk
  · simp (disch := omega) only [sA_A, sA_S, sA_L, sA_C, sA_F, sA_P, sA_E, sA_M, sS_A, sS_S, sS_L, sS_C, sS_F, sS_P, sS_E, sS_M, sL_A, sL_S, sL_L, sL_C, sL_F, sL_P, sL_E, sL_M, sC_A, sC_S, sC_L, sC_C, sC_F, sC_P, sC_E, sC_M, sF_A, sF_S, sF_L, sF_C, sF_F, sF_P, sF_E, sF_M, sP_A, sP_S, sP_L, sP_C, sP_F, sP_P, sP_E, sP_M, sE_A, sE_S, sE_L, sE_C, sE_F, sE_P, sE_E, sE_M]; exact h.d
  · simp (disch := omega) only [sA_A, sA_S, sA_L, sA_C, sA_F, sA_P, sA_E, sA_M, sS_A, sS_S, sS_L, sS_C, sS_F, sS_P, sS_E, sS_M, sL_A, sL_S, sL_L, sL_C, sL_F, sL_P, sL_E, sL_M, sC_A, sC_S, sC_L, sC_C, sC_F, sC_P, sC_E, sC_M, sF_A, sF_S, sF_L, sF_C, sF_F, sF_P, sF_E, sF_M, sP_A, sP_S, sP_L, sP_C, sP_F, sP_P, sP_E, sP_M, sE_A, sE_S, sE_L, sE_C, sE_F, sE_P, sE_E, sE_M]; exact h.wh.up (by omega) (by omega)
theorem QR.move {v w iv : Nat → Int32} {bp dl df tx : Nat → Nat → Int32} {nt sm lm cm B U q a b : Nat} (h : QR v w iv bp dl df tx nt sm lm cm B U) (hq : q < cm) (nh : NH (sS w) sm q) (ha : a < 3) (hb : b < 3) (hab : a ≠ b) (es : sC w q 3 = nI a) (hr : b = 0 ∨ sC w q 8 = nI 0) : QR (upd (upd v (137 + 25 * q + 3) (nI b)) (137 + 25 * q + 4) m1) (upd (upd w (137 + 25 * q + 3) (nI b)) (137 + 25 * q + 4) m1) (ivM iv a b) bp dl df tx nt sm lm cm B U := by
  have hcm := h.a.cm30
  refine ⟨?_, ?_, ?_, ?_, ?_, ?_, ?_⟩
  · simp (disch := omega) only [sA_A, sA_S, sA_L, sA_C, sA_F, sA_P, sA_E, sA_M, sS_A, sS_S, sS_L, sS_C, sS_F, sS_P, sS_E, sS_M, sL_A, sL_S, sL_L, sL_C, sL_F, sL_P, sL_E, sL_M, sC_A, sC_S, sC_L, sC_C, sC_F, sC_P, sC_E, sC_M, sF_A, sF_S, sF_L, sF_C, sF_F, sF_P, sF_E, sF_M, sP_A, sP_S, sP_L, sP_C, sP_F, sP_P, sP_E, sP_M, sE_A, sE_S, sE_L, sE_C, sE_F, sE_P, sE_E, sE_M]; exact h.a
  · simp (disch := omega) only [sA_A, sA_S, sA_L, sA_C, sA_F, sA_P, sA_E, sA_M, sS_A, sS_S, sS_L, sS_C, sS_F, sS_P, sS_E, sS_M, sL_A, sL_S, sL_L, sL_C, sL_F, sL_P, sL_E, sL_M, sC_A, sC_S, sC_L, sC_C, sC_F, sC_P, sC_E, sC_M, sF_A, sF_S, sF_L, sF_C, sF_F, sF_P, sF_E, sF_M, sP_A, sP_S, sP_L, sP_C, sP_F, sP_P, sP_E, sP_M, sE_A, sE_S, sE_L, sE_C, sE_F, sE_P, sE_E, sE_M]; exact (h.s.card hq hcm nh).card hq hcm nh
  · simp (disch := omega) only [sA_A, sA_S, sA_L, sA_C, sA_F, sA_P, sA_E, sA_M, sS_A, sS_S, sS_L, sS_C, sS_F, sS_P, sS_E, sS_M, sL_A, sL_S, sL_L, sL_C, sL_F, sL_P, sL_E, sL_M, sC_A, sC_S, sC_L, sC_C, sC_F, sC_P, sC_E, sC_M, sF_A, sF_S, sF_L, sF_C, sF_F, sF_P, sF_E, sF_M, sP_A, sP_S, sP_L, sP_C, sP_F, sP_P, sP_E, sP_M, sE_A, sE_S, sE_L, sE_C, sE_F, sE_P, sE_E, sE_M]; exact QC.set (by omega) (QC.uState (by omega) hr h.c)
  · simp (disch := omega) only [sA_A, sA_S, sA_L, sA_C, sA_F, sA_P, sA_E, sA_M, sS_A, sS_S, sS_L, sS_C, sS_F, sS_P, sS_E, sS_M, sL_A, sL_S, sL_L, sL_C, sL_F, sL_P, sL_E, sL_M, sC_A, sC_S, sC_L, sC_C, sC_F, sC_P, sC_E, sC_M, sF_A, sF_S, sF_L, sF_C, sF_F, sF_P, sF_E, sF_M, sP_A, sP_S, sP_L, sP_C, sP_F, sP_P, sP_E, sP_M, sE_A, sE_S, sE_L, sE_C, sE_F, sE_P, sE_E, sE_M]; exact (QN.move hcm hq (by omega) (by omega) hab (by omega) (by omega) es h.n).cardk (by decide)
  · simp (disch := omega) only [sA_A, sA_S, sA_L, sA_C, sA_F, sA_P, sA_E, sA_M, sS_A, sS_S, sS_L, sS_C, sS_F, sS_P, sS_E, sS_M, sL_A, sL_S, sL_L, sL_C, sL_F, sL_P, sL_E, sL_M, sC_A, sC_S, sC_L, sC_C, sC_F, sC_P, sC_E, sC_M, sF_A, sF_S, sF_L, sF_C, sF_F, sF_P, sF_E, sF_M, sP_A, sP_S, sP_L, sP_C, sP_F, sP_P, sP_E, sP_M, sE_A, sE_S, sE_L, sE_C, sE_F, sE_P, sE_E, sE_M]; exact (h.l.state (not_fin ha es) hb).cardk (by omega)
  · simp (disch := omega) only [sA_A, sA_S, sA_L, sA_C, sA_F, sA_P, sA_E, sA_M, sS_A, sS_S, sS_L, sS_C, sS_F, sS_P, sS_E, sS_M, sL_A, sL_S, sL_L, sL_C, sL_F, sL_P, sL_E, sL_M, sC_A, sC_S, sC_L, sC_C, sC_F, sC_P, sC_E, sC_M, sF_A, sF_S, sF_L, sF_C, sF_F, sF_P, sF_E, sF_M, sP_A, sP_S, sP_L, sP_C, sP_F, sP_P, sP_E, sP_M, sE_A, sE_S, sE_L, sE_C, sE_F, sE_P, sE_E, sE_M]; exact h.d
  · simp (disch := omega) only [sA_A, sA_S, sA_L, sA_C, sA_F, sA_P, sA_E, sA_M, sS_A, sS_S, sS_L, sS_C, sS_F, sS_P, sS_E, sS_M, sL_A, sL_S, sL_L, sL_C, sL_F, sL_P, sL_E, sL_M, sC_A, sC_S, sC_L, sC_C, sC_F, sC_P, sC_E, sC_M, sF_A, sF_S, sF_L, sF_C, sF_F, sF_P, sF_E, sF_M, sP_A, sP_S, sP_L, sP_C, sP_F, sP_P, sP_E, sP_M, sE_A, sE_S, sE_L, sE_C, sE_F, sE_P, sE_E, sE_M]; exact h.wh.st
theorem QR.setK {v w iv : Nat → Int32} {bp dl df tx : Nat → Nat → Int32} {nt sm lm cm B U q k : Nat} {x : Int32} (hk : (k = 4 ∧ x = m1) ∨ k = 7) (h : QR v w iv bp dl df tx nt sm lm cm B U) (hq : q < cm) (nh : NH (sS w) sm q) : QR (upd v (137 + 25 * q + k) x) (upd w (137 + 25 * q + k) x) iv bp dl df tx nt sm lm cm B U := by
  have hcm := h.a.cm30
  refine ⟨?_, ?_, ?_, ?_, ?_, ?_, ?_⟩
  · simp (disch := omega) only [sA_A, sA_S, sA_L, sA_C, sA_F, sA_P, sA_E, sA_M, sS_A, sS_S, sS_L, sS_C, sS_F, sS_P, sS_E, sS_M, sL_A, sL_S, sL_L, sL_C, sL_F, sL_P, sL_E, sL_M, sC_A, sC_S, sC_L, sC_C, sC_F, sC_P, sC_E, sC_M, sF_A, sF_S, sF_L, sF_C, sF_F, sF_P, sF_E, sF_M, sP_A, sP_S, sP_L, sP_C, sP_F, sP_P, sP_E, sP_M, sE_A, sE_S, sE_L, sE_C, sE_F, sE_P, sE_E, sE_M]; exact h.a
  · simp (disch := omega) only [sA_A, sA_S, sA_L, sA_C, sA_F, sA_P, sA_E, sA_M, sS_A, sS_S, sS_L, sS_C, sS_F, sS_P, sS_E, sS_M, sL_A, sL_S, sL_L, sL_C, sL_F, sL_P, sL_E, sL_M, sC_A, sC_S, sC_L, sC_C, sC_F, sC_P, sC_E, sC_M, sF_A, sF_S, sF_L, sF_C, sF_F, sF_P, sF_E, sF_M, sP_A, sP_S, sP_L, sP_C, sP_F, sP_P, sP_E, sP_M, sE_A, sE_S, sE_L, sE_C, sE_F, sE_P, sE_E, sE_M]; exact h.s.card hq hcm nh
  · simp (disch := omega) only [sA_A, sA_S, sA_L, sA_C, sA_F, sA_P, sA_E, sA_M, sS_A, sS_S, sS_L, sS_C, sS_F, sS_P, sS_E, sS_M, sL_A, sL_S, sL_L, sL_C, sL_F, sL_P, sL_E, sL_M, sC_A, sC_S, sC_L, sC_C, sC_F, sC_P, sC_E, sC_M, sF_A, sF_S, sF_L, sF_C, sF_F, sF_P, sF_E, sF_M, sP_A, sP_S, sP_L, sP_C, sP_F, sP_P, sP_E, sP_M, sE_A, sE_S, sE_L, sE_C, sE_F, sE_P, sE_E, sE_M]; exact QC.set (by omega) h.c
  · simp (disch := omega) only [sA_A, sA_S, sA_L, sA_C, sA_F, sA_P, sA_E, sA_M, sS_A, sS_S, sS_L, sS_C, sS_F, sS_P, sS_E, sS_M, sL_A, sL_S, sL_L, sL_C, sL_F, sL_P, sL_E, sL_M, sC_A, sC_S, sC_L, sC_C, sC_F, sC_P, sC_E, sC_M, sF_A, sF_S, sF_L, sF_C, sF_F, sF_P, sF_E, sF_M, sP_A, sP_S, sP_L, sP_C, sP_F, sP_P, sP_E, sP_M, sE_A, sE_S, sE_L, sE_C, sE_F, sE_P, sE_E, sE_M]; exact h.n.cardk (by omega)
  · simp (disch := omega) only [sA_A, sA_S, sA_L, sA_C, sA_F, sA_P, sA_E, sA_M, sS_A, sS_S, sS_L, sS_C, sS_F, sS_P, sS_E, sS_M, sL_A, sL_S, sL_L, sL_C, sL_F, sL_P, sL_E, sL_M, sC_A, sC_S, sC_L, sC_C, sC_F, sC_P, sC_E, sC_M, sF_A, sF_S, sF_L, sF_C, sF_F, sF_P, sF_E, sF_M, sP_A, sP_S, sP_L, sP_C, sP_F, sP_P, sP_E, sP_M, sE_A, sE_S, sE_L, sE_C, sE_F, sE_P, sE_E, sE_M]; exact h.l.cardk (by omega)
  · simp (disch := omega) only [sA_A, sA_S, sA_L, sA_C, sA_F, sA_P, sA_E, sA_M, sS_A, sS_S, sS_L, sS_C, sS_F, sS_P, sS_E, sS_M, sL_A, sL_S, sL_L, sL_C, sL_F, sL_P, sL_E, sL_M, sC_A, sC_S, sC_L, sC_C, sC_F, sC_P, sC_E, sC_M, sF_A, sF_S, sF_L, sF_C, sF_F, sF_P, sF_E, sF_M, sP_A, sP_S, sP_L, sP_C, sP_F, sP_P, sP_E, sP_M, sE_A, sE_S, sE_L, sE_C, sE_F, sE_P, sE_E, sE_M]; exact h.d
  · simp (disch := omega) only [sA_A, sA_S, sA_L, sA_C, sA_F, sA_P, sA_E, sA_M, sS_A, sS_S, sS_L, sS_C, sS_F, sS_P, sS_E, sS_M, sL_A, sL_S, sL_L, sL_C, sL_F, sL_P, sL_E, sL_M, sC_A, sC_S, sC_L, sC_C, sC_F, sC_P, sC_E, sC_M, sF_A, sF_S, sF_L, sF_C, sF_F, sF_P, sF_E, sF_M, sP_A, sP_S, sP_L, sP_C, sP_F, sP_P, sP_E, sP_M, sE_A, sE_S, sE_L, sE_C, sE_F, sE_P, sE_E, sE_M]
    rcases hk with ⟨rfl, rfl⟩ | rfl
    · exact h.wh.at4
    · exact h.wh.up (by decide) (by decide)
theorem nextCard_4 {c : RS} {g : CG} {L l q : Nat} {w iv : Nat → Int32} {x : Int32} (hl : l < 6) (hq : q < 30) : C4_nextCard g (setL c L (upd w (137 + 25 * q + 4) x) iv) L l = C4_nextCard g (setL c L w iv) L l := by
  unfold C4_nextCard C4_cardAt
  simp (disch := omega) only [lit32, neg1, nI_add, nI_mul, bS, pt_n, ix_n, rd_n, ws_n, rdo_n, wso_n, setR_1, setL_w, setL_iv, up_setR, up_setL_w, up_setL_iv, nz_0, nz_1, upd_n]
  rw [show rd (setL c L (upd w (137 + 25 * q + 4) x) iv) (100 + 6 * L + l) 30 (w (1100 + 8 * l + 0)) = rd (setL c L w iv) (100 + 6 * L + l) 30 (w (1100 + 8 * l + 0)) from by
    unfold rd
    by_cases e : 100 + 6 * L + l = 10 + L
    · omega
    · by_cases e2 : 100 + 6 * L + l = 400 + L
      · rw [e2, setL_iv, setL_iv]
      · rw [setL_o e e2, setL_o e e2]]
theorem nextCard_M {c : RS} {g : CG} {L l : Nat} {w iv : Nat → Int32} {x : Int32} (hl : l < 6) : C4_nextCard g (setL c L (upd w 1060 x) iv) L l = C4_nextCard g (setL c L w iv) L l := by
  unfold C4_nextCard C4_cardAt
  simp (disch := omega) only [lit32, neg1, nI_add, nI_mul, bS, pt_n, ix_n, rd_n, ws_n, rdo_n, wso_n, setR_1, setL_w, setL_iv, up_setR, up_setL_w, up_setL_iv, nz_0, nz_1, upd_n]
  rw [show rd (setL c L (upd w 1060 x) iv) (100 + 6 * L + l) 30 (w (1100 + 8 * l + 0)) = rd (setL c L w iv) (100 + 6 * L + l) 30 (w (1100 + 8 * l + 0)) from by
    unfold rd
    by_cases e : 100 + 6 * L + l = 10 + L
    · omega
    · by_cases e2 : 100 + 6 * L + l = 400 + L
      · rw [e2, setL_iv, setL_iv]
      · rw [setL_o e e2, setL_o e e2]]
theorem lvV_4 {v : Nat → Int32} {q l nl : Nat} (hq : q < 30) (hl : l < 6) (hn : nl < 30) : lvV (upd v (137 + 25 * q + 4) m1) q l nl = lvV v q l nl := by
  unfold lvV
  simp (disch := omega) only [upd_n]
  rw [upd_c (i := 137 + 25 * q + 4) (j := 137 + 25 * q + 3) (by omega), upd_u]
noncomputable def ouV (v : Nat → Int32) (s : Nat) : Nat → Int32 := upd (upd v (17 + 16 * s + 2) m1) (17 + 16 * s + 6) (v (17 + 16 * s + 6) + nI 1)
theorem QR.out {v w iv : Nat → Int32} {bp dl df tx : Nat → Nat → Int32} {nt sm lm cm B U s : Nat} (h : QR v w iv bp dl df tx nt sm lm cm B U) (hs : s < sm) : QR (ouV v s) (ouV w s) iv bp dl df tx nt sm lm cm B U := by
  have := h.a.sm6
  unfold ouV
  rw [h.rs hs (k := 6) (by omega) (by omega)]
  exact QR.free 6 (by omega) (by omega) (h.upS (by omega) (by omega) (h.s.uHold (Or.inl rfl)))
theorem sS_out {v : Nat → Int32} {s : Nat} (hs : s < 6) : sS (ouV v s) = up2 (up2 (sS v) s 2 m1) s 6 (v (17 + 16 * s + 6) + nI 1) := by unfold ouV; simp (disch := first | decide | assumption) only [sA_A, sA_S, sA_L, sA_C, sA_F, sA_P, sA_E, sA_M, sS_A, sS_S, sS_L, sS_C, sS_F, sS_P, sS_E, sS_M, sL_A, sL_S, sL_L, sL_C, sL_F, sL_P, sL_E, sL_M, sC_A, sC_S, sC_L, sC_C, sC_F, sC_P, sC_E, sC_M, sF_A, sF_S, sF_L, sF_C, sF_F, sF_P, sF_E, sF_M, sP_A, sP_S, sP_L, sP_C, sP_F, sP_P, sP_E, sP_M, sE_A, sE_S, sE_L, sE_C, sE_F, sE_P, sE_E, sE_M]
theorem sC_out {v : Nat → Int32} {s : Nat} (hs : s < 6) : sC (ouV v s) = sC v := by unfold ouV; simp (disch := first | decide | assumption) only [sA_A, sA_S, sA_L, sA_C, sA_F, sA_P, sA_E, sA_M, sS_A, sS_S, sS_L, sS_C, sS_F, sS_P, sS_E, sS_M, sL_A, sL_S, sL_L, sL_C, sL_F, sL_P, sL_E, sL_M, sC_A, sC_S, sC_L, sC_C, sC_F, sC_P, sC_E, sC_M, sF_A, sF_S, sF_L, sF_C, sF_F, sF_P, sF_E, sF_M, sP_A, sP_S, sP_L, sP_C, sP_F, sP_P, sP_E, sP_M, sE_A, sE_S, sE_L, sE_C, sE_F, sE_P, sE_E, sE_M]
theorem comeOut_ok {r c : RS} {g : CG} {L sm lm cm B U s q : Nat} {v w iv : Nat → Int32} (hL : L < 12) (h : QX c g L v w iv sm lm cm B U) (hs : s + 1 = sm) (hq : q < cm) (eh : sS w s 2 = nI q) (es : sC w q 3 = nI 1) :
    ∃ v' w' iv', F8_goesOn (setR r v) (nI s) = some (setR r v') ∧ C3_comeOut g (setL c L w iv) L s = some (setL c L w' iv') ∧ QX c g L v' w' iv' sm lm cm B U ∧ (∀ s' k, s' ≠ s → sS w' s' k = sS w s' k) ∧ w' 1060 = nI 1 ∧ (∀ k, k ≠ 2 → k ≠ 6 → sS w' s k = sS w s k) := by
  have hsm := h.a.sm6; have hcm := h.a.cm30; have hlm := h.a.lm6
  have hs6 : s < 6 := by omega
  have hq30 : q < 30 := by omega
  obtain ⟨l, hl, e0⟩ := h.c.lot q hq
  have hl6 : l < 6 := by omega
  have e0w : w (137 + 25 * q + 0) = nI l := by rw [sC_r (v := w) (by omega) (by omega)]; exact e0
  have ehw : w (17 + 16 * s + 2) = nI q := by rw [sS_r (v := w) (by omega) (by omega)]; exact eh
  have ehv : v (17 + 16 * s + 2) = nI q := by rw [h.rs (by omega) (by omega) (by omega)]; exact ehw
  have esw : w (137 + 25 * q + 3) = nI 1 := by rw [sC_r (v := w) (by omega) (by omega)]; exact es
  have r0 := h.c.r0 hq (by omega) (by omega) es
  have h7 : v 7 = nI sm := by rw [h.ra (i := 7) (by omega) (by omega) (by omega), sA_r (v := w) (by omega)]; exact h.a.w7
  have e0v : v (137 + 25 * q + 0) = nI l := by rw [h.rc hq (by omega) (by omega)]; exact e0w
  -- behind the first steps
  have h1 : QX c g L (ouV v s) (ouV w s) iv sm lm cm B U := h.out (by omega)
  have nh1 : NH (sS (ouV w s)) sm q := by rw [sS_out hs6]; exact (h.s.nh hsm hcm (by omega) hq30 eh).up (by decide)
  have es1 : sC (ouV w s) q 3 = nI 1 := by rw [sC_out hs6]; exact es
  have r1 : sC (ouV w s) q 8 = nI 0 := by rw [sC_out hs6]; exact r0
  have e01 : sC (ouV w s) q 0 = nI l := by rw [sC_out hs6]; exact e0
  have h2 : QX c g L (upd (ouV v s) (137 + 25 * q + 4) m1) (upd (ouV w s) (137 + 25 * q + 4) m1) iv sm lm cm B U := h1.setK (Or.inl ⟨rfl, rfl⟩) hq nh1
  obtain ⟨x, x1, x2, x3⟩ := next_ok (r := r) hL h2 hl
  rw [nextCard_4 hl6 hq30] at x2
  have ou4 : ∀ f : Nat → Int32, ouV f s (137 + 25 * q + 4) = f (137 + 25 * q + 4) := fun f => by unfold ouV; simp (disch := omega) only [upd_n]
  have oud : ∀ (f : Nat → Int32) j, j ≠ 17 + 16 * s + 2 → j ≠ 17 + 16 * s + 6 → ouV f s j = f j := fun f j a b => by unfold ouV; rw [upd_n b, upd_n a]
  have oI := inState_ok (r := r) (a := 2) h2 (by omega)
  have hx1 : v 1 = w 1 := h.ra (by omega) (by omega) (by omega)
  have frS : ∀ {w2 : Nat → Int32}, sS w2 = sS (ouV w s) → (∀ s' k, s' ≠ s → sS w2 s' k = sS w s' k) ∧ (∀ k, k ≠ 2 → k ≠ 6 → sS w2 s k = sS w s k) := fun {w2} e => by
    rw [e, sS_out hs6]
    exact ⟨fun s' k hne => by rw [up2_ne1 hne, up2_ne1 hne], fun k a b => by rw [up2_ne b, up2_ne a]⟩
  by_cases hx : x = nI q
  · obtain ⟨v', w', iv', k1, k2, k3, k4, k5, k6, k7⟩ := leave_ok (r := r) (c := c) (g := g) (a := 1) hL (w := upd (ouV w s) 1060 (nI 1)) h1.upM hq (by omega) (by rw [sC_M]; exact es1) (by rw [sC_M]; exact r1) (by rw [sS_M]; exact nh1)
    refine ⟨v', w', iv', ?_, ?_, k3, ?_, ?_, ?_⟩
    · unfold F8_goesOn
      simp (disch := omega) only [lit32, neg1, nI_add, nI_mul, bS, pt_n, ix_n, rd_n, ws_n, rdo_n, wso_n, setR_1, setL_w, setL_iv, up_setR, up_setL_w, up_setL_iv, nz_0, nz_1, F8_of_v, ehv, h7]
      rw [nI_sub (by omega), if_pos (by congr 1; omega)]
      simp (disch := omega) only [lit32, neg1, nI_add, nI_mul, bS, pt_n, ix_n, rd_n, ws_n, rdo_n, wso_n, setR_1, setL_w, setL_iv, up_setR, up_setL_w, up_setL_iv, nz_0, nz_1]
      rw [if_neg (nI_ne (by omega) (by omega) (by omega))]
      simp (disch := omega) only [lit32, neg1, nI_add, nI_mul, bS, pt_n, ix_n, rd_n, ws_n, rdo_n, wso_n, setR_1, setL_w, setL_iv, up_setR, up_setL_w, up_setL_iv, nz_0, nz_1, F8_sets_s, F8_grows_v, upd_n]
      rw [if_neg (nI_ne (by omega) (by omega) (by omega))]
      simp (disch := omega) only [lit32, neg1, nI_add, nI_mul, bS, pt_n, ix_n, rd_n, ws_n, rdo_n, wso_n, setR_1, setL_w, setL_iv, up_setR, up_setL_w, up_setL_iv, nz_0, nz_1, F8_setsCard_s, F8_ofCard_v, upd_n, e0v]
      have := x1
      unfold ouV at this
      rw [this, bS, if_pos hx]
      have hnl : (ouV v s) 10 = iv 3 := by
        have := h1.n.nl; rw [← sA_r (v := ouV v s) (by omega)] at this; exact this
      have hiv := h1.n.ins 3 (by omega)
      have hlt : cnt cm (stC (sC (ouV w s)) 3) < cm := cnt_lt (c := q) hq (by unfold stC; rw [es1]; exact decide_eq_false (nI_ne (by omega) (by omega) (by omega)))
      have k1' := k1
      rw [leaves_v (l := l) (nl := cnt cm (stC (sC (ouV w s)) 3)) hq30 hl6 (by omega) (by rw [hnl, hiv]) (by rw [oud _ _ (by omega) (by omega)]; exact e0v)] at k1'
      have k9 := leaves_v (r := r) (v := upd (ouV v s) (137 + 25 * q + 4) m1) (q := q) (l := l) (nl := cnt cm (stC (sC (ouV w s)) 3)) hq30 hl6 (by omega) (by rw [upd_n (by omega), hnl, hiv]) (by rw [upd_n (by omega), oud _ _ (by omega) (by omega)]; exact e0v)
      rw [lvV_4 hq30 hl6 (by omega), k1'] at k9
      unfold ouV at k9
      rw [k9]; rfl
    · unfold C3_comeOut C6_letGoOn
      simp (disch := omega) only [lit32, neg1, nI_add, nI_mul, bS, pt_n, ix_n, rd_n, ws_n, rdo_n, wso_n, setR_1, setL_w, setL_iv, up_setR, up_setL_w, up_setL_iv, nz_0, nz_1, ehw, upd_n, e0w]
      have hc := nextCard_M (c := c) (g := g) (L := L) (l := l) (w := ouV w s) (iv := iv) (x := nI 1) hl6
      rw [x2] at hc
      unfold ouV at hc
      rw [hc, bS, if_pos hx]
      unfold ouV at k2
      rw [k2]; rfl
    · exact (frS (by rw [k4, sS_M])).1
    · rw [k7, upd_e]
    · exact (frS (by rw [k4, sS_M])).2
  · have h3 : QX c g L (ouV v s) (upd (ouV w s) 1060 (nI 1)) iv sm lm cm B U := h1.upM
    have oI2 : F8_inState (setR r (upd (ouV v s) (137 + 25 * q + 4) m1)) (nI 2) = some (iv 2) := oI
    have hc := nextCard_M (c := c) (g := g) (L := L) (l := l) (w := ouV w s) (iv := iv) (x := nI 1) hl6
    rw [x2] at hc
    have nh3 : NH (sS (upd (ouV w s) 1060 (nI 1))) sm q := by rw [sS_M]; exact nh1
    have es3 : sC (upd (ouV w s) 1060 (nI 1)) q 3 = nI 1 := by rw [sC_M]; exact es1
    have r3 : sC (upd (ouV w s) 1060 (nI 1)) q 8 = nI 0 := by rw [sC_M]; exact r1
    by_cases hle : w 1 ≤ iv 2
    · have eF : (ouV v s) (137 + 25 * q + 6) = (ouV w s) (137 + 25 * q + 6) := h1.rc hq (by omega) (by omega)
      have e14 : (ouV v s) 14 = (ouV w s) 14 := h1.ra (by omega) (by omega) (by omega)
      have h4 := (h3.scrap (k := 6) (Or.inr rfl) hq hl (by rw [sC_M]; exact e01)).tot (i := 14) (x := (ouV w s) 14 + nI 1) (by omega)
      have h5 := h4.move (a := 1) (b := 0) hq (by simp (disch := first | decide | assumption) only [sA_A, sA_S, sA_L, sA_C, sA_F, sA_P, sA_E, sA_M, sS_A, sS_S, sS_L, sS_C, sS_F, sS_P, sS_E, sS_M, sL_A, sL_S, sL_L, sL_C, sL_F, sL_P, sL_E, sL_M, sC_A, sC_S, sC_L, sC_C, sC_F, sC_P, sC_E, sC_M, sF_A, sF_S, sF_L, sF_C, sF_F, sF_P, sF_E, sF_M, sP_A, sP_S, sP_L, sP_C, sP_F, sP_P, sP_E, sP_M, sE_A, sE_S, sE_L, sE_C, sE_F, sE_P, sE_E, sE_M]; exact nh1) (by omega) (by omega) (by omega) (by simp (disch := first | decide | assumption) only [sA_A, sA_S, sA_L, sA_C, sA_F, sA_P, sA_E, sA_M, sS_A, sS_S, sS_L, sS_C, sS_F, sS_P, sS_E, sS_M, sL_A, sL_S, sL_L, sL_C, sL_F, sL_P, sL_E, sL_M, sC_A, sC_S, sC_L, sC_C, sC_F, sC_P, sC_E, sC_M, sF_A, sF_S, sF_L, sF_C, sF_F, sF_P, sF_E, sF_M, sP_A, sP_S, sP_L, sP_C, sP_F, sP_P, sP_E, sP_M, sE_A, sE_S, sE_L, sE_C, sE_F, sE_P, sE_E, sE_M]; rw [up2_ne (by decide)]; exact es1) (Or.inl rfl)
      refine ⟨_, _, _, ?_, ?_, h5, ?_, ?_, ?_⟩
      · unfold F8_goesOn
        simp (disch := omega) only [lit32, neg1, nI_add, nI_mul, bS, pt_n, ix_n, rd_n, ws_n, rdo_n, wso_n, setR_1, setL_w, setL_iv, up_setR, up_setL_w, up_setL_iv, nz_0, nz_1, F8_of_v, ehv, h7]
        rw [nI_sub (by omega), if_pos (by congr 1; omega)]
        simp (disch := omega) only [lit32, neg1, nI_add, nI_mul, bS, pt_n, ix_n, rd_n, ws_n, rdo_n, wso_n, setR_1, setL_w, setL_iv, up_setR, up_setL_w, up_setL_iv, nz_0, nz_1]
        rw [if_neg (nI_ne (by omega) (by omega) (by omega))]
        simp (disch := omega) only [lit32, neg1, nI_add, nI_mul, bS, pt_n, ix_n, rd_n, ws_n, rdo_n, wso_n, setR_1, setL_w, setL_iv, up_setR, up_setL_w, up_setL_iv, nz_0, nz_1, F8_sets_s, F8_grows_v, upd_n]
        rw [if_neg (nI_ne (by omega) (by omega) (by omega))]
        simp (disch := omega) only [lit32, neg1, nI_add, nI_mul, bS, pt_n, ix_n, rd_n, ws_n, rdo_n, wso_n, setR_1, setL_w, setL_iv, up_setR, up_setL_w, up_setL_iv, nz_0, nz_1, F8_setsCard_s, F8_ofCard_v, upd_n, e0v]
        have := x1
        unfold ouV at this
        rw [this, bS, if_neg hx]
        unfold ouV at oI2
        rw [oI2, bS, hx1, if_pos hle]
        simp (disch := omega) only [lit32, neg1, nI_add, nI_mul, bS, pt_n, ix_n, rd_n, ws_n, rdo_n, wso_n, setR_1, setL_w, setL_iv, up_setR, up_setL_w, up_setL_iv, nz_0, nz_1, F8_setsCard_s, F8_ofCard_v, upd_n]
        unfold ouV at eF e14
        simp (disch := omega) only [upd_n] at eF e14
        congr 2
        unfold ouV
        try simp (disch := omega) only [upd_n]
        rw [eF, e14]
        (funext j9; simp only [upd_at]; repeat' split)
        all_goals (first | rfl | (exfalso; omega))
      · unfold C3_comeOut C6_letGoOn
        simp (disch := omega) only [lit32, neg1, nI_add, nI_mul, bS, pt_n, ix_n, rd_n, ws_n, rdo_n, wso_n, setR_1, setL_w, setL_iv, up_setR, up_setL_w, up_setL_iv, nz_0, nz_1, ehw, upd_n, e0w]
        unfold ouV at hc
        rw [hc, bS, if_neg hx, if_pos hle]
        simp only [show 12 + 2 = 14 from rfl]
        rw [change_w (a := 1) (b := 0) (by omega) (by omega) (by simp (disch := omega) only [upd_n]; exact esw)]
        unfold ouV
        try simp (disch := omega) only [upd_n]
        rfl
      · exact (frS (by simp (disch := first | decide | assumption) only [sA_A, sA_S, sA_L, sA_C, sA_F, sA_P, sA_E, sA_M, sS_A, sS_S, sS_L, sS_C, sS_F, sS_P, sS_E, sS_M, sL_A, sL_S, sL_L, sL_C, sL_F, sL_P, sL_E, sL_M, sC_A, sC_S, sC_L, sC_C, sC_F, sC_P, sC_E, sC_M, sF_A, sF_S, sF_L, sF_C, sF_F, sF_P, sF_E, sF_M, sP_A, sP_S, sP_L, sP_C, sP_F, sP_P, sP_E, sP_M, sE_A, sE_S, sE_L, sE_C, sE_F, sE_P, sE_E, sE_M])).1
      · simp (disch := omega) only [upd_n, upd_e]
      · exact (frS (by simp (disch := first | decide | assumption) only [sA_A, sA_S, sA_L, sA_C, sA_F, sA_P, sA_E, sA_M, sS_A, sS_S, sS_L, sS_C, sS_F, sS_P, sS_E, sS_M, sL_A, sL_S, sL_L, sL_C, sL_F, sL_P, sL_E, sL_M, sC_A, sC_S, sC_L, sC_C, sC_F, sC_P, sC_E, sC_M, sF_A, sF_S, sF_L, sF_C, sF_F, sF_P, sF_E, sF_M, sP_A, sP_S, sP_L, sP_C, sP_F, sP_P, sP_E, sP_M, sE_A, sE_S, sE_L, sE_C, sE_F, sE_P, sE_E, sE_M])).2
    · have h5 := h3.move (a := 1) (b := 2) hq nh3 (by omega) (by omega) (by omega) es3 (Or.inr r3)
      refine ⟨_, _, _, ?_, ?_, h5, ?_, ?_, ?_⟩
      · unfold F8_goesOn
        simp (disch := omega) only [lit32, neg1, nI_add, nI_mul, bS, pt_n, ix_n, rd_n, ws_n, rdo_n, wso_n, setR_1, setL_w, setL_iv, up_setR, up_setL_w, up_setL_iv, nz_0, nz_1, F8_of_v, ehv, h7]
        rw [nI_sub (by omega), if_pos (by congr 1; omega)]
        simp (disch := omega) only [lit32, neg1, nI_add, nI_mul, bS, pt_n, ix_n, rd_n, ws_n, rdo_n, wso_n, setR_1, setL_w, setL_iv, up_setR, up_setL_w, up_setL_iv, nz_0, nz_1]
        rw [if_neg (nI_ne (by omega) (by omega) (by omega))]
        simp (disch := omega) only [lit32, neg1, nI_add, nI_mul, bS, pt_n, ix_n, rd_n, ws_n, rdo_n, wso_n, setR_1, setL_w, setL_iv, up_setR, up_setL_w, up_setL_iv, nz_0, nz_1, F8_sets_s, F8_grows_v, upd_n]
        rw [if_neg (nI_ne (by omega) (by omega) (by omega))]
        simp (disch := omega) only [lit32, neg1, nI_add, nI_mul, bS, pt_n, ix_n, rd_n, ws_n, rdo_n, wso_n, setR_1, setL_w, setL_iv, up_setR, up_setL_w, up_setL_iv, nz_0, nz_1, F8_setsCard_s, F8_ofCard_v, upd_n, e0v]
        have := x1
        unfold ouV at this
        rw [this, bS, if_neg hx]
        unfold ouV at oI2
        rw [oI2, bS, hx1, if_neg hle]
        simp (disch := omega) only [lit32, neg1, nI_add, nI_mul, bS, pt_n, ix_n, rd_n, ws_n, rdo_n, wso_n, setR_1, setL_w, setL_iv, up_setR, up_setL_w, up_setL_iv, nz_0, nz_1, F8_setsCard_s]
        congr 2
        unfold ouV
        rw [upd_c (i := 137 + 25 * q + 4) (j := 137 + 25 * q + 3) (by omega)]
      · unfold C3_comeOut C6_letGoOn
        simp (disch := omega) only [lit32, neg1, nI_add, nI_mul, bS, pt_n, ix_n, rd_n, ws_n, rdo_n, wso_n, setR_1, setL_w, setL_iv, up_setR, up_setL_w, up_setL_iv, nz_0, nz_1, ehw, upd_n, e0w]
        unfold ouV at hc
        rw [hc, bS, if_neg hx, if_neg hle]
        rw [change_w (a := 1) (b := 2) (by omega) (by omega) (by simp (disch := omega) only [upd_n]; exact esw)]
        unfold ouV
        rfl
      · exact (frS (by simp (disch := first | decide | assumption) only [sA_A, sA_S, sA_L, sA_C, sA_F, sA_P, sA_E, sA_M, sS_A, sS_S, sS_L, sS_C, sS_F, sS_P, sS_E, sS_M, sL_A, sL_S, sL_L, sL_C, sL_F, sL_P, sL_E, sL_M, sC_A, sC_S, sC_L, sC_C, sC_F, sC_P, sC_E, sC_M, sF_A, sF_S, sF_L, sF_C, sF_F, sF_P, sF_E, sF_M, sP_A, sP_S, sP_L, sP_C, sP_F, sP_P, sP_E, sP_M, sE_A, sE_S, sE_L, sE_C, sE_F, sE_P, sE_E, sE_M])).1
      · simp (disch := omega) only [upd_n, upd_e]
      · exact (frS (by simp (disch := first | decide | assumption) only [sA_A, sA_S, sA_L, sA_C, sA_F, sA_P, sA_E, sA_M, sS_A, sS_S, sS_L, sS_C, sS_F, sS_P, sS_E, sS_M, sL_A, sL_S, sL_L, sL_C, sL_F, sL_P, sL_E, sL_M, sC_A, sC_S, sC_L, sC_C, sC_F, sC_P, sC_E, sC_M, sF_A, sF_S, sF_L, sF_C, sF_F, sF_P, sF_E, sF_M, sP_A, sP_S, sP_L, sP_C, sP_F, sP_P, sP_E, sP_M, sE_A, sE_S, sE_L, sE_C, sE_F, sE_P, sE_E, sE_M])).2
end
section
theorem text_ok {c : RS} {g : CG} {L sm lm cm B U q : Nat} {v w iv : Nat → Int32} (hg : g.nt < 2 ^ 31) (h : QX c g L v w iv sm lm cm B U) (hq : q < cm) : ∃ t n f, TXv v q n f ∧ TXc c g t n f ∧ w (137 + 25 * q + 2) = nI t := by
  have hcm := h.a.cm30
  obtain ⟨t, n, h1, h2, h3, h4, h5, h6, h7, h8⟩ := h.c.text q hq
  have hf : ∀ k, k < n → c (500 + t) (1 + k) = nI ((c (500 + t) (1 + k)).toNatClampNeg) ∧ (c (500 + t) (1 + k)).toNatClampNeg < 26 := fun k hk => by
    obtain ⟨-, a, ha, e⟩ := h8 k hk
    have e : c (500 + t) (1 + k) = nI a := e
    rw [e, nI_clamp (by omega)]; exact ⟨rfl, ha⟩
  refine ⟨t, n, fun k => (c (500 + t) (1 + k)).toNatClampNeg, ⟨by omega, h5, h6, ?_, fun k hk => ⟨?_, (hf k hk).2⟩⟩, ⟨h1, h2, by omega, h5, h6, h4, hf⟩, ?_⟩
  · rw [sC_r (v := v) (by omega) (by omega)]; exact h7
  · rw [sC_r (v := v) (by omega) (by omega), (h8 k hk).1]; exact (hf k hk).1
  · rw [sC_r (v := w) (by omega) (by omega)]; exact h3
theorem stat_ok {c : RS} {g : CG} {L sm lm cm B U s : Nat} {v w iv : Nat → Int32} (h : QX c g L v w iv sm lm cm B U) (hs : s < sm) : ∃ (wh : Bool) (p a : Nat), (wh = true ↔ v (17 + 16 * s + 0) = nI 3) ∧ (wh = true ↔ w (17 + 16 * s + 0) = nI 3) ∧ 1 ≤ p ∧ p ≤ 99 ∧ v (17 + 16 * s + 1) = nI p ∧ w (17 + 16 * s + 1) = nI p ∧ (wh = true → v (17 + 16 * s + 8) = nI a ∧ a < 26) ∧ (wh = true → w (17 + 16 * s + 8) = nI a ∧ a < 26) := by
  have hsm := h.a.sm6
  obtain ⟨p, p1, p2, p3⟩ := h.s.pace s hs
  have e0 : v (17 + 16 * s + 0) = w (17 + 16 * s + 0) := h.rs hs (by omega) (by omega)
  have ew : w (17 + 16 * s + 1) = nI p := by rw [sS_r (v := w) (by omega) (by omega)]; exact p3
  have ev : v (17 + 16 * s + 1) = nI p := by rw [h.rs hs (by omega) (by omega)]; exact ew
  by_cases e : w (17 + 16 * s + 0) = nI 3
  · obtain ⟨l1, a, l2, l3⟩ := h.s.letter s hs (by rw [← sS_r (v := w) (by omega) (by omega)]; exact e)
    have lw : w (17 + 16 * s + 8) = nI a := by rw [sS_r (v := w) (by omega) (by omega)]; exact l3
    have lv : v (17 + 16 * s + 8) = nI a := by rw [sS_r (v := v) (by omega) (by omega), l1]; exact l3
    exact ⟨true, p, a, by rw [e0]; exact ⟨fun _ => e, fun _ => rfl⟩, ⟨fun _ => e, fun _ => rfl⟩, p1, p2, ev, ew, fun _ => ⟨lv, l2⟩, fun _ => ⟨lw, l2⟩⟩
  · exact ⟨false, p, 0, by rw [e0]; exact ⟨fun q => absurd q (by decide), fun q => absurd q e⟩, ⟨fun q => absurd q (by decide), fun q => absurd q e⟩, p1, p2, ev, ew, fun q => absurd q (by decide), fun q => absurd q (by decide)⟩
theorem enter_ok {r c : RS} {g : CG} {L sm lm cm B U s q a : Nat} {v w iv : Nat → Int32} (hL : L < 12) (hg : g.nt < 2 ^ 31) (h : QX c g L v w iv sm lm cm B U) (hs : s < sm) (hq : q < cm) (nh : NH (sS w) sm q) (ha : a = 0 ∨ a = 1) (es : sC w q 3 = nI a) (r0 : sC w q 8 = nI 0) :
    ∃ v' w' iv', F8_enters (setR r v) (nI s) (nI q) = some (setR r v') ∧ C3_enter g (setL c L w iv) L (nI q) (nI s) = some (setL c L w' iv') ∧ QX c g L v' w' iv' sm lm cm B U ∧ (∀ s' k, s' ≠ s → sS w' s' k = sS w s' k) ∧ w' 1060 = w 1060 ∧ (∀ k, k ≠ 2 → k ≠ 3 → k ≠ 8 → sS w' s k = sS w s k) := by
  have hsm := h.a.sm6; have hcm := h.a.cm30
  have hs6 : s < 6 := by omega
  have hq30 : q < 30 := by omega
  obtain ⟨t, n, f, t1, t2, t3⟩ := text_ok hg h hq
  obtain ⟨wh, p, b, s1, s2, s3, s4, s5, s6, s7, s8⟩ := stat_ok h hs
  have hn1 := t1.n1; have hn16 := t1.n16
  have esw : w (137 + 25 * q + 3) = nI a := by rw [sC_r (v := w) (by omega) (by omega)]; exact es
  refine ⟨entS v s q (tckN wh p b n f) (trnN wh b n f) (f (n - 1)) wh, entS w s q (tckN wh p b n f) (trnN wh b n f) (f (n - 1)) wh, ivM iv a 1, F8_enters_v hs6 t1 s1 s5 s3 s4 s7, C3_enter_w hL hs6 hq30 t2 t3 s2 s6 s3 s4 s8 esw (by omega), ?_, ?_, ?_, ?_⟩
  · exact h.ent hs hq nh ha es r0 (tckN_le s3 s4 hn16 (fun e => (s7 e).2) (fun k hk => (t1.lets k hk).2)) (fun e => by rw [← sS_r (v := w) (by omega) (by omega)]; exact s2.mp e) (fun _ => (t1.lets (n - 1) (by omega)).2)
  · intro s' k hne
    unfold entS
    cases wh <;> (simp only [if_true, Bool.false_eq_true, if_false]; simp (disch := first | decide | assumption) only [sA_A, sA_S, sA_L, sA_C, sA_F, sA_P, sA_E, sA_M, sS_A, sS_S, sS_L, sS_C, sS_F, sS_P, sS_E, sS_M, sL_A, sL_S, sL_L, sL_C, sL_F, sL_P, sL_E, sL_M, sC_A, sC_S, sC_L, sC_C, sC_F, sC_P, sC_E, sC_M, sF_A, sF_S, sF_L, sF_C, sF_F, sF_P, sF_E, sF_M, sP_A, sP_S, sP_L, sP_C, sP_F, sP_P, sP_E, sP_M, sE_A, sE_S, sE_L, sE_C, sE_F, sE_P, sE_E, sE_M])
    · rw [up2_ne1 hne, up2_ne1 hne]
    · rw [up2_ne1 hne, up2_ne1 hne, up2_ne1 hne]
  · unfold entS
    cases wh <;> (simp only [if_true, Bool.false_eq_true, if_false]; simp (disch := omega) only [upd_n])
  · intro k h2 h3 h8
    unfold entS
    cases wh <;> (simp only [if_true, Bool.false_eq_true, if_false]; simp (disch := first | decide | assumption) only [sA_A, sA_S, sA_L, sA_C, sA_F, sA_P, sA_E, sA_M, sS_A, sS_S, sS_L, sS_C, sS_F, sS_P, sS_E, sS_M, sL_A, sL_S, sL_L, sL_C, sL_F, sL_P, sL_E, sL_M, sC_A, sC_S, sC_L, sC_C, sC_F, sC_P, sC_E, sC_M, sF_A, sF_S, sF_L, sF_C, sF_F, sF_P, sF_E, sF_M, sP_A, sP_S, sP_L, sP_C, sP_F, sP_P, sP_E, sP_M, sE_A, sE_S, sE_L, sE_C, sE_F, sE_P, sE_E, sE_M])
    · rw [up2_ne h3, up2_ne h2]
    · rw [up2_ne h3, up2_ne h2, up2_ne h8]
theorem goOn_ok {r c : RS} {g : CG} {L sm lm cm B U s q : Nat} {v w iv : Nat → Int32} (hL : L < 12) (hg : g.nt < 2 ^ 31) (h : QX c g L v w iv sm lm cm B U) (hs : s + 1 < sm) (hq : q < cm) (eh : sS w s 2 = nI q) (es : sC w q 3 = nI 1) (en : sS w (s + 1) 2 = m1) :
    ∃ v' w' iv', F8_goesOn (setR r v) (nI s) = some (setR r v') ∧ C3_goOn g (setL c L w iv) L s (nI (s + 1)) = some (setL c L w' iv') ∧ QX c g L v' w' iv' sm lm cm B U ∧ (∀ s' k, s' ≠ s → s' ≠ s + 1 → sS w' s' k = sS w s' k) ∧ w' 1060 = nI 1 ∧ (∀ s' k, k ≠ 2 → k ≠ 3 → k ≠ 6 → k ≠ 8 → sS w' s' k = sS w s' k) := by
  have hsm := h.a.sm6; have hcm := h.a.cm30
  have hs6 : s < 6 := by omega
  have hq30 : q < 30 := by omega
  have ehw : w (17 + 16 * s + 2) = nI q := by rw [sS_r (v := w) (by omega) (by omega)]; exact eh
  have ehv : v (17 + 16 * s + 2) = nI q := by rw [h.rs (by omega) (by omega) (by omega)]; exact ehw
  have enw : w (17 + 16 * (s + 1) + 2) = m1 := by rw [sS_r (v := w) (by omega) (by omega)]; exact en
  have env : v (17 + 16 * (s + 1) + 2) = m1 := by rw [h.rs (by omega) (by omega) (by omega)]; exact enw
  have h7 : v 7 = nI sm := by rw [h.ra (i := 7) (by omega) (by omega) (by omega), sA_r (v := w) (by omega)]; exact h.a.w7
  have r0 := h.c.r0 hq (by omega) (by omega) es
  have h1 : QX c g L (ouV v s) (ouV w s) iv sm lm cm B U := h.out (by omega)
  obtain ⟨v', w', iv', k1, k2, k3, k4, k5, k6⟩ := enter_ok (r := r) hL hg h1 (s := s + 1) (q := q) (a := 1) hs hq (by rw [sS_out hs6]; exact (h.s.nh hsm hcm (by omega) hq30 eh).up (by decide)) (Or.inr rfl) (by rw [sC_out hs6]; exact es) (by rw [sC_out hs6]; exact r0)
  refine ⟨v', upd w' 1060 (nI 1), iv', ?_, ?_, k3.upM, ?_, upd_e, ?_⟩
  · unfold F8_goesOn
    simp (disch := omega) only [lit32, neg1, nI_add, nI_mul, bS, pt_n, ix_n, rd_n, ws_n, rdo_n, wso_n, setR_1, setL_w, setL_iv, up_setR, up_setL_w, up_setL_iv, nz_0, nz_1, F8_of_v, ehv, h7]
    rw [nI_sub (by omega), if_neg (nI_ne (by omega) (by omega) (by omega))]
    simp (disch := omega) only [lit32, neg1, nI_add, nI_mul, bS, pt_n, ix_n, rd_n, ws_n, rdo_n, wso_n, setR_1, setL_w, setL_iv, up_setR, up_setL_w, up_setL_iv, nz_0, nz_1, F8_of_v, env]
    rw [if_pos trivial]
    try simp (disch := omega) only [lit32, neg1, nI_add, nI_mul, bS, pt_n, ix_n, rd_n, ws_n, rdo_n, wso_n, setR_1, setL_w, setL_iv, up_setR, up_setL_w, up_setL_iv, nz_0, nz_1, F8_of_v, env]
    try rw [if_pos trivial]
    simp (disch := omega) only [lit32, neg1, nI_add, nI_mul, bS, pt_n, ix_n, rd_n, ws_n, rdo_n, wso_n, setR_1, setL_w, setL_iv, up_setR, up_setL_w, up_setL_iv, nz_0, nz_1, F8_sets_s, F8_grows_v, upd_n]
    try rw [if_pos trivial]
    unfold ouV at k1
    rw [k1]; rfl
  · unfold C3_goOn C6_letGoOn
    simp (disch := omega) only [lit32, neg1, nI_add, nI_mul, bS, pt_n, ix_n, rd_n, ws_n, rdo_n, wso_n, setR_1, setL_w, setL_iv, up_setR, up_setL_w, up_setL_iv, nz_0, nz_1, ehw, upd_n]
    unfold ouV at k2
    rw [k2]
    simp (disch := omega) only [lit32, neg1, nI_add, nI_mul, bS, pt_n, ix_n, rd_n, ws_n, rdo_n, wso_n, setR_1, setL_w, setL_iv, up_setR, up_setL_w, up_setL_iv, nz_0, nz_1]
  · intro s' k a b
    simp (disch := first | decide | assumption) only [sA_A, sA_S, sA_L, sA_C, sA_F, sA_P, sA_E, sA_M, sS_A, sS_S, sS_L, sS_C, sS_F, sS_P, sS_E, sS_M, sL_A, sL_S, sL_L, sL_C, sL_F, sL_P, sL_E, sL_M, sC_A, sC_S, sC_L, sC_C, sC_F, sC_P, sC_E, sC_M, sF_A, sF_S, sF_L, sF_C, sF_F, sF_P, sF_E, sF_M, sP_A, sP_S, sP_L, sP_C, sP_F, sP_P, sP_E, sP_M, sE_A, sE_S, sE_L, sE_C, sE_F, sE_P, sE_E, sE_M]
    rw [k4 s' k b, sS_out hs6, up2_ne1 a, up2_ne1 a]
  · intro s' k a2 a3 a6 a8
    simp (disch := first | decide | assumption) only [sA_A, sA_S, sA_L, sA_C, sA_F, sA_P, sA_E, sA_M, sS_A, sS_S, sS_L, sS_C, sS_F, sS_P, sS_E, sS_M, sL_A, sL_S, sL_L, sL_C, sL_F, sL_P, sL_E, sL_M, sC_A, sC_S, sC_L, sC_C, sC_F, sC_P, sC_E, sC_M, sF_A, sF_S, sF_L, sF_C, sF_F, sF_P, sF_E, sF_M, sP_A, sP_S, sP_L, sP_C, sP_F, sP_P, sP_E, sP_M, sE_A, sE_S, sE_L, sE_C, sE_F, sE_P, sE_E, sE_M]
    by_cases e : s' = s + 1
    · subst e
      rw [k6 k a2 a3 a8, sS_out hs6, up2_ne a6, up2_ne a2]
    · rw [k4 s' k e, sS_out hs6, up2_ne a6, up2_ne a2]
end
