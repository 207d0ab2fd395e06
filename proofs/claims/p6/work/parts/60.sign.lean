noncomputable def sgnF (f : Nat → Int32) (s : Nat) : Nat → Int32 :=
  if f (17 + 16 * s + 9) ≤ nI 0 ∨ f (17 + 16 * s + 13) + nI 1 < f (17 + 16 * s + 9) then upd (upd f (17 + 16 * s + 4) (f (17 + 16 * s + 4) + nI 1)) (17 + 16 * s + 13) (f (17 + 16 * s + 13) + nI 1)
  else upd (upd (upd (upd f (17 + 16 * s + 4) (f (17 + 16 * s + 4) + nI 1)) (17 + 16 * s + 13) (f (17 + 16 * s + 13) + nI 1)) (17 + 16 * s + 11) (f (17 + 16 * s + 10))) (17 + 16 * s + 13) (nI 0)
theorem nI_and31 {k : Nat} (h : k < 32) : nI k &&& nI 31 = nI k := by
  rcases (show k = 0 ∨ k = 1 ∨ k = 2 ∨ k = 3 ∨ k = 4 ∨ k = 5 ∨ k = 6 ∨ k = 7 ∨ k = 8 ∨ k = 9 ∨ k = 10 ∨ k = 11 ∨ k = 12 ∨ k = 13 ∨ k = 14 ∨ k = 15 ∨ k = 16 ∨ k = 17 ∨ k = 18 ∨ k = 19 ∨ k = 20 ∨ k = 21 ∨ k = 22 ∨ k = 23 ∨ k = 24 ∨ k = 25 ∨ k = 26 ∨ k = 27 ∨ k = 28 ∨ k = 29 ∨ k = 30 ∨ k = 31 by omega) with rfl | rfl | rfl | rfl | rfl | rfl | rfl | rfl | rfl | rfl | rfl | rfl | rfl | rfl | rfl | rfl | rfl | rfl | rfl | rfl | rfl | rfl | rfl | rfl | rfl | rfl | rfl | rfl | rfl | rfl | rfl | rfl <;> decide +kernel
theorem rm_n {a d : Nat} (ha : a < 2 ^ 31) (h0 : 0 < d) (hd : d < 2 ^ 31) : rm (nI a) (nI d) = some (nI (a % d)) := by
  unfold rm
  rw [if_neg (show ¬ nI d = 0 from nI_ne0 h0 hd), pk_rem ha h0 hd]
theorem isBad_v {r : RS} {v : Nat → Int32} {s u n : Nat} (hs : s < 6) (h4 : v (17 + 16 * s + 4) = nI u) (hu : u < 2 ^ 31) (h14 : v (17 + 16 * s + 14) = nI n) (hn : 1 ≤ n) (hn2 : n ≤ 12) : F8_isBad (setR r v) (nI s) = some ((if (v (17 + 16 * s + 15) >>> nI (u % n)) &&& nI 1 = nI 1 then nI 1 else nI 0), setR r (sgnF v s)) := by
  have hm : u % n < n := Nat.mod_lt _ (by omega)
  unfold F8_isBad sgnF
  simp (disch := omega) only [lit32, neg1, nI_add, nI_mul, bS, pt_n, ix_n, rd_n, ws_n, rdo_n, wso_n, setR_1, setL_w, setL_iv, up_setR, up_setL_w, up_setL_iv, nz_0, nz_1, F8_of_v, h4, h14, rm_n]
  rw [nI_and31 (by omega)]
  have hb : ((if (v (17 + 16 * s + 15) >>> nI (u % n)) &&& nI 1 = nI 1 then some (nI 1) else some (nI 0)) : Option Int32) = some (if (v (17 + 16 * s + 15) >>> nI (u % n)) &&& nI 1 = nI 1 then nI 1 else nI 0) := by split <;> rfl
  rw [hb]
  generalize hx : (if (v (17 + 16 * s + 15) >>> nI (u % n)) &&& nI 1 = nI 1 then nI 1 else nI 0) = x
  have hnz : nz x = some x := by rw [← hx]; split <;> rfl
  simp (disch := omega) only [lit32, neg1, nI_add, nI_mul, bS, pt_n, ix_n, rd_n, ws_n, rdo_n, wso_n, setR_1, setL_w, setL_iv, up_setR, up_setL_w, up_setL_iv, nz_0, nz_1, F8_grows_v, F8_of_v, upd_n, upd_e, h4, hnz]
  by_cases e1 : v (17 + 16 * s + 9) ≤ nI 0
  · rw [if_pos e1, if_pos (Or.inl e1)]; rfl
  · rw [if_neg e1]
    by_cases e2 : v (17 + 16 * s + 13) + nI 1 < v (17 + 16 * s + 9)
    · rw [if_pos e2, if_pos (Or.inr e2)]; rfl
    · rw [if_neg e2, if_neg (by rintro (q | q); exact e1 q; exact e2 q)]
      simp (disch := omega) only [lit32, neg1, nI_add, nI_mul, bS, pt_n, ix_n, rd_n, ws_n, rdo_n, wso_n, setR_1, setL_w, setL_iv, up_setR, up_setL_w, up_setL_iv, nz_0, nz_1, F8_sets_s, hnz]
theorem useSign_w {c : RS} {g : CG} {L s t u n : Nat} {w iv : Nat → Int32} (hL : L < 12) (hs : s < 6) (h14 : w (17 + 16 * s + 14) = nI t) (t1 : 1 ≤ t) (tg : t ≤ g.nt) (t31 : t < 2 ^ 31) (hl : c (500 + t) 0 = nI n) (hn : 1 ≤ n) (hn2 : n ≤ 12) (h4 : w (17 + 16 * s + 4) = nI u) (hu : u < 2 ^ 31) : C6_useSign g (setL c L w iv) L s = some ((if c (500 + t) (1 + u % n) = nI 49 then nI 1 else nI 0), setL c L (sgnF w s) iv) := by
  have hm : u % n < n := Nat.mod_lt _ (by omega)
  have hl2 : ∀ w iv, setL c L w iv (500 + t) = c (500 + t) := fun w iv => setL_o (by omega) (by omega)
  have ht : ∀ w iv, tln g (setL c L w iv) (nI t) = some (nI n) := fun w iv => tln_n t1 tg t31 (by rw [hl2]; exact hl) (by omega)
  have hb0 : ∀ w iv, tbt g (setL c L w iv) (nI t) (nI (u % n)) = some (c (500 + t) (1 + u % n)) := fun w iv => by
    rw [tbt_n t1 tg t31 (by rw [hl2]; exact hl) (by omega) hm, hl2]
  unfold C6_useSign sgnF
  simp (disch := omega) only [lit32, neg1, nI_add, nI_mul, bS, pt_n, ix_n, rd_n, ws_n, rdo_n, wso_n, setR_1, setL_w, setL_iv, up_setR, up_setL_w, up_setL_iv, nz_0, nz_1, h14, ht, h4, rm_n, hb0]
  rw [if_neg (nI_ge (a := 0) (by omega) (by omega))]
  have hb : ((if c (500 + t) (1 + u % n) = nI 49 then some (nI 1) else some (nI 0)) : Option Int32) = some (if c (500 + t) (1 + u % n) = nI 49 then nI 1 else nI 0) := by split <;> rfl
  rw [hb]
  generalize hx : (if c (500 + t) (1 + u % n) = nI 49 then nI 1 else nI 0) = x
  have hnz : nz x = some x := by rw [← hx]; split <;> rfl
  simp (disch := omega) only [lit32, neg1, nI_add, nI_mul, bS, pt_n, ix_n, rd_n, ws_n, rdo_n, wso_n, setR_1, setL_w, setL_iv, up_setR, up_setL_w, up_setL_iv, nz_0, nz_1, upd_n, upd_e, h4, hnz]
  by_cases e1 : w (17 + 16 * s + 9) ≤ nI 0
  · rw [if_pos e1, if_pos (Or.inl e1)]; rfl
  · rw [if_neg e1]
    by_cases e2 : w (17 + 16 * s + 13) + nI 1 < w (17 + 16 * s + 9)
    · rw [if_pos e2, if_pos (Or.inr e2)]; rfl
    · rw [if_neg e2, if_neg (by rintro (q | q); exact e1 q; exact e2 q)]
      simp (disch := omega) only [lit32, neg1, nI_add, nI_mul, bS, pt_n, ix_n, rd_n, ws_n, rdo_n, wso_n, setR_1, setL_w, setL_iv, up_setR, up_setL_w, up_setL_iv, nz_0, nz_1, hnz]
theorem QR.ofS {v w v2 w2 iv : Nat → Int32} {bp dl df tx : Nat → Nat → Int32} {nt sm lm cm B U U2 : Nat} (h : QR v w iv bp dl df tx nt sm lm cm B U) (hA : sA v2 = sA v ∧ sA w2 = sA w) (hC : sC v2 = sC v ∧ sC w2 = sC w) (hF : sF v2 = sF v ∧ sF w2 = sF w) (hL : sL v2 = sL v ∧ sL w2 = sL w) (hE : sE w2 = sE w) (hP : sP v2 = sP v) (hS : QS (sS v2) (sS w2) (sC w) tx nt sm cm U2) : QR v2 w2 iv bp dl df tx nt sm lm cm B U2 := by
  refine ⟨?_, ?_, ?_, ?_, ?_, ?_, ?_⟩
  · rw [hA.1, hA.2]; exact h.a
  · rw [hC.2]; exact hS
  · rw [hC.1, hC.2]; exact h.c
  · rw [hA.1, hF.1, hF.2, hC.2]; exact h.n
  · rw [hL.1, hL.2, hE, hC.2]; exact h.l
  · rw [hA.1, hA.2, hP]; exact h.d
  · rw [hC.2]; exact h.wh
theorem QR.upS {v w iv : Nat → Int32} {bp dl df tx : Nat → Nat → Int32} {nt sm lm cm B U U2 s k : Nat} {x : Int32} (h : QR v w iv bp dl df tx nt sm lm cm B U) (hs : s < 6) (hk : k < 16) (hS : QS (up2 (sS v) s k x) (up2 (sS w) s k x) (sC w) tx nt sm cm U2) : QR (upd v (17 + 16 * s + k) x) (upd w (17 + 16 * s + k) x) iv bp dl df tx nt sm lm cm B U2 :=
  h.ofS ⟨sA_S hs hk, sA_S hs hk⟩ ⟨sC_S hs hk, sC_S hs hk⟩ ⟨sF_S hs hk, sF_S hs hk⟩ ⟨sL_S hs hk, sL_S hs hk⟩ (sE_S hs hk) (sP_S hs hk) (by rw [sS_S hs hk, sS_S hs hk]; exact hS)
theorem QR.free {v w iv : Nat → Int32} {bp dl df tx : Nat → Nat → Int32} {nt sm lm cm B U s : Nat} {x : Int32} (k : Nat) (hk : k = 5 ∨ k = 6 ∨ k = 9 ∨ k = 10 ∨ k = 11 ∨ k = 12 ∨ k = 13) (hs : s < 6) (h : QR v w iv bp dl df tx nt sm lm cm B U) : QR (upd v (17 + 16 * s + k) x) (upd w (17 + 16 * s + k) x) iv bp dl df tx nt sm lm cm B U :=
  h.upS hs (by omega) (QS.free k hk h.s)
theorem QR.rs {v w iv : Nat → Int32} {bp dl df tx : Nat → Nat → Int32} {nt sm lm cm B U s k : Nat} (h : QR v w iv bp dl df tx nt sm lm cm B U) (hs : s < sm) (hk : k < 14) (hk8 : k ≠ 8) : v (17 + 16 * s + k) = w (17 + 16 * s + k) := by
  have := h.a.sm6
  rw [sS_r (v := v) (by omega) (by omega), sS_r (v := w) (by omega) (by omega)]; exact h.s.eqs s k hs hk hk8
theorem QR.rc {v w iv : Nat → Int32} {bp dl df tx : Nat → Nat → Int32} {nt sm lm cm B U s k : Nat} (h : QR v w iv bp dl df tx nt sm lm cm B U) (hs : s < cm) (hk : k < 9) (hk8 : k ≠ 2) : v (137 + 25 * s + k) = w (137 + 25 * s + k) := by
  have := h.a.cm30
  rw [sC_r (v := v) (by omega) (by omega), sC_r (v := w) (by omega) (by omega)]; exact h.c.eqc s k hs hk hk8
theorem QR.ra {v w iv : Nat → Int32} {bp dl df tx : Nat → Nat → Int32} {nt sm lm cm B U i : Nat} (h : QR v w iv bp dl df tx nt sm lm cm B U) (hi : i < 17) (h1 : i ≠ 10) (h2 : i ≠ 11) : v i = w i := by
  rw [sA_r (v := v) hi, sA_r (v := w) hi]; exact h.a.eqa i hi h1 h2
theorem QR.sig {v w iv : Nat → Int32} {bp dl df tx : Nat → Nat → Int32} {nt sm lm cm B U s u : Nat} (h : QR v w iv bp dl df tx nt sm lm cm B U) (hs : s < sm) (hu : w (17 + 16 * s + 4) = nI u) (hU : u + 1 ≤ U) : QR (sgnF v s) (sgnF w s) iv bp dl df tx nt sm lm cm B U := by
  have hsm := h.a.sm6
  have hs6 : s < 6 := by omega
  have used : QR (upd v (17 + 16 * s + 4) (nI u + nI 1)) (upd w (17 + 16 * s + 4) (nI u + nI 1)) iv bp dl df tx nt sm lm cm B U := by
    rw [nI_add]; exact h.upS hs6 (by omega) (QS.uUsed hU h.s)
  unfold sgnF
  rw [h.rs hs (k := 4) (by omega) (by omega), h.rs hs (k := 9) (by omega) (by omega), h.rs hs (k := 10) (by omega) (by omega), h.rs hs (k := 13) (by omega) (by omega), hu]
  split
  · exact QR.free 13 (by omega) hs6 used
  · exact QR.free 13 (by omega) hs6 (QR.free 11 (by omega) hs6 (QR.free 13 (by omega) hs6 used))
