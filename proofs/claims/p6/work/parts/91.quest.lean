noncomputable def PRr (r r2 : RS) : Prop := (∀ R, R ≠ 1 → R ≠ 2 → R ≠ 9 → r2 R = r R) ∧ ∀ j, j < 1037 → r2 1 j = r 1 j
theorem PRr.refl {r : RS} : PRr r r := ⟨fun _ _ _ _ => rfl, fun _ _ => rfl⟩
theorem PRr.trans {r r2 r3 : RS} (h : PRr r r2) (k : PRr r2 r3) : PRr r r3 := ⟨fun R a b d => (k.1 R a b d).trans (h.1 R a b d), fun j hj => (k.2 j hj).trans (h.2 j hj)⟩
noncomputable def PRc (c c2 : RS) (g : CG) : Prop := (∀ R, ¬ OWN 1 R → R ≠ 2 → c2 R = c R) ∧ TIr (c2 (10 + 1)) g.nt
theorem PRc.trans {c c2 c3 : RS} {g : CG} (h : PRc c c2 g) (k : PRc c2 c3 g) : PRc c c3 g := ⟨fun R a b => (k.1 R a b).trans (h.1 R a b), k.2⟩
theorem PRc.y {c c2 : RS} {g : CG} {r r2 : RS} {sm lm cm B : Nat} (h : QY c g 0 (r 1) sm lm cm B B) (k : PRc c c2 g) (kr : PRr r r2) : QY c2 g 0 (r2 1) sm lm cm B B :=
  QY.ext (h.frame (by omega) (Nat.le_refl _) (fun R hR => k.1 R (by unfold OWN at hR ⊢; omega) (by unfold OWN at hR; omega)) (fun t _ _ => k.1 _ (by unfold OWN; omega) (by omega))) kr.2
theorem GI.pred {r c r2 c2 : RS} {g : CG} {B T : Nat} (h : GI r c g B T) (hr : PRr r r2) (hc : PRc c c2 g) : GI r2 c2 g B T := by
  obtain ⟨hr, h1⟩ := hr
  obtain ⟨hc, ht⟩ := hc
  have cu : ∀ R, R < 7 → R ≠ 2 → c2 R = c R := fun R a b => hc R (by unfold OWN; omega) b
  refine ⟨?_, fun L hL => ?_, ?_, ?_, ?_, ?_, ?_, h.n⟩
  · exact LQ.ext (h.l.frame (by omega) (Nat.le_refl _) (fun R hR => hc R (by unfold OWN at hR ⊢; omega) (by unfold OWN at hR; omega)) (fun t _ _ => hc _ (by unfold OWN; omega) (by omega))) h1
  · by_cases e : L = 1
    · subst e; exact ht
    · rw [hc _ (by unfold OWN; omega) (by omega)]; exact h.ti L hL
  · exact h.p.frame (Nat.le_refl _) (fun _ _ _ q => q) (by rw [cu 0 (by decide) (by decide)]) (by rw [cu 0 (by decide) (by decide)]) (by rw [hr 0 (by decide) (by decide) (by decide)]) (hr 3 (by decide) (by decide) (by decide)) (fun L R a b hR => hc R (by unfold OWN at hR ⊢; omega) (by unfold OWN at hR; omega)) (fun t _ _ => hc _ (by unfold OWN; omega) (by omega))
  · exact h.s.frame (Nat.le_refl _) (fun _ _ _ => rfl) (hr 5 (by decide) (by decide) (by decide)) (hr 4 (by decide) (by decide) (by decide)) (fun L R a b hR => hc R (by unfold OWN at hR ⊢; omega) (by unfold OWN at hR; omega)) (fun t _ _ => hc _ (by unfold OWN; omega) (by omega))
  · exact h.b.frame (by rw [cu 0 (by decide) (by decide)]) (by rw [hr 0 (by decide) (by decide) (by decide)]) (cu 3 (by decide) (by decide)) (hr 6 (by decide) (by decide) (by decide)) (cu 5 (by decide) (by decide))
  · exact h.e.frame (by rw [cu 0 (by decide) (by decide)]) (by rw [cu 0 (by decide) (by decide)]) (by rw [hr 0 (by decide) (by decide) (by decide)]) (by rw [hr 0 (by decide) (by decide) (by decide)])
  · exact h.o.frame (by rw [cu 0 (by decide) (by decide)]) (by rw [hr 0 (by decide) (by decide) (by decide)])
theorem goes_ok {r c : RS} {g : CG} {sm lm cm lim a1 B : Nat} {t2 a2 : Int32} {v : Nat → Int32} {hap : RS → Option Int32} (hg : g.nt < 2 ^ 31) (hlim : lim ≤ 2000) (hB : B + 2001 < 2000000000) (ht : (if nI a1 = nI 3 then ((F8_of (setR r v) a2 (nI 5)).bind fun x26 => some x26) else (some (nI 0)) : Option Int32) = some t2) (hm : MET (fun u => F8_isMet u (nI a1) a2 t2) hap r g sm lm cm) (hs : MSM (fun u => F8_isMet u (nI a1) a2 t2) r g sm lm cm) (h : QY c g 1 v sm lm cm B B) :
    ∃ x v' y c2, F8_goes (setR r v) (nI a1) a2 = some (x, setR r v') ∧ gUn hap 1 (nI lim) g FUEL (nI 0) c = some (.inl (y, c2)) ∧ FRM c c2 g ∧ ((x = m1 ∧ y = m1) ∨ ∃ k, k ≤ 2000 ∧ x = nI k ∧ y = if k ≤ lim then nI k else m1) := by
  obtain ⟨v', hv⟩ := pred_L (r := r) hg hlim hm hs 2001 0 FUEL FUEL B B v c (by omega) (by show 2001 < 10000; omega) (by show 2001 < 10000; omega) h (by omega) (by omega)
  unfold F8_goes
  simp only [lit32, neg1]
  rw [ht, bS]
  rcases hv with ⟨k, -, k1, k2, k3⟩ | ⟨k2, k3⟩
  · obtain ⟨c2, j1, j2⟩ := k3 (Nat.zero_le _)
    exact ⟨nI k, v', _, c2, by rw [k2, bS], j1, j2, Or.inr ⟨k, k1, rfl, rfl⟩⟩
  · obtain ⟨c2, j1, j2⟩ := k3 (Nat.zero_le _)
    exact ⟨m1, v', _, c2, by rw [k2, bS], j1, j2, Or.inl ⟨rfl, rfl⟩⟩
theorem copyL {r c : RS} {g : CG} {B T sm lm cm : Nat} (h : GI r c g B T) (h0 : QY c g 0 (r 1) sm lm cm B B) : ∃ c1, C7_copyOfLine g c = some c1 ∧ (∀ R, ¬ OWN 1 R → c1 R = c R) ∧ QY c1 g 1 (r 1) sm lm cm B B := by
  obtain ⟨c1, k1, k2, k3⟩ := copyFrom_ok (L := 1) (L2 := 0) (by omega) (by omega) (by omega) h0 (h.ti 1 (by omega))
  refine ⟨c1, ?_, k2, k3⟩
  unfold C7_copyOfLine
  rw [k1, bS]
theorem back_r {r : RS} {v' : Nat → Int32} : PRr r (cpA (setR (cpA r 1 0 2 0) v') 2 0 1 0) := by
  refine ⟨fun R a b d => by rw [cpA_o a, setR_o a, cpA_o b], fun j hj => ?_⟩
  have h1 := cpA_n (u := setR (cpA r 1 0 2 0) v') (A := 2) (i := 0) (B := 1) (k := 0) hj
  have h2 := cpA_n (u := r) (A := 1) (i := 0) (B := 2) (k := 0) hj
  simp only [Nat.mul_zero, Nat.zero_add] at h1 h2
  rw [h1, setR_o (by decide), h2]
theorem behind_ok {r c : RS} {g : CG} {B T sm lm cm a1 : Nat} {t2 a2 : Int32} {hap : RS → Option Int32} (h : GI r c g B T) (h0 : QY c g 0 (r 1) sm lm cm B B) (hT : T < 2 ^ 31) (hB : B + 2001 < 2000000000) (ht : (if nI a1 = nI 3 then ((F8_of r a2 (nI 5)).bind fun x26 => some x26) else (some (nI 0)) : Option Int32) = some t2) (ho : ∀ u : RS, u 1 = r 1 → F8_of u a2 (nI 5) = F8_of r a2 (nI 5)) (hm : ∀ r, MET (fun u => F8_isMet u (nI a1) a2 t2) hap r g sm lm cm) (hs : ∀ r, MSM (fun u => F8_isMet u (nI a1) a2 t2) r g sm lm cm) :
    ∃ x r2 c1 c2, F8_behind r (nI a1) a2 = some (x, r2) ∧ C7_copyOfLine g c = some c1 ∧ gUn hap 1 (nI 2000) g FUEL (nI 0) c1 = some (.inl (x, c2)) ∧ PRr r r2 ∧ PRc c c2 g ∧ r2 9 = r 9 ∧ c2 2 = c 2 := by
  have hg : g.nt < 2 ^ 31 := Nat.lt_of_le_of_lt h.n hT
  obtain ⟨c1, k1, k2, k3⟩ := copyL h h0
  have e1 : cpA r 1 0 2 0 = setR (cpA r 1 0 2 0) (r 1) := by
    have : (cpA r 1 0 2 0) 1 = r 1 := cpA_o (by decide)
    rw [← this]; exact setR_self
  obtain ⟨x, v', y, c2, j1, j2, j3, j4⟩ := goes_ok (r := cpA r 1 0 2 0) (lim := 2000) hg (Nat.le_refl _) hB (by rw [← e1, ho _ (cpA_o (by decide))]; exact ht) (hm _) (hs _) k3
  have hy : y = x := by
    rcases j4 with ⟨a, b⟩ | ⟨k, a, b, d⟩
    · rw [a, b]
    · rw [b, d, if_pos a]
  refine ⟨x, _, c1, c2, ?_, k1, by rw [← hy]; exact j2, back_r (v' := v'), ⟨fun R a b => (j3.1 R a).trans (k2 R a), j3.2⟩, by rw [cpA_o (by decide), setR_o (by decide), cpA_o (by decide)], (j3.1 2 (by unfold OWN; omega)).trans (k2 2 (by unfold OWN; omega))⟩
  unfold F8_behind
  simp only [lit32]
  rw [cp_1_2 (by omega) (by omega), bS]
  rw [← e1] at j1
  rw [j1, bS]
  dsimp only
  rw [cp_2_1 (by omega) (by omega), bS]
theorem no3 {r : RS} {a2 : Int32} {a1 : Nat} (h : a1 ≠ 3) (h2 : a1 < 10) : (if nI a1 = nI 3 then ((F8_of r a2 (nI 5)).bind fun x26 => some x26) else (some (nI 0)) : Option Int32) = some (nI 0) := if_neg (nI_ne h (by omega) (by omega))
theorem of_c {r u : RS} {s : Nat} (hs : s < 6) (e : u 1 = r 1) : F8_of u (nI s) (nI 5) = F8_of r (nI s) (nI 5) := by
  rw [F8_of_n hs (by omega), F8_of_n hs (by omega), e]
theorem un_0 {g : CG} {c1 c2 : RS} {a : Int32} {x : Int32} (h : gUn (fun u2 => C3_hasHappened_e0 g u2 1 a) 1 (nI 2000) g FUEL (nI 0) c1 = some (.inl (x, c2))) : C7_ticksUntil_e0 g c1 1 a (nI 2000) = some (x, c2) := by
  unfold C7_ticksUntil_e0; simp only [lit32, neg1]; rw [gUn_0, h, bS]
theorem un_1 {g : CG} {c1 c2 : RS} {a : Int32} {x : Int32} {lim : Nat} (h : gUn (fun u2 => C3_hasHappened_e1 g u2 1 a) 1 (nI lim) g FUEL (nI 0) c1 = some (.inl (x, c2))) : C7_ticksUntil_e1 g c1 1 a (nI lim) = some (x, c2) := by
  unfold C7_ticksUntil_e1; simp only [lit32, neg1]; rw [gUn_1, h, bS]
theorem un_2 {g : CG} {c1 c2 : RS} {a : Int32} {x : Int32} {lim : Nat} (h : gUn (fun u2 => C3_hasHappened_e2 g u2 1 a) 1 (nI lim) g FUEL (nI 0) c1 = some (.inl (x, c2))) : C7_ticksUntil_e2 g c1 1 a (nI lim) = some (x, c2) := by
  unfold C7_ticksUntil_e2; simp only [lit32, neg1]; rw [gUn_2, h, bS]
theorem un_3 {g : CG} {c1 c2 : RS} {a : Int32} {x : Int32} (h : gUn (fun u2 => C3_hasHappened_e3 g u2 1 a) 1 (nI 2000) g FUEL (nI 0) c1 = some (.inl (x, c2))) : C7_ticksUntil_e3 g c1 1 a (nI 2000) = some (x, c2) := by
  unfold C7_ticksUntil_e3; simp only [lit32, neg1]; rw [gUn_3, h, bS]
theorem un_4 {g : CG} {c1 c2 : RS} {a : Int32} {x : Int32} (h : gUn (fun u2 => C3_hasHappened_e4 g u2 1 a) 1 (nI 2000) g FUEL (nI 0) c1 = some (.inl (x, c2))) : C7_ticksUntil_e4 g c1 1 a (nI 2000) = some (x, c2) := by
  unfold C7_ticksUntil_e4; simp only [lit32, neg1]; rw [gUn_4, h, bS]
theorem PRr.t {r r2 : RS} (h : PRr (th r 0) r2) : r2 0 6 = nI 0 := by rw [h.1 0 (by decide) (by decide) (by decide)]; exact th_6
theorem a_leavesIn {r c : RS} {g : CG} {B T : Nat} {a : Int32} (h : GI r c g B T) (hT : T < 2 ^ 31) (hB : B + 2001 < 2000000000) : CT (F8_leavesIn r a) (C7_leavesIn g c a) r g 0 B T := by
  obtain ⟨sm, lm, cm, h0⟩ := h.l
  have hcm := h0.a.cm30
  unfold F8_leavesIn C7_leavesIn
  simp only [lit32]
  rcases argCd (r := r) (c := c) (g := g) (a := a) (n := cm) (by omega) h0.v9 h0.n9 with ⟨q, s1, rfl, s2, s3⟩ | ⟨s2, s3⟩
  · have h1 : QY c g 0 (th r 0 1) sm lm cm B B := by rw [th_o (by decide)]; exact h0
    obtain ⟨x, r2, c1, c2, k1, k2, k3, k4, k5, -⟩ := behind_ok (h.thr (k := 0)) h1 hT hB (a1 := 0) (a2 := nI q) (t2 := nI 0) (no3 (by decide) (by decide)) (fun u e => by
      unfold F8_of; simp only [lit32, nI_add, nI_mul]; unfold rd; rw [e]) (fun _ => met_0 s1) (fun _ => msm_0 (by omega))
    rw [s2, s3, bS, bS, isThrown_1, bS, trR]
    simp only [if_true]
    rw [k1, bS, bS, k2, bS, un_0 k3, bS]
    exact Or.inl ⟨x, r2, c2, rfl, rfl, h.thr.pred k4 k5, k4.t⟩
  · rw [s2, s3, bS, bS, isThrown_0, bS, trL]
    refine Or.inr ⟨1, by omega, by omega, ?_, rfl⟩
    simp only [nz0, if_false, bS]
theorem a_lotIn {r c : RS} {g : CG} {B T : Nat} {a : Int32} (h : GI r c g B T) (hT : T < 2 ^ 31) (hB : B + 2001 < 2000000000) : CT (F8_lotIn r a) (C7_lotIn g c a) r g 0 B T := by
  obtain ⟨sm, lm, cm, h0⟩ := h.l
  have hlm := h0.a.lm6
  unfold F8_lotIn C7_lotIn
  simp only [lit32]
  rcases argLo (r := r) (c := c) (g := g) (a := a) (n := lm) (by omega) h0.v8 h0.n8 with ⟨q, s1, rfl, s2, s3⟩ | ⟨s2, s3⟩
  · have h1 : QY c g 0 (th r 0 1) sm lm cm B B := by rw [th_o (by decide)]; exact h0
    obtain ⟨x, r2, c1, c2, k1, k2, k3, k4, k5, -⟩ := behind_ok (h.thr (k := 0)) h1 hT hB (a1 := 1) (a2 := nI q) (t2 := nI 0) (no3 (by decide) (by decide)) (fun u e => by
      unfold F8_of; simp only [lit32, nI_add, nI_mul]; unfold rd; rw [e]) (fun _ => met_1 s1) (fun _ => msm_1)
    rw [s2, s3, bS, bS, isThrown_1, bS, trR]
    simp only [if_true]
    rw [k1, bS, bS, k2, bS, un_1 k3, bS]
    exact Or.inl ⟨x, r2, c2, rfl, rfl, h.thr.pred k4 k5, k4.t⟩
  · rw [s2, s3, bS, bS, isThrown_0, bS, trL]
    refine Or.inr ⟨1, by omega, by omega, ?_, rfl⟩
    simp only [nz0, if_false, bS]
theorem of_m1 {r u : RS} (e : u 1 = r 1) : F8_of u m1 (nI 5) = F8_of r m1 (nI 5) := by
  unfold F8_of; unfold rd; rw [e]
theorem a_allIn {r c : RS} {g : CG} {B T : Nat} (h : GI r c g B T) (hT : T < 2 ^ 31) (hB : B + 2001 < 2000000000) : BT (F8_allIn r) (C7_allIn g c) g B T := by
  obtain ⟨sm, lm, cm, h0⟩ := h.l
  unfold F8_allIn C7_allIn
  simp only [lit32, neg1]
  have h1 : QY c g 0 (th r 0 1) sm lm cm B B := by rw [th_o (by decide)]; exact h0
  obtain ⟨x, r2, c1, c2, k1, k2, k3, k4, k5, -⟩ := behind_ok (h.thr (k := 0)) h1 hT hB (a1 := 2) (a2 := m1) (t2 := nI 0) (no3 (by decide) (by decide)) (fun u e => of_m1 e) (fun _ => met_2) (fun _ => msm_2)
  rw [zth, bS, k1, bS, k2, bS, un_2 k3, bS]
  exact ⟨x, r2, c2, rfl, rfl, h.thr.pred k4 k5, k4.t⟩
theorem a_restIn {r c : RS} {g : CG} {B T : Nat} {a : Int32} (h : GI r c g B T) (hT : T < 2 ^ 31) (hB : B + 2001 < 2000000000) : CT (F8_restIn r a) (C7_restIn g c a) r g 0 B T := by
  obtain ⟨sm, lm, cm, h0⟩ := h.l
  have hsm := h0.a.sm6
  unfold F8_restIn C7_restIn
  simp only [lit32]
  rcases argSt (r := r) (c := c) (g := g) (a := a) (n := sm) (by omega) h0.v7 h0.n7 with ⟨q, s1, rfl, s2, s3⟩ | ⟨s2, s3⟩
  · have h1 : QY c g 0 (th r 0 1) sm lm cm B B := by rw [th_o (by decide)]; exact h0
    obtain ⟨x, r2, c1, c2, k1, k2, k3, k4, k5, -⟩ := behind_ok (h.thr (k := 0)) h1 hT hB (a1 := 4) (a2 := nI q) (t2 := nI 0) (no3 (by decide) (by decide)) (fun u e => of_c (by omega) e) (fun _ => met_4 s1) (fun _ => msm_4 (by omega))
    rw [s2, s3, bS, bS, isThrown_1, bS, trR]
    simp only [if_true]
    rw [k1, bS, bS, k2, bS, un_4 k3, bS]
    exact Or.inl ⟨x, r2, c2, rfl, rfl, h.thr.pred k4 k5, k4.t⟩
  · rw [s2, s3, bS, bS, isThrown_0, bS, trL]
    refine Or.inr ⟨1, by omega, by omega, ?_, rfl⟩
    simp only [nz0, if_false, bS]
noncomputable def DT (F : Option (Int32 × RS)) (C : Option (Sum Int32 (Int32 × RS))) (r : RS) (g : CG) (sh B T : Nat) : Prop := (∃ x y r2 c2, F = some (x, r2) ∧ C = some (.inr (y, c2)) ∧ GI r2 c2 g B T ∧ r2 0 6 = nI 0) ∨ (∃ k, 1 ≤ k ∧ k ≤ 2 ∧ F = some (nI 0, th r k) ∧ C = some (.inl (nI (k + sh))))
theorem a_failIn {r c : RS} {g : CG} {B T : Nat} {a : Int32} (h : GI r c g B T) (hT : T < 2 ^ 31) (hB : B + 2001 < 2000000000) : DT (F8_failIn r a) (C7_failIn g c a) r g 0 B T := by
  obtain ⟨sm, lm, cm, h0⟩ := h.l
  have hsm := h0.a.sm6
  have hg : g.nt < 2 ^ 31 := Nat.lt_of_le_of_lt h.n hT
  unfold F8_failIn C7_failIn
  simp only [lit32]
  rcases argSt (r := r) (c := c) (g := g) (a := a) (n := sm) (by omega) h0.v7 h0.n7 with ⟨q, s1, rfl, s2, s3⟩ | ⟨s2, s3⟩
  · have h1 : QY c g 0 (th r 0 1) sm lm cm B B := by rw [th_o (by decide)]; exact h0
    obtain ⟨x, r2, c1, c2, k1, k2, k3, k4, k5, -⟩ := behind_ok (h.thr (k := 0)) h1 hT hB (a1 := 3) (a2 := nI q) (t2 := th r 0 1 (17 + 16 * q + 5)) (by rw [if_pos rfl, F8_of_n (by omega) (by omega), bS]) (fun u e => of_c (by omega) e) (fun _ => met_3 s1) (fun _ => msm_3 (by omega))
    obtain ⟨c3, j1, j2, j3⟩ := copyL (h.thr (k := 0)) h1
    have j4 := QX.toY (by omega) (QR.free (x := nI 0) 5 (by omega) (by omega : q < 6) j3)
    obtain ⟨x', v', y', c4, i1, i2, i3, i4⟩ := goes_ok (r := r) (a1 := 3) (a2 := nI q) (lim := 2000) hg (Nat.le_refl _) hB (by rw [if_pos rfl, F8_of_v (by omega) (by omega), bS, upd_e]) (met_3 s1) (msm_3 (by omega)) j4
    rw [← hap3_0 (g := g) (by omega)] at i2
    rw [s2, s3, bS, bS, isThrown_1, bS, trR]
    simp only [if_true]
    rw [k1, bS, bS, j1, bS, ix_n (by omega) (by omega), bS, pt_n, bS, upC, un_3 i2, bS]
    refine Or.inl ⟨x, y', r2, c4, rfl, rfl, h.thr.pred k4 ⟨fun R a b => ?_, i3.2⟩, k4.t⟩
    rw [i3.1 R a, setL_o (by unfold OWN at a; omega) (by unfold OWN at a; omega), j2 R a]
  · rw [s2, s3, bS, bS, isThrown_0, bS, trL]
    refine Or.inr ⟨1, by omega, by omega, ?_, rfl⟩
    simp only [nz0, if_false, bS]
