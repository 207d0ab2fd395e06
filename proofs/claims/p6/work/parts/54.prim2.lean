theorem nI_dec {a : Nat} (h : 0 < a) : nI a - nI 1 = nI (a - 1) := nI_sub h
theorem stC_at {wc : Nat → Nat → Int32} {c k i a : Nat} {x : Int32} (h : k ≠ 3 ∨ i ≠ c) : stC (up2 wc c k x) a i = stC wc a i := by
  unfold stC; rw [up2_at, if_neg]
  rintro ⟨rfl, h2⟩; rcases h with h | h
  · exact h h2.symm
  · exact h rfl
theorem loC_at {wc : Nat → Nat → Int32} {c k a : Nat} {x : Int32} (h : k ≠ 0) : loC (up2 wc c k x) a = loC wc a := by
  funext i; unfold loC; rw [up2_ne (Ne.symm h)]
theorem lsC_at {wc : Nat → Nat → Int32} {c k i l a : Nat} {x : Int32} (hk : k ≠ 0) (h : k ≠ 3 ∨ i ≠ c) : lsC (up2 wc c k x) l a i = lsC wc l a i := by
  unfold lsC; rw [up2_ne (Ne.symm hk), up2_at, if_neg]
  rintro ⟨rfl, h2⟩; rcases h with h | h
  · exact h h2.symm
  · exact h rfl
theorem suC_at {wc : Nat → Nat → Int32} {c k l j : Nat} {x : Int32} (hk : k ≠ 0) (h : k ≠ j) : suC (up2 wc c k x) l j = suC wc l j := by
  funext i; unfold suC; rw [up2_ne (Ne.symm hk), up2_ne (Ne.symm h)]
theorem fin_at {wc : Nat → Nat → Int32} {c k i : Nat} {x : Int32} (h : k ≠ 3 ∨ i ≠ c) : fin (up2 wc c k x) i ↔ fin wc i := by
  unfold fin; rw [up2_at, if_neg]
  rintro ⟨rfl, h2⟩; rcases h with h | h
  · exact h h2.symm
  · exact h rfl
theorem nI_ne {a b : Nat} (h : a ≠ b) (ha : a < 2 ^ 31) (hb : b < 2 ^ 31) : nI a ≠ nI b := fun e => h ((nI_eq ha hb).mp e)
theorem QN.cardk {va vf wf iv : Nat → Int32} {wc : Nat → Nat → Int32} {cm c k : Nat} {x : Int32} (hk : k ≠ 3) (h : QN va vf wf wc iv cm) : QN va vf wf (up2 wc c k x) iv cm := by
  have e : ∀ a, stC (up2 wc c k x) a = stC wc a := fun a => funext fun i => stC_at (Or.inl hk)
  exact ⟨fun a ha => by rw [e]; exact h.ins a ha, h.nl, fun i hi => h.left i (by rwa [e] at hi)⟩
theorem QN.va {va vf wf iv : Nat → Int32} {wc : Nat → Nat → Int32} {cm i : Nat} {x : Int32} (hi : i ≠ 10) (h : QN va vf wf wc iv cm) : QN (upd va i x) vf wf wc iv cm :=
  ⟨h.ins, by rw [upd_at, if_neg (Ne.symm hi)]; exact h.nl, h.left⟩
noncomputable def ivM (iv : Nat → Int32) (a b : Nat) : Nat → Int32 := upd (upd iv a (iv a - nI 1)) b (upd iv a (iv a - nI 1) b + nI 1)
theorem ivM_ins {iv : Nat → Int32} {wc : Nat → Nat → Int32} {cm c a b : Nat} (hcm : cm ≤ 30) (hc : c < cm) (ha : a < 5) (hb : b < 5) (hab : a ≠ b) (e : wc c 3 = nI a) (h : ∀ a, a < 5 → iv a = nI (cnt cm (stC wc a))) : ∀ x, x < 5 → ivM iv a b x = nI (cnt cm (stC (up2 wc c 3 (nI b)) x)) := by
  intro x hx
  unfold ivM
  have hne : ∀ y i, i < cm → i ≠ c → stC (up2 wc c 3 (nI b)) y i = stC wc y i := fun y i _ hi => stC_at (Or.inr hi)
  have hc1 : ∀ y, y < 5 → stC wc y c = decide (a = y) := fun y hy => by
    unfold stC; rw [e]; exact decide_eq_decide.mpr (nI_eq (by omega) (by omega))
  have hc2 : ∀ y, y < 5 → stC (up2 wc c 3 (nI b)) y c = decide (b = y) := fun y hy => by
    unfold stC; rw [up2_eq]; exact decide_eq_decide.mpr (nI_eq (by omega) (by omega))
  rw [upd_at, upd_at, upd_at]
  by_cases e1 : x = b
  · subst e1
    rw [if_pos rfl, if_neg (Ne.symm hab), h _ hb, nI_add]
    congr 1
    exact (cnt_inc hc (hne _) (by rw [hc1 _ hb]; simpa using hab) (by rw [hc2 _ hb]; simp)).symm
  · rw [if_neg e1]
    by_cases e2 : x = a
    · subst e2
      rw [if_pos rfl, h _ ha]
      have := cnt_dec hc (hne x) (by rw [hc1 _ ha]; simp) (by rw [hc2 _ ha]; simpa using Ne.symm hab)
      rw [nI_dec (by omega)]
      congr 1; omega
    · rw [if_neg e2, h _ hx]
      congr 1
      exact (cnt_eq (hne x) (by rw [hc1 _ hx, hc2 _ hx]; simp [Ne.symm e1, Ne.symm e2])).symm
theorem QN.move {va vf wf iv : Nat → Int32} {wc : Nat → Nat → Int32} {cm c a b : Nat} (hcm : cm ≤ 30) (hc : c < cm) (ha : a < 5) (hb : b < 5) (hab : a ≠ b) (ha3 : a ≠ 3) (hb3 : b ≠ 3) (e : wc c 3 = nI a) (h : QN va vf wf wc iv cm) : QN va vf wf (up2 wc c 3 (nI b)) (ivM iv a b) cm := by
  have hi := ivM_ins hcm hc ha hb hab e h.ins
  have h3 : cnt cm (stC (up2 wc c 3 (nI b)) 3) = cnt cm (stC wc 3) := by
    refine cnt_eq (c := c) (fun i _ hi => stC_at (Or.inr hi)) ?_
    unfold stC; rw [up2_eq, e]
    exact decide_eq_decide.mpr ⟨fun q => absurd q (nI_ne hb3 (by omega) (by omega)), fun q => absurd q (nI_ne ha3 (by omega) (by omega))⟩
  refine ⟨hi, ?_, fun i hi => h.left i (by rwa [h3] at hi)⟩
  rw [h.nl, h.ins 3 (by omega), hi 3 (by omega), h3]
theorem QN.leave {va vf wf iv : Nat → Int32} {wc : Nat → Nat → Int32} {cm c a : Nat} (hcm : cm ≤ 30) (hc : c < cm) (ha : a < 5) (ha3 : a ≠ 3) (e : wc c 3 = nI a) (h : QN va vf wf wc iv cm) : QN (upd va 10 (va 10 + nI 1)) (upd vf (cnt cm (stC wc 3)) (nI c)) (upd wf (cnt cm (stC wc 3)) (nI c)) (up2 wc c 3 (nI 3)) (ivM iv a 3) cm ∧ cnt cm (stC wc 3) < cm := by
  have hi := ivM_ins hcm hc ha (by omega : 3 < 5) ha3 e h.ins
  have f0 : stC wc 3 c = false := by unfold stC; rw [e]; exact decide_eq_false (nI_ne ha3 (by omega) (by omega))
  have h3 : cnt cm (stC (up2 wc c 3 (nI 3)) 3) = cnt cm (stC wc 3) + 1 := by
    refine cnt_inc hc (fun i _ hi => stC_at (Or.inr hi)) f0 ?_
    unfold stC; rw [up2_eq]; simp
  refine ⟨⟨hi, ?_, fun i hi => ?_⟩, cnt_lt hc f0⟩
  · rw [upd_at, if_pos rfl, hi 3 (by omega), h.nl, h.ins 3 (by omega), h3, nI_add]
  · rw [h3] at hi
    rw [upd_at, upd_at]; split
    · rfl
    · exact h.left i (by omega)
theorem QL.cardk {vl wl we wc bp : Nat → Nat → Int32} {lm cm c k : Nat} {x : Int32} (hk : k = 4 ∨ k = 7 ∨ k = 8) (h : QL vl wl we wc bp lm cm) : QL vl wl we (up2 wc c k x) bp lm cm := by
  have k0 : k ≠ 0 := by omega
  have e1 : ∀ l a, lsC (up2 wc c k x) l a = lsC wc l a := fun l a => funext fun i => lsC_at k0 (Or.inl (by omega))
  have e2 : ∀ a, loC (up2 wc c k x) a = loC wc a := fun a => loC_at k0
  have e3 : ∀ i, fin (up2 wc c k x) i ↔ fin wc i := fun i => fin_at (Or.inl (by omega))
  have e4 : ∀ i j, j ≠ k → up2 wc c k x i j = wc i j := fun i j hj => up2_ne hj
  refine ⟨h.eql, h.rank, fun l hl => by rw [e1]; exact h.left l hl, fun l hl => by rw [e1]; exact h.gave l hl, fun l hl => by rw [suC_at k0 (by omega)]; exact h.fails l hl, fun l hl => by rw [suC_at k0 (by omega)]; exact h.scraps l hl, fun l hl => by rw [e2]; exact h.size l hl, fun l hl p hp => ?_, fun l c' hl hc' => ?_, fun l hl => ?_⟩
  · rw [e2] at hp
    obtain ⟨c2, g1, g2, g3, g4⟩ := h.byp l hl p hp
    exact ⟨c2, g1, g2, by rw [e4 _ _ (by omega)]; exact g3, by rw [e4 _ _ (by omega)]; exact g4⟩
  · rw [e4 _ _ (by omega), e4 _ _ (by omega), e2]; exact h.place l c' hl hc'
  · obtain ⟨q, g1, g2, g3, g4⟩ := h.next l hl
    rw [e2]
    exact ⟨q, g1, g2, fun p c2 hp hc2 e => (e3 c2).mpr (g3 p c2 hp hc2 e), fun c2 hq hc2 e f => g4 c2 hq hc2 e ((e3 c2).mp f)⟩
theorem QL.free {vl wl we wc bp : Nat → Nat → Int32} {lm cm l k : Nat} {x : Int32} (hk : k = 2 ∨ k = 3) (h : QL vl wl we wc bp lm cm) : QL (up2 vl l k x) (up2 wl l k x) we wc bp lm cm := by
  refine ⟨fun l' k' hl hk' => ?_, fun l' hl => by rw [up2_ne (by omega)]; exact h.rank l' hl, h.left, h.gave, h.fails, h.scraps, fun l' hl => ?_, h.byp, h.place, h.next⟩
  · rw [up2_at, up2_at]; split
    · rfl
    · exact h.eql l' k' hl hk'
  · rw [up2_ne (by omega)]; exact h.size l' hl
theorem QL.state {vl wl we wc bp : Nat → Nat → Int32} {lm cm c b : Nat} (h1 : ¬ fin wc c) (hb : b < 3) (h : QL vl wl we wc bp lm cm) : QL vl wl we (up2 wc c 3 (nI b)) bp lm cm := by
  have hf : ¬ fin (up2 wc c 3 (nI b)) c := by
    unfold fin; rw [up2_eq]
    rintro (q | q)
    · exact nI_ne (by omega) (by omega) (by omega) q
    · exact nI_ne (by omega) (by omega) (by omega) q
  have e1 : ∀ l a, a = 3 ∨ a = 4 → lsC (up2 wc c 3 (nI b)) l a = lsC wc l a := fun l a ha => funext fun i => by
    by_cases hi : i = c
    · subst hi
      unfold lsC
      rw [up2_eq, up2_ne (by decide)]
      refine decide_eq_decide.mpr ⟨fun q => absurd q.2 (nI_ne (by omega) (by omega) (by omega)), fun q => absurd ?_ h1⟩
      rcases ha with rfl | rfl
      · exact Or.inl q.2
      · exact Or.inr q.2
    · exact lsC_at (by decide) (Or.inr hi)
  have e2 : ∀ a, loC (up2 wc c 3 (nI b)) a = loC wc a := fun a => loC_at (by decide)
  have e3 : ∀ i, fin (up2 wc c 3 (nI b)) i ↔ fin wc i := fun i => by
    by_cases hi : i = c
    · subst hi; exact ⟨fun q => absurd q hf, fun q => absurd q h1⟩
    · exact fin_at (Or.inr hi)
  refine ⟨h.eql, h.rank, fun l hl => by rw [e1 _ _ (Or.inl rfl)]; exact h.left l hl, fun l hl => by rw [e1 _ _ (Or.inr rfl)]; exact h.gave l hl, fun l hl => by rw [suC_at (by decide) (by decide)]; exact h.fails l hl, fun l hl => by rw [suC_at (by decide) (by decide)]; exact h.scraps l hl, fun l hl => by rw [e2]; exact h.size l hl, fun l hl p hp => ?_, fun l c' hl hc' => ?_, fun l hl => ?_⟩
  · rw [e2] at hp
    obtain ⟨c2, g1, g2, g3, g4⟩ := h.byp l hl p hp
    exact ⟨c2, g1, g2, by rw [up2_ne (by decide)]; exact g3, by rw [up2_ne (by decide)]; exact g4⟩
  · rw [up2_ne (by decide), up2_ne (by decide), e2]; exact h.place l c' hl hc'
  · obtain ⟨q, g1, g2, g3, g4⟩ := h.next l hl
    rw [e2]
    exact ⟨q, g1, g2, fun p c2 hp hc2 e => (e3 c2).mpr (g3 p c2 hp hc2 e), fun c2 hq hc2 e f => g4 c2 hq hc2 e ((e3 c2).mp f)⟩
theorem QL.finish {vl wl we wc bp : Nat → Nat → Int32} {lm cm c l b q2 : Nat} (hcm : cm ≤ 30) (hlm : lm ≤ 6) (hc : c < cm) (hl : l < lm) (el : wc c 0 = nI l) (h1 : ¬ fin wc c) (hb : b = 3 ∨ b = 4)
    (hq : q2 ≤ cnt cm (loC wc l)) (hq1 : ∀ p c', p < q2 → c' < cm → bp l p = nI c' → fin (up2 wc c 3 (nI b)) c') (hq2 : ∀ c', q2 < cnt cm (loC wc l) → c' < cm → bp l q2 = nI c' → ¬ fin (up2 wc c 3 (nI b)) c') (h : QL vl wl we wc bp lm cm) : QL vl wl (up2 (up2 we l (b - 2) (we l (b - 2) + nI 1)) l 0 (nI q2)) (up2 wc c 3 (nI b)) bp lm cm := by
  have hb5 : b < 5 := by omega
  have lsn : ∀ l' a, l' < lm → a = 3 ∨ a = 4 → (l' ≠ l ∨ a ≠ b) → lsC (up2 wc c 3 (nI b)) l' a = lsC wc l' a := fun l' a hl' ha hne => funext fun i => by
    by_cases hi : i = c
    · subst hi
      unfold lsC
      rw [up2_eq, up2_ne (by decide)]
      refine decide_eq_decide.mpr ⟨fun q => ?_, fun q => ?_⟩
      · rcases hne with hne | hne
        · exact absurd ((nI_eq (by omega) (by omega)).mp (q.1.symm.trans el)) hne
        · exact absurd ((nI_eq (by omega) (by omega)).mp q.2.symm) hne
      · refine absurd ?_ h1
        rcases ha with rfl | rfl
        · exact Or.inl q.2
        · exact Or.inr q.2
    · exact lsC_at (by decide) (Or.inr hi)
  have lsi : cnt cm (lsC (up2 wc c 3 (nI b)) l b) = cnt cm (lsC wc l b) + 1 := by
    refine cnt_inc hc (fun i _ hi => lsC_at (by decide) (Or.inr hi)) ?_ ?_
    · unfold lsC
      refine decide_eq_false fun q => h1 ?_
      rcases hb with rfl | rfl
      · exact Or.inl q.2
      · exact Or.inr q.2
    · unfold lsC; rw [up2_eq, up2_ne (by decide)]; exact decide_eq_true ⟨el, rfl⟩
  have e2 : ∀ a, loC (up2 wc c 3 (nI b)) a = loC wc a := fun a => loC_at (by decide)
  have ew : ∀ l' k', k' ≠ 0 → (l' ≠ l ∨ k' ≠ b - 2) → up2 (up2 we l (b - 2) (we l (b - 2) + nI 1)) l 0 (nI q2) l' k' = we l' k' := fun l' k' hk hne => by
    rw [up2_ne hk, up2_at, if_neg]
    rintro ⟨rfl, rfl⟩
    rcases hne with hne | hne <;> exact hne rfl
  have ew1 : up2 (up2 we l (b - 2) (we l (b - 2) + nI 1)) l 0 (nI q2) l (b - 2) = we l (b - 2) + nI 1 := by
    rw [up2_ne (by omega), up2_eq]
  refine ⟨h.eql, h.rank, fun l' hl' => ?_, fun l' hl' => ?_, fun l' hl' => ?_, fun l' hl' => ?_, fun l' hl' => by rw [e2]; exact h.size l' hl', fun l' hl' p hp => ?_, fun l' c' hl' hc' => ?_, fun l' hl' => ?_⟩
  · by_cases e : l' = l ∧ b = 3
    · obtain ⟨rfl, rfl⟩ := e
      have := ew1
      simp only [show 3 - 2 = 1 from rfl] at this
      rw [this, lsi, h.left l' hl', nI_add]
    · rw [ew l' 1 (by decide) (by omega), lsn l' 3 hl' (Or.inl rfl) (by omega)]; exact h.left l' hl'
  · by_cases e : l' = l ∧ b = 4
    · obtain ⟨rfl, rfl⟩ := e
      have := ew1
      simp only [show 4 - 2 = 2 from rfl] at this
      rw [this, lsi, h.gave l' hl', nI_add]
    · rw [ew l' 2 (by decide) (by omega), lsn l' 4 hl' (Or.inr rfl) (by omega)]; exact h.gave l' hl'
  · rw [ew l' 3 (by decide) (by omega), suC_at (by decide) (by decide)]; exact h.fails l' hl'
  · rw [ew l' 4 (by decide) (by omega), suC_at (by decide) (by decide)]; exact h.scraps l' hl'
  · rw [e2] at hp
    obtain ⟨c2, g1, g2, g3, g4⟩ := h.byp l' hl' p hp
    exact ⟨c2, g1, g2, by rw [up2_ne (by decide)]; exact g3, by rw [up2_ne (by decide)]; exact g4⟩
  · rw [up2_ne (by decide), up2_ne (by decide), e2]; exact h.place l' c' hl' hc'
  · rw [e2]
    by_cases e : l' = l
    · subst e
      exact ⟨q2, hq, up2_eq, hq1, hq2⟩
    · obtain ⟨q, g1, g2, g3, g4⟩ := h.next l' hl'
      have hno : ∀ p c', p < cnt cm (loC wc l') → c' < cm → bp l' p = nI c' → c' ≠ c := by
        intro p c' hp hc' e3 e4
        subst e4
        obtain ⟨c2, k1, k2, k3, k4⟩ := h.byp l' hl' p hp
        have : c2 = c' := (nI_eq (by omega) (by omega)).mp (k2.symm.trans e3)
        subst this
        exact e ((nI_eq (by omega) (by omega)).mp (k3.symm.trans el))
      refine ⟨q, g1, by rw [up2_ne1 e, up2_ne1 e]; exact g2, fun p c' hp hc' e3 => ?_, fun c' hp hc' e3 => ?_⟩
      · exact (fin_at (Or.inr (hno p c' (by omega) hc' e3))).mpr (g3 p c' hp hc' e3)
      · exact fun f => g4 c' hp hc' e3 ((fin_at (Or.inr (hno q c' hp hc' e3))).mp f)
theorem QL.more {vl wl we wc bp : Nat → Nat → Int32} {lm cm c l k : Nat} (hcm : cm ≤ 30) (hlm : lm ≤ 6) (hc : c < cm) (hl : l < lm) (el : wc c 0 = nI l) (hk : k = 5 ∨ k = 6) (h : QL vl wl we wc bp lm cm) : QL vl wl (up2 we l (k - 2) (we l (k - 2) + nI 1)) (up2 wc c k (wc c k + nI 1)) bp lm cm := by
  have k0 : k ≠ 0 := by omega
  have e1 : ∀ l a, lsC (up2 wc c k (wc c k + nI 1)) l a = lsC wc l a := fun l a => funext fun i => lsC_at k0 (Or.inl (by omega))
  have e2 : ∀ a, loC (up2 wc c k (wc c k + nI 1)) a = loC wc a := fun a => loC_at k0
  have e3 : ∀ i, fin (up2 wc c k (wc c k + nI 1)) i ↔ fin wc i := fun i => fin_at (Or.inl (by omega))
  have e4 : ∀ i j, j ≠ k → up2 wc c k (wc c k + nI 1) i j = wc i j := fun i j hj => up2_ne hj
  have es : ∀ l' j, l' < lm → j = 5 ∨ j = 6 → sumI cm (suC (up2 wc c k (wc c k + nI 1)) l' j) = if l' = l ∧ j = k then sumI cm (suC wc l' j) + nI 1 else sumI cm (suC wc l' j) := by
    intro l' j hl' hj
    split
    · rename_i e
      obtain ⟨rfl, rfl⟩ := e
      refine sumI_set hc (fun i _ hi => ?_) ?_
      · unfold suC; rw [e4 _ _ (by omega), up2_ne1 hi]
      · unfold suC; rw [e4 _ _ (by omega), if_pos el, if_pos el, up2_eq]
    · rename_i e
      refine sumI_congr fun i _ => ?_
      unfold suC; rw [e4 _ _ (by omega), up2_at]
      by_cases h0 : wc i 0 = nI l'
      · rw [if_pos h0, if_pos h0, if_neg]
        rintro ⟨rfl, rfl⟩
        exact e ⟨(nI_eq (by omega) (by omega)).mp (h0.symm.trans el), rfl⟩
      · rw [if_neg h0, if_neg h0]
  refine ⟨h.eql, h.rank, fun l' hl' => ?_, fun l' hl' => ?_, fun l' hl' => ?_, fun l' hl' => ?_, fun l' hl' => by rw [e2]; exact h.size l' hl', fun l' hl' p hp => ?_, fun l' c' hl' hc' => ?_, fun l' hl' => ?_⟩
  · rw [up2_ne (by omega), e1]; exact h.left l' hl'
  · rw [up2_ne (by omega), e1]; exact h.gave l' hl'
  · rw [es l' 5 hl' (Or.inl rfl), up2_at]
    by_cases e : l' = l ∧ 5 = k
    · obtain ⟨rfl, rfl⟩ := e
      rw [if_pos ⟨rfl, rfl⟩, if_pos ⟨rfl, rfl⟩]; exact congrArg (· + nI 1) (h.fails l' hl')
    · rw [if_neg e, if_neg (by omega)]; exact h.fails l' hl'
  · rw [es l' 6 hl' (Or.inr rfl), up2_at]
    by_cases e : l' = l ∧ 6 = k
    · obtain ⟨rfl, rfl⟩ := e
      rw [if_pos ⟨rfl, rfl⟩, if_pos ⟨rfl, rfl⟩]; exact congrArg (· + nI 1) (h.scraps l' hl')
    · rw [if_neg e, if_neg (by omega)]; exact h.scraps l' hl'
  · rw [e2] at hp
    obtain ⟨c2, g1, g2, g3, g4⟩ := h.byp l' hl' p hp
    exact ⟨c2, g1, g2, by rw [e4 _ _ (by omega)]; exact g3, by rw [e4 _ _ (by omega)]; exact g4⟩
  · rw [e4 _ _ (by omega), e4 _ _ (by omega), e2]; exact h.place l' c' hl' hc'
  · obtain ⟨q, g1, g2, g3, g4⟩ := h.next l' hl'
    rw [e2, up2_ne (by omega)]
    exact ⟨q, g1, g2, fun p c2 hp hc2 e => (e3 c2).mpr (g3 p c2 hp hc2 e), fun c2 hq hc2 e f => g4 c2 hq hc2 e ((e3 c2).mp f)⟩
theorem QA.free {va wa : Nat → Int32} {sm lm cm B i : Nat} {x : Int32} (hi : i ≠ 0 ∧ i ≠ 6 ∧ i ≠ 7 ∧ i ≠ 8 ∧ i ≠ 9) (h : QA va wa sm lm cm B) : QA (upd va i x) (upd wa i x) sm lm cm B := by
  obtain ⟨b1, b2, b3, b4, b5, b6, b7, b8, b9, b10⟩ := h
  have e : ∀ (f : Nat → Int32) j, j ≠ i → upd f i x j = f j := fun f j h => if_neg h
  refine ⟨b1, b2, b3, b4, ?_, ?_, ?_, fun j hj h1 h2 => ?_, ?_, ?_⟩
  · rw [e _ 7 (by omega)]; exact b5
  · rw [e _ 8 (by omega)]; exact b6
  · rw [e _ 9 (by omega)]; exact b7
  · rw [upd_at, upd_at]; split
    · rfl
    · exact b8 j hj h1 h2
  · rw [e _ 0 (by omega)]; exact b9
  · rw [e _ 6 (by omega)]; exact b10
theorem QA.v {va wa : Nat → Int32} {sm lm cm B i : Nat} {x : Int32} (hi : i = 10 ∨ i = 11) (h : QA va wa sm lm cm B) : QA (upd va i x) wa sm lm cm B := by
  obtain ⟨b1, b2, b3, b4, b5, b6, b7, b8, b9, b10⟩ := h
  exact ⟨b1, b2, b3, b4, b5, b6, b7, fun j hj h1 h2 => by rw [upd_at, if_neg (by omega)]; exact b8 j hj h1 h2, b9, b10⟩
theorem QD.free {va vp wa : Nat → Int32} {dl df : Nat → Nat → Int32} {lm i : Nat} {x y : Int32} (hi : i ≠ 0 ∧ i ≠ 6 ∧ i ≠ 11) (h : QD va vp wa dl df lm) : QD (upd va i x) vp (upd wa i y) dl df lm := by
  have e : ∀ (f : Nat → Int32) z j, j ≠ i → upd f i z j = f j := fun f z j h => if_neg h
  refine ⟨fun d t hd ht h0 h6 => ?_, fun d t l j hd ht h0 h6 => ?_⟩
  · rw [e _ _ 0 (by omega)] at h0; rw [e _ _ 6 (by omega)] at h6; rw [e _ _ 11 (by omega)]; exact h.many d t hd ht h0 h6
  · rw [e _ _ 0 (by omega)] at h0; rw [e _ _ 6 (by omega)] at h6; exact h.ring d t l j hd ht h0 h6
theorem QD.v {va vp wa : Nat → Int32} {dl df : Nat → Nat → Int32} {lm i : Nat} {x : Int32} (hi : i ≠ 11) (h : QD va vp wa dl df lm) : QD (upd va i x) vp wa dl df lm :=
  ⟨fun d t hd ht h0 h6 => by rw [upd_at, if_neg (Ne.symm hi)]; exact h.many d t hd ht h0 h6, h.ring⟩
