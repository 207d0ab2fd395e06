theorem isFin_v {r : RS} {v : Nat → Int32} {q a : Nat} (hq : q < 30) (ha : a < 5) (e : v (137 + 25 * q + 3) = nI a) : F8_isFinished (setR r v) (nI q) = some (if a < 3 then nI 0 else nI 1) := by
  unfold F8_isFinished
  simp (disch := omega) only [lit32, neg1, nI_add, nI_mul, bS, pt_n, ix_n, rd_n, ws_n, rdo_n, wso_n, setR_1, setL_w, setL_iv, up_setR, up_setL_w, up_setL_iv, nz_0, nz_1, F8_ofCard_v, e]
  by_cases h : a < 3
  · rw [if_pos h, if_pos (nI_lt h (by omega))]; rfl
  · rw [if_neg h, if_neg (nI_nlt (by omega) (by omega))]; rfl
noncomputable def NOi (v : Nat → Int32) (l y : Nat) (best : Int32) : Prop := (best = m1 ∧ ∀ k a, k < y → v (137 + 25 * k + 0) = nI l → v (137 + 25 * k + 3) = nI a → a < 5 → 3 ≤ a) ∨ (∃ b pb a, b < y ∧ best = nI b ∧ v (137 + 25 * b + 0) = nI l ∧ v (137 + 25 * b + 1) = nI pb ∧ pb < 31 ∧ v (137 + 25 * b + 3) = nI a ∧ a < 3 ∧ ∀ k a p, k < y → v (137 + 25 * k + 0) = nI l → v (137 + 25 * k + 3) = nI a → a < 3 → v (137 + 25 * k + 1) = nI p → p < 31 → pb ≤ p)
theorem nextOf_L {r : RS} {v : Nat → Int32} {l cm : Nat} (hl : l < 6) (hcm : cm ≤ 30) (h9 : v 9 = nI cm) (hs : ∀ k, k < cm → ∃ a, a < 5 ∧ v (137 + 25 * k + 3) = nI a) (ho : ∀ k, k < cm → ∃ a, a < 6 ∧ v (137 + 25 * k + 0) = nI a) (hp : ∀ k, k < cm → v (137 + 25 * k + 0) = nI l → ∃ p, p < 31 ∧ v (137 + 25 * k + 1) = nI p) : ∀ (d y fu : Nat) (best : Int32), y + d = cm → d < fu → NOi v l y best → ∃ b2, F8_nextOf_L4 (nI l) (setR r v) fu (nI y) best = some (nI cm, b2) ∧ NOi v l cm b2 := by
  intro d
  induction d with
  | zero =>
    intro y fu best hy hfu hi
    obtain ⟨fu, rfl⟩ : ∃ m, fu = m + 1 := ⟨fu - 1, by omega⟩
    obtain rfl : y = cm := by omega
    refine ⟨best, ?_, hi⟩
    unfold F8_nextOf_L4
    simp (disch := omega) only [lit32, neg1, nI_add, nI_mul, bS, pt_n, ix_n, rd_n, ws_n, rdo_n, wso_n, setR_1, setL_w, setL_iv, up_setR, up_setL_w, up_setL_iv, nz_0, nz_1, h9]
    rw [if_pos (nI_le (by omega) (by omega))]
  | succ d ih =>
    intro y fu best hy hfu hi
    obtain ⟨fu, rfl⟩ : ∃ m, fu = m + 1 := ⟨fu - 1, by omega⟩
    obtain ⟨a, ha, ea⟩ := hs y (by omega)
    obtain ⟨lo, hlo, elo⟩ := ho y (by omega)
    have hstep : ∀ t, NOi v l (y + 1) t → ∀ (x : Option Int32), x = some t → ∃ b2, x.bind (fun t19 => F8_nextOf_L4 (nI l) (setR r v) fu (nI (y + 1)) t19) = some (nI cm, b2) ∧ NOi v l cm b2 := fun t ht x hx => by
      rw [hx]; exact ih (y + 1) fu t (by omega) (by omega) ht
    unfold F8_nextOf_L4
    simp (disch := omega) only [lit32, neg1, nI_add, nI_mul, bS, pt_n, ix_n, rd_n, ws_n, rdo_n, wso_n, setR_1, setL_w, setL_iv, up_setR, up_setL_w, up_setL_iv, nz_0, nz_1, h9, F8_ofCard_v, elo]
    rw [if_neg (nI_ge (by omega) (by omega))]
    by_cases e : lo = l
    · subst e
      rw [if_pos rfl, isFin_v (a := a) (by omega) ha ea]
      obtain ⟨p, hp31, ep⟩ := hp y (by omega) elo
      by_cases h3 : a < 3
      · rw [if_pos h3]
        simp (disch := omega) only [lit32, neg1, nI_add, nI_mul, bS, pt_n, ix_n, rd_n, ws_n, rdo_n, wso_n, setR_1, setL_w, setL_iv, up_setR, up_setL_w, up_setL_iv, nz_0, nz_1]
        rw [if_pos trivial]
        simp (disch := omega) only [lit32, neg1, nI_add, nI_mul, bS, pt_n, ix_n, rd_n, ws_n, rdo_n, wso_n, setR_1, setL_w, setL_iv, up_setR, up_setL_w, up_setL_iv, nz_0, nz_1]
        rw [if_neg (nI_ne (by omega) (by omega) (by omega))]
        rcases hi with ⟨rfl, hi⟩ | ⟨b, pb, ab, g1, rfl, g3, g4, g5, g6, g7, g8⟩
        · rw [if_pos rfl]
          refine hstep (nI y) (Or.inr ⟨y, p, a, by omega, rfl, elo, ep, hp31, ea, h3, fun k a2 p2 hk hlk hak ha2 hpk hp2 => ?_⟩) _ rfl
          by_cases ek : k = y
          · subst ek; have := (nI_eq (by omega) (by omega)).mp (ep.symm.trans hpk); omega
          · have := hi k a2 (by omega) hlk hak (by omega); omega
        · rw [if_neg (m1_ne (by omega))]
          simp (disch := omega) only [lit32, neg1, nI_add, nI_mul, bS, pt_n, ix_n, rd_n, ws_n, rdo_n, wso_n, setR_1, setL_w, setL_iv, up_setR, up_setL_w, up_setL_iv, nz_0, nz_1, F8_ofCard_v, ep, g4]
          by_cases hle : pb ≤ p
          · rw [if_pos (nI_le hle (by omega))]
            refine hstep (nI b) (Or.inr ⟨b, pb, ab, by omega, rfl, g3, g4, g5, g6, g7, fun k a2 p2 hk hlk hak ha2 hpk hp2 => ?_⟩) _ rfl
            by_cases ek : k = y
            · subst ek; have := (nI_eq (by omega) (by omega)).mp (ep.symm.trans hpk); omega
            · exact g8 k a2 p2 (by omega) hlk hak ha2 hpk hp2
          · rw [if_neg (nI_ge (by omega) (by omega))]
            refine hstep (nI y) (Or.inr ⟨y, p, a, by omega, rfl, elo, ep, hp31, ea, h3, fun k a2 p2 hk hlk hak ha2 hpk hp2 => ?_⟩) _ rfl
            by_cases ek : k = y
            · subst ek; have := (nI_eq (by omega) (by omega)).mp (ep.symm.trans hpk); omega
            · have := g8 k a2 p2 (by omega) hlk hak ha2 hpk hp2; omega
      · rw [if_neg h3]
        simp (disch := omega) only [lit32, neg1, nI_add, nI_mul, bS, pt_n, ix_n, rd_n, ws_n, rdo_n, wso_n, setR_1, setL_w, setL_iv, up_setR, up_setL_w, up_setL_iv, nz_0, nz_1]
        rw [if_neg (nI_ne (by omega) (by omega) (by omega))]
        simp (disch := omega) only [lit32, neg1, nI_add, nI_mul, bS, pt_n, ix_n, rd_n, ws_n, rdo_n, wso_n, setR_1, setL_w, setL_iv, up_setR, up_setL_w, up_setL_iv, nz_0, nz_1]
        rw [if_pos trivial]
        refine hstep best ?_ _ rfl
        rcases hi with ⟨rfl, hi⟩ | ⟨b, pb, ab, g1, rfl, g3, g4, g5, g6, g7, g8⟩
        · refine Or.inl ⟨rfl, fun k a2 hk hlk hak ha2 => ?_⟩
          by_cases ek : k = y
          · subst ek; have := (nI_eq (by omega) (by omega)).mp (ea.symm.trans hak); omega
          · exact hi k a2 (by omega) hlk hak ha2
        · refine Or.inr ⟨b, pb, ab, by omega, rfl, g3, g4, g5, g6, g7, fun k a2 p2 hk hlk hak ha2 hpk hp2 => ?_⟩
          by_cases ek : k = y
          · subst ek; have := (nI_eq (by omega) (by omega)).mp (ea.symm.trans hak); omega
          · exact g8 k a2 p2 (by omega) hlk hak ha2 hpk hp2
    · rw [if_neg (nI_ne e (by omega) (by omega))]
      simp (disch := omega) only [lit32, neg1, nI_add, nI_mul, bS, pt_n, ix_n, rd_n, ws_n, rdo_n, wso_n, setR_1, setL_w, setL_iv, up_setR, up_setL_w, up_setL_iv, nz_0, nz_1]
      rw [if_pos trivial]
      refine hstep best ?_ _ rfl
      rcases hi with ⟨rfl, hi⟩ | ⟨b, pb, ab, g1, rfl, g3, g4, g5, g6, g7, g8⟩
      · refine Or.inl ⟨rfl, fun k a2 hk hlk hak ha2 => ?_⟩
        by_cases ek : k = y
        · subst ek; exact absurd ((nI_eq (by omega) (by omega)).mp (elo.symm.trans hlk)) e
        · exact hi k a2 (by omega) hlk hak ha2
      · refine Or.inr ⟨b, pb, ab, by omega, rfl, g3, g4, g5, g6, g7, fun k a2 p2 hk hlk hak ha2 hpk hp2 => ?_⟩
        by_cases ek : k = y
        · subst ek; exact absurd ((nI_eq (by omega) (by omega)).mp (elo.symm.trans hlk)) e
        · exact g8 k a2 p2 (by omega) hlk hak ha2 hpk hp2
theorem next_ok {r c : RS} {g : CG} {L sm lm cm B U l : Nat} {v w iv : Nat → Int32} (hL : L < 12) (h : QX c g L v w iv sm lm cm B U) (hl : l < lm) :
    ∃ x, F8_nextOf (setR r v) (nI l) = some x ∧ C4_nextCard g (setL c L w iv) L l = some x ∧ ((x = m1) ∨ ∃ q, q < cm ∧ x = nI q ∧ sC w q 0 = nI l ∧ ¬ fin (sC w) q) := by
  have hcm := h.a.cm30; have hlm := h.a.lm6
  have hl6 : l < 6 := by omega
  have hz30 : cnt cm (loC (sC w) l) ≤ 30 := Nat.le_trans cnt_le hcm
  have rc : ∀ k j, k < cm → j < 9 → j ≠ 2 → v (137 + 25 * k + j) = sC w k j := fun k j hk h1 h2 => by rw [h.rc hk h1 h2, sC_r (v := w) (by omega) (by omega)]
  have h9 : v 9 = nI cm := by
    have := h.ra (i := 9) (by omega) (by omega) (by omega)
    rw [this, sA_r (v := w) (by omega)]; exact h.a.w9
  obtain ⟨b2, g1, g2⟩ := nextOf_L (r := r) (v := v) (l := l) hl6 hcm h9 (fun k hk => by obtain ⟨a, m1, m2⟩ := h.c.state k hk; exact ⟨a, m1, by rw [rc k 3 hk (by omega) (by omega)]; exact m2⟩) (fun k hk => by obtain ⟨a, m1, m2⟩ := h.c.lot k hk; exact ⟨a, by omega, by rw [rc k 0 hk (by omega) (by omega)]; exact m2⟩) (fun k hk e => by
    rw [rc k 0 hk (by omega) (by omega)] at e
    obtain ⟨p, m1, m2, -⟩ := h.l.place l k hl hk e
    exact ⟨p, by omega, by rw [rc k 1 hk (by omega) (by omega)]; exact m2⟩) cm 0 FUEL m1 (by omega) (by show cm < 10000; omega) (Or.inl ⟨rfl, fun k a hk => by omega⟩)
  obtain ⟨q, f1, f2, f3, f4⟩ := h.l.next l hl
  have hsz : w (113 + 4 * l + 1) = nI (cnt cm (loC (sC w) l)) := by rw [sL_r (v := w) (by omega) (by omega)]; exact h.l.size l hl
  have hnp : w (1100 + 8 * l + 0) = nI q := by rw [sE_r (v := w) (by omega) (by omega)]; exact f2
  have hF : F8_nextOf (setR r v) (nI l) = some b2 := by
    unfold F8_nextOf
    simp only [lit32, neg1]
    rw [g1]; rfl
  have fa : ∀ k a, k < cm → a < 5 → sC w k 3 = nI a → (fin (sC w) k ↔ 3 ≤ a) := fun k a hk ha e => by
    unfold fin; rw [e, nI_eq (by omega) (by omega), nI_eq (by omega) (by omega)]; omega
  by_cases hq : q < cnt cm (loC (sC w) l)
  · obtain ⟨c0, k1, k2, k3, k4⟩ := h.l.byp l hl q hq
    have nf := f4 c0 hq k1 k2
    have hC : C4_nextCard g (setL c L w iv) L l = some (nI c0) := by
      unfold C4_nextCard C4_cardAt
      simp (disch := omega) only [lit32, neg1, nI_add, nI_mul, bS, pt_n, ix_n, rd_n, ws_n, rdo_n, wso_n, setR_1, setL_w, setL_iv, up_setR, up_setL_w, up_setL_iv, nz_0, nz_1, hnp, hsz]
      rw [if_neg (nI_nlt (by omega) (by omega)), if_neg (nI_ge (by omega) (by omega)), setL_o (by omega) (by omega), k2]
      rfl
    refine ⟨nI c0, ?_, hC, Or.inr ⟨c0, k1, rfl, k3, nf⟩⟩
    rw [hF]
    congr 1
    obtain ⟨a0, m1, m2⟩ := h.c.state c0 k1
    have ha0 : a0 < 3 := by
      have := (fa c0 a0 k1 m1 m2).mpr
      by_cases e : 3 ≤ a0
      · exact absurd (this e) nf
      · omega
    rcases g2 with ⟨-, g2⟩ | ⟨b, pb, ab, j1, j2, j3, j4, j5, j6, j7, j8⟩
    · have := g2 c0 a0 k1 (by rw [rc c0 0 k1 (by omega) (by omega)]; exact k3) (by rw [rc c0 3 k1 (by omega) (by omega)]; exact m2) m1
      omega
    · rw [rc b 0 j1 (by omega) (by omega)] at j3
      rw [rc b 1 j1 (by omega) (by omega)] at j4
      rw [rc b 3 j1 (by omega) (by omega)] at j6
      have le := j8 c0 a0 q k1 (by rw [rc c0 0 k1 (by omega) (by omega)]; exact k3) (by rw [rc c0 3 k1 (by omega) (by omega)]; exact m2) ha0 (by rw [rc c0 1 k1 (by omega) (by omega)]; exact k4) (by omega)
      obtain ⟨p, n1, n2, n3⟩ := h.l.place l b hl j1 j3
      have ep : p = pb := (nI_eq (by omega) (by omega)).mp (n2.symm.trans j4)
      subst ep
      have ge : ¬ p < q := fun hlt => by
        have := (fa b ab j1 (by omega) j6).mp (f3 p b hlt j1 n3)
        omega
      have : p = q := by omega
      subst this
      rw [j2]; exact n3.symm.trans k2
  · have hC : C4_nextCard g (setL c L w iv) L l = some m1 := by
      unfold C4_nextCard C4_cardAt
      simp (disch := omega) only [lit32, neg1, nI_add, nI_mul, bS, pt_n, ix_n, rd_n, ws_n, rdo_n, wso_n, setR_1, setL_w, setL_iv, up_setR, up_setL_w, up_setL_iv, nz_0, nz_1, hnp, hsz]
      rw [if_neg (nI_nlt (by omega) (by omega)), if_pos (nI_le (by omega) (by omega))]
      rfl
    refine ⟨m1, ?_, hC, Or.inl rfl⟩
    rw [hF]
    congr 1
    rcases g2 with ⟨g2, -⟩ | ⟨b, pb, ab, j1, j2, j3, j4, j5, j6, j7, j8⟩
    · exact g2
    · rw [rc b 0 j1 (by omega) (by omega)] at j3
      rw [rc b 3 j1 (by omega) (by omega)] at j6
      obtain ⟨p, n1, n2, n3⟩ := h.l.place l b hl j1 j3
      have := (fa b ab j1 (by omega) j6).mp (f3 p b (by omega) j1 n3)
      omega
