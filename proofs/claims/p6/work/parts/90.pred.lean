noncomputable def gUn (hap : RS → Option Int32) (L : Nat) (a4 : Int32) (g : CG) : Nat → Int32 → RS → Option (Sum (Int32 × RS) (Int32 × RS))
  | 0, _, _ => none
  | m + 1, y1, u2 => if a4 < y1 then (some (.inr (y1, u2))) else ((hap u2).bind fun x11 => if x11 = 0 then (if y1 = a4 then (some (.inl ((-1 : Int32), u2))) else ((C3_tick g u2 L).bind fun t15 => if (t15.1) = 0 then (some (.inl ((-1 : Int32), (t15.2)))) else (gUn hap L a4 g m ((y1 + 1)) (t15.2)))) else (some (.inl (y1, u2))))
theorem gUn_0 {L : Nat} {a3 a4 : Int32} {g : CG} : ∀ (m : Nat) (y : Int32) (u : RS), C7_ticksUntil_e0_L3 L a3 a4 g m y u = gUn (fun u2 => C3_hasHappened_e0 g u2 L a3) L a4 g m y u := by
  intro m
  induction m with
  | zero => intro y u; rfl
  | succ m ih => intro y u; rw [C7_ticksUntil_e0_L3, gUn]; simp only [ih]
theorem gUn_1 {L : Nat} {a3 a4 : Int32} {g : CG} : ∀ (m : Nat) (y : Int32) (u : RS), C7_ticksUntil_e1_L3 L a3 a4 g m y u = gUn (fun u2 => C3_hasHappened_e1 g u2 L a3) L a4 g m y u := by
  intro m
  induction m with
  | zero => intro y u; rfl
  | succ m ih => intro y u; rw [C7_ticksUntil_e1_L3, gUn]; simp only [ih]
theorem gUn_2 {L : Nat} {a3 a4 : Int32} {g : CG} : ∀ (m : Nat) (y : Int32) (u : RS), C7_ticksUntil_e2_L3 L a3 a4 g m y u = gUn (fun u2 => C3_hasHappened_e2 g u2 L a3) L a4 g m y u := by
  intro m
  induction m with
  | zero => intro y u; rfl
  | succ m ih => intro y u; rw [C7_ticksUntil_e2_L3, gUn]; simp only [ih]
theorem gUn_3 {L : Nat} {a3 a4 : Int32} {g : CG} : ∀ (m : Nat) (y : Int32) (u : RS), C7_ticksUntil_e3_L3 L a3 a4 g m y u = gUn (fun u2 => C3_hasHappened_e3 g u2 L a3) L a4 g m y u := by
  intro m
  induction m with
  | zero => intro y u; rfl
  | succ m ih => intro y u; rw [C7_ticksUntil_e3_L3, gUn]; simp only [ih]
theorem gUn_4 {L : Nat} {a3 a4 : Int32} {g : CG} : ∀ (m : Nat) (y : Int32) (u : RS), C7_ticksUntil_e4_L3 L a3 a4 g m y u = gUn (fun u2 => C3_hasHappened_e4 g u2 L a3) L a4 g m y u := by
  intro m
  induction m with
  | zero => intro y u; rfl
  | succ m ih => intro y u; rw [C7_ticksUntil_e4_L3, gUn]; simp only [ih]
noncomputable def MET (met hap : RS → Option Int32) (r : RS) (g : CG) (sm lm cm : Nat) : Prop := ∀ v c B U, QY c g 1 v sm lm cm B U → (met (setR r v) = some (nI 0) ∧ hap c = some (nI 0)) ∨ (met (setR r v) = some (nI 1) ∧ hap c = some (nI 1))
noncomputable def MSM (met : RS → Option Int32) (r : RS) (g : CG) (sm lm cm : Nat) : Prop := ∀ (v : Nat → Int32) (c : RS) (B U : Nat) (v2 : Nat → Int32) (c2 : RS), QY c g 1 v sm lm cm B U → SM v (c (10 + 1)) (c (400 + 1)) v2 (c2 (10 + 1)) (c2 (400 + 1)) → met (setR r v) = some (nI 0) → met (setR r v2) = some (nI 0)
theorem goes_i {t2 a1 a2 : Int32} {fu y : Nat} {u : RS} (hy : y ≤ 2000) (h : F8_isMet u a1 a2 t2 = some (nI 1)) : F8_goes_L19 t2 a1 a2 (fu + 1) (nI y) u = some (.inl (nI y, u)) := by
  rw [F8_goes_L19]
  simp only [lit32]
  rw [if_neg (nI_nlt hy (by omega)), h, bS, if_neg nz0]
theorem goes_n {t2 a1 a2 : Int32} {fu y : Nat} {u u2 : RS} (hy : y < 2000) (h : F8_isMet u a1 a2 t2 = some (nI 0)) (hp : F8_passes u = some u2) : F8_goes_L19 t2 a1 a2 (fu + 1) (nI y) u = F8_goes_L19 t2 a1 a2 fu (nI (y + 1)) u2 := by
  rw [F8_goes_L19]
  simp only [lit32]
  rw [if_neg (nI_nlt (by omega) (by omega)), h, bS, if_pos rfl, if_neg (nI_ge (by omega) (by omega)), hp, bS, bS, nI_add]
theorem goes_e {t2 a1 a2 : Int32} {fu : Nat} {u : RS} (h : F8_isMet u a1 a2 t2 = some (nI 0)) : F8_goes_L19 t2 a1 a2 (fu + 1) (nI 2000) u = F8_goes_L19 t2 a1 a2 fu (nI 2001) u := by
  rw [F8_goes_L19]
  simp only [lit32]
  rw [if_neg (nI_nlt (by omega) (by omega)), h, bS, if_pos rfl, if_pos (nI_le (by omega) (by omega)), bS, nI_add]
theorem goes_z {t2 a1 a2 : Int32} {fu : Nat} {u : RS} : F8_goes_L19 t2 a1 a2 (fu + 1) (nI 2001) u = some (.inr (nI 2001, u)) := by
  rw [F8_goes_L19]
  simp only [lit32]
  rw [if_pos (nI_lt (by omega) (by omega))]
theorem still_F {r : RS} {g : CG} {sm lm cm : Nat} {t2 a1 a2 : Int32} (hg : g.nt < 2 ^ 31) (hm : MSM (fun u => F8_isMet u a1 a2 t2) r g sm lm cm) : ∀ (d y fu B U : Nat) (v : Nat → Int32) (c : RS), y + d = 2001 → d < fu → QY c g 1 v sm lm cm B U → B + d < 2000000000 → U + d < 2000000000 → STL c g 1 sm lm cm (c (10 + 1)) (c (400 + 1)) → F8_isMet (setR r v) a1 a2 t2 = some (nI 0) → ∃ v', F8_goes_L19 t2 a1 a2 fu (nI y) (setR r v) = some (.inr (nI 2001, setR r v')) := by
  intro d
  induction d with
  | zero =>
    intro y fu B U v c hy hfu h hB hU hs h0
    obtain ⟨fu, rfl⟩ : ∃ m, fu = m + 1 := ⟨fu - 1, by omega⟩
    obtain rfl : y = 2001 := by omega
    exact ⟨v, goes_z⟩
  | succ d ih =>
    intro y fu B U v c hy hfu h hB hU hs h0
    obtain ⟨fu, rfl⟩ : ∃ m, fu = m + 1 := ⟨fu - 1, by omega⟩
    by_cases hy2 : y = 2000
    · subst hy2
      obtain ⟨fu, rfl⟩ : ∃ m, fu = m + 1 := ⟨fu - 1, by omega⟩
      rw [goes_e h0]
      exact ⟨v, goes_z⟩
    · obtain ⟨v1, c1, m, k1, k2, k3, k4, k5⟩ := tickY (r := r) (by omega : 1 < 12) hg h (by omega) (by omega)
      rcases k5 with ⟨k5, -⟩ | ⟨-, -, k6, k7⟩
      · exact absurd hs k5
      · rw [goes_n (by omega) h0 k1]
        exact ih (y + 1) fu (B + 1) (U + 1) v1 c1 (by omega) (by omega) k3 (by omega) (by omega) k7 (hm v c B U v1 c1 h k6 h0)
noncomputable def FRM (c c' : RS) (g : CG) : Prop := (∀ R, ¬ OWN 1 R → c' R = c R) ∧ TIr (c' (10 + 1)) g.nt
theorem pred_L {r : RS} {g : CG} {sm lm cm lim : Nat} {t2 a1 a2 : Int32} {hap : RS → Option Int32} (hg : g.nt < 2 ^ 31) (hlim : lim ≤ 2000) (hm : MET (fun u => F8_isMet u a1 a2 t2) hap r g sm lm cm) (hs : MSM (fun u => F8_isMet u a1 a2 t2) r g sm lm cm) : ∀ (d y fu fu2 B U : Nat) (v : Nat → Int32) (c : RS), y + d = 2001 → d < fu → d < fu2 → QY c g 1 v sm lm cm B U → B + d < 2000000000 → U + d < 2000000000 →
    ∃ v', (∃ k, y ≤ k ∧ k ≤ 2000 ∧ F8_goes_L19 t2 a1 a2 fu (nI y) (setR r v) = some (.inl (nI k, setR r v')) ∧ (y ≤ lim → ∃ c', gUn hap 1 (nI lim) g fu2 (nI y) c = some (.inl (if k ≤ lim then nI k else m1, c')) ∧ FRM c c' g)) ∨ (F8_goes_L19 t2 a1 a2 fu (nI y) (setR r v) = some (.inr (nI 2001, setR r v')) ∧ (y ≤ lim → ∃ c', gUn hap 1 (nI lim) g fu2 (nI y) c = some (.inl (m1, c')) ∧ FRM c c' g)) := by
  intro d
  induction d with
  | zero =>
    intro y fu fu2 B U v c hy hfu hfu2 h hB hU
    obtain ⟨fu, rfl⟩ : ∃ m, fu = m + 1 := ⟨fu - 1, by omega⟩
    obtain rfl : y = 2001 := by omega
    exact ⟨v, Or.inr ⟨goes_z, fun q => by omega⟩⟩
  | succ d ih =>
    intro y fu fu2 B U v c hy hfu hfu2 h hB hU
    obtain ⟨fu, rfl⟩ : ∃ m, fu = m + 1 := ⟨fu - 1, by omega⟩
    obtain ⟨fu2, rfl⟩ : ∃ m, fu2 = m + 1 := ⟨fu2 - 1, by omega⟩
    have fr0 : FRM c c g := ⟨fun _ _ => rfl, h.tir⟩
    rcases hm v c B U h with ⟨m0, h0⟩ | ⟨m0, h0⟩
    · by_cases hy2 : y = 2000
      · subst hy2
        obtain ⟨fu, rfl⟩ : ∃ m, fu = m + 1 := ⟨fu - 1, by omega⟩
        refine ⟨v, Or.inr ⟨by rw [goes_e m0]; exact goes_z, fun q => ⟨c, ?_, fr0⟩⟩⟩
        obtain rfl : lim = 2000 := by omega
        rw [gUn]
        simp only [lit32, neg1]
        rw [if_neg (nI_nlt (by omega) (by omega)), h0, bS, if_pos rfl, if_pos trivial]
      · obtain ⟨v1, c1, m, k1, k2, k3, k4, k5⟩ := tickY (r := r) (by omega : 1 < 12) hg h (by omega) (by omega)
        have hF := goes_n (t2 := t2) (a1 := a1) (a2 := a2) (fu := fu) (y := y) (by omega) m0 k1
        rcases k5 with ⟨k5, rfl⟩ | ⟨k5, rfl, k6, k7⟩
        · obtain ⟨v2, hv2⟩ := ih (y + 1) fu fu2 (B + 1) (U + 1) v1 c1 (by omega) (by omega) (by omega) k3 (by omega) (by omega)
          rw [hF]
          have hC : y < lim → gUn hap 1 (nI lim) g (fu2 + 1) (nI y) c = gUn hap 1 (nI lim) g fu2 (nI (y + 1)) c1 := fun q => by
            rw [gUn]
            simp only [lit32, neg1]
            rw [if_neg (nI_nlt (by omega) (by omega)), h0, bS, if_pos rfl, if_neg (nI_ne (by omega) (by omega) (by omega)), k2, bS, if_neg nz0, nI_add]
          have hE : y = lim → gUn hap 1 (nI lim) g (fu2 + 1) (nI y) c = some (.inl (m1, c)) := fun q => by
            rw [gUn]
            simp only [lit32, neg1]
            rw [if_neg (nI_nlt (by omega) (by omega)), h0, bS, if_pos rfl, if_pos (by rw [q])]
          rcases hv2 with ⟨k, q1, q2, q3, q4⟩ | ⟨q3, q4⟩
          · refine ⟨v2, Or.inl ⟨k, by omega, q2, q3, fun hl => ?_⟩⟩
            by_cases e : y = lim
            · exact ⟨c, by rw [hE e, if_neg (by omega)], fr0⟩
            · obtain ⟨c', j1, j2⟩ := q4 (by omega)
              exact ⟨c', by rw [hC (by omega)]; exact j1, fun R hR => (j2.1 R hR).trans (k4 R hR), j2.2⟩
          · refine ⟨v2, Or.inr ⟨q3, fun hl => ?_⟩⟩
            by_cases e : y = lim
            · exact ⟨c, hE e, fr0⟩
            · obtain ⟨c', j1, j2⟩ := q4 (by omega)
              exact ⟨c', by rw [hC (by omega)]; exact j1, fun R hR => (j2.1 R hR).trans (k4 R hR), j2.2⟩
        · obtain ⟨v2, hv2⟩ := still_F hg hs d (y + 1) fu (B + 1) (U + 1) v1 c1 (by omega) (by omega) k3 (by omega) (by omega) k7 (hs v c B U v1 c1 h k6 m0)
          refine ⟨v2, Or.inr ⟨hF.trans hv2, fun hl => ?_⟩⟩
          by_cases e : y = lim
          · refine ⟨c, ?_, fr0⟩
            rw [gUn]
            simp only [lit32, neg1]
            rw [if_neg (nI_nlt (by omega) (by omega)), h0, bS, if_pos rfl, if_pos (by rw [e])]
          · refine ⟨c1, ?_, k4, k3.tir⟩
            rw [gUn]
            simp only [lit32, neg1]
            rw [if_neg (nI_nlt (by omega) (by omega)), h0, bS, if_pos rfl, if_neg (nI_ne e (by omega) (by omega)), k2, bS, if_pos rfl]
    · refine ⟨v, Or.inl ⟨y, Nat.le_refl y, by omega, goes_i (by omega) m0, fun hl => ⟨c, ?_, fr0⟩⟩⟩
      rw [gUn]
      simp only [lit32, neg1]
      rw [if_neg (nI_nlt (by omega) (by omega)), h0, bS, if_neg nz0, if_pos hl]
theorem cnt_add {n : Nat} {p q s : Nat → Bool} (h : ∀ i, i < n → (p i = true → s i = true) ∧ (q i = true → s i = true) ∧ ¬ (p i = true ∧ q i = true)) : cnt n p + cnt n q ≤ cnt n s ∧ (cnt n p + cnt n q = cnt n s ↔ ∀ i, i < n → s i = true → p i = true ∨ q i = true) := by
  induction n with
  | zero => exact ⟨Nat.le_refl _, fun _ i hi => by omega, fun _ => rfl⟩
  | succ n ih =>
    obtain ⟨a1, a2⟩ := ih fun i hi => h i (by omega)
    obtain ⟨b1, b2, b3⟩ := h n (by omega)
    unfold cnt
    have key : ((∀ i, i < n + 1 → s i = true → p i = true ∨ q i = true) ↔ ((∀ i, i < n → s i = true → p i = true ∨ q i = true) ∧ (s n = true → p n = true ∨ q n = true))) := by
      constructor
      · intro f; exact ⟨fun i hi => f i (by omega), f n (by omega)⟩
      · intro f i hi
        by_cases e : i = n
        · rw [e]; exact f.2
        · exact f.1 i (by omega)
    rw [key]
    cases hp : p n <;> cases hq : q n <;> cases hs : s n <;> simp [hp, hq, hs] at b1 b2 b3 ⊢
    all_goals (constructor)
    all_goals (first | omega | (rw [← a2]; omega))
theorem fin_d {wc : Nat → Nat → Int32} {c : Nat} : ¬ (stC wc 3 c = true ∧ stC wc 4 c = true) := by
  unfold stC
  rintro ⟨a, b⟩
  exact nI_ne (a := 3) (b := 4) (by omega) (by omega) (by omega) ((of_decide_eq_true a).symm.trans (of_decide_eq_true b))
theorem are_L {r : RS} {v : Nat → Int32} {cm : Nat} {a : Int32} (hcm : cm ≤ 30) (h9 : v 9 = nI cm) (hs : ∀ k, k < cm → ∃ a, a < 5 ∧ v (137 + 25 * k + 3) = nI a) : ∀ (d y fu : Nat), y + d = cm → d < fu → (∀ k, k < y → (a = m1 ∨ v (137 + 25 * k + 0) = a) → fin (sC v) k) →
    ((∀ k, k < cm → (a = m1 ∨ v (137 + 25 * k + 0) = a) → fin (sC v) k) ∧ F8_areFinished_L2 a (setR r v) fu (nI y) = some (.inr (nI cm))) ∨ ((∃ k, k < cm ∧ (a = m1 ∨ v (137 + 25 * k + 0) = a) ∧ ¬ fin (sC v) k) ∧ F8_areFinished_L2 a (setR r v) fu (nI y) = some (.inl (nI 0))) := by
  intro d
  induction d with
  | zero =>
    intro y fu hy hfu hn
    obtain ⟨fu, rfl⟩ : ∃ m, fu = m + 1 := ⟨fu - 1, by omega⟩
    obtain rfl : y = cm := by omega
    refine Or.inl ⟨hn, ?_⟩
    rw [F8_areFinished_L2, setR_1, h9, if_pos (nI_le (by omega) (by omega))]
  | succ d ih =>
    intro y fu hy hfu hn
    obtain ⟨fu, rfl⟩ : ∃ m, fu = m + 1 := ⟨fu - 1, by omega⟩
    obtain ⟨b, b1, b2⟩ := hs y (by omega)
    have b3 : sC v y 3 = nI b := by rw [← sC_r (v := v) (by omega) (by omega)]; exact b2
    have fb : fin (sC v) y ↔ 3 ≤ b := by
      unfold fin
      rw [b3, nI_eq (by omega) (by omega), nI_eq (by omega) (by omega)]; omega
    have go : (a = m1 ∨ v (137 + 25 * y + 0) = a) → (F8_isFinished (setR r v) (nI y)).bind (fun x12 => if x12 = nI 0 then (some (.inl (nI 0))) else (F8_areFinished_L2 a (setR r v) fu (nI (y + 1)))) = F8_areFinished_L2 a (setR r v) (fu + 1) (nI y) → ((∀ k, k < cm → (a = m1 ∨ v (137 + 25 * k + 0) = a) → fin (sC v) k) ∧ F8_areFinished_L2 a (setR r v) (fu + 1) (nI y) = some (.inr (nI cm))) ∨ ((∃ k, k < cm ∧ (a = m1 ∨ v (137 + 25 * k + 0) = a) ∧ ¬ fin (sC v) k) ∧ F8_areFinished_L2 a (setR r v) (fu + 1) (nI y) = some (.inl (nI 0))) := fun hc e => by
      rw [← e, isFin_v (by omega) b1 b2, bS]
      by_cases hb : b < 3
      · rw [if_pos hb, if_pos rfl]
        exact Or.inr ⟨⟨y, by omega, hc, fun f => by have := fb.mp f; omega⟩, rfl⟩
      · rw [if_neg hb, if_neg nz0]
        exact ih (y + 1) fu (by omega) (by omega) fun k hk hk2 => by
          by_cases ek : k = y
          · rw [ek]; exact fb.mpr (by omega)
          · exact hn k (by omega) hk2
    by_cases hm : a = m1
    · refine go (Or.inl hm) ?_
      rw [F8_areFinished_L2]
      simp only [lit32, neg1]
      rw [setR_1, h9, if_neg (nI_ge (by omega) (by omega)), if_pos hm, nI_add]
    · by_cases hl : v (137 + 25 * y + 0) = a
      · refine go (Or.inr hl) ?_
        rw [F8_areFinished_L2]
        simp only [lit32, neg1]
        rw [setR_1, h9, if_neg (nI_ge (by omega) (by omega)), if_neg hm, F8_ofCard_v (by omega) (by omega), bS, if_pos hl, nI_add]
      · rw [F8_areFinished_L2]
        simp only [lit32, neg1]
        rw [setR_1, h9, if_neg (nI_ge (by omega) (by omega)), if_neg hm, F8_ofCard_v (by omega) (by omega), bS, if_neg hl, nI_add]
        exact ih (y + 1) fu (by omega) (by omega) fun k hk hk2 => by
          by_cases ek : k = y
          · rw [ek] at hk2
            rcases hk2 with q | q
            · exact absurd q hm
            · exact absurd q hl
          · exact hn k (by omega) hk2
theorem are_ok {r c : RS} {g : CG} {L sm lm cm B U : Nat} {v : Nat → Int32} {a : Int32} (h : QY c g L v sm lm cm B U) : ((∀ k, k < cm → (a = m1 ∨ v (137 + 25 * k + 0) = a) → fin (sC v) k) ∧ F8_areFinished (setR r v) a = some (nI 1)) ∨ ((∃ k, k < cm ∧ (a = m1 ∨ v (137 + 25 * k + 0) = a) ∧ ¬ fin (sC v) k) ∧ F8_areFinished (setR r v) a = some (nI 0)) := by
  have hcm := h.a.cm30
  have := are_L (r := r) (v := v) (a := a) hcm h.v9 (fun k hk => by
    obtain ⟨b, b1, b2⟩ := h.c.state k hk
    exact ⟨b, b1, by rw [QR.rc h hk (by omega) (by omega), sC_r (v := c (10 + L)) (by omega) (by omega)]; exact b2⟩) cm 0 FUEL (by omega) (by show cm < 10000; omega) (fun k hk => by omega)
  unfold F8_areFinished
  simp only [lit32]
  rcases this with ⟨a1, a2⟩ | ⟨a1, a2⟩
  · exact Or.inl ⟨a1, by rw [a2, bS]⟩
  · exact Or.inr ⟨a1, by rw [a2, bS]⟩
theorem are_sm {r c c2 : RS} {g : CG} {sm lm cm B U : Nat} {v v2 : Nat → Int32} {a : Int32} (h : QY c g 1 v sm lm cm B U) (k : SM v (c (10 + 1)) (c (400 + 1)) v2 (c2 (10 + 1)) (c2 (400 + 1))) : F8_areFinished (setR r v2) a = F8_areFinished (setR r v) a := by
  have hcm := h.a.cm30
  have h9 : v2 9 = v 9 := k.2.2.2.2.2.2.2.1 9 (by omega) (by omega) (by omega) (by omega)
  have hC : ∀ q j, q < 30 → j < 25 → v2 (137 + 25 * q + j) = v (137 + 25 * q + j) := fun q j a b => by rw [sC_r (v := v2) a b, sC_r (v := v) a b, k.2.2.2.1]
  have hL : ∀ (d y fu : Nat), y + d = cm → F8_areFinished_L2 a (setR r v2) fu (nI y) = F8_areFinished_L2 a (setR r v) fu (nI y) := by
    intro d
    induction d with
    | zero =>
      intro y fu hy
      cases fu with
      | zero => rfl
      | succ fu =>
        rw [F8_areFinished_L2, F8_areFinished_L2, setR_1, setR_1, h9, h.v9, if_pos (nI_le (by omega) (by omega)), if_pos (nI_le (by omega) (by omega))]
    | succ d ih =>
      intro y fu hy
      cases fu with
      | zero => rfl
      | succ fu =>
        rw [F8_areFinished_L2, F8_areFinished_L2]
        unfold F8_isFinished
        simp only [lit32, neg1]
        rw [setR_1, setR_1, h9, h.v9, if_neg (nI_ge (by omega) (by omega)), if_neg (nI_ge (by omega) (by omega)), F8_ofCard_v (by omega) (by omega), F8_ofCard_v (by omega) (by omega), F8_ofCard_v (by omega) (by omega), F8_ofCard_v (by omega) (by omega), hC y 3 (by omega) (by omega), hC y 0 (by omega) (by omega), nI_add, ih (y + 1) fu (by omega)]
  unfold F8_areFinished
  simp only [lit32]
  rw [hL cm 0 FUEL (by omega)]
theorem fin_v {c : RS} {g : CG} {L sm lm cm B U k : Nat} {v : Nat → Int32} (h : QY c g L v sm lm cm B U) (hk : k < cm) : fin (sC v) k ↔ fin (sC (c (10 + L))) k := by
  unfold fin; rw [h.c.eqc k 3 hk (by omega) (by omega)]
theorem cnt_true {n : Nat} : cnt n (fun _ => true) = n := by
  induction n with
  | zero => rfl
  | succ n ih => unfold cnt; rw [ih]; rfl
theorem fin_st {wc : Nat → Nat → Int32} {k : Nat} : fin wc k ↔ stC wc 3 k = true ∨ stC wc 4 k = true := by
  unfold fin stC; rw [decide_eq_true_iff, decide_eq_true_iff]
theorem met_2 {r : RS} {g : CG} {sm lm cm : Nat} {t : Int32} : MET (fun u => F8_isMet u (nI 2) m1 t) (fun u2 => C3_hasHappened_e2 g u2 1 m1) r g sm lm cm := by
  intro v c B U h
  have hcm := h.a.cm30
  obtain ⟨b1, b2⟩ := cnt_add (n := cm) (p := stC (sC (c (10 + 1))) 3) (q := stC (sC (c (10 + 1))) 4) (s := fun _ => true) (fun i _ => ⟨fun _ => rfl, fun _ => rfl, fin_d⟩)
  rw [cnt_true] at b1 b2
  have eC : C3_hasHappened_e2 g c 1 m1 = some (if cnt cm (stC (sC (c (10 + 1))) 3) + cnt cm (stC (sC (c (10 + 1))) 4) = cm then nI 1 else nI 0) := by
    unfold C3_hasHappened_e2
    simp only [lit32]
    rw [h.n.ins 3 (by omega), h.n.ins 4 (by omega), nI_add, h.n9]
    by_cases e : cnt cm (stC (sC (c (10 + 1))) 3) + cnt cm (stC (sC (c (10 + 1))) 4) = cm
    · rw [if_pos (congrArg nI e), if_pos e, bS, nz_1, bS]
    · rw [if_neg (nI_ne e (by omega) (by omega)), if_neg e, bS, nz_0, bS]
  have eF : F8_isMet (setR r v) (nI 2) m1 t = F8_areFinished (setR r v) m1 := by
    unfold F8_isMet
    simp only [lit32, neg1]
    rw [if_neg (nI_ne (by omega) (by omega) (by omega)), if_neg (nI_ne (by omega) (by omega) (by omega)), if_pos trivial]
    rcases are_ok (r := r) (a := m1) h with ⟨-, e⟩ | ⟨-, e⟩
    · rw [e, bS, nz_1, bS]
    · rw [e, bS, nz_0, bS]
  show (F8_isMet (setR r v) (nI 2) m1 t = _ ∧ C3_hasHappened_e2 g c 1 m1 = _) ∨ (F8_isMet (setR r v) (nI 2) m1 t = _ ∧ C3_hasHappened_e2 g c 1 m1 = _)
  rw [eF, eC]
  rcases are_ok (r := r) (a := m1) h with ⟨f, e⟩ | ⟨⟨k, k1, k2, k3⟩, e⟩
  · refine Or.inr ⟨e, ?_⟩
    rw [if_pos (b2.mpr fun i hi _ => fin_st.mp ((fin_v h hi).mp (f i hi (Or.inl rfl))))]
  · refine Or.inl ⟨e, ?_⟩
    rw [if_neg fun q => k3 ((fin_v h k1).mpr (fin_st.mpr (b2.mp q k k1 rfl)))]
theorem msm_2 {r : RS} {g : CG} {sm lm cm : Nat} {t : Int32} : MSM (fun u => F8_isMet u (nI 2) m1 t) r g sm lm cm := by
  intro v c B U v2 c2 h k e
  have := are_sm (r := r) (a := m1) (c2 := c2) h k
  revert e
  show F8_isMet (setR r v) (nI 2) m1 t = _ → F8_isMet (setR r v2) (nI 2) m1 t = _
  unfold F8_isMet
  simp only [lit32, neg1]
  rw [if_neg (nI_ne (by omega) (by omega) (by omega)), if_neg (nI_ne (by omega) (by omega) (by omega)), if_pos trivial, if_neg (nI_ne (by omega) (by omega) (by omega)), if_neg (nI_ne (by omega) (by omega) (by omega)), if_pos trivial, this]
  exact fun e => e
theorem met_1 {r : RS} {g : CG} {sm lm cm l : Nat} {t : Int32} (hl : l < lm) : MET (fun u => F8_isMet u (nI 1) (nI l) t) (fun u2 => C3_hasHappened_e1 g u2 1 (nI l)) r g sm lm cm := by
  intro v c B U h
  have hcm := h.a.cm30; have hlm := h.a.lm6
  have hl6 : l < 6 := by omega
  obtain ⟨b1, b2⟩ := cnt_add (n := cm) (p := lsC (sC (c (10 + 1))) l 3) (q := lsC (sC (c (10 + 1))) l 4) (s := loC (sC (c (10 + 1))) l) (fun i _ => by
    unfold lsC loC
    refine ⟨fun q => decide_eq_true (of_decide_eq_true q).1, fun q => decide_eq_true (of_decide_eq_true q).1, ?_⟩
    rintro ⟨a, b⟩
    exact nI_ne (a := 3) (b := 4) (by omega) (by omega) (by omega) ((of_decide_eq_true a).2.symm.trans (of_decide_eq_true b).2))
  have hz := cnt_le (n := cm) (p := loC (sC (c (10 + 1))) l)
  have eC : C3_hasHappened_e1 g c 1 (nI l) = some (if cnt cm (lsC (sC (c (10 + 1))) l 3) + cnt cm (lsC (sC (c (10 + 1))) l 4) = cnt cm (loC (sC (c (10 + 1))) l) then nI 1 else nI 0) := by
    unfold C3_hasHappened_e1 C4_isFinished
    simp only [lit32]
    rw [ix_n hl6 (by omega), bS, sE_r (v := c (10 + 1)) hl6 (by omega), sE_r (v := c (10 + 1)) hl6 (by omega), sL_r (v := c (10 + 1)) hl6 (by omega), h.l.left l hl, h.l.gave l hl, h.l.size l hl, nI_add]
    by_cases e : cnt cm (lsC (sC (c (10 + 1))) l 3) + cnt cm (lsC (sC (c (10 + 1))) l 4) = cnt cm (loC (sC (c (10 + 1))) l)
    · rw [if_pos (congrArg nI e), if_pos e, bS, nz_1, bS, bS, nz_1, bS]
    · rw [if_neg (nI_ne e (by omega) (by omega)), if_neg e, bS, nz_0, bS, bS, nz_0, bS]
  have eF : F8_isMet (setR r v) (nI 1) (nI l) t = F8_areFinished (setR r v) (nI l) := by
    unfold F8_isMet
    simp only [lit32, neg1]
    rw [if_neg (nI_ne (by omega) (by omega) (by omega)), if_pos trivial]
    rcases are_ok (r := r) (a := nI l) h with ⟨-, e⟩ | ⟨-, e⟩
    · rw [e, bS, nz_1, bS]
    · rw [e, bS, nz_0, bS]
  have cond : ∀ k, k < cm → ((nI l = m1 ∨ v (137 + 25 * k + 0) = nI l) ↔ loC (sC (c (10 + 1))) l k = true) := fun k hk => by
    unfold loC
    rw [decide_eq_true_iff, QR.rc h hk (by omega) (by omega), sC_r (v := c (10 + 1)) (by omega) (by omega)]
    constructor
    · rintro (q | q)
      · exact absurd q (m1_ne (by omega))
      · exact q
    · exact Or.inr
  have conl : ∀ k, loC (sC (c (10 + 1))) l k = true → (fin (sC (c (10 + 1))) k ↔ lsC (sC (c (10 + 1))) l 3 k = true ∨ lsC (sC (c (10 + 1))) l 4 k = true) := fun k hk => by
    unfold loC at hk
    have hk := of_decide_eq_true hk
    unfold lsC fin
    rw [decide_eq_true_iff, decide_eq_true_iff]
    constructor
    · rintro (q | q)
      · exact Or.inl ⟨hk, q⟩
      · exact Or.inr ⟨hk, q⟩
    · rintro (q | q)
      · exact Or.inl q.2
      · exact Or.inr q.2
  show (F8_isMet (setR r v) (nI 1) (nI l) t = _ ∧ C3_hasHappened_e1 g c 1 (nI l) = _) ∨ (F8_isMet (setR r v) (nI 1) (nI l) t = _ ∧ C3_hasHappened_e1 g c 1 (nI l) = _)
  rw [eF, eC]
  rcases are_ok (r := r) (a := nI l) h with ⟨f, e⟩ | ⟨⟨k, k1, k2, k3⟩, e⟩
  · refine Or.inr ⟨e, ?_⟩
    rw [if_pos (b2.mpr fun i hi q => (conl i q).mp ((fin_v h hi).mp (f i hi ((cond i hi).mpr q))))]
  · refine Or.inl ⟨e, ?_⟩
    have q2 := (cond k k1).mp k2
    rw [if_neg fun q => k3 ((fin_v h k1).mpr ((conl k q2).mpr (b2.mp q k k1 q2)))]
theorem msm_1 {r : RS} {g : CG} {sm lm cm : Nat} {t a : Int32} : MSM (fun u => F8_isMet u (nI 1) a t) r g sm lm cm := by
  intro v c B U v2 c2 h k e
  have := are_sm (r := r) (a := a) (c2 := c2) h k
  revert e
  show F8_isMet (setR r v) (nI 1) a t = _ → F8_isMet (setR r v2) (nI 1) a t = _
  unfold F8_isMet
  simp only [lit32, neg1]
  rw [if_neg (nI_ne (by omega) (by omega) (by omega)), if_pos trivial, if_neg (nI_ne (by omega) (by omega) (by omega)), if_pos trivial, this]
  exact fun e => e
theorem met_0 {r : RS} {g : CG} {sm lm cm q : Nat} {t : Int32} (hq : q < cm) : MET (fun u => F8_isMet u (nI 0) (nI q) t) (fun u2 => C3_hasHappened_e0 g u2 1 (nI q)) r g sm lm cm := by
  intro v c B U h
  have hcm := h.a.cm30
  have e3 : v (137 + 25 * q + 3) = c (10 + 1) (137 + 25 * q + 3) := QR.rc h hq (by omega) (by omega)
  show (F8_isMet (setR r v) (nI 0) (nI q) t = _ ∧ C3_hasHappened_e0 g c 1 (nI q) = _) ∨ (F8_isMet (setR r v) (nI 0) (nI q) t = _ ∧ C3_hasHappened_e0 g c 1 (nI q) = _)
  unfold F8_isMet C3_hasHappened_e0
  simp only [lit32, neg1]
  rw [if_pos trivial, F8_ofCard_v (by omega) (by omega), bS, e3, ix_n (by omega) (by omega), bS]
  by_cases e : c (10 + 1) (137 + 25 * q + 3) = nI 3
  · rw [if_pos e, bS, nz_1, bS]; exact Or.inr ⟨rfl, rfl⟩
  · rw [if_neg e, bS, nz_0, bS]; exact Or.inl ⟨rfl, rfl⟩
theorem msm_0 {r : RS} {g : CG} {sm lm cm q : Nat} {t : Int32} (hq : q < 30) : MSM (fun u => F8_isMet u (nI 0) (nI q) t) r g sm lm cm := by
  intro v c B U v2 c2 h k e
  have e3 : v2 (137 + 25 * q + 3) = v (137 + 25 * q + 3) := by rw [sC_r (v := v2) hq (by omega), sC_r (v := v) hq (by omega), k.2.2.2.1]
  revert e
  show F8_isMet (setR r v) (nI 0) (nI q) t = _ → F8_isMet (setR r v2) (nI 0) (nI q) t = _
  unfold F8_isMet
  simp only [lit32, neg1]
  rw [if_pos trivial, if_pos trivial, F8_ofCard_v (by omega) (by omega), F8_ofCard_v (by omega) (by omega), e3]
  exact fun e => e
theorem met_4 {r : RS} {g : CG} {sm lm cm s : Nat} {t : Int32} (hs : s < sm) : MET (fun u => F8_isMet u (nI 4) (nI s) t) (fun u2 => C3_hasHappened_e4 g u2 1 (nI s)) r g sm lm cm := by
  intro v c B U h
  have hsm := h.a.sm6
  have e3 : v (17 + 16 * s + 11) = c (10 + 1) (17 + 16 * s + 11) := QR.rs h hs (by omega) (by omega)
  show (F8_isMet (setR r v) (nI 4) (nI s) t = _ ∧ C3_hasHappened_e4 g c 1 (nI s) = _) ∨ (F8_isMet (setR r v) (nI 4) (nI s) t = _ ∧ C3_hasHappened_e4 g c 1 (nI s) = _)
  unfold F8_isMet C3_hasHappened_e4
  simp only [lit32, neg1]
  rw [if_neg (nI_ne (by omega) (by omega) (by omega)), if_neg (nI_ne (by omega) (by omega) (by omega)), if_neg (nI_ne (by omega) (by omega) (by omega)), if_neg (nI_ne (by omega) (by omega) (by omega)), F8_of_v (by omega) (by omega), bS, e3, ix_n (by omega) (by omega), bS]
  by_cases e : c (10 + 1) (17 + 16 * s + 11) ≤ nI 0
  · rw [if_pos e, bS, nz_0, bS]; exact Or.inl ⟨rfl, rfl⟩
  · rw [if_neg e, bS, nz_1, bS]; exact Or.inr ⟨rfl, rfl⟩
theorem msm_4 {r : RS} {g : CG} {sm lm cm s : Nat} {t : Int32} (hs : s < 6) : MSM (fun u => F8_isMet u (nI 4) (nI s) t) r g sm lm cm := by
  intro v c B U v2 c2 h k e
  have e3 : v2 (17 + 16 * s + 11) = v (17 + 16 * s + 11) := by rw [sS_r (v := v2) hs (by omega), sS_r (v := v) hs (by omega), k.2.1]
  revert e
  show F8_isMet (setR r v) (nI 4) (nI s) t = _ → F8_isMet (setR r v2) (nI 4) (nI s) t = _
  unfold F8_isMet
  simp (disch := omega) only [lit32, neg1, ifn, if_true]
  rw [F8_of_v (by omega) (by omega), F8_of_v (by omega) (by omega), e3]
  exact fun e => e
noncomputable def hap3 (s : Nat) (t : Int32) : RS → Option Int32 := fun u => some (if u (10 + 1) (17 + 16 * s + 5) ≤ t then nI 0 else nI 1)
theorem met_3 {r : RS} {g : CG} {sm lm cm s : Nat} {t : Int32} (hs : s < sm) : MET (fun u => F8_isMet u (nI 3) (nI s) t) (hap3 s t) r g sm lm cm := by
  intro v c B U h
  have hsm := h.a.sm6
  have e3 : v (17 + 16 * s + 5) = c (10 + 1) (17 + 16 * s + 5) := QR.rs h hs (by omega) (by omega)
  show (F8_isMet (setR r v) (nI 3) (nI s) t = _ ∧ hap3 s t c = _) ∨ (F8_isMet (setR r v) (nI 3) (nI s) t = _ ∧ hap3 s t c = _)
  unfold F8_isMet hap3
  simp only [lit32, neg1]
  rw [if_neg (nI_ne (by omega) (by omega) (by omega)), if_neg (nI_ne (by omega) (by omega) (by omega)), if_neg (nI_ne (by omega) (by omega) (by omega)), if_pos trivial, F8_of_v (by omega) (by omega), bS, e3]
  by_cases e : c (10 + 1) (17 + 16 * s + 5) ≤ t
  · rw [if_pos e, if_pos e, bS, nz_0, bS]; exact Or.inl ⟨rfl, rfl⟩
  · rw [if_neg e, if_neg e, bS, nz_1, bS]; exact Or.inr ⟨rfl, rfl⟩
theorem hap3_0 {g : CG} {s : Nat} (hs : s < 6) : (fun u2 => C3_hasHappened_e3 g u2 1 (nI s)) = hap3 s (nI 0) := by
  funext u
  unfold C3_hasHappened_e3 hap3
  simp only [lit32]
  rw [ix_n hs (by omega), bS]
  by_cases e : u (10 + 1) (17 + 16 * s + 5) ≤ nI 0
  · rw [if_pos e, if_pos e, bS, nz_0, bS]
  · rw [if_neg e, if_neg e, bS, nz_1, bS]
theorem msm_3 {r : RS} {g : CG} {sm lm cm s : Nat} {t : Int32} (hs : s < 6) : MSM (fun u => F8_isMet u (nI 3) (nI s) t) r g sm lm cm := by
  intro v c B U v2 c2 h k e
  have e3 : v2 (17 + 16 * s + 5) = v (17 + 16 * s + 5) := by rw [sS_r (v := v2) hs (by omega), sS_r (v := v) hs (by omega), k.2.1]
  revert e
  show F8_isMet (setR r v) (nI 3) (nI s) t = _ → F8_isMet (setR r v2) (nI 3) (nI s) t = _
  unfold F8_isMet
  simp (disch := omega) only [lit32, neg1, ifn, if_true]
  rw [F8_of_v (by omega) (by omega), F8_of_v (by omega) (by omega), e3]
  exact fun e => e
