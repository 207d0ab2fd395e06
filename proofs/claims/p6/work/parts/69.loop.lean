noncomputable def ST (w : Nat → Int32) (sm s : Nat) : Prop := STw w s ∧ ¬ RG w sm s
theorem passes_F {u : RS} {s : Nat} : F8_stationPasses u (nI s) = (stF u s).bind fun t => rdyF t (nI s) := by
  unfold F8_stationPasses stF rdyF
  simp only [lit32, neg1]
  cases F8_of u (nI s) (nI 11) with
  | none => rfl
  | some x => rfl
theorem tick_C {g : CG} {L fu s : Nat} {u : RS} (hs : s < 6) : C3_tick_L12 L g (fu + 1) (nI s) u = ((C3_restOrWork g u L s).bind fun t24 => (if t24.1 = 0 then rdyC g L t24.2 s (nI s) else (C3_failCardIn g t24.2 L s) : Option RS)).bind fun t27 => C3_tick_L12 L g fu (nI s + m1) t27 := by
  rw [C3_tick_L12]
  rw [if_neg (nI_pos (by omega)), ix_n (by omega) (by omega), bS]
  simp only [lit32, neg1, bSome]
  cases C3_restOrWork g u L s with
  | none => rfl
  | some t =>
    rw [bS, bS]
    unfold rdyC
    simp only [lit32, neg1, bSome]
theorem pass_ok {r c : RS} {g : CG} {L sm lm cm B U s u : Nat} {v w iv : Nat → Int32} (hL : L < 12) (hg : g.nt < 2 ^ 31) (hU2 : U < 2000000000) (h : QX c g L v w iv sm lm cm B U) (hs : s < sm) (hu : sS w s 4 = nI u) (hU : u + 1 ≤ U) :
    ∃ v' w' iv', F8_stationPasses (setR r v) (nI s) = some (setR r v') ∧ (∀ fu, C3_tick_L12 L g (fu + 1) (nI s) (setL c L w iv) = C3_tick_L12 L g fu (nI s + m1) (setL c L w' iv')) ∧ QX c g L v' w' iv' sm lm cm B U ∧ (∀ s', s' < s → sS w' s' 4 = sS w s' 4) ∧ ((ST w sm s ∧ v' = v ∧ w' = w ∧ iv' = iv) ∨ (¬ ST w sm s ∧ w' 1060 = nI 1)) := by
  have hsm := h.a.sm6
  have hs6 : s < 6 := by omega
  obtain ⟨v1, w1, iv1, b, a1, a2, a3, a4, a5⟩ := work_ok (r := r) hL hg hU2 h hs hu hU
  rcases a2 with ⟨rfl, a2⟩ | ⟨rfl, ah, w0, iv0, a2, a6⟩
  · obtain ⟨v', w', iv', k1, k2, k3, k4, k5⟩ := rdy_ok (r := r) hL hg a3 hs
    refine ⟨v', w', iv', ?_, fun fu => ?_, k3, fun s' hs' => (k4 s' hs').trans (a4 s' hs'), ?_⟩
    · rw [passes_F, a1, bS, k1]
    · rw [tick_C hs6, a2, bS]
      rw [if_pos e00, k2, bS]
    · rcases a5 with ⟨m1_, -, rfl, rfl, rfl⟩ | ⟨m1_, m2⟩
      · rcases k5 with ⟨n1, rfl, rfl, rfl⟩ | ⟨n1, n2⟩
        · exact Or.inl ⟨⟨m1_, n1⟩, rfl, rfl, rfl⟩
        · exact Or.inr ⟨fun q => q.2 n1, n2⟩
      · refine Or.inr ⟨fun q => m1_ q.1, ?_⟩
        rcases k5 with ⟨-, -, rfl, -⟩ | ⟨-, n2⟩
        · exact m2
        · exact n2
  · have hsm2 : sS v1 s 2 = sS w1 s 2 := a3.s.eqs s 2 hs (by omega) (by omega)
    obtain ⟨n, hn, en⟩ := a3.s.need s hs
    refine ⟨v1, w1, iv1, ?_, fun fu => ?_, a3, a4, ?_⟩
    · rw [passes_F, a1, bS]
      unfold rdyF
      rw [isReady_v (n := n) (x := m1) hs6 (by rw [sS_r (v := v1) (by omega) (by omega)]; exact ah) (by rw [sS_r (v := v1) (by omega) (by omega), a3.s.eqs s 3 hs (by omega) (by omega)]; exact en) (by omega), if_pos (Or.inl rfl), bS, if_pos e00, bS]
    · rw [tick_C hs6, a2, bS]
      rw [if_neg ne10, a6, bS]
    · rcases a5 with ⟨-, q, -⟩ | ⟨m1_, m2⟩
      · exact absurd q (by decide)
      · exact Or.inr ⟨fun q => m1_ q.1, m2⟩
theorem loop_ok {r c : RS} {g : CG} {L sm lm cm B U : Nat} (hL : L < 12) (hg : g.nt < 2 ^ 31) (hU2 : U < 2000000000) : ∀ (s fu fu2 : Nat) (v w iv : Nat → Int32), s ≤ sm → s < fu → s < fu2 → QX c g L v w iv sm lm cm B U → (∀ s', s' < s → ∃ u, u + 1 ≤ U ∧ sS w s' 4 = nI u) →
    ∃ v' w' iv', F8_passes_L10 fu (if s = 0 then m1 else nI (s - 1)) (setR r v) = some (m1, setR r v') ∧ C3_tick_L12 L g fu2 (if s = 0 then m1 else nI (s - 1)) (setL c L w iv) = some (m1, setL c L w' iv') ∧ QX c g L v' w' iv' sm lm cm B U ∧ (((∀ s', s' < s → ST w sm s') ∧ v' = v ∧ w' = w ∧ iv' = iv) ∨ (¬ (∀ s', s' < s → ST w sm s') ∧ w' 1060 = nI 1) ∨ (w 1060 = nI 1 ∧ w' 1060 = nI 1)) := by
  intro s
  induction s with
  | zero =>
    intro fu fu2 v w iv hs h1 h2 h hu
    obtain ⟨fu, rfl⟩ : ∃ m, fu = m + 1 := ⟨fu - 1, by omega⟩
    obtain ⟨fu2, rfl⟩ : ∃ m, fu2 = m + 1 := ⟨fu2 - 1, by omega⟩
    refine ⟨v, w, iv, ?_, ?_, h, Or.inl ⟨fun s' q => by omega, rfl, rfl, rfl⟩⟩
    · rw [F8_passes_L10, if_pos rfl, if_pos (show m1 < 0 by decide)]
    · rw [C3_tick_L12, if_pos rfl, if_pos (show m1 < 0 by decide)]
  | succ s ih =>
    intro fu fu2 v w iv hs h1 h2 h hu
    obtain ⟨fu, rfl⟩ : ∃ m, fu = m + 1 := ⟨fu - 1, by omega⟩
    obtain ⟨fu2, rfl⟩ : ∃ m, fu2 = m + 1 := ⟨fu2 - 1, by omega⟩
    have hsm := h.a.sm6
    obtain ⟨u, hu1, hu2⟩ := hu s (by omega)
    obtain ⟨v1, w1, iv1, a1, a2, a3, a4, a5⟩ := pass_ok (r := r) hL hg hU2 h (by omega) hu2 hu1
    have hi : nI s + m1 = if s = 0 then m1 else nI (s - 1) := by
      by_cases e : s = 0
      · subst e; rfl
      · rw [if_neg e, im1 (by omega)]
    obtain ⟨v', w', iv', b1, b2, b3, b4⟩ := ih fu fu2 v1 w1 iv1 (by omega) (by omega) (by omega) a3 (fun s' hs' => by obtain ⟨u', x1, x2⟩ := hu s' (by omega); exact ⟨u', x1, by rw [a4 s' hs']; exact x2⟩)
    refine ⟨v', w', iv', ?_, ?_, b3, ?_⟩
    · rw [F8_passes_L10, if_neg (show ¬ s + 1 = 0 by omega), show s + 1 - 1 = s by omega, if_neg (nI_pos (by omega)), a1, bS]
      simp only [lit32, neg1]
      rw [hi]; exact b1
    · rw [if_neg (show ¬ s + 1 = 0 by omega), show s + 1 - 1 = s by omega, a2, hi]; exact b2
    · rcases a5 with ⟨c1, rfl, rfl, rfl⟩ | ⟨c1, c2⟩
      · rcases b4 with ⟨d1, rfl, rfl, rfl⟩ | ⟨d1, d2⟩ | ⟨d1, d2⟩
        · exact Or.inl ⟨fun s' hs' => by
            by_cases e : s' = s
            · rw [e]; exact c1
            · exact d1 s' (by omega), rfl, rfl, rfl⟩
        · exact Or.inr (Or.inl ⟨fun q => d1 fun s' hs' => q s' (by omega), d2⟩)
        · exact Or.inr (Or.inr ⟨d1, d2⟩)
      · refine Or.inr (Or.inl ⟨fun q => c1 (q s (by omega)), ?_⟩)
        rcases b4 with ⟨-, -, rfl, -⟩ | ⟨-, d2⟩ | ⟨-, d2⟩
        · exact c2
        · exact d2
        · exact d2
