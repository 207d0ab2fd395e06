noncomputable def RT (u w : RS) (d len : Nat) (st ct : Nat → Nat) : Prop := d ≤ 3 ∧ u 0 11 = nI d ∧ u 0 10 = nI len ∧ w 0 19 = nI len ∧ st 0 = 0 ∧ (∀ k, k < d → st k ≤ st (k + 1) ∧ st (k + 1) ≤ st k + 16) ∧ st d ≤ len ∧ len ≤ st d + 16 ∧ (∀ k, k ≤ d → u 5 k = nI (st k) ∧ w 8 k = nI (st k)) ∧ (∀ k, 1 ≤ k → k ≤ d → u 6 k = nI (ct k) ∧ 2 ≤ ct k ∧ ct k ≤ 9) ∧ ∀ k, k < len → u 4 k = w 7 k ∧ ∃ a, a < 26 ∧ w 7 k = nI a
theorem RT.le {u w : RS} {d len : Nat} {st ct : Nat → Nat} (h : RT u w d len st ct) : ∀ k, k ≤ d → st k ≤ 16 * k := by
  obtain ⟨h1, h2, h3, h4, h5, h6, -⟩ := h
  intro k
  induction k with
  | zero => intro _; omega
  | succ k ih =>
    intro hk
    have := ih (by omega)
    have := (h6 k (by omega)).2
    omega
theorem RT.fr {u w u' w' : RS} {d len : Nat} {st ct : Nat → Nat} (h : RT u w d len st ct) (fc : FC u' u) (fw : FW w' w) : RT u' w' d len st ct := by
  obtain ⟨h1, h2, h3, h4, h5, h6, h7, h8, h9, h10, h11⟩ := h
  refine ⟨h1, (fc.2 11 (by decide) (by decide) (by decide)).trans h2, (fc.2 10 (by decide) (by decide) (by decide)).trans h3, (fw.2 19 (by decide) (by decide) (by decide) (by decide)).trans h4, h5, h6, h7, h8, fun k hk => ?_, fun k p q => ?_, fun k hk => ?_⟩
  · rw [fc.1 5 (by decide), fw.1 8 (by decide)]; exact h9 k hk
  · rw [fc.1 6 (by decide)]; exact h10 k p q
  · rw [fc.1 4 (by decide), fw.1 7 (by decide)]; exact h11 k hk
theorem rowLen {u w : RS} {g : CG} {d len : Nat} {st ct : Nat → Nat} (h : RT u w d len st ct) : C5_rowLength g u (nI d) = some (nI (len - st d)) := by
  have hl := h.le d (Nat.le_refl _)
  obtain ⟨h1, h2, h3, h4, h5, h6, h7, h8, h9, h10, h11⟩ := h
  unfold C5_rowLength
  rw [h2, if_pos rfl, bS, rd_n (by omega) (by omega), bS, h3, (h9 d (Nat.le_refl _)).1, nI_sub h7]
theorem rowLen1 {u w : RS} {g : CG} {d len k : Nat} {st ct : Nat → Nat} (h : RT u w d len st ct) (hk : k < d) : C5_rowLength g u (nI k) = some (nI (st (k + 1) - st k)) := by
  obtain ⟨h1, h2, h3, h4, h5, h6, h7, h8, h9, h10, h11⟩ := h
  unfold C5_rowLength
  rw [h2, if_neg (nI_ne (by omega) (by omega) (by omega)), show nI k + 1 = nI (k + 1) from nI_add _ 1, rd_n (by omega) (by omega), bS, bS, rd_n (by omega) (by omega), bS, (h9 k (by omega)).1, (h9 (k + 1) (by omega)).1, nI_sub (h6 k hk).1]
theorem letter2 {b : Nat → Int32} {n i d len : Nat} {st ct : Nat → Nat} {g : CG} {u w : RS} (hb : BB b n) (h : OKs b n i u w) (h10 : w 0 10 = nI i) (ht : RT u w d len st ct) (hc : 97 ≤ ch b n i ∧ ch b n i ≤ 122) : ∃ u' w', C5_readLetter g u (b i) = some u' ∧ F8_takes w (nI d) (hv (ch b n i) - 97) = some w' ∧ XC g.nt u' u ∧ XW w' w ∧ ((OKs b n (i + 1) u' w' ∧ RT u' w' d (len + 1) st ct ∧ (∀ R, 10 ≤ R → u' R = u R) ∧ w' 1 = w 1) ∨ (ERs b n u' w' ∧ (∀ R, 10 ≤ R → u' R = u R))) := by
  have hn := hb.1
  have hin : i < n := ch_lt (b := b) (by omega)
  have hbi := hb.2 i hin
  have hld := ht.le d (Nat.le_refl _)
  obtain ⟨o1, o2, o3, o4, o5, o6, o7⟩ := h
  have hx : hv (ch b n i) = nI (ch b n i) := (hv_eq (ch_le hb) (by omega)).mpr rfl
  have hcb : b i = nI (ch b n i) := by rw [ch_i hin]; rw [ch_i hin] at hc; exact b_num hbi (by omega)
  have htt := ht
  obtain ⟨h1, h2, h3, h4, h5, h6, h7, h8, h9, h10', h11⟩ := htt
  unfold C5_readLetter F8_takes
  rw [h2, rowLen ht, bS, rd_n (by omega) (by omega), bS, h4, (h9 d (Nat.le_refl _)).2, nI_sub h7, hx, hcb]
  by_cases c : len - st d < 16
  · rw [if_pos (show nI (len - st d) < (16 : Int32) from nI_lt (b := 16) c (by omega)), if_neg (show ¬ nI (len - st d) = (16 : Int32) from nI_ne (b := 16) (by omega) (by omega) (by omega))]
    rw [h3, ws_n (by omega) (by omega), ws_n (by omega) (by omega), bS, bS, pt_n, pt_n, bS, bS, pt_n, pt_n, bS, bS]
    have e97 : nI (ch b n i) - (97 : Int32) = nI (ch b n i - 97) := by
      show nI (ch b n i) - nI 97 = _
      rw [nI_sub hc.1]
    have enar : vp_nar .byte (nI (ch b n i) - (97 : Int32)).toInt8.toInt32 = nI (ch b n i - 97) := by
      rw [nar8, e97]
      have : ∀ k : Nat, k < 26 → (nI k).toInt8.toInt32 = nI k := by decide +kernel
      exact this _ (by omega)
    rw [enar, e97]
    refine ⟨_, _, rfl, rfl, ?_, ?_, Or.inl ⟨⟨⟨?_, fun k hk => ?_⟩, ⟨?_, fun k hk => ?_⟩, by omega, ?_, ?_, ?_, ?_⟩, ⟨h1, ?_, ?_, ?_, h5, h6, by omega, by omega, fun k hk => ?_, fun k p q => ?_, fun k hk => ?_⟩, fun R hR => ?_, ?_⟩⟩
    · refine ⟨fun R p q _ _ _ _ => by rw [up_or p, up_or p, up_or q], fun j p _ _ q _ => by rw [up_ne (by omega), up_ne (by omega), up_ne (by omega)], by rw [up_ne (by omega), up_ne (by omega), up_ne (by omega)]⟩
    · exact ⟨fun R p _ q _ => by rw [up_or p, up_or p, up_or q], fun j p _ _ _ _ q => by rw [up_ne (by omega), up_ne (by omega), up_ne (by omega)]⟩
    · rw [up_ne (by omega), up_ne (by omega), up_ne (by omega)]; exact o1.1
    · rw [up_ne (by omega), up_ne (by omega), up_ne (by omega)]; exact o1.2 k hk
    · rw [up_ne (by omega), up_ne (by omega), up_ne (by omega)]; exact o2.1
    · rw [up_ne (by omega), up_ne (by omega), up_ne (by omega)]; exact o2.2 k hk
    · rw [up_eq, up_ne (by omega), up_ne (by omega), o4]; exact nI_add i 1
    · rw [up_eq, up_ne (by omega), up_ne (by omega), o5]; exact nI_add i 1
    · rw [up_ne (by omega), up_ne (by omega), up_ne (by omega)]; exact o6
    · rw [up_ne (by omega), up_ne (by omega), up_ne (by omega)]; exact o7
    · rw [up_ne (by omega), up_ne (by omega), up_ne (by omega)]; exact h2
    · rw [up_ne (by omega), up_eq, up_ne (by omega), h3]; exact nI_add len 1
    · rw [up_ne (by omega), up_eq, up_ne (by omega), h4]; exact nI_add len 1
    · rw [up_ne (by omega), up_ne (by omega), up_ne (by omega), up_ne (by omega), up_ne (by omega), up_ne (by omega)]; exact h9 k hk
    · rw [up_ne (by omega), up_ne (by omega), up_ne (by omega)]; exact h10' k p q
    · rw [up_or (r := 4) (k := 0) (by decide), up_or (r := 4) (k := 0) (by decide), up_or (r := 7) (k := 0) (by decide), up_or (r := 7) (k := 0) (by decide)]
      by_cases e : k = len
      · subst e; rw [up_eq, up_eq]; exact ⟨rfl, _, by omega, rfl⟩
      · rw [up_ne (by omega), up_ne (by omega)]; exact h11 k (by omega)
    · rw [up_or (by omega), up_or (by omega), up_or (by omega)]
    · rw [up_or (by omega), up_or (by omega), up_or (by omega)]
  · obtain ⟨u', w', e1, e2, e3, e4, e5⟩ := err2 (g := g) (u := u) (w := w) (e := 3) o1 o2 o3 o4 o6 o7 h10 (by omega) (by omega) (by omega)
    rw [if_neg (show ¬ nI (len - st d) < (16 : Int32) from nI_nlt (b := 16) (by omega) (by omega)), if_pos (show nI (len - st d) = (16 : Int32) by rw [show len - st d = 16 by omega]; rfl), o4, show (3 : Int32) = nI 3 from rfl, e1, e2, bS, bS]
    exact ⟨u', w', rfl, rfl, e4.x, e5.w1.x, Or.inr ⟨e3, fun R hR => e4.1 R (by omega)⟩⟩
