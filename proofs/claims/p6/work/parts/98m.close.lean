theorem closeLC {g : CG} {c m s1 d : Nat} {F : Nat → Int32} (hm : 1 ≤ m) (hd : d < 3) (hc : s1 + m * c ≤ 64) (hF : ∀ j, j < m → ∃ a, a < 26 ∧ F j = nI a) : ∀ (e y f : Nat) (u : RS), y + e = c → e < f → 1 ≤ y → c ≤ 9 → u 0 10 = nI (s1 + m * y) → u 0 11 = nI (d + 1) → u 5 (d + 1) = nI s1 → (∀ j, j < m * y → u 4 (s1 + j) = F (j % m)) → ∃ u2, C5_closeGroup_L78 (nI c) (nI m) g f (nI y) u = some (nI c, u2) ∧ (∀ R, R ≠ 0 → R ≠ 4 → u2 R = u R) ∧ (∀ i, i ≠ 10 → u2 0 i = u 0 i) ∧ u2 0 10 = nI (s1 + m * c) ∧ (∀ j, j < s1 → u2 4 j = u 4 j) ∧ ∀ j, j < m * c → u2 4 (s1 + j) = F (j % m)
  | 0, y, f, u, h1, h2, h3, h9, h4, h5, h6, h7 => by
    obtain ⟨f, rfl⟩ : ∃ m, f = m + 1 := ⟨f - 1, by omega⟩
    obtain rfl : y = c := by omega
    exact ⟨u, by rw [C5_closeGroup_L78, if_pos (nI_le (Nat.le_refl _) (by omega))], fun _ _ _ => rfl, fun _ _ => rfl, h4, fun _ _ => rfl, h7⟩
  | e + 1, y, f, u, h1, h2, h3, h9, h4, h5, h6, h7 => by
    obtain ⟨f, rfl⟩ : ∃ m, f = m + 1 := ⟨f - 1, by omega⟩
    have hmy : m * (y + 1) = m * y + m := Nat.mul_succ m y
    have hle : m * (y + 1) ≤ m * c := Nat.mul_le_mul_left m (by omega)
    have hm1 : m ≤ m * y := Nat.le_mul_of_pos_right m (by omega)
    rw [C5_closeGroup_L78, if_neg (nI_ge (by omega) (by omega)), h5, rd_n (by omega) (by omega), bS, h6, h4]
    rw [cpo_b (sp := s1) (dp := s1 + m * y) (n := m) (by omega) (by omega) (by omega) (by omega) (fun j hj => by
      rw [h7 j (by omega), Nat.mod_eq_of_lt hj]
      obtain ⟨a, a1, a2⟩ := hF j hj
      rw [a2]; unfold BYT; rw [nI_toInt (by omega)]; omega), bS, bS, nI_clamp (by omega), nI_clamp (by omega), pt_n, bS]
    have r0 : ∀ R, R ≠ 4 → cpR u 4 (s1 + m * y) (u 4) s1 m R = u R := fun R hR => by unfold cpR; exact rw_ne hR
    have r4 : ∀ j, cpR u 4 (s1 + m * y) (u 4) s1 m 4 j = if s1 + m * y ≤ j ∧ j < s1 + m * y + m then u 4 (s1 + (j - (s1 + m * y))) else u 4 j := fun j => by unfold cpR; rw [rw_eq]
    rw [r0 0 (by decide), h4, nI_add, show nI y + 1 = nI (y + 1) from nI_add _ 1, show s1 + m * y + m = s1 + m * (y + 1) by omega]
    obtain ⟨u2, k1, k2, k3, k4, k5, k6⟩ := closeLC (g := g) hm hd hc hF e (y + 1) f (up (cpR u 4 (s1 + m * y) (u 4) s1 m) 0 10 (nI (s1 + m * (y + 1)))) (by omega) (by omega) (by omega) h9 up_eq (by rw [up_ne (by omega), r0 0 (by decide)]; exact h5) (by rw [up_ne (by omega), r0 5 (by decide)]; exact h6) (fun j hj => by
      rw [up_ne (by omega), r4]
      by_cases q : j < m * y
      · rw [if_neg (by omega)]; exact h7 j q
      · rw [if_pos (by omega), show s1 + (s1 + j - (s1 + m * y)) = s1 + (j - m * y) by omega, h7 _ (by omega), Nat.mod_eq_of_lt (show j - m * y < m by omega)]
        congr 1
        have := Nat.mul_add_mod m y (j - m * y)
        rw [show m * y + (j - m * y) = j by omega, Nat.mod_eq_of_lt (show j - m * y < m by omega)] at this
        exact this.symm)
    refine ⟨u2, k1, fun R p q => ?_, fun i p => ?_, k4, fun j hj => ?_, k6⟩
    · rw [k2 R p q, up_or p, r0 R q]
    · rw [k3 i p, up_ne (by omega), r0 0 (by decide)]
    · rw [k5 j hj, up_ne (by omega), r4, if_neg (by omega)]
theorem repLW {u0 : RS} {a1 : Int32} {c m s1 : Nat} {F : Nat → Int32} (hm : 1 ≤ m) (hc : s1 + m * c ≤ 64) (h0 : u0 0 19 = nI (s1 + m)) : ∀ (e y f : Nat) (w : RS), y + e = m * c → e < f → m ≤ y → w 0 19 = nI (s1 + y) → (∀ j, j < y → w 7 (s1 + j) = F (j % m)) → ∃ w2, F8_repeats_L45 u0 (nI s1) a1 (nI c) f (nI y) w = some (nI (m * c), w2) ∧ (∀ R, R ≠ 0 → R ≠ 7 → w2 R = w R) ∧ (∀ i, i ≠ 19 → w2 0 i = w 0 i) ∧ w2 0 19 = nI (s1 + m * c) ∧ (∀ j, j < s1 → w2 7 j = w 7 j) ∧ ∀ j, j < m * c → w2 7 (s1 + j) = F (j % m)
  | 0, y, f, w, h1, h2, h3, h4, h7 => by
    obtain ⟨f, rfl⟩ : ∃ m, f = m + 1 := ⟨f - 1, by omega⟩
    obtain rfl : y = m * c := by omega
    refine ⟨w, ?_, fun _ _ _ => rfl, fun _ _ => rfl, h4, fun _ _ => rfl, h7⟩
    rw [F8_repeats_L45, h0, nI_sub (by omega), show s1 + m - s1 = m by omega, nI_mul, if_pos (nI_le (Nat.le_refl _) (by omega))]
  | e + 1, y, f, w, h1, h2, h3, h4, h7 => by
    obtain ⟨f, rfl⟩ : ∃ m, f = m + 1 := ⟨f - 1, by omega⟩
    rw [F8_repeats_L45, h0, nI_sub (by omega), show s1 + m - s1 = m by omega, nI_mul, if_neg (nI_ge (by omega) (by omega)), nI_add, nI_sub (by omega), rd_n (by omega) (by omega), bS, ws_n (by omega) (by omega), bS, pt_n, bS, up_ne (by omega), h4, show nI (s1 + y) + 1 = nI (s1 + (y + 1)) from nI_add _ 1, show nI y + 1 = nI (y + 1) from nI_add _ 1]
    obtain ⟨w2, k1, k2, k3, k4, k5, k6⟩ := repLW (a1 := a1) (F := F) hm hc h0 e (y + 1) f (up (up w 7 (s1 + y) (w 7 (s1 + y - m))) 0 19 (nI (s1 + (y + 1)))) (by omega) (by omega) (by omega) up_eq (fun j hj => by
      rw [up_or (r := 7) (k := 0) (by decide)]
      by_cases q : j = y
      · subst q
        rw [up_eq, show s1 + j - m = s1 + (j - m) by omega, h7 _ (by omega)]
        congr 1
        have := Nat.add_mod_right (j - m) m
        rw [show j - m + m = j by omega] at this
        exact this.symm
      · rw [up_ne (by omega)]; exact h7 j (by omega))
    refine ⟨w2, k1, fun R p q => ?_, fun i p => ?_, k4, fun j hj => ?_, k6⟩
    · rw [k2 R p q, up_or p, up_or q]
    · rw [k3 i p, up_ne (by omega), up_ne (by omega)]
    · rw [k5 j hj, up_ne (by omega), up_ne (by omega)]
theorem RT.up {u w u' w' : RS} {d len len' : Nat} {st ct : Nat → Nat} (h : RT u w (d + 1) len st ct) (h5 : u' 5 = u 5) (h6 : u' 6 = u 6) (h8 : w' 8 = w 8) (h11 : u' 0 11 = nI d) (h10 : u' 0 10 = nI len') (h19 : w' 0 19 = nI len') (hl1 : st d ≤ len') (hl2 : len' ≤ st d + 16) (hlet : ∀ k, k < len' → u' 4 k = w' 7 k ∧ ∃ a, a < 26 ∧ w' 7 k = nI a) : RT u' w' d len' st ct := by
  obtain ⟨g1, g2, g3, g4, g5, g6, g7, g8, g9, g10, g11⟩ := h
  exact ⟨by omega, h11, h10, h19, g5, fun k hk => g6 k (by omega), hl1, hl2, fun k hk => by rw [h5, h8]; exact g9 k (by omega), fun k p q => by rw [h6]; exact g10 k p (by omega), hlet⟩
theorem close2 {b : Nat → Int32} {n i d len : Nat} {st ct : Nat → Nat} {g : CG} {u w : RS} (hb : BB b n) (h : OKs b n i u w) (hin : i < n) (h10 : w 0 10 = nI i) (ht : RT u w (d + 1) len st ct) (hpos : st (d + 1) < len) : ∃ u' w', C5_closeGroup g u = some u' ∧ F8_repeats w (nI d) (nI (ct (d + 1))) = some w' ∧ XC g.nt u' u ∧ XW w' w ∧ (∀ R, 10 ≤ R → u' R = u R) ∧ w' 1 = w 1 ∧ ((OKs b n (i + 1) u' w' ∧ ∃ len', st d < len' ∧ RT u' w' d len' st ct) ∨ ERs b n u' w') := by
  have hn := hb.1
  have hl0 := ht.le d (by omega)
  have hl1 := ht.le (d + 1) (Nat.le_refl _)
  have rl := rowLen (g := g) ht
  have rl1 := rowLen1 (g := g) (k := d) ht (by omega)
  have htt := ht
  obtain ⟨o1, o2, o3, o4, o5, o6, o7⟩ := h
  obtain ⟨h1, h2, h3, h4, h5, h6, h7, h8, h9, h10', h11⟩ := htt
  obtain ⟨c1, c2, c3⟩ := h10' (d + 1) (by omega) (Nat.le_refl _)
  have h6d := h6 d (by omega)
  unfold C5_closeGroup F8_repeats
  rw [h2, if_neg (show ¬ nI (d + 1) = (0 : Int32) from nI_ne (b := 0) (by omega) (by omega) (by omega)), rl, bS, if_neg (show ¬ nI (len - st (d + 1)) = (0 : Int32) from nI_ne (b := 0) (by omega) (by omega) (by omega)), bS, rd_n (by omega) (by omega), bS, c1, show nI (d + 1) - (1 : Int32) = nI d from (nI_sub (a := d + 1) (b := 1) (by omega)).trans (by rw [show d + 1 - 1 = d by omega]), rl1, bS]
  rw [show nI d + (1 : Int32) = nI (d + 1) from nI_add d 1, rd_n (by omega) (by omega), bS, rd_n (by omega) (by omega), bS, (h9 (d + 1) (Nat.le_refl _)).2, (h9 d (by omega)).2, h4, nI_sub h7, nI_sub h6d.1, nI_mul, nI_mul, nI_add, nI_add, Nat.mul_comm (ct (d + 1)) (len - st (d + 1))]
  obtain ⟨m, hm⟩ : ∃ m, len = st (d + 1) + m := ⟨len - st (d + 1), by omega⟩
  subst hm
  rw [show st (d + 1) + m - st (d + 1) = m by omega]
  generalize hC : ct (d + 1) = C at *
  generalize hs1 : st (d + 1) = s1 at *
  have hmC : m ≤ m * C := Nat.le_mul_of_pos_right m (by omega)
  have hbig : m * C ≤ 16 * 9 := Nat.mul_le_mul (by omega) (by omega)
  by_cases q : s1 - st d + m * C ≤ 16
  · have hq : nI (s1 - st d + m * C) ≤ (16 : Int32) := nI_le (b := 16) q (by omega)
    rw [if_pos hq, if_pos hq]
    obtain ⟨u2, k1, k2, k3, k4, k5, k6⟩ := closeLC (g := g) (c := C) (m := m) (s1 := s1) (d := d) (F := fun j => u 4 (s1 + j)) (by omega) (by omega) (by omega) (fun j hj => by
      obtain ⟨z1, z2⟩ := h11 (s1 + j) (by omega)
      obtain ⟨a, a1, a2⟩ := z2
      exact ⟨a, a1, z1.trans a2⟩) (C - 1) 1 FUEL u (by omega) (by show C - 1 < 10000; omega) (by omega) c3 (by rw [Nat.mul_one]; exact h3) h2 ((h9 (d + 1) (Nat.le_refl _)).1.trans (by rw [hs1])) (fun j hj => by rw [Nat.mul_one] at hj; rw [Nat.mod_eq_of_lt hj])
    obtain ⟨w2, j1, j2, j3, j4, j5, j6⟩ := repLW (u0 := w) (a1 := nI d) (c := C) (m := m) (s1 := s1) (F := fun j => u 4 (s1 + j)) (by omega) (by omega) h4 (m * C - m) m FUEL w (by omega) (by show m * C - m < 10000; omega) (by omega) h4 (fun j hj => by rw [Nat.mod_eq_of_lt hj]; exact (h11 (s1 + j) (by omega)).1.symm)
    have k1' : C5_closeGroup_L78 (nI C) (nI m) g FUEL (1 : Int32) u = some (nI C, u2) := k1
    rw [k1', j1, bS, bS]
    dsimp only
    rw [pt_n, pt_n, bS, bS, pt_n, bS]
    have e11 : u2 0 11 - 1 = nI d := by rw [k3 11 (by decide), h2]; exact (nI_sub (a := d + 1) (b := 1) (by omega)).trans (by rw [show d + 1 - 1 = d by omega])
    refine ⟨_, _, rfl, rfl, ?_, ?_, fun R hR => ?_, ?_, Or.inl ⟨⟨⟨?_, fun k hk => ?_⟩, ⟨?_, fun k hk => ?_⟩, by omega, ?_, ?_, ?_, ?_⟩, s1 + m * C, by omega, RT.up ht ?_ ?_ ?_ ?_ ?_ ?_ (by omega) (by omega) (fun k hk => ?_)⟩⟩
    · refine ⟨fun R p q _ _ _ _ => by rw [up_or p, up_or p, k2 R p q], fun j p _ _ q r => by rw [up_ne (by omega), up_ne (by omega), k3 j q], by rw [up_ne (by omega), up_ne (by omega), k2 5 (by decide) (by decide)]⟩
    · exact ⟨fun R p _ q _ => by rw [up_or p, j2 R p q], fun j p _ _ _ _ q => by rw [up_ne (by omega), j3 j q]⟩
    · rw [up_or (by omega), up_or (by omega), k2 R (by omega) (by omega)]
    · rw [up_or (by omega), j2 1 (by decide) (by decide)]
    · rw [up_ne (by omega), up_ne (by omega), k3 5 (by decide)]; exact o1.1
    · rw [up_ne (by omega), up_ne (by omega), k2 3 (by decide) (by decide)]; exact o1.2 k hk
    · rw [up_ne (by omega), j3 8 (by decide)]; exact o2.1
    · rw [up_ne (by omega), j2 6 (by decide) (by decide)]; exact o2.2 k hk
    · rw [up_eq, up_ne (by omega), k3 6 (by decide), o4]; exact nI_add i 1
    · rw [up_eq, j3 9 (by decide), o5]; exact nI_add i 1
    · rw [up_ne (by omega), up_ne (by omega), k3 7 (by decide)]; exact o6
    · rw [up_ne (by omega), j3 11 (by decide)]; exact o7
    · rw [up_or (by decide), up_or (by decide), k2 5 (by decide) (by decide)]
    · rw [up_or (by decide), up_or (by decide), k2 6 (by decide) (by decide)]
    · rw [up_or (by decide), j2 8 (by decide) (by decide)]
    · rw [up_ne (by omega), up_eq]; exact e11
    · rw [up_ne (by omega), up_ne (by omega)]; exact k4
    · rw [up_ne (by omega)]; exact j4
    · rw [up_ne (by omega), up_ne (by omega), up_ne (by omega)]
      by_cases z : k < s1
      · rw [k5 k z, j5 k z]; exact h11 k (by omega)
      · have hk2 : k - s1 < m * C := by omega
        have x1 := k6 (k - s1) hk2
        have x2 := j6 (k - s1) hk2
        rw [show s1 + (k - s1) = k by omega] at x1 x2
        rw [x1, x2]
        have hmod : (k - s1) % m < m := Nat.mod_lt _ (by omega)
        obtain ⟨z1, z2⟩ := h11 (s1 + (k - s1) % m) (by omega)
        refine ⟨rfl, ?_⟩
        obtain ⟨a, a1, a2⟩ := z2
        exact ⟨a, a1, z1.trans a2⟩
  · have hq : ¬ nI (s1 - st d + m * C) ≤ (16 : Int32) := nI_ge (a := 16) (by omega) (by omega)
    obtain ⟨u', w', e1, e2, e3, e4, e5⟩ := err2 (g := g) (u := u) (w := w) (e := 3) o1 o2 o3 o4 o6 o7 h10 (by omega) (by omega) (by omega)
    rw [if_neg hq, if_neg hq, o4, show (3 : Int32) = nI 3 from rfl, e1, e2, bS, bS]
    exact ⟨u', w', rfl, rfl, e4.x, e5.w1.x, fun R hR => e4.1 R (by omega), e5.1 1 (by decide), Or.inr e3⟩
