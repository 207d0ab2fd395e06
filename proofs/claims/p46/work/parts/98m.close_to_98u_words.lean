section
theorem closeLC {g : CG} {c m s1 d : Nat} {F : Nat → Int32} (hm : 1 ≤ m) (hd : d < 3) (hc : s1 + m * c ≤ 64) (hF : ∀ j, j < m → ∃ a, a < 26 ∧ F j = nI a) : ∀ (e y f : Nat) (u : RS), y + e = c → e < f → 1 ≤ y → c ≤ 9 → u 0 10 = nI (s1 + m * y) → u 0 11 = nI (d + 1) → u 5 (d + 1) = nI s1 → (∀ j, j < m * y → u 4 (s1 + j) = F (j % m)) → ∃ u2, C5_closeGroup_L78 (nI c) (nI m) g f (nI y) u = some (nI c, u2) ∧ (∀ R, R ≠ 0 → R ≠ 4 → u2 R = u R) ∧ (∀ i, i ≠ 10 → u2 0 i = u 0 i) ∧ u2 0 10 = nI (s1 + m * c) ∧ (∀ j, j < s1 → u2 4 j = u 4 j) ∧ ∀ j, j < m * c → u2 4 (s1 + j) = F (j % m)
  | 0, y, f, u, h1, h2, h3, h9, h4, h5, h6, h7 => by
    obtain ⟨f, rfl⟩ : ∃ m, f = m + 1 := ⟨f - 1, by omega⟩
    obtain rfl : y = c := by omega
    exact ⟨u, by rw [C5_closeGroup_L78, if_pos (nI_le (Nat.le_refl _) (by omega))], fun _ _ _ => rfl, fun _ _ => rfl, h4, fun _ _ => rfl, h7⟩
  | e + 1, y, f, u, h1, h2, h3, h9, h4, h5, h6, h7 => by
    obtain ⟨f, rfl⟩ : ∃ m, f = m + 1 := ⟨f - 1, by omega⟩
    have hmy : m * (y + 1) = m * y + m := Nat.mul_succ m y
    have hle : m * (y + 1) ≤ m * c := Nat.mul_le_mul_left m (by omega)
    have hm1 : m ≤ m * y := Nat.le_mul_of_pos_right m (by omega)
    rw [C5_closeGroup_L78, if_neg (nI_ge (by omega) (by omega)), h5, rd_n (by omega) (by omega), bS, h6, h4]
    rw [cpo_b (sp := s1) (dp := s1 + m * y) (n := m) (by omega) (by omega) (by omega) (by omega) (fun j hj => by
      rw [h7 j (by omega), Nat.mod_eq_of_lt hj]
      obtain ⟨a, a1, a2⟩ := hF j hj
      rw [a2]; unfold BYT; rw [nI_toInt (by omega)]; omega), bS, bS, nI_clamp (by omega), nI_clamp (by omega), pt_n, bS]
    have r0 : ∀ R, R ≠ 4 → cpR u 4 (s1 + m * y) (u 4) s1 m R = u R := fun R hR => by unfold cpR; exact rw_ne hR
    have r4 : ∀ j, cpR u 4 (s1 + m * y) (u 4) s1 m 4 j = if s1 + m * y ≤ j ∧ j < s1 + m * y + m then u 4 (s1 + (j - (s1 + m * y))) else u 4 j := fun j => by unfold cpR; rw [rw_eq]
    rw [r0 0 (by decide), h4, nI_add, show nI y + 1 = nI (y + 1) from nI_add _ 1, show s1 + m * y + m = s1 + m * (y + 1) by omega]
    obtain ⟨u2, k1, k2, k3, k4, k5, k6⟩ := closeLC (g := g) hm hd hc hF e (y + 1) f (up (cpR u 4 (s1 + m * y) (u 4) s1 m) 0 10 (nI (s1 + m * (y + 1)))) (by omega) (by omega) (by omega) h9 up_eq (by rw [up_ne (by omega), r0 0 (by decide)]; exact h5) (by rw [up_ne (by omega), r0 5 (by decide)]; exact h6) (fun j hj => by
      rw [up_ne (by omega), r4]
      by_cases q : j < m * y
      · rw [if_neg (by omega)]; exact h7 j q
      · rw [if_pos (by omega), show s1 + (s1 + j - (s1 + m * y)) = s1 + (j - m * y) by omega, h7 _ (by omega), Nat.mod_eq_of_lt (show j - m * y < m by omega)]
        congr 1
        have := Nat.mul_add_mod m y (j - m * y)
        rw [show m * y + (j - m * y) = j by omega, Nat.mod_eq_of_lt (show j - m * y < m by omega)] at this
        exact this.symm)
    refine ⟨u2, k1, fun R p q => ?_, fun i p => ?_, k4, fun j hj => ?_, k6⟩
    · rw [k2 R p q, up_or p, r0 R q]
    · rw [k3 i p, up_ne (by omega), r0 0 (by decide)]
    · rw [k5 j hj, up_ne (by omega), r4, if_neg (by omega)]
theorem repLW {u0 : RS} {a1 : Int32} {c m s1 : Nat} {F : Nat → Int32} (hm : 1 ≤ m) (hc : s1 + m * c ≤ 64) (h0 : u0 0 19 = nI (s1 + m)) : ∀ (e y f : Nat) (w : RS), y + e = m * c → e < f → m ≤ y → w 0 19 = nI (s1 + y) → (∀ j, j < y → w 7 (s1 + j) = F (j % m)) → ∃ w2, F8_repeats_L45 u0 (nI s1) a1 (nI c) f (nI y) w = some (nI (m * c), w2) ∧ (∀ R, R ≠ 0 → R ≠ 7 → w2 R = w R) ∧ (∀ i, i ≠ 19 → w2 0 i = w 0 i) ∧ w2 0 19 = nI (s1 + m * c) ∧ (∀ j, j < s1 → w2 7 j = w 7 j) ∧ ∀ j, j < m * c → w2 7 (s1 + j) = F (j % m)
  | 0, y, f, w, h1, h2, h3, h4, h7 => by
    obtain ⟨f, rfl⟩ : ∃ m, f = m + 1 := ⟨f - 1, by omega⟩
    obtain rfl : y = m * c := by omega
    refine ⟨w, ?_, fun _ _ _ => rfl, fun _ _ => rfl, h4, fun _ _ => rfl, h7⟩
    rw [F8_repeats_L45, h0, nI_sub (by omega), show s1 + m - s1 = m by omega, nI_mul, if_pos (nI_le (Nat.le_refl _) (by omega))]
  | e + 1, y, f, w, h1, h2, h3, h4, h7 => by
    obtain ⟨f, rfl⟩ : ∃ m, f = m + 1 := ⟨f - 1, by omega⟩
    rw [F8_repeats_L45, h0, nI_sub (by omega), show s1 + m - s1 = m by omega, nI_mul, if_neg (nI_ge (by omega) (by omega)), nI_add, nI_sub (by omega), rd_n (by omega) (by omega), bS, ws_n (by omega) (by omega), bS, pt_n, bS, up_ne (by omega), h4, show nI (s1 + y) + 1 = nI (s1 + (y + 1)) from nI_add _ 1, show nI y + 1 = nI (y + 1) from nI_add _ 1]
    obtain ⟨w2, k1, k2, k3, k4, k5, k6⟩ := repLW (a1 := a1) (F := F) hm hc h0 e (y + 1) f (up (up w 7 (s1 + y) (w 7 (s1 + y - m))) 0 19 (nI (s1 + (y + 1)))) (by omega) (by omega) (by omega) up_eq (fun j hj => by
      rw [up_or (r := 7) (k := 0) (by decide)]
      by_cases q : j = y
      · subst q
        rw [up_eq, show s1 + j - m = s1 + (j - m) by omega, h7 _ (by omega)]
        congr 1
        have := Nat.add_mod_right (j - m) m
        rw [show j - m + m = j by omega] at this
        exact this.symm
      · rw [up_ne (by omega)]; exact h7 j (by omega))
    refine ⟨w2, k1, fun R p q => ?_, fun i p => ?_, k4, fun j hj => ?_, k6⟩
    · rw [k2 R p q, up_or p, up_or q]
    · rw [k3 i p, up_ne (by omega), up_ne (by omega)]
    · rw [k5 j hj, up_ne (by omega), up_ne (by omega)]
theorem RT.up {u w u' w' : RS} {d len len' : Nat} {st ct : Nat → Nat} (h : RT u w (d + 1) len st ct) (h5 : u' 5 = u 5) (h6 : u' 6 = u 6) (h8 : w' 8 = w 8) (h11 : u' 0 11 = nI d) (h10 : u' 0 10 = nI len') (h19 : w' 0 19 = nI len') (hl1 : st d ≤ len') (hl2 : len' ≤ st d + 16) (hlet : ∀ k, k < len' → u' 4 k = w' 7 k ∧ ∃ a, a < 26 ∧ w' 7 k = nI a) : RT u' w' d len' st ct := by
  obtain ⟨g1, g2, g3, g4, g5, g6, g7, g8, g9, g10, g11⟩ := h
  exact ⟨by omega, h11, h10, h19, g5, fun k hk => g6 k (by omega), hl1, hl2, fun k hk => by rw [h5, h8]; exact g9 k (by omega), fun k p q => by rw [h6]; exact g10 k p (by omega), hlet⟩
theorem close2 {b : Nat → Int32} {n i d len : Nat} {st ct : Nat → Nat} {g : CG} {u w : RS} (hb : BB b n) (h : OKs b n i u w) (hin : i < n) (h10 : w 0 10 = nI i) (ht : RT u w (d + 1) len st ct) (hpos : st (d + 1) < len) : ∃ u' w', C5_closeGroup g u = some u' ∧ F8_repeats w (nI d) (nI (ct (d + 1))) = some w' ∧ XC g.nt u' u ∧ XW w' w ∧ (∀ R, 10 ≤ R → u' R = u R) ∧ w' 1 = w 1 ∧ ((OKs b n (i + 1) u' w' ∧ ∃ len', st d < len' ∧ RT u' w' d len' st ct) ∨ ERs b n u' w') := by
  have hn := hb.1
  have hl0 := ht.le d (by omega)
  have hl1 := ht.le (d + 1) (Nat.le_refl _)
  have rl := rowLen (g := g) ht
  have rl1 := rowLen1 (g := g) (k := d) ht (by omega)
  have htt := ht
  obtain ⟨o1, o2, o3, o4, o5, o6, o7⟩ := h
  obtain ⟨h1, h2, h3, h4, h5, h6, h7, h8, h9, h10', h11⟩ := htt
  obtain ⟨c1, c2, c3⟩ := h10' (d + 1) (by omega) (Nat.le_refl _)
  have h6d := h6 d (by omega)
  unfold C5_closeGroup F8_repeats
  rw [h2, if_neg (show ¬ nI (d + 1) = (0 : Int32) from nI_ne (b := 0) (by omega) (by omega) (by omega)), rl, bS, if_neg (show ¬ nI (len - st (d + 1)) = (0 : Int32) from nI_ne (b := 0) (by omega) (by omega) (by omega)), bS, rd_n (by omega) (by omega), bS, c1, show nI (d + 1) - (1 : Int32) = nI d from (nI_sub (a := d + 1) (b := 1) (by omega)).trans (by rw [show d + 1 - 1 = d by omega]), rl1, bS]
  rw [show nI d + (1 : Int32) = nI (d + 1) from nI_add d 1, rd_n (by omega) (by omega), bS, rd_n (by omega) (by omega), bS, (h9 (d + 1) (Nat.le_refl _)).2, (h9 d (by omega)).2, h4, nI_sub h7, nI_sub h6d.1, nI_mul, nI_mul, nI_add, nI_add, Nat.mul_comm (ct (d + 1)) (len - st (d + 1))]
  obtain ⟨m, hm⟩ : ∃ m, len = st (d + 1) + m := ⟨len - st (d + 1), by omega⟩
  subst hm
  rw [show st (d + 1) + m - st (d + 1) = m by omega]
  generalize hC : ct (d + 1) = C at *
  generalize hs1 : st (d + 1) = s1 at *
  have hmC : m ≤ m * C := Nat.le_mul_of_pos_right m (by omega)
  have hbig : m * C ≤ 16 * 9 := Nat.mul_le_mul (by omega) (by omega)
  by_cases q : s1 - st d + m * C ≤ 16
  · have hq : nI (s1 - st d + m * C) ≤ (16 : Int32) := nI_le (b := 16) q (by omega)
    rw [if_pos hq, if_pos hq]
    obtain ⟨u2, k1, k2, k3, k4, k5, k6⟩ := closeLC (g := g) (c := C) (m := m) (s1 := s1) (d := d) (F := fun j => u 4 (s1 + j)) (by omega) (by omega) (by omega) (fun j hj => by
      obtain ⟨z1, z2⟩ := h11 (s1 + j) (by omega)
      obtain ⟨a, a1, a2⟩ := z2
      exact ⟨a, a1, z1.trans a2⟩) (C - 1) 1 FUEL u (by omega) (by show C - 1 < 10000; omega) (by omega) c3 (by rw [Nat.mul_one]; exact h3) h2 ((h9 (d + 1) (Nat.le_refl _)).1.trans (by rw [hs1])) (fun j hj => by rw [Nat.mul_one] at hj; rw [Nat.mod_eq_of_lt hj])
    obtain ⟨w2, j1, j2, j3, j4, j5, j6⟩ := repLW (u0 := w) (a1 := nI d) (c := C) (m := m) (s1 := s1) (F := fun j => u 4 (s1 + j)) (by omega) (by omega) h4 (m * C - m) m FUEL w (by omega) (by show m * C - m < 10000; omega) (by omega) h4 (fun j hj => by rw [Nat.mod_eq_of_lt hj]; exact (h11 (s1 + j) (by omega)).1.symm)
    have k1' : C5_closeGroup_L78 (nI C) (nI m) g FUEL (1 : Int32) u = some (nI C, u2) := k1
    rw [k1', j1, bS, bS]
    dsimp only
    rw [pt_n, pt_n, bS, bS, pt_n, bS]
    have e11 : u2 0 11 - 1 = nI d := by rw [k3 11 (by decide), h2]; exact (nI_sub (a := d + 1) (b := 1) (by omega)).trans (by rw [show d + 1 - 1 = d by omega])
    refine ⟨_, _, rfl, rfl, ?_, ?_, fun R hR => ?_, ?_, Or.inl ⟨⟨⟨?_, fun k hk => ?_⟩, ⟨?_, fun k hk => ?_⟩, by omega, ?_, ?_, ?_, ?_⟩, s1 + m * C, by omega, RT.up ht ?_ ?_ ?_ ?_ ?_ ?_ (by omega) (by omega) (fun k hk => ?_)⟩⟩
    · refine ⟨fun R p q _ _ _ _ => by rw [up_or p, up_or p, k2 R p q], fun j p _ _ q r => by rw [up_ne (by omega), up_ne (by omega), k3 j q], by rw [up_ne (by omega), up_ne (by omega), k2 5 (by decide) (by decide)]⟩
    · exact ⟨fun R p _ q _ => by rw [up_or p, j2 R p q], fun j p _ _ _ _ q => by rw [up_ne (by omega), j3 j q]⟩
    · rw [up_or (by omega), up_or (by omega), k2 R (by omega) (by omega)]
    · rw [up_or (by omega), j2 1 (by decide) (by decide)]
    · rw [up_ne (by omega), up_ne (by omega), k3 5 (by decide)]; exact o1.1
    · rw [up_ne (by omega), up_ne (by omega), k2 3 (by decide) (by decide)]; exact o1.2 k hk
    · rw [up_ne (by omega), j3 8 (by decide)]; exact o2.1
    · rw [up_ne (by omega), j2 6 (by decide) (by decide)]; exact o2.2 k hk
    · rw [up_eq, up_ne (by omega), k3 6 (by decide), o4]; exact nI_add i 1
    · rw [up_eq, j3 9 (by decide), o5]; exact nI_add i 1
    · rw [up_ne (by omega), up_ne (by omega), k3 7 (by decide)]; exact o6
    · rw [up_ne (by omega), j3 11 (by decide)]; exact o7
    · rw [up_or (by decide), up_or (by decide), k2 5 (by decide) (by decide)]
    · rw [up_or (by decide), up_or (by decide), k2 6 (by decide) (by decide)]
    · rw [up_or (by decide), j2 8 (by decide) (by decide)]
    · rw [up_ne (by omega), up_eq]; exact e11
    · rw [up_ne (by omega), up_ne (by omega)]; exact k4
    · rw [up_ne (by omega)]; exact j4
    · rw [up_ne (by omega), up_ne (by omega), up_ne (by omega)]
      by_cases z : k < s1
      · rw [k5 k z, j5 k z]; exact h11 k (by omega)
      · have hk2 : k - s1 < m * C := by omega
        have x1 := k6 (k - s1) hk2
        have x2 := j6 (k - s1) hk2
        rw [show s1 + (k - s1) = k by omega] at x1 x2
        rw [x1, x2]
        have hmod : (k - s1) % m < m := Nat.mod_lt _ (by omega)
        obtain ⟨z1, z2⟩ := h11 (s1 + (k - s1) % m) (by omega)
        refine ⟨rfl, ?_⟩
        obtain ⟨a, a1, a2⟩ := z2
        exact ⟨a, a1, z1.trans a2⟩
  · have hq : ¬ nI (s1 - st d + m * C) ≤ (16 : Int32) := nI_ge (a := 16) (by omega) (by omega)
    obtain ⟨u', w', e1, e2, e3, e4, e5⟩ := err2 (g := g) (u := u) (w := w) (e := 3) o1 o2 o3 o4 o6 o7 h10 (by omega) (by omega) (by omega)
    rw [if_neg hq, if_neg hq, o4, show (3 : Int32) = nI 3 from rfl, e1, e2, bS, bS]
    exact ⟨u', w', rfl, rfl, e4.x, e5.w1.x, fun R hR => e4.1 R (by omega), e5.1 1 (by decide), Or.inr e3⟩
end
section
noncomputable def gpre (u0 : RS) (a1 : Int32) : Option (Int32 × RS) := (F8_number u0 (2 : Int32) (9 : Int32)).bind fun t1 => (if (t1.2 0 11) = 0 then (if a1 = 3 then ((pt t1.2 0 10 (u0 0 9)).bind fun u37 => (F8_fails u37 (3 : Int32)).bind fun u39 => some u39) else (some t1.2)) else (some t1.2) : Option (RS)).bind fun t4 => (if (t4 0 11) = 0 then ((F8_next t4).bind fun t31 => if t31.1 = 40 then (some t31.2) else ((F8_fails t31.2 (1 : Int32)).bind fun u34 => some u34)) else (some t4) : Option (RS)).bind fun t8 => some (t1.1, t8)
noncomputable def gsuf (P : RS → Int32 → Option RS) (a1 : Int32) (t : Int32 × RS) : Option RS := if (t.2 0 11) = 0 then ((pt t.2 0 9 ((t.2 0 9) + 1)).bind fun u12 => (P u12 ((a1 + 1))).bind fun u14 => (if (u14 0 11) = 0 then ((F8_next u14).bind fun t26 => if t26.1 = 41 then (some t26.2) else ((F8_fails t26.2 (1 : Int32)).bind fun u29 => some u29)) else (some u14) : Option (RS)).bind fun t17 => (if (t17 0 11) = 0 then ((F8_repeats t17 (a1) (t.1)).bind fun u24 => some u24) else (some t17) : Option (RS)).bind fun t21 => some t21) else (some t.2)
theorem group0 {u : RS} {a : Int32} : F8_group_0 u a = (gpre u a).bind (gsuf F8_pieces_1 a) := by
  unfold F8_group_0 gpre gsuf
  simp only [Option.bind_assoc, bS]
theorem group1 {u : RS} {a : Int32} : F8_group_1 u a = (gpre u a).bind (gsuf F8_pieces_2 a) := by
  unfold F8_group_1 gpre gsuf
  simp only [Option.bind_assoc, bS]
theorem group2 {u : RS} {a : Int32} : F8_group_2 u a = (gpre u a).bind (gsuf F8_pieces_3 a) := by
  unfold F8_group_2 gpre gsuf
  simp only [Option.bind_assoc, bS]
theorem group3 {u : RS} {a : Int32} : F8_group_3 u a = (gpre u a).bind (gsuf F8_pieces_4 a) := by
  unfold F8_group_3 gpre gsuf
  simp only [Option.bind_assoc, bS]
theorem openE {b : Nat → Int32} {n d : Nat} {g : CG} {u w : RS} {y p : Int32} (hb : BB b n) (h : ERs b n u w) (hd : u 0 11 = nI d) : ∃ u', C5_openGroup g u y p = some u' ∧ FC u' u ∧ ERs b n u' w := by
  obtain ⟨i, h3, h4⟩ := h.2.2.1
  have hn := hb.1
  have hs := SK_le (b := b) h3
  have he := h.fc (i := SK b n i) hs.2
  have e1 : ((if (u 0 11) < 3 then (some u) else ((C5_error g u (3) p).bind fun u32 => some u32) : Option (RS))) = some u := by
    rw [h.errC, bS]; split <;> rfl
  unfold C5_openGroup
  rw [e1, bS, skipC hb h.1 h4 h3, bS]
  dsimp only
  generalize hu : up u 0 6 (nI (SK b n i)) = u1 at *
  have e6 : u1 0 6 = nI (SK b n i) := by rw [← hu]; exact up_eq
  have fc : FC u1 u := by rw [← hu]; exact FC.up (by omega)
  have e2 : ((if (u1 0 5) ≤ (u1 0 6) then ((C5_error g u1 (1) ((u1 0 6))).bind fun u25 => some u25) else ((rd u1 3 600 (u1 0 6)).bind fun x27 => if x27 = 40 then (some u1) else ((C5_error g u1 (1) ((u1 0 6))).bind fun u30 => some u30)) : Option (RS))) = some u1 := by
    rw [he.errC, bS, he.1.1, e6]
    by_cases c : SK b n i < n
    · rw [if_neg (nI_ge c (by omega)), rd_n (by omega) (by omega), bS]; split <;> rfl
    · rw [if_pos (nI_le (by omega) (by omega))]
  rw [e2, bS, he.fine, bS, if_pos (show nI 0 = (0 : Int32) from rfl), bS]
  exact ⟨u1, rfl, fc, he⟩
noncomputable def ups (f : Nat → Nat) (k x : Nat) : Nat → Nat := fun j => if j = k then x else f j
theorem open2 {b : Nat → Int32} {n i d len : Nat} {st ct : Nat → Nat} {g : CG} {u w : RS} (hb : BB b n) (h : OKs b n i u w) (ht : RT u w d len st ct) : ∃ y u1 u', C5_readNumber g u (2 : Int32) (9 : Int32) = some (y, u1) ∧ C5_openGroup g u1 y (u 0 6) = some u' ∧ XC g.nt u' u ∧ (∀ R, 10 ≤ R → u' R = u R) ∧ ((∃ V i' w', d < 3 ∧ 2 ≤ V ∧ V ≤ 9 ∧ i ≤ i' ∧ gpre w (nI d) = some (nI V, w') ∧ FW w' w ∧ w' 0 11 = nI 0 ∧ w' 0 9 = nI i' ∧ OKs b n (i' + 1) u' (up (up w' 0 9 (nI (i' + 1))) 8 (d + 1) (nI len)) ∧ RT u' (up (up w' 0 9 (nI (i' + 1))) 8 (d + 1) (nI len)) (d + 1) len (ups st (d + 1) len) (ups ct (d + 1) V)) ∨ (∃ x w', gpre w (nI d) = some (x, w') ∧ FW w' w ∧ ERs b n u' w')) := by
  have hn := hb.1
  have hi := h.2.2.1
  have h6u := h.2.2.2.1
  have h9w := h.2.2.2.2.1
  obtain ⟨u1, w1, y, x, e1, e2, e3, e4, e5⟩ := num2 (g := g) (lo := 2) (a2 := 9) hb h (by omega) (by decide)
  have e1' : C5_readNumber g u (2 : Int32) (9 : Int32) = some (y, u1) := e1
  have e2' : F8_number w (2 : Int32) (9 : Int32) = some (x, w1) := e2
  unfold gpre
  rw [e2', bS]
  dsimp only
  have hd3 := ht.1
  have hdep : u1 0 11 = nI d := (e3.2 11 (by decide) (by decide) (by decide)).trans ht.2.1
  rcases e5 with ⟨i1, V, q1, q2, rfl, rfl, q5, q6⟩ | ⟨q1, q2⟩
  · have ht1 := ht.fr e3 e4
    rw [if_pos q2.w0]
    by_cases c : d = 3
    · subst c
      obtain ⟨o1, o2, o3, o4, o5, o6, o7⟩ := q2
      obtain ⟨u2, w2, f1, f2, f3, f4, f5⟩ := err2 (g := g) (u := u1) (w := up w1 0 10 (nI i)) (e := 3) (p := i) o1 (o2.fr (FW.up (by omega))) o3 o4 o6 (by rw [up_ne (by omega)]; exact o7) up_eq (by omega) (by omega) (by omega)
      have f1' : C5_error g u1 (3 : Int32) (nI i) = some u2 := f1
      have f2' : F8_fails (up w1 0 10 (nI i)) (3 : Int32) = some w2 := f2
      rw [if_pos (show nI 3 = (3 : Int32) from rfl), h9w, pt_n, bS, f2', bS, bS, if_neg f3.ne.1, bS]
      obtain ⟨u3, g1, g2, g3⟩ := openE (g := g) (d := 3) (y := nI V) (p := nI i) hb f3 ((f4.2 11 (by decide) (by decide) (by decide)).trans hdep)
      have eo : C5_openGroup g u1 (nI V) (u 0 6) = some u3 := by
        unfold C5_openGroup at g1 ⊢
        rw [hdep, if_neg (show ¬ nI 3 < (3 : Int32) by decide), h6u, f1', bS, bS]
        rw [(f4.2 11 (by decide) (by decide) (by decide)).trans hdep, if_neg (show ¬ nI 3 < (3 : Int32) by decide), f3.errC, bS, bS] at g1
        exact g1
      refine ⟨nI V, u1, u3, e1', eo, (g2.trans (f4.trans e3)).x, fun R hR => (g2.trans (f4.trans e3)).1 R (by omega), Or.inr ⟨nI V, w2, rfl, f5.trans ((FW.up (by omega)).trans e4), g3⟩⟩
    · rw [if_neg (show ¬ nI d = (3 : Int32) from nI_ne (b := 3) c (by omega) (by omega)), bS, if_pos q2.w0]
      obtain ⟨o1, o2, o3, o4, o5, o6, o7⟩ := q2
      have hs := SK_le (b := b) o3
      have hch := ch_le (i := SK b n i1) hb
      rw [nextW hb o2 o5 o3, bS]
      dsimp only
      generalize hs' : SK b n i1 = s at *
      have hT : TC b n (up u1 0 6 (nI s)) := o1.fr (FC.up (by omega))
      have hW : TW b n (up (up w1 0 9 (nI s)) 0 10 (nI s)) := (o2.fr (FW.up (by omega))).fr (FW.up (by omega))
      have fC : FC (up u1 0 6 (nI s)) u := (FC.up (by omega)).trans e3
      have fW : FW (up (up w1 0 9 (nI s)) 0 10 (nI s)) w := ((FW.up (by omega)).trans (FW.up (by omega))).trans e4
      have k6 : up u1 0 6 (nI s) 0 6 = nI s := up_eq
      have k7 : up u1 0 6 (nI s) 0 7 = nI 0 := by rw [up_ne (by omega)]; exact o6
      have k9 : up (up w1 0 9 (nI s)) 0 10 (nI s) 0 9 = nI s := by rw [up_ne (by omega), up_eq]
      have k10 : up (up w1 0 9 (nI s)) 0 10 (nI s) 0 10 = nI s := up_eq
      have k11 : up (up w1 0 9 (nI s)) 0 10 (nI s) 0 11 = nI 0 := by rw [up_ne (by omega), up_ne (by omega)]; exact o7
      have eo : C5_openGroup g u1 (nI V) (u 0 6) = ((if ch b n s = 40 then (some (up u1 0 6 (nI s))) else ((C5_error g (up u1 0 6 (nI s)) (1 : Int32) (nI s)).bind fun u30 => some u30) : Option RS)).bind fun t8 => (C5_isFine g t8).bind fun x11 => (if x11 = 0 then (some t8) else ((pt t8 0 6 ((t8 0 6) + 1)).bind fun u17 => (pt u17 0 11 ((u17 0 11) + 1)).bind fun u19 => (ws u19 5 4 (u19 0 11) (u19 0 10)).bind fun u21 => (ws u21 6 4 (u21 0 11) (nI V)).bind fun u23 => some u23) : Option (RS)).bind fun t14 => some t14 := by
        unfold C5_openGroup
        rw [hdep, if_pos (show nI d < (3 : Int32) from nI_lt (b := 3) (by omega) (by omega)), bS, skipC hb o1 o4 o3, hs', bS]
        dsimp only
        by_cases z : s < n
        · rw [if_neg (show ¬ up u1 0 6 (nI s) 0 5 ≤ up u1 0 6 (nI s) 0 6 by rw [hT.1, k6]; exact nI_ge z (by omega)), k6, rd_n (by omega) (by omega), bS, hT.2 s z]
          have hbz := b_eq (hb.2 s z) (c := 40) (by omega)
          rw [ch_i z]
          by_cases y : cd (b s) = 40
          · rw [if_pos y, if_pos (show b s = (40 : Int32) from hbz.mpr y)]
          · rw [if_neg y, if_neg (show ¬ b s = (40 : Int32) from fun q => y (hbz.mp q))]
        · rw [if_pos (show up u1 0 6 (nI s) 0 5 ≤ up u1 0 6 (nI s) 0 6 by rw [hT.1, k6]; exact nI_le (by omega) (by omega)), k6, ch_n (show n ≤ s by omega), if_neg (show ¬ 256 = 40 by omega)]
      generalize hU : up u1 0 6 (nI s) = U at *
      generalize hWW : up (up w1 0 9 (nI s)) 0 10 (nI s) = W at *
      have htU := ht.fr fC fW
      by_cases z : ch b n s = 40
      · have hsn : s < n := ch_lt (b := b) (by omega)
        rw [if_pos z, bS, fineC0 k7, bS, if_neg (show ¬ nI 1 = (0 : Int32) from nz0), pt_n, bS, pt_n, bS, up_ne (by omega), up_eq, up_ne (by omega), up_ne (by omega), htU.2.1, htU.2.2.1, k6, show nI d + 1 = nI (d + 1) from nI_add _ 1, show nI s + 1 = nI (s + 1) from nI_add _ 1, ws_n (by omega) (by omega), bS, up_ne (by omega), up_eq, ws_n (by omega) (by omega), bS, bS] at eo
        rw [if_pos (show hv (ch b n s) = (40 : Int32) from (hv_eq (c := 40) hch (by omega)).mpr z), bS]
        obtain ⟨g1, g2, g3, g4, g5, g6, g7, g8, g9, g10, g11⟩ := htU
        refine ⟨nI V, u1, _, e1', eo, ?_, fun R hR => ?_, Or.inl ⟨V, s, W, by omega, q5, by have : (9 : Int32).toInt = 9 := rfl; omega, by omega, rfl, fW, k11, k9, ⟨⟨?_, fun k hk => ?_⟩, ⟨?_, fun k hk => ?_⟩, by omega, ?_, ?_, ?_, ?_⟩, ⟨by omega, ?_, ?_, ?_, ?_, fun k hk => ?_, ?_, ?_, fun k hk => ?_, fun k p q => ?_, fun k hk => ?_⟩⟩⟩
        · refine ⟨fun R p _ q r _ _ => by rw [up_or r, up_or q, up_or p, up_or p]; exact fC.1 R p, fun j p q r _ t => by rw [up_ne (by omega), up_ne (by omega), up_ne (by omega), up_ne (by omega)]; exact fC.2 j p q r, by rw [up_ne (by omega), up_ne (by omega), up_ne (by omega), up_ne (by omega), fC.1 5 (by decide)]⟩
        · rw [up_or (by omega), up_or (by omega), up_or (by omega), up_or (by omega)]; exact fC.1 R (by omega)
        · rw [up_ne (by omega), up_ne (by omega), up_ne (by omega), up_ne (by omega)]; exact hT.1
        · rw [up_ne (by omega), up_ne (by omega), up_ne (by omega), up_ne (by omega)]; exact hT.2 k hk
        · rw [up_ne (by omega), up_ne (by omega)]; exact hW.1
        · rw [up_ne (by omega), up_ne (by omega)]; exact hW.2 k hk
        · rw [up_ne (by omega), up_ne (by omega), up_ne (by omega), up_eq]
        · rw [up_ne (by omega), up_eq]
        · rw [up_ne (by omega), up_ne (by omega), up_ne (by omega), up_ne (by omega)]; exact k7
        · rw [up_ne (by omega), up_ne (by omega)]; exact k11
        · rw [up_ne (by omega), up_ne (by omega), up_eq]
        · rw [up_ne (by omega), up_ne (by omega), up_ne (by omega), up_ne (by omega)]; exact g3
        · rw [up_ne (by omega), up_ne (by omega)]; exact g4
        · unfold ups; rw [if_neg (by omega)]; exact g5
        · unfold ups
          by_cases e : k = d
          · subst e; rw [if_neg (by omega), if_pos rfl]; omega
          · rw [if_neg (by omega), if_neg (by omega)]; exact g6 k (by omega)
        · unfold ups; rw [if_pos rfl]; exact Nat.le_refl _
        · unfold ups; rw [if_pos rfl]; omega
        · unfold ups
          by_cases e : k = d + 1
          · subst e; rw [if_pos rfl, up_ne (by omega), up_eq, up_eq]; exact ⟨rfl, rfl⟩
          · rw [if_neg e, up_ne (by omega), up_ne (by omega), up_ne (by omega), up_ne (by omega), up_ne (by omega), up_ne (by omega)]; exact g9 k (by omega)
        · unfold ups
          by_cases e : k = d + 1
          · subst e; rw [if_pos rfl, up_eq]; have : (9 : Int32).toInt = 9 := rfl; exact ⟨rfl, q5, by omega⟩
          · rw [if_neg e, up_ne (by omega), up_ne (by omega), up_ne (by omega), up_ne (by omega)]; exact g10 k p (by omega)
        · rw [up_ne (by omega), up_ne (by omega), up_ne (by omega), up_ne (by omega), up_ne (by omega), up_ne (by omega)]; exact g11 k hk
      · obtain ⟨u2, w2, f1, f2, f3, f4, f5⟩ := err2 (g := g) (u := U) (w := W) (e := 1) hT hW hs.2 k6 k7 k11 k10 (by omega) (by omega) (by omega)
        have f1' : C5_error g U (1 : Int32) (nI s) = some u2 := f1
        have f2' : F8_fails W (1 : Int32) = some w2 := f2
        rw [if_neg z, f1', bS, bS, f3.fine, bS, if_pos (show nI 0 = (0 : Int32) from rfl), bS] at eo
        rw [if_neg (show ¬ hv (ch b n s) = (40 : Int32) from fun q => z ((hv_eq (c := 40) hch (by omega)).mp q)), f2', bS, bS]
        exact ⟨nI V, u1, u2, e1', eo, (f4.trans fC).x, fun R hR => (f4.trans fC).1 R (by omega), Or.inr ⟨nI V, w2, rfl, f5.trans fW, f3⟩⟩
  · rw [if_neg q1.ne.1, bS, if_neg q1.ne.1, bS]
    obtain ⟨u3, g1, g2, g3⟩ := openE (g := g) (d := d) (y := y) (p := u 0 6) hb q1 hdep
    exact ⟨y, u1, u3, e1', g1, (g2.trans e3).x, fun R hR => (g2.trans e3).1 R (by omega), Or.inr ⟨x, w1, rfl, e4, g3⟩⟩
end
section
noncomputable def pl (G : RS → Option RS) (a1 : Int32) : Nat → Int32 → RS → Option (Int32 × RS)
  | 0, _, _ => none
  | f + 1, y, u => if (u 0 11) = 0 then ((F8_next u).bind fun t => if (inB ((t.1).toInt64) (97 : Int64) (122 : Int64)) = 0 then (if (inB ((t.1).toInt64) (48 : Int64) (57 : Int64)) = 0 then (some ((y, t.2))) else ((G t.2).bind fun u25 => pl G a1 f (y + 1) u25)) else ((F8_takes t.2 (a1) ((t.1 - 97))).bind fun u27 => pl G a1 f (y + 1) u27)) else (some ((y, u)))
noncomputable def pP (G : RS → Option RS) (u0 : RS) (a1 : Int32) : Option RS := (ws u0 8 4 a1 (u0 0 19)).bind fun u1 => (pl G a1 FUEL (0 : Int32) u1).bind fun t7 => (if ((t7.2) 0 11) = 0 then (if (t7.1) = 0 then ((F8_fails (t7.2) (1 : Int32)).bind fun u16 => some u16) else (some (t7.2))) else (some (t7.2)) : Option (RS)).bind fun t12 => some t12
theorem pl0 {a1 : Int32} : ∀ f y u, F8_pieces_0_L12 a1 f y u = pl (fun u => F8_group_0 u a1) a1 f y u
  | 0, _, _ => rfl
  | f + 1, y, u => by
    rw [F8_pieces_0_L12, pl]
    simp only [pl0 f]
theorem pl1 {a1 : Int32} : ∀ f y u, F8_pieces_1_L12 a1 f y u = pl (fun u => F8_group_1 u a1) a1 f y u
  | 0, _, _ => rfl
  | f + 1, y, u => by
    rw [F8_pieces_1_L12, pl]
    simp only [pl1 f]
theorem pl2 {a1 : Int32} : ∀ f y u, F8_pieces_2_L12 a1 f y u = pl (fun u => F8_group_2 u a1) a1 f y u
  | 0, _, _ => rfl
  | f + 1, y, u => by
    rw [F8_pieces_2_L12, pl]
    simp only [pl2 f]
theorem pl3 {a1 : Int32} : ∀ f y u, F8_pieces_3_L12 a1 f y u = pl (fun u => F8_group_3 u a1) a1 f y u
  | 0, _, _ => rfl
  | f + 1, y, u => by
    rw [F8_pieces_3_L12, pl]
    simp only [pl3 f]
theorem pP0 {u : RS} {a : Int32} : F8_pieces_0 u a = pP (fun u => F8_group_0 u a) u a := by
  unfold F8_pieces_0 pP
  simp only [pl0]
theorem pP1 {u : RS} {a : Int32} : F8_pieces_1 u a = pP (fun u => F8_group_1 u a) u a := by
  unfold F8_pieces_1 pP
  simp only [pl1]
theorem pP2 {u : RS} {a : Int32} : F8_pieces_2 u a = pP (fun u => F8_group_2 u a) u a := by
  unfold F8_pieces_2 pP
  simp only [pl2]
theorem pP3 {u : RS} {a : Int32} : F8_pieces_3 u a = pP (fun u => F8_group_3 u a) u a := by
  unfold F8_pieces_3 pP
  simp only [pl3]
noncomputable def OKn (b : Nat → Int32) (n i : Nat) (u w : RS) : Prop := TC b n u ∧ TW b n w ∧ i ≤ n ∧ u 0 6 = nI (SK b n i) ∧ w 0 9 = nI i ∧ u 0 7 = nI 0 ∧ w 0 11 = nI 0
theorem OKs.skip {b : Nat → Int32} {n i : Nat} {g : CG} {u w : RS} (hb : BB b n) (h : OKs b n i u w) : C5_skipSpaces g u = some (nI (SK b n i), up u 0 6 (nI (SK b n i))) ∧ OKn b n i (up u 0 6 (nI (SK b n i))) w := by
  obtain ⟨o1, o2, o3, o4, o5, o6, o7⟩ := h
  exact ⟨skipC hb o1 o4 o3, o1.fr (FC.up (by omega)), o2, o3, up_eq, o5, by rw [up_ne (by omega)]; exact o6, o7⟩
theorem OKn.next {b : Nat → Int32} {n i : Nat} {u w : RS} (hb : BB b n) (h : OKn b n i u w) : F8_next w = some (hv (ch b n (SK b n i)), up (up w 0 9 (nI (SK b n i))) 0 10 (nI (SK b n i))) ∧ OKs b n (SK b n i) u (up (up w 0 9 (nI (SK b n i))) 0 10 (nI (SK b n i))) := by
  obtain ⟨o1, o2, o3, o4, o5, o6, o7⟩ := h
  have hs := SK_le (b := b) o3
  exact ⟨nextW hb o2 o5 o3, o1, (o2.fr (FW.up (by omega))).fr (FW.up (by omega)), hs.2, o4, by rw [up_ne (by omega), up_eq], o6, by rw [up_ne (by omega), up_ne (by omega)]; exact o7⟩
theorem ERs.skip {b : Nat → Int32} {n : Nat} {g : CG} {u w : RS} (hb : BB b n) (h : ERs b n u w) : ∃ s u', C5_skipSpaces g u = some (nI s, u') ∧ FC u' u ∧ ERs b n u' w := by
  obtain ⟨i, h3, h4⟩ := h.2.2.1
  have hs := SK_le (b := b) h3
  exact ⟨_, _, skipC hb h.1 h4 h3, FC.up (by omega), h.fc hs.2⟩
end
section
noncomputable def nx (t5 : Int32 × RS) (g : CG) (f y : Nat) (X : Option RS) : Option (Int32 × RS) := X.bind fun t37 => (C5_skipSpaces g t37).bind fun t40 => C5_readText_L17 t5 g f (nI (y + 1)) t40.2
theorem stepX {b : Nat → Int32} {n i y f : Nat} {g : CG} {u : RS} {t5 : Int32 × RS} (hb : BB b n) (h : TC b n u) (h6 : u 0 6 = nI i) (h7 : u 0 7 = nI 0) (hi : i < n) (hy : y < n) (h59 : ch b n i ≠ 59) : C5_readText_L17 t5 g (f + 1) (nI y) u = nx t5 g f y (if 97 ≤ ch b n i ∧ ch b n i ≤ 122 then ((C5_readLetter g u (b i)).bind fun u54 => some u54) else (if 48 ≤ ch b n i ∧ ch b n i ≤ 57 then ((C5_readNumber g u (2 : Int32) (9 : Int32)).bind fun t50 => (C5_openGroup g t50.2 t50.1 (u 0 6)).bind fun u52 => some u52) else (if ch b n i = 41 then ((C5_closeGroup g u).bind fun u48 => some u48) else ((C5_error g u (1 : Int32) (u 0 6)).bind fun u46 => some u46)))) := by
  have hn := hb.1
  have hbi := hb.2 i hi
  have e59 := b_eq hbi (c := 59) (by omega)
  have e41 := b_eq hbi (c := 41) (by omega)
  unfold nx
  rw [C5_readText_L17, if_neg (show ¬ u 0 5 ≤ nI y by rw [h.1]; exact nI_ge hy (by omega)), fineC0 h7, bS, if_neg (show ¬ nI 1 = (0 : Int32) from nz0), if_neg (show ¬ u 0 5 ≤ u 0 6 by rw [h.1, h6]; exact nI_ge hi (by omega))]
  rw [show rd u 3 600 (u 0 6) = some (b i) by rw [h6, rd_n (by omega) (by omega), h.2 i hi]]
  rw [ch_i hi] at h59 ⊢
  rw [bS, if_neg (show ¬ b i = (59 : Int32) from fun q => h59 (e59.mp q)), bS, let_C hbi, bS, show nI y + 1 = nI (y + 1) from nI_add _ 1]
  by_cases c1 : 97 ≤ cd (b i) ∧ cd (b i) ≤ 122
  · rw [if_pos c1, if_pos c1, if_neg (show ¬ nI 1 = (0 : Int32) from nz0)]
  · rw [if_neg c1, if_neg c1, if_pos (show nI 0 = (0 : Int32) from rfl), dig_C hbi, bS]
    by_cases c2 : 48 ≤ cd (b i) ∧ cd (b i) ≤ 57
    · rw [if_pos c2, if_pos c2, if_neg (show ¬ nI 1 = (0 : Int32) from nz0)]
    · rw [if_neg c2, if_neg c2, if_pos (show nI 0 = (0 : Int32) from rfl)]
      by_cases c3 : cd (b i) = 41
      · rw [if_pos c3, if_pos (show b i = (41 : Int32) from e41.mpr c3)]
      · rw [if_neg c3, if_neg (show ¬ b i = (41 : Int32) from fun q => c3 (e41.mp q))]
theorem stepE {b : Nat → Int32} {n y f : Nat} {g : CG} {u w : RS} {t5 : Int32 × RS} (h : ERs b n u w) : C5_readText_L17 t5 g (f + 1) (nI y) u = some (nI y, u) := by
  rw [C5_readText_L17, h.fine, bS, if_pos (show nI 0 = (0 : Int32) from rfl)]
  split <;> rfl
theorem stepN {b : Nat → Int32} {n i y f : Nat} {g : CG} {u : RS} {t5 : Int32 × RS} (hb : BB b n) (h : TC b n u) (h6 : u 0 6 = nI i) (h7 : u 0 7 = nI 0) (hi : i ≤ n) (he : ch b n i = 59 ∨ ch b n i = 256) : C5_readText_L17 t5 g (f + 1) (nI y) u = some (nI y, u) := by
  have hn := hb.1
  rw [C5_readText_L17, fineC0 h7, bS, if_neg (show ¬ nI 1 = (0 : Int32) from nz0)]
  by_cases c : i < n
  · have e59 := b_eq (hb.2 i c) (c := 59) (by omega)
    have h2 := (cd_spec (hb.2 i c)).2.1
    rw [if_neg (show ¬ u 0 5 ≤ u 0 6 by rw [h.1, h6]; exact nI_ge c (by omega)), show rd u 3 600 (u 0 6) = some (b i) by rw [h6, rd_n (by omega) (by omega), h.2 i c], bS]
    rw [ch_i c] at he
    rw [if_pos (show b i = (59 : Int32) from e59.mpr (by omega))]
    split <;> rfl
  · rw [if_pos (show u 0 5 ≤ u 0 6 by rw [h.1, h6]; exact nI_le (by omega) (by omega))]
    split <;> rfl
theorem nxE {b : Nat → Int32} {n y f : Nat} {g : CG} {u w : RS} {t5 : Int32 × RS} (hb : BB b n) (h : ERs b n u w) : ∃ u', nx t5 g (f + 1) y (some u) = some (nI (y + 1), u') ∧ FC u' u ∧ ERs b n u' w := by
  obtain ⟨s, u', e1, e2, e3⟩ := h.skip (g := g) hb
  refine ⟨u', ?_, e2, e3⟩
  unfold nx
  rw [bS, e1, bS]
  exact stepE e3
theorem nxO {b : Nat → Int32} {n i y f : Nat} {g : CG} {u w : RS} {t5 : Int32 × RS} (hb : BB b n) (h : OKs b n i u w) : nx t5 g f y (some u) = C5_readText_L17 t5 g f (nI (y + 1)) (up u 0 6 (nI (SK b n i))) ∧ OKn b n i (up u 0 6 (nI (SK b n i))) w := by
  obtain ⟨e1, e2⟩ := h.skip (g := g) hb
  refine ⟨?_, e2⟩
  unfold nx
  rw [bS, e1, bS]
end
section
noncomputable def PE (b : Nat → Int32) (n d i : Nat) (st ct : Nat → Nat) (t5 : Int32 × RS) (g : CG) (u w : RS) (R : Option (Int32 × RS)) (y' : Nat) (w' : RS) : Prop := ∃ i' u' len' fc' yc', R = C5_readText_L17 t5 g fc' (nI yc') u' ∧ OKs b n i' u' w' ∧ w' 0 10 = nI i' ∧ RT u' w' d len' st ct ∧ ¬ (97 ≤ ch b n i' ∧ ch b n i' ≤ 122) ∧ ¬ (48 ≤ ch b n i' ∧ ch b n i' ≤ 57) ∧ ch b n i' ≠ 32 ∧ (y' = 0 ↔ len' = st d) ∧ yc' ≤ i' ∧ n + 2 ≤ fc' + i' ∧ i ≤ i' ∧ (∀ R, 10 ≤ R → u' R = u R) ∧ XC g.nt u' u ∧ XW w' w ∧ w' 1 = w 1
noncomputable def EP (b : Nat → Int32) (n : Nat) (u w : RS) : Prop := ERs b n u w ∨ (TC b n u ∧ TW b n w ∧ ∃ i d, i ≤ n ∧ 1 ≤ d ∧ d ≤ 3 ∧ u 0 6 = nI i ∧ u 0 7 = nI 0 ∧ u 0 11 = nI d ∧ w 0 11 = nI 1 ∧ w 0 12 = nI i)
theorem EP.ne {b : Nat → Int32} {n : Nat} {u w : RS} (h : EP b n u w) : ¬ w 0 11 = (0 : Int32) := by
  rcases h with h | ⟨-, -, i, d, -, -, -, -, -, -, h, -⟩
  · exact h.ne.1
  · rw [h]; exact nz0
noncomputable def PF (b : Nat → Int32) (n : Nat) (g : CG) (u w : RS) (R : Option (Int32 × RS)) (w' : RS) : Prop := ∃ yy u', R = some (yy, u') ∧ EP b n u' w' ∧ (∀ R, 10 ≤ R → u' R = u R) ∧ XC g.nt u' u ∧ XW w' w ∧ w' 1 = w 1
noncomputable def GC (b : Nat → Int32) (n d : Nat) (G : RS → Option RS) (t5 : Int32 × RS) (g : CG) : Prop := ∀ (i yc fc len : Nat) (st ct : Nat → Nat) (u w : RS), OKs b n i u w → w 0 10 = nI i → RT u w d len st ct → (48 ≤ ch b n i ∧ ch b n i ≤ 57) → yc ≤ i → n + 2 ≤ fc + i → ∃ w', G w = some w' ∧ ((∃ i2 u2 fc2 yc2 len2, C5_readText_L17 t5 g fc (nI yc) u = C5_readText_L17 t5 g fc2 (nI yc2) u2 ∧ OKn b n i2 u2 w' ∧ i < i2 ∧ RT u2 w' d len2 st ct ∧ st d < len2 ∧ yc2 ≤ SK b n i2 ∧ n + 2 ≤ fc2 + SK b n i2 ∧ (∀ R, 10 ≤ R → u2 R = u R) ∧ XC g.nt u2 u ∧ XW w' w ∧ w' 1 = w 1) ∨ PF b n g u w (C5_readText_L17 t5 g fc (nI yc) u) w')
theorem plW {w w' : RS} {a1 a2 : Int32} (h : F8_takes w a1 a2 = some w') : w' 1 = w 1 := by
  unfold F8_takes at h
  obtain ⟨x, -, h⟩ := ob h
  split at h
  · obtain ⟨u, h1, h⟩ := ob h
    have e := Option.some.inj h
    rw [← e]
    unfold F8_fails at h1
    obtain ⟨z, h2, h3⟩ := ob h1
    rw [← Option.some.inj h3]
    split at h2
    · rw [pt_n, bS, pt_n, bS] at h2
      rw [← Option.some.inj h2, up_or (by decide), up_or (by decide)]
    · rw [← Option.some.inj h2]
  · obtain ⟨u, h1, h⟩ := ob h
    rw [pt_n, bS, pt_n, bS] at h
    rw [← Option.some.inj h, up_or (by decide), up_or (by decide)]
    unfold ws at h1
    split at h1
    · rw [← Option.some.inj h1, up_or (by decide)]
    · cases h1
theorem OKn.s {b : Nat → Int32} {n i : Nat} {u w : RS} (h : OKn b n i u w) : TC b n u ∧ u 0 6 = nI (SK b n i) ∧ u 0 7 = nI 0 := ⟨h.1, h.2.2.2.1, h.2.2.2.2.2.1⟩
theorem piecesC {b : Nat → Int32} {n d : Nat} {G : RS → Option RS} {t5 : Int32 × RS} {g : CG} (hb : BB b n) (hG : GC b n d G t5 g) : ∀ (k i y yc f fc len : Nat) (st ct : Nat → Nat) (u w : RS), n - i < k → k < f → y + k ≤ 10000 → OKn b n i u w → RT u w d len st ct → (y = 0 ↔ len = st d) → yc ≤ SK b n i → n + 2 ≤ fc + SK b n i → ∃ y' w', pl G (nI d) f (nI y) w = some (nI y', w') ∧ y' ≤ 10000 ∧ (PE b n d i st ct t5 g u w (C5_readText_L17 t5 g fc (nI yc) u) y' w' ∨ PF b n g u w (C5_readText_L17 t5 g fc (nI yc) u) w')
  | 0, i, y, yc, f, fc, len, st, ct, u, w, h1, _, _, _, _, _, _, _ => by omega
  | k + 1, i, y, yc, f, fc, len, st, ct, u, w, h1, h2, h3, ho, ht, hy, hyc, hfc => by
    obtain ⟨f, rfl⟩ : ∃ m, f = m + 1 := ⟨f - 1, by omega⟩
    have hn := hb.1
    have hi := ho.2.2.1
    have hs := SK_le (b := b) hi
    have hnb := SK_nb (b := b) hi
    obtain ⟨e1, e2⟩ := ho.next hb
    have fw : FW (up (up w 0 9 (nI (SK b n i))) 0 10 (nI (SK b n i))) w := (FW.up (by omega)).trans (FW.up (by omega))
    have ht1 := ht.fr FC.rfl fw
    have hch := ch_le (i := SK b n i) hb
    rw [pl, if_pos (show w 0 11 = (0 : Int32) from ho.2.2.2.2.2.2), e1, bS]
    dsimp only
    rw [inB_hv (p := 97) (q := 122) hch rfl rfl (by omega) (by omega), inB_hv (p := 48) (q := 57) hch rfl rfl (by omega) (by omega)]
    have k10 : up (up w 0 9 (nI (SK b n i))) 0 10 (nI (SK b n i)) 0 10 = nI (SK b n i) := up_eq
    generalize hW : up (up w 0 9 (nI (SK b n i))) 0 10 (nI (SK b n i)) = W at *
    by_cases c1 : 97 ≤ ch b n (SK b n i) ∧ ch b n (SK b n i) ≤ 122
    · have hsn : SK b n i < n := ch_lt (b := b) (by omega)
      obtain ⟨fc, rfl⟩ : ∃ m, fc = m + 2 := ⟨fc - 2, by omega⟩
      rw [if_pos c1, if_neg (show ¬ nI 1 = (0 : Int32) from nz0)]
      obtain ⟨u', w', a1, a2, a3, a4, a5⟩ := letter2 (g := g) hb e2 k10 ht1 c1
      have a2' : F8_takes W (nI d) (hv (ch b n (SK b n i)) - 97) = some w' := a2
      rw [a2', bS, stepX hb ho.s.1 ho.s.2.1 ho.s.2.2 hsn (by omega) (by omega), if_pos c1, a1, bS, show nI y + 1 = nI (y + 1) from nI_add _ 1]
      rcases a5 with ⟨b1, b2, b3, b4⟩ | ⟨b1, b2⟩
      · obtain ⟨g1, g2⟩ := nxO (g := g) (t5 := t5) (y := yc) (f := fc + 1) hb b1
        have hs2 := SK_le (b := b) (n := n) (i := SK b n i + 1) (by omega)
        have w1 : w' 1 = w 1 := b4.trans (fw.1 1 (by decide))
        obtain ⟨y', w2, q1, q2, q3⟩ := piecesC hb hG k (SK b n i + 1) (y + 1) (yc + 1) f (fc + 1) (len + 1) st ct (up u' 0 6 (nI (SK b n (SK b n i + 1)))) w' (by omega) (by omega) (by omega) g2 (b2.fr (FC.up (by omega)) FW.rfl) (by have := ht.2.2.2.2.2.2.1; omega) (by omega) (by omega)
        refine ⟨y', w2, q1, q2, ?_⟩
        rw [g1]
        have fX : XC g.nt (up u' 0 6 (nI (SK b n (SK b n i + 1)))) u := (FC.up (by omega)).x.trans a3 (Nat.le_refl _)
        have fR : ∀ R, 10 ≤ R → up u' 0 6 (nI (SK b n (SK b n i + 1))) R = u R := fun R hR => (up_or (by omega)).trans (b3 R hR)
        have fY : XW w' w := a4.trans fw.w1.x
        rcases q3 with ⟨i', u2, len', fc', yc', p1, p2, p3, p4, p5, p6, p7, p8, p9, p10, p11, p12, p13, p14, p15⟩ | ⟨yy, u2, p1, p2, p3, p4, p5, p6⟩
        · exact Or.inl ⟨i', u2, len', fc', yc', p1, p2, p3, p4, p5, p6, p7, p8, p9, p10, by omega, fun R hR => (p12 R hR).trans (fR R hR), p13.trans fX (Nat.le_refl _), p14.trans fY, p15.trans w1⟩
        · exact Or.inr ⟨yy, u2, p1, p2, fun R hR => (p3 R hR).trans (fR R hR), p4.trans fX (Nat.le_refl _), p5.trans fY, p6.trans w1⟩
      · obtain ⟨u2, g1, g2, g3⟩ := nxE (g := g) (t5 := t5) (y := yc) (f := fc) hb b1
        obtain ⟨f, rfl⟩ : ∃ m, f = m + 1 := ⟨f - 1, by omega⟩
        have w1 : w' 1 = w 1 := by
          have := a4
          exact (plW a2').trans (fw.1 1 (by decide))
        refine ⟨y + 1, w', by rw [pl, if_neg b1.ne.1], by omega, Or.inr ⟨_, u2, g1, Or.inl g3, fun R hR => (g2.1 R (by omega)).trans (b2 R hR), g2.x.trans a3 (Nat.le_refl _), a4.trans fw.w1.x, w1⟩⟩
    · rw [if_neg c1, if_pos (show nI 0 = (0 : Int32) from rfl)]
      by_cases c2 : 48 ≤ ch b n (SK b n i) ∧ ch b n (SK b n i) ≤ 57
      · rw [if_pos c2, if_neg (show ¬ nI 1 = (0 : Int32) from nz0)]
        obtain ⟨w', a1, a2⟩ := hG (SK b n i) yc fc len st ct u W e2 k10 ht1 c2 hyc hfc
        rw [a1, bS, show nI y + 1 = nI (y + 1) from nI_add _ 1]
        rcases a2 with ⟨i2, u2, fc2, yc2, len2, q1, q2, q3, q4, q5, q6, q7, q8, q9, q10, q11⟩ | ⟨yy, u2, q1, q2, q3, q4, q5, q6⟩
        · have hi2 : i2 ≤ n := q2.2.2.1
          obtain ⟨y', w2, r1, r2, r3⟩ := piecesC hb hG k i2 (y + 1) yc2 f fc2 len2 st ct u2 w' (by omega) (by omega) (by omega) q2 q4 (by omega) q6 q7
          refine ⟨y', w2, r1, r2, ?_⟩
          rw [q1]
          have fY : XW w' w := q10.trans fw.w1.x
          have w1 : w' 1 = w 1 := q11.trans (fw.1 1 (by decide))
          have hs2 := SK_le (b := b) (n := n) (i := i2) q2.2.2.1
          rcases r3 with ⟨i', u3, len', fc', yc', p1, p2, p3, p4, p5, p6, p7, p8, p9, p10, p11, p12, p13, p14, p15⟩ | ⟨yy, u3, p1, p2, p3, p4, p5, p6⟩
          · exact Or.inl ⟨i', u3, len', fc', yc', p1, p2, p3, p4, p5, p6, p7, p8, p9, p10, by omega, fun R hR => (p12 R hR).trans (q8 R hR), p13.trans q9 (Nat.le_refl _), p14.trans fY, p15.trans w1⟩
          · exact Or.inr ⟨yy, u3, p1, p2, fun R hR => (p3 R hR).trans (q8 R hR), p4.trans q9 (Nat.le_refl _), p5.trans fY, p6.trans w1⟩
        · obtain ⟨f, rfl⟩ : ∃ m, f = m + 1 := ⟨f - 1, by omega⟩
          exact ⟨y + 1, w', by rw [pl, if_neg q2.ne], by omega, Or.inr ⟨yy, u2, q1, q2, q3, q4, q5.trans fw.w1.x, q6.trans (fw.1 1 (by decide))⟩⟩
      · rw [if_neg c2, if_pos (show nI 0 = (0 : Int32) from rfl)]
        exact ⟨y, W, rfl, by omega, Or.inl ⟨SK b n i, u, len, fc, yc, rfl, e2, k10, ht1, c1, c2, hnb, hy, hyc, hfc, hs.1, fun _ _ => rfl, FC.rfl.x, fw.w1.x, fw.1 1 (by decide)⟩⟩
end
section
theorem RT.dn {u w : RS} {d len x y : Nat} {st ct : Nat → Nat} (h : RT u w d len (ups st (d + 1) x) (ups ct (d + 1) y)) : RT u w d len st ct := by
  obtain ⟨h1, h2, h3, h4, h5, h6, h7, h8, h9, h10, h11⟩ := h
  have e : ∀ k, k ≤ d → ups st (d + 1) x k = st k := fun k hk => by unfold ups; rw [if_neg (by omega)]
  have e2 : ∀ k, k ≤ d → ups ct (d + 1) y k = ct k := fun k hk => by unfold ups; rw [if_neg (by omega)]
  rw [e d (Nat.le_refl _)] at h7 h8
  rw [e 0 (by omega)] at h5
  refine ⟨h1, h2, h3, h4, h5, fun k hk => ?_, h7, h8, fun k hk => ?_, fun k p q => ?_, h11⟩
  · have := h6 k hk
    rw [e k (by omega), e (k + 1) (by omega)] at this
    exact this
  · have := h9 k hk
    rw [e k hk] at this
    exact this
  · have := h10 k p q
    rw [e2 k q] at this
    exact this
noncomputable def gtl (a1 : Int32) (x : Int32) (u14 : RS) : Option RS := (if (u14 0 11) = 0 then ((F8_next u14).bind fun t26 => if t26.1 = 41 then (some t26.2) else ((F8_fails t26.2 (1 : Int32)).bind fun u29 => some u29)) else (some u14) : Option (RS)).bind fun t17 => (if (t17 0 11) = 0 then ((F8_repeats t17 (a1) x).bind fun u24 => some u24) else (some t17) : Option (RS)).bind fun t21 => some t21
theorem gtl_e {a x : Int32} {u : RS} (h : ¬ u 0 11 = (0 : Int32)) : gtl a x u = some u := by
  unfold gtl
  rw [if_neg h, bS, if_neg h, bS]
theorem gsuf_e {a : Int32} {P : RS → Int32 → Option RS} {t : Int32 × RS} (h : ¬ t.2 0 11 = (0 : Int32)) : gsuf P a t = some t.2 := by
  unfold gsuf
  rw [if_neg h]
theorem errG {b : Nat → Int32} {n i d len yc fc : Nat} {st ct : Nat → Nat} {g : CG} {u w : RS} {t5 : Int32 × RS} (hb : BB b n) (h : OKs b n i u w) (h10 : w 0 10 = nI i) (ht : RT u w (d + 1) len st ct) (c1 : ¬ (97 ≤ ch b n i ∧ ch b n i ≤ 122)) (c2 : ¬ (48 ≤ ch b n i ∧ ch b n i ≤ 57)) (c4 : ch b n i = 41 → len = st (d + 1)) (hyc : yc ≤ i) (hfc : n + 2 ≤ fc + i) : ∃ w', F8_fails w (1 : Int32) = some w' ∧ PF b n g u w (C5_readText_L17 t5 g fc (nI yc) u) w' := by
  have hn := hb.1
  have hi := h.2.2.1
  have h6 := h.2.2.2.1
  have h7 := h.2.2.2.2.2.1
  by_cases e : ch b n i = 59 ∨ ch b n i = 256
  · obtain ⟨fc, rfl⟩ : ∃ m, fc = m + 1 := ⟨fc - 1, by omega⟩
    obtain ⟨o1, o2, o3, o4, o5, o6, o7⟩ := h
    have fw : FW (up (up w 0 11 (1 : Int32)) 0 12 (w 0 10)) w := (FW.up (by omega)).trans (FW.up (by omega))
    refine ⟨_, failW0 o7, _, u, stepN hb o1 o4 o6 o3 e, Or.inr ⟨o1, o2.fr fw, i, d + 1, o3, by omega, ht.1, o4, o6, ht.2.1, ?_, ?_⟩, fun _ _ => rfl, FC.rfl.x, fw.w1.x, fw.1 1 (by decide)⟩
    · rw [up_ne (by omega), up_eq]; rfl
    · rw [up_eq]; exact h10
  · have hin : i < n := by
      by_cases q : i < n
      · exact q
      · exact absurd (Or.inr (ch_n (b := b) (by omega))) e
    obtain ⟨fc, rfl⟩ : ∃ m, fc = m + 2 := ⟨fc - 2, by omega⟩
    obtain ⟨o1, o2, o3, o4, o5, o6, o7⟩ := h
    obtain ⟨u', w', e1, e2, e3, e4, e5⟩ := err2 (g := g) (u := u) (w := w) (e := 1) (p := i) o1 o2 o3 o4 o6 o7 h10 (by omega) (by omega) (by omega)
    have e1' : C5_error g u (1 : Int32) (nI i) = some u' := e1
    have e2' : F8_fails w (1 : Int32) = some w' := e2
    obtain ⟨u2, k1, k2, k3⟩ := nxE (g := g) (t5 := t5) (y := yc) (f := fc) hb e3
    have hs : (if ch b n i = 41 then ((C5_closeGroup g u).bind fun u48 => some u48) else ((C5_error g u (1 : Int32) (u 0 6)).bind fun u46 => some u46) : Option RS) = some u' := by
      by_cases c3 : ch b n i = 41
      · have hl := c4 c3
        have rl := rowLen (g := g) ht
        rw [if_pos c3]
        unfold C5_closeGroup
        rw [ht.2.1, if_neg (show ¬ nI (d + 1) = (0 : Int32) from nI_ne (b := 0) (by omega) (by have := ht.1; omega) (by omega)), rl, bS, if_pos (show nI (len - st (d + 1)) = (0 : Int32) by rw [hl, Nat.sub_self]; rfl), o4, e1', bS, bS]
      · rw [if_neg c3, o4, e1', bS]
    rw [stepX hb o1 o4 o6 hin (by omega) (by omega), if_neg c1, if_neg c2, hs, k1]
    exact ⟨w', e2', _, u2, rfl, Or.inl k3, fun R hR => (k2.1 R (by omega)).trans (e4.1 R (by omega)), (k2.trans e4).x, e5.w1.x, e5.1 1 (by decide)⟩
theorem groupC {b : Nat → Int32} {n d : Nat} {G' : RS → Option RS} {P : RS → Int32 → Option RS} {t5 : Int32 × RS} {g : CG} (hb : BB b n) (hG : d < 3 → GC b n (d + 1) G' t5 g ∧ ∀ u, P u (nI (d + 1)) = pP G' u (nI (d + 1))) : GC b n d (fun u => (gpre u (nI d)).bind (gsuf P (nI d))) t5 g := by
  intro i yc fc len st ct u w ho h10 ht hc hyc hfc
  have hn := hb.1
  have hin : i < n := ch_lt (b := b) (by omega)
  obtain ⟨fc, rfl⟩ : ∃ m, fc = m + 2 := ⟨fc - 2, by omega⟩
  obtain ⟨y, u1, u', e1, e2, e3, e4, e5⟩ := open2 (g := g) hb ho ht
  rw [stepX hb ho.1 ho.2.2.2.1 ho.2.2.2.2.2.1 hin (by omega) (by omega), if_neg (by omega), if_pos hc, e1, bS]
  dsimp only
  rw [e2, bS]
  rcases e5 with ⟨V, i', w', d3, V2, V9, hi', g1, g2, g3, g4, g5, g6⟩ | ⟨x, w', g1, g2, g3⟩
  · obtain ⟨hG1, hP⟩ := hG d3
    have h19 : w' 0 19 = nI len := (g2.2 19 (by decide) (by decide) (by decide) (by decide)).trans ht.2.2.2.1
    have eG : (gpre w (nI d)).bind (gsuf P (nI d)) = ((pl G' (nI (d + 1)) FUEL (nI 0) (up (up w' 0 9 (nI (i' + 1))) 8 (d + 1) (nI len))).bind fun t7 => (if ((t7.2) 0 11) = 0 then (if (t7.1) = 0 then ((F8_fails (t7.2) (1 : Int32)).bind fun u16 => some u16) else (some (t7.2))) else (some (t7.2)) : Option (RS))).bind (gtl (nI d) (nI V)) := by
      rw [g1, bS]
      unfold gsuf gtl
      dsimp only
      rw [if_pos (show w' 0 11 = (0 : Int32) from g3), pt_n, bS, g4, show nI i' + 1 = nI (i' + 1) from nI_add _ 1, show nI d + 1 = nI (d + 1) from nI_add _ 1, hP]
      unfold pP
      rw [up_ne (show ¬ (0 = 0 ∧ 19 = 9) by omega), h19, ws_n (by omega) (by omega), bS]
      simp only [Option.bind_assoc, bS]
      rfl
    obtain ⟨n1, n2⟩ := nxO (g := g) (t5 := t5) (y := yc) (f := fc + 1) hb g5
    have hs := SK_le (b := b) (n := n) (i := i' + 1) g5.2.2.1
    have e0 : ups st (d + 1) len (d + 1) = len := by unfold ups; rw [if_pos rfl]
    have ec : ups ct (d + 1) V (d + 1) = V := by unfold ups; rw [if_pos rfl]
    have e0d : ups st (d + 1) len d = st d := by unfold ups; rw [if_neg (by omega)]
    have fWX : XW (up (up w' 0 9 (nI (i' + 1))) 8 (d + 1) (nI len)) w := ⟨fun R p _ _ r => by rw [up_or r, up_or p]; exact g2.1 R p, fun j p q r s _ _ => by rw [up_ne (by omega), up_ne (by omega)]; exact g2.2 j p q r s⟩
    have fW1 : (up (up w' 0 9 (nI (i' + 1))) 8 (d + 1) (nI len)) 1 = w 1 := by rw [up_or (by decide), up_or (by decide)]; exact g2.1 1 (by decide)
    generalize up (up w' 0 9 (nI (i' + 1))) 8 (d + 1) (nI len) = W at *
    obtain ⟨y', w2, q1, q2, q3⟩ := piecesC hb hG1 601 (i' + 1) 0 (yc + 1) FUEL (fc + 1) len (ups st (d + 1) len) (ups ct (d + 1) V) (up u' 0 6 (nI (SK b n (i' + 1)))) W (by omega) (by show 601 < 10000; omega) (by omega) n2 (g6.fr (FC.up (by omega)) FW.rfl) (by rw [e0]; exact ⟨fun _ => rfl, fun _ => rfl⟩) (by omega) (by omega)
    have fX : XC g.nt (up u' 0 6 (nI (SK b n (i' + 1)))) u := (FC.up (by omega)).x.trans e3 (Nat.le_refl _)
    have fR : ∀ R, 10 ≤ R → up u' 0 6 (nI (SK b n (i' + 1))) R = u R := fun R hR => (up_or (by omega)).trans (e4 R hR)
    rw [n1]
    try dsimp only
    rw [eG, q1, bS]
    dsimp only
    rcases q3 with ⟨i2, u2, len2, fc2, yc2, p1, p2, p3, p4, p5, p6, p7, p8, p9, p10, p11, p12, p13, p14, p15⟩ | ⟨yy, u2, p1, p2, p3, p4, p5, p6⟩
    · rw [p1]
      rw [e0] at p8
      have p11' := p2.2.2.1
      rw [if_pos (show w2 0 11 = (0 : Int32) from p2.2.2.2.2.2.2)]
      by_cases hy : y' = 0
      · have hl := p8.mp hy
        obtain ⟨w3, z1, yy, u3, z2, z3, z4, z5, z6, z7⟩ := errG (g := g) (t5 := t5) (yc := yc2) (fc := fc2) hb p2 p3 p4 p5 p6 (fun _ => hl.trans e0.symm) p9 p10
        rw [hy, if_pos (show nI 0 = (0 : Int32) from rfl), z1, bS, bS, gtl_e z3.ne]
        exact ⟨w3, rfl, Or.inr ⟨yy, u3, z2, z3, fun R hR => ((z4 R hR).trans (p12 R hR)).trans (fR R hR), (z5.trans p13 (Nat.le_refl _)).trans fX (Nat.le_refl _), (z6.trans p14).trans fWX, (z7.trans p15).trans fW1⟩⟩
      · rw [if_neg (show ¬ nI y' = (0 : Int32) from nI_ne (b := 0) hy (by omega) (by omega)), bS]
        unfold gtl
        have hsk := SK_id (b := b) (n := n) (i := i2) p7
        rw [if_pos (show w2 0 11 = (0 : Int32) from p2.2.2.2.2.2.2), nextW hb p2.2.1 p2.2.2.2.2.1 p11', bS, hsk]
        dsimp only
        rw [up_id (x := nI i2) p2.2.2.2.2.1, up_id (x := nI i2) p3]
        have hch := ch_le (i := i2) hb
        have hlen : len < len2 := by
          have := p4.2.2.2.2.2.2.1
          rw [e0] at this
          by_cases z : len2 = len
          · exact absurd (p8.mpr z) hy
          · omega
        by_cases c : ch b n i2 = 41
        · have hin2 : i2 < n := ch_lt (b := b) (by omega)
          obtain ⟨fc2, rfl⟩ : ∃ m, fc2 = m + 2 := ⟨fc2 - 2, by omega⟩
          obtain ⟨u3, w3, z1, z2, z3, z4, z5, z6, z7⟩ := close2 (g := g) hb p2 hin2 p3 p4 (by rw [e0]; exact hlen)
          rw [ec] at z2
          rw [if_pos (show hv (ch b n i2) = (41 : Int32) from (hv_eq (c := 41) hch (by omega)).mpr c), bS, if_pos (show w2 0 11 = (0 : Int32) from p2.2.2.2.2.2.2), z2, bS, bS]
          rw [stepX hb p2.1 p2.2.2.2.1 p2.2.2.2.2.2.1 hin2 (by omega) (by omega), if_neg p5, if_neg p6, if_pos c, z1, bS]
          have tR : ∀ R, 10 ≤ R → u3 R = u R := fun R hR => ((z5 R hR).trans (p12 R hR)).trans (fR R hR)
          have tX : XC g.nt u3 u := (z3.trans p13 (Nat.le_refl _)).trans fX (Nat.le_refl _)
          have tW : XW w3 w := (z4.trans p14).trans fWX
          have t1 : w3 1 = w 1 := (z6.trans p15).trans fW1
          rcases z7 with ⟨z8, len3, z9, z10⟩ | z8
          · rw [e0d] at z9
            obtain ⟨m1, m2⟩ := nxO (g := g) (t5 := t5) (y := yc2) (f := fc2 + 1) hb z8
            have hs3 := SK_le (b := b) (n := n) (i := i2 + 1) (by omega)
            refine ⟨w3, rfl, Or.inl ⟨i2 + 1, _, fc2 + 1, yc2 + 1, len3, m1, m2, by omega, z10.dn.fr (FC.up (by omega)) FW.rfl, z9, by omega, by omega, fun R hR => (up_or (by omega)).trans (tR R hR), (FC.up (by omega)).x.trans tX (Nat.le_refl _), tW, t1⟩⟩
          · obtain ⟨u4, k1, k2, k3⟩ := nxE (g := g) (t5 := t5) (y := yc2) (f := fc2) hb z8
            exact ⟨w3, rfl, Or.inr ⟨_, u4, k1, Or.inl k3, fun R hR => (k2.1 R (by omega)).trans (tR R hR), k2.x.trans tX (Nat.le_refl _), tW, t1⟩⟩
        · obtain ⟨w3, z1, yy, u3, z2, z3, z4, z5, z6, z7⟩ := errG (g := g) (t5 := t5) (yc := yc2) (fc := fc2) hb p2 p3 p4 p5 p6 (fun q => absurd q c) p9 p10
          rw [if_neg (show ¬ hv (ch b n i2) = (41 : Int32) from fun q => c ((hv_eq (c := 41) hch (by omega)).mp q)), z1, bS, bS, if_neg z3.ne, bS]
          exact ⟨w3, rfl, Or.inr ⟨yy, u3, z2, z3, fun R hR => ((z4 R hR).trans (p12 R hR)).trans (fR R hR), (z5.trans p13 (Nat.le_refl _)).trans fX (Nat.le_refl _), (z6.trans p14).trans fWX, (z7.trans p15).trans fW1⟩⟩
    · rw [p1, if_neg p2.ne, bS, gtl_e p2.ne]
      exact ⟨w2, rfl, Or.inr ⟨yy, u2, rfl, p2, fun R hR => (p3 R hR).trans (fR R hR), p4.trans fX (Nat.le_refl _), p5.trans fWX, p6.trans fW1⟩⟩
  · obtain ⟨u2, k1, k2, k3⟩ := nxE (g := g) (t5 := t5) (y := yc) (f := fc) hb g3
    refine ⟨w', ?_, Or.inr ⟨_, u2, k1, Or.inl k3, fun R hR => (k2.1 R (by omega)).trans (e4 R hR), k2.x.trans e3 (Nat.le_refl _), g2.w1.x, g2.1 1 (by decide)⟩⟩
    try dsimp only
    rw [g1, bS, gsuf_e g3.ne.1]
theorem GC3 {b : Nat → Int32} {n : Nat} {t5 : Int32 × RS} {g : CG} (hb : BB b n) : GC b n 3 (fun u => F8_group_3 u (nI 3)) t5 g := by
  have := groupC (G' := fun _ => none) (P := F8_pieces_4) (t5 := t5) (g := g) (d := 3) hb (fun q => absurd q (by omega))
  simp only [group3]
  exact this
theorem GC2 {b : Nat → Int32} {n : Nat} {t5 : Int32 × RS} {g : CG} (hb : BB b n) : GC b n 2 (fun u => F8_group_2 u (nI 2)) t5 g := by
  have := groupC (G' := fun u => F8_group_3 u (nI 3)) (P := F8_pieces_3) (t5 := t5) (g := g) (d := 2) hb (fun _ => ⟨GC3 hb, fun u => pP3⟩)
  simp only [group2]
  exact this
theorem GC1 {b : Nat → Int32} {n : Nat} {t5 : Int32 × RS} {g : CG} (hb : BB b n) : GC b n 1 (fun u => F8_group_1 u (nI 1)) t5 g := by
  have := groupC (G' := fun u => F8_group_2 u (nI 2)) (P := F8_pieces_2) (t5 := t5) (g := g) (d := 1) hb (fun _ => ⟨GC2 hb, fun u => pP2⟩)
  simp only [group1]
  exact this
theorem GC0 {b : Nat → Int32} {n : Nat} {t5 : Int32 × RS} {g : CG} (hb : BB b n) : GC b n 0 (fun u => F8_group_0 u (nI 0)) t5 g := by
  have := groupC (G' := fun u => F8_group_1 u (nI 1)) (P := F8_pieces_1) (t5 := t5) (g := g) (d := 0) hb (fun _ => ⟨GC1 hb, fun u => pP1⟩)
  simp only [group0]
  exact this
end
section
theorem bI {α : Type} {x : Option α} : (x.bind fun t => some t) = x := by cases x <;> rfl
noncomputable def rtl (g : CG) (u : RS) : Option RS := (if 0 < (u 0 11) then ((C5_error g u (1) ((u 0 6))).bind fun u17 => some u17) else (if (u 0 10) = 0 then ((C5_error g u (1) ((u 0 6))).bind fun u20 => some u20) else (some u)) : Option (RS)).bind fun t14 => some t14
noncomputable def ppt (t7 : Int32 × RS) : Option RS := (if ((t7.2) 0 11) = 0 then (if (t7.1) = 0 then ((F8_fails (t7.2) (1 : Int32)).bind fun u16 => some u16) else (some (t7.2))) else (some (t7.2)) : Option (RS))
theorem rtl_e {b : Nat → Int32} {n : Nat} {g : CG} {u w : RS} (h : ERs b n u w) : rtl g u = some u := by
  unfold rtl
  rw [h.errC, bS, ite_self, ite_self, bS]
theorem ppt_e {t : Int32 × RS} (h : ¬ t.2 0 11 = (0 : Int32)) : ppt t = some t.2 := by
  unfold ppt
  rw [if_neg h]
noncomputable def PN (b : Nat → Int32) (n : Nat) (u w : RS) : Prop := TC b n u ∧ TW b n w ∧ ∃ i, i ≤ n ∧ ch b n i ≠ 59 ∧ ch b n i ≠ 256 ∧ ch b n i ≠ 32 ∧ u 0 6 = nI i ∧ u 0 7 = nI 1 ∧ u 0 8 = nI i ∧ w 0 9 = nI i ∧ w 0 11 = nI 0
theorem text2 {b : Nat → Int32} {n i : Nat} {g : CG} {u w : RS} (hb : BB b n) (h : OKs b n i u w) (h50 : u 5 0 = nI 0) : ∃ u' w', C5_readText g u = some u' ∧ F8_text w = some w' ∧ XC g.nt u' u ∧ XW w' w ∧ (∀ R, 10 ≤ R → u' R = u R) ∧ w' 1 = w 1 ∧ ((∃ i' len, i ≤ i' ∧ OKs b n i' u' w' ∧ (ch b n i' = 59 ∨ ch b n i' = 256) ∧ 1 ≤ len ∧ RT u' w' 0 len (fun _ => 0) (fun _ => 0)) ∨ ERs b n u' w' ∨ (PN b n u' w' ∧ ∃ len, len ≤ 16 ∧ w' 0 19 = nI len)) := by
  have hn := hb.1
  obtain ⟨o1, o2, o3, o4, o5, o6, o7⟩ := h
  have hs := SK_le (b := b) o3
  have hT0 : TC b n (up (up u 0 10 0) 0 11 0) := ⟨by rw [up_ne (by omega), up_ne (by omega)]; exact o1.1, fun k hk => by rw [up_ne (by omega), up_ne (by omega)]; exact o1.2 k hk⟩
  have h60 : up (up u 0 10 0) 0 11 0 0 6 = nI i := by rw [up_ne (by omega), up_ne (by omega)]; exact o4
  have eC : C5_readText g u = (C5_readText_L17 (nI (SK b n i), up (up (up u 0 10 0) 0 11 0) 0 6 (nI (SK b n i))) g FUEL (nI (SK b n i)) (up (up (up u 0 10 0) 0 11 0) 0 6 (nI (SK b n i)))).bind fun t9 => rtl g t9.2 := by
    unfold C5_readText rtl
    rw [pt_n, bS, pt_n, bS, skipC hb hT0 h60 o3, bS]
  have eW : F8_text w = (pl (fun u => F8_group_0 u (nI 0)) (nI 0) FUEL (nI 0) (up (up w 0 19 0) 8 0 (nI 0))).bind ppt := by
    unfold F8_text
    rw [pt_n, bS, show F8_pieces_0 (up w 0 19 0) (0 : Int32) = pP (fun u => F8_group_0 u (nI 0)) (up w 0 19 0) (nI 0) from pP0, bI]
    unfold pP
    rw [up_eq, ws_n (by omega) (by omega), bS]
    refine congrArg (Option.bind (pl (fun u => F8_group_0 u (nI 0)) (nI 0) FUEL (nI 0) (up (up w 0 19 0) 8 0 (nI 0)))) (funext fun t7 => ?_)
    exact bI
  have hoT : OKn b n i (up (up (up u 0 10 0) 0 11 0) 0 6 (nI (SK b n i))) (up (up w 0 19 0) 8 0 (nI 0)) := by
    refine ⟨hT0.fr (FC.up (by omega)), ⟨?_, fun k hk => ?_⟩, o3, up_eq, ?_, ?_, ?_⟩
    · rw [up_ne (by omega), up_ne (by omega)]; exact o2.1
    · rw [up_ne (by omega), up_ne (by omega)]; exact o2.2 k hk
    · rw [up_ne (by omega), up_ne (by omega)]; exact o5
    · rw [up_ne (by omega), up_ne (by omega), up_ne (by omega)]; exact o6
    · rw [up_ne (by omega), up_ne (by omega)]; exact o7
  have hrt : RT (up (up (up u 0 10 0) 0 11 0) 0 6 (nI (SK b n i))) (up (up w 0 19 0) 8 0 (nI 0)) 0 0 (fun _ => 0) (fun _ => 0) := by
    refine ⟨by omega, ?_, ?_, ?_, rfl, fun k hk => by omega, Nat.le_refl _, by omega, fun k hk => ?_, fun k p q => by omega, fun k hk => by omega⟩
    · rw [up_ne (by omega), up_eq]; rfl
    · rw [up_ne (by omega), up_ne (by omega), up_eq]; rfl
    · rw [up_ne (by omega), up_eq]; rfl
    · have e : k = 0 := by omega
      rw [e, up_ne (by omega), up_ne (by omega), up_ne (by omega), up_eq]
      exact ⟨h50, rfl⟩
  have fX : XC g.nt (up (up (up u 0 10 0) 0 11 0) 0 6 (nI (SK b n i))) u := ⟨fun R p _ _ _ _ _ => by rw [up_or p, up_or p, up_or p], fun j p _ _ q r => by rw [up_ne (by omega), up_ne (by omega), up_ne (by omega)], by rw [up_ne (by omega), up_ne (by omega), up_ne (by omega)]⟩
  have fR : ∀ R, 10 ≤ R → up (up (up u 0 10 0) 0 11 0) 0 6 (nI (SK b n i)) R = u R := fun R hR => by rw [up_or (by omega), up_or (by omega), up_or (by omega)]
  have fW : XW (up (up w 0 19 0) 8 0 (nI 0)) w := ⟨fun R p _ _ q => by rw [up_or q, up_or p], fun j _ _ _ _ _ p => by rw [up_ne (by omega), up_ne (by omega)]⟩
  have fW1 : (up (up w 0 19 0) 8 0 (nI 0)) 1 = w 1 := by rw [up_or (by decide), up_or (by decide)]
  rw [eC, eW]
  generalize up (up (up u 0 10 0) 0 11 0) 0 6 (nI (SK b n i)) = U at *
  generalize up (up w 0 19 0) 8 0 (nI 0) = W at *
  generalize hT5 : (nI (SK b n i), U) = t5
  obtain ⟨y', w2, q1, q2, q3⟩ := piecesC (t5 := t5) (g := g) hb (GC0 hb) 601 i 0 (SK b n i) FUEL FUEL 0 (fun _ => 0) (fun _ => 0) U W (by omega) (by show 601 < 10000; omega) (by omega) hoT hrt ⟨fun _ => rfl, fun _ => rfl⟩ (Nat.le_refl _) (by show n + 2 ≤ 10000 + SK b n i; omega)
  rw [q1, bS]
  rcases q3 with ⟨i2, u2, len2, fc2, yc2, p1, p2, p3, p4, p5, p6, p7, p8, p9, p10, p11, p12, p13, p14, p15⟩ | ⟨yy, u2, p1, p2, p3, p4, p5, p6⟩
  · rw [p1]
    have tX : XC g.nt u2 u := p13.trans fX (Nat.le_refl _)
    have tR : ∀ R, 10 ≤ R → u2 R = u R := fun R hR => (p12 R hR).trans (fR R hR)
    have tW : XW w2 w := p14.trans fW
    have t1 : w2 1 = w 1 := p15.trans fW1
    obtain ⟨z1, z2, z3, z4, z5, z6, z7⟩ := p2
    have h16 : len2 ≤ 16 := by have := p4.2.2.2.2.2.2.2.1; omega
    have h0 : u2 0 11 = nI 0 := p4.2.1
    have h10 : u2 0 10 = nI len2 := p4.2.2.1
    by_cases e : ch b n i2 = 59 ∨ ch b n i2 = 256
    · obtain ⟨fc2, rfl⟩ : ∃ m, fc2 = m + 1 := ⟨fc2 - 1, by omega⟩
      rw [stepN hb z1 z4 z6 z3 e, bS]
      unfold rtl ppt
      dsimp only
      rw [if_neg (show ¬ (0 : Int32) < u2 0 11 by rw [h0]; decide), if_pos (show w2 0 11 = (0 : Int32) from z7)]
      by_cases l : len2 = 0
      · obtain ⟨u', w', e1, e2, e3, e4, e5⟩ := err2 (g := g) (u := u2) (w := w2) (e := 1) (p := i2) z1 z2 z3 z4 z6 z7 p3 (by omega) (by omega) (by omega)
        have e1' : C5_error g u2 (1 : Int32) (nI i2) = some u' := e1
        have e2' : F8_fails w2 (1 : Int32) = some w' := e2
        rw [if_pos (show u2 0 10 = (0 : Int32) by rw [h10, l]; rfl), z4, e1', bS, bS, if_pos (show nI y' = (0 : Int32) by rw [p8.mpr l]; rfl), e2', bS]
        exact ⟨u', w', rfl, rfl, e4.x.trans tX (Nat.le_refl _), e5.w1.x.trans tW, fun R hR => (e4.1 R (by omega)).trans (tR R hR), (e5.1 1 (by decide)).trans t1, Or.inr (Or.inl e3)⟩
      · have hy : ¬ y' = 0 := fun q => l (p8.mp q)
        rw [if_neg (show ¬ u2 0 10 = (0 : Int32) by rw [h10]; exact nI_ne (b := 0) l (by omega) (by omega)), bS, if_neg (show ¬ nI y' = (0 : Int32) from nI_ne (b := 0) hy (by omega) (by omega))]
        exact ⟨u2, w2, rfl, rfl, tX, tW, tR, t1, Or.inl ⟨i2, len2, p11, ⟨z1, z2, z3, z4, z5, z6, z7⟩, e, by omega, p4⟩⟩
    · have hin : i2 < n := by
        by_cases q : i2 < n
        · exact q
        · exact absurd (Or.inr (ch_n (b := b) (by omega))) e
      obtain ⟨fc2, rfl⟩ : ∃ m, fc2 = m + 2 := ⟨fc2 - 2, by omega⟩
      obtain ⟨u', w', e1, e2, e3, e4, e5⟩ := err2 (g := g) (u := u2) (w := w2) (e := 1) (p := i2) z1 z2 z3 z4 z6 z7 p3 (by omega) (by omega) (by omega)
      have e1' : C5_error g u2 (1 : Int32) (nI i2) = some u' := e1
      have e2' : F8_fails w2 (1 : Int32) = some w' := e2
      have e1k := Option.some.inj (e1'.symm.trans (errC0 z6))
      have k6 : u' 0 6 = nI i2 := by rw [e1k, up_ne (by omega), up_ne (by omega)]; exact z4
      have k7 : u' 0 7 = nI 1 := by rw [e1k, up_ne (by omega), up_eq]; rfl
      have k8 : u' 0 8 = nI i2 := by rw [e1k, up_eq]
      have hs : (if ch b n i2 = 41 then ((C5_closeGroup g u2).bind fun u48 => some u48) else ((C5_error g u2 (1 : Int32) (u2 0 6)).bind fun u46 => some u46) : Option RS) = some u' := by
        by_cases c3 : ch b n i2 = 41
        · rw [if_pos c3]
          unfold C5_closeGroup
          rw [if_pos (show u2 0 11 = (0 : Int32) from h0), z4, e1', bS, bS]
        · rw [if_neg c3, z4, e1', bS]
      rw [stepX hb z1 z4 z6 hin (by omega) (fun q => e (Or.inl q)), if_neg p5, if_neg p6, hs]
      unfold nx
      rw [bS, skipC hb e3.1 k6 z3, bS, SK_id p7, up_id k6]
      dsimp only
      rw [stepE e3, bS]
      dsimp only
      rw [rtl_e e3]
      by_cases l : len2 = 0
      · unfold ppt
        dsimp only
        rw [if_pos (show w2 0 11 = (0 : Int32) from z7), if_pos (show nI y' = (0 : Int32) by rw [p8.mpr l]; rfl), e2', bS]
        exact ⟨u', w', rfl, rfl, e4.x.trans tX (Nat.le_refl _), e5.w1.x.trans tW, fun R hR => (e4.1 R (by omega)).trans (tR R hR), (e5.1 1 (by decide)).trans t1, Or.inr (Or.inl e3)⟩
      · have hy : ¬ y' = 0 := fun q => l (p8.mp q)
        unfold ppt
        dsimp only
        rw [if_pos (show w2 0 11 = (0 : Int32) from z7), if_neg (show ¬ nI y' = (0 : Int32) from nI_ne (b := 0) hy (by omega) (by omega))]
        exact ⟨u', w2, rfl, rfl, e4.x.trans tX (Nat.le_refl _), tW, fun R hR => (e4.1 R (by omega)).trans (tR R hR), t1, Or.inr (Or.inr ⟨⟨e3.1, z2, i2, z3, fun q => e (Or.inl q), fun q => e (Or.inr q), p7, k6, k7, k8, z5, z7⟩, len2, h16, p4.2.2.2.1⟩)⟩
  · rw [p1, bS, ppt_e p2.ne]
    dsimp only
    have tX : XC g.nt u2 u := p4.trans fX (Nat.le_refl _)
    have tR : ∀ R, 10 ≤ R → u2 R = u R := fun R hR => (p3 R hR).trans (fR R hR)
    have tW : XW w2 w := p5.trans fW
    have t1 : w2 1 = w 1 := p6.trans fW1
    rcases p2 with p2 | ⟨z1, z2, i2, d2, z3, z4, z5, z6, z7, z8, z9, z10⟩
    · rw [rtl_e p2]
      exact ⟨u2, w2, rfl, rfl, tX, tW, tR, t1, Or.inr (Or.inl p2)⟩
    · have ec := errC0 (g := g) (e := (1 : Int32)) (p := nI i2) z7
      have er : rtl g u2 = some (up (up u2 0 7 1) 0 8 (nI i2)) := by
        unfold rtl
        rw [if_pos (show (0 : Int32) < u2 0 11 by rw [z8]; exact nI_lt (a := 0) (by omega) (by omega)), z6, ec, bS, bS]
      have fc : FC (up (up u2 0 7 1) 0 8 (nI i2)) u2 := (FC.up (by omega)).trans (FC.up (by omega))
      rw [er]
      refine ⟨_, w2, rfl, rfl, fc.x.trans tX (Nat.le_refl _), tW, fun R hR => (fc.1 R (by omega)).trans (tR R hR), t1, Or.inr (Or.inl ⟨z1.fr fc, z2, ⟨i2, z3, ?_⟩, 1, i2, by omega, by omega, by omega, ?_, z9, ?_, z10⟩)⟩
      · rw [up_ne (by omega), up_ne (by omega)]; exact z6
      · rw [up_ne (by omega), up_eq]; rfl
      · rw [up_eq]
end
section
theorem copyText {g : CG} {u : RS} {len : Nat} (hlen : len ≤ 16) (h10 : u 0 10 = nI len) (hl : ∀ k, k < len → ∃ a, a < 26 ∧ u 4 k = nI a) (hg : g.nt < 1000000) (ht : TI g u) : ∃ u2, C5_textRead g u = some (nI (g.nt + 1), ga g, u2) ∧ NT g u u2 len (fun k => u 4 k) := by
  have e0 : ut g u (nI len) (500 + (g.nt + 1)) = fun i => if i = 0 then nI len else 0 := rw_eq
  have e3 : ut g u (nI len) 4 = u 4 := rw_ne (by omega)
  have em : (if nI len < (64 : Int32) then nI len else (64 : Int32)) = nI len := by
    rw [if_pos (show nI len < (64 : Int32) from nI_lt (b := 64) (by omega) (by omega))]
  unfold C5_textRead C_J7_copyOf_9075b_le
  rw [h10, if_neg (show ¬ nI len = (64 : Int32) from nI_ne (b := 64) (by omega) (by omega) (by omega)), al_n hlen hg ht, bS, bS, bS, nI_clamp (by omega), em, e0, e3]
  simp only [if_true]
  rw [nI_clamp (by omega), show (0 : Int32) = nI 0 from rfl, cpo_b (sp := 0) (dp := 0) (n := len) (by omega) (by omega) (by omega) (by omega) (fun i hi => by
    rw [Nat.zero_add]
    obtain ⟨a, a1, a2⟩ := hl i hi
    rw [a2]; unfold BYT; rw [nI_toInt (by omega)]; omega), bS, bS, nI_clamp (by omega), bS]
  refine ⟨_, rfl, ?_, fun k hk => ?_, fun R hR => ?_⟩
  · unfold cpR; dsimp only
    rw [rw_eq, if_neg (by omega), e0]; rfl
  · unfold cpR; dsimp only
    rw [rw_eq, if_pos (by omega), show 0 + (1 + k - (1 + 0)) = k by omega]
  · unfold cpR ut; dsimp only
    rw [rw_ne hR, rw_ne hR]
theorem add_ok2 {r c : RS} {g : CG} {L l sm lm cm B U t len : Nat} (hL : L < 12) (hq : QY c g L (r 1) sm lm cm B U) (hcm : cm < 30) (hl : l < lm) (hlen1 : 1 ≤ len) (hlen : len ≤ 16) (h19 : r 0 19 = nI len) (ht1 : 1 ≤ t) (ht2 : t ≤ g.nt) (hg : g.nt < 2 ^ 31) (ht0 : c (500 + t) 0 = nI len) (htk : ∀ k, k < len → c (500 + t) (1 + k) = r 7 k ∧ ∃ a, a < 26 ∧ r 7 k = nI a) : ∃ r2 c2, F8_adds r (nI l) = some r2 ∧ C3_addCard g c L (nI l) (nI t) = some c2 ∧ (∀ R, R ≠ 1 → r2 R = r R) ∧ (∀ R, ¬ OWN L R → c2 R = c R) ∧ QY c2 g L (r2 1) sm lm (cm + 1) B U ∧ r2 1 9 = nI (cm + 1) ∧ c2 (10 + L) 9 = nI (cm + 1) ∧ (∀ i, i ≠ 9 → i ≠ 114 + 4 * l → (i < 137 + 25 * cm ∨ 162 + 25 * cm ≤ i) → r2 1 i = r 1 i) ∧ (∀ i, i ≠ 9 → i ≠ 114 + 4 * l → (i < 137 + 25 * cm ∨ 162 + 25 * cm ≤ i) → c2 (10 + L) i = c (10 + L) i) ∧ c2 (10 + L) (137 + 25 * cm + 2) = nI t := by
  have hsm := hq.a.sm6; have hlm := hq.a.lm6
  have hsz := cnt_le (n := cm) (p := loC (sC (c (10 + L))) l)
  have es : c (10 + L) (113 + 4 * l + 1) = nI (cnt cm (loC (sC (c (10 + L))) l)) := by
    rw [sL_r (v := c (10 + L)) (by omega) (by omega)]; exact hq.l.size l hl
  obtain ⟨r2, c2, a1, a2, a3, a4, a5, a6, a7, a8⟩ := add_ok hL hq hcm hl hlen1 hlen h19 ht1 ht2 hg ht0 htk
  obtain ⟨c3, b1, b2, b3, b4, b5, b6, b7, b8, b9, b10, b11⟩ := adds_C (c := c) (g := g) (L := L) (l := l) (t := t) hL (by omega) hcm (by omega) hq.n9 es
  have e : c2 = c3 := Option.some.inj (a2.symm.trans b1)
  subst e
  exact ⟨r2, c2, a1, a2, a3, a4, a5, a6, a7, a8, b3, b7⟩
noncomputable def OUT2 (b : Nat → Int32) (n B m : Nat) (g : CG) (u w : RS) (g' : CG) (u' w' : RS) : Prop := XC g.nt u' u ∧ XW w' w ∧ g'.1 = g.1 ∧ g.nt ≤ g'.nt ∧ g'.nt ≤ g.nt + 1 ∧ TI g' u' ∧ ((∃ i sm lm cm, m ≤ i ∧ OKs b n i u' w' ∧ DR u' w' g' sm lm cm B) ∨ ERs b n u' w' ∨ PN b n u' w')
theorem OUT.two {b : Nat → Int32} {n B m : Nat} {g : CG} {u w : RS} {g' : CG} {u' w' : RS} (h : OUT b n B m g u w g' u' w') : OUT2 b n B m g u w g' u' w' := by
  obtain ⟨h1, h2, h3, h4, h5, h6⟩ := h
  rcases h6 with ⟨i, sm, lm, cm, q1, q2, q3⟩ | ⟨q1, q2⟩
  · exact ⟨h1, h2, h3, h4, h5, q3.2.2.2.2, Or.inl ⟨i, sm, lm, cm, q1, q2, q3⟩⟩
  · exact ⟨h1, h2, h3, h4, h5, q2, Or.inr (Or.inl q1)⟩
theorem card2 {b : Nat → Int32} {n i s sm lm cm B : Nat} {g : CG} {u w : RS} (hb : BB b n) (h : OKs b n i u w) (h1i : 1 ≤ i) (hd : DR u w g sm lm cm B) (h14 : w 0 14 = nI s) (hs : s ≤ 600) (h50 : u 5 0 = nI 0) (hg : g.nt < 1000000) : ∃ g' u' w', C5_readCard g u 1 (nI s) = some (g', u') ∧ F8_cardPart w = some w' ∧ OUT2 b n B i g u w g' u' w' := by
  have hq := hd.1
  have hcm := hq.a.cm30
  have hlm := hq.a.lm6
  have hsm := hq.a.sm6
  unfold C5_readCard F8_cardPart
  rw [hq.n9, hq.n8, hq.v9]
  by_cases c : cm < 30
  · rw [if_pos (show nI cm < (30 : Int32) from nI_lt (b := 30) c (by omega)), if_neg (show ¬ nI cm = (30 : Int32) from nI_ne (b := 30) (by omega) (by omega) (by omega)), bS, many0, bS, hq.v8]
    obtain ⟨u1, w1, y, x, e1, e2, e3, e4, e5⟩ := num2 (g := g) (lo := 0) (a2 := nI lm - 1) hb h (by omega) (sb1 (by omega))
    have e1' : C5_readNumber g u (0 : Int32) (nI lm - 1) = some (y, u1) := e1
    have e2' : F8_number w (0 : Int32) (nI lm - 1) = some (x, w1) := e2
    rw [e1', e2', bS, bS]
    dsimp only
    rcases e5 with ⟨i1, V, q1, q2, rfl, rfl, q5, q6⟩ | ⟨q1, q2⟩
    · have hd1 := hd.fr e3 e4
      have hV : V < lm := by
        have := sub1_toInt (n := lm) (by omega)
        have q7 : (V : Int) ≤ (nI lm - nI 1).toInt := q6
        omega
      have h51 : u1 5 0 = nI 0 := by rw [e3.1 5 (by decide)]; exact h50
      obtain ⟨u2, w2, f1, f2, f3, f4, f5, f6, f7⟩ := text2 (g := g) hb q2 h51
      have hTI2 : TI g u2 := hd1.2.2.2.2.xl (fun R p _ => f5 R p)
      have fX : XC g.nt u2 u := f3.trans e3.x (Nat.le_refl _)
      have fW : XW w2 w := f4.trans e4.w1.x
      rw [q2.fine, bS, if_neg (show ¬ nI 1 = (0 : Int32) from nz0), if_pos (show w1 0 11 = (0 : Int32) from q2.w0), f1, f2, bS, bS, bS, bS]
      rcases f7 with ⟨i2, len, r1, r2, r3, r4, r5⟩ | r | ⟨r1, len, r2, r3⟩
      · have h16 : len ≤ 16 := by have := r5.2.2.2.2.2.2.2.1; omega
        have hlet := r5.2.2.2.2.2.2.2.2.2.2
        obtain ⟨u3, k1, k2⟩ := copyText (g := g) (u := u2) (len := len) h16 r5.2.2.1 (fun k hk => by
          obtain ⟨z1, a, z2, z3⟩ := hlet k hk
          exact ⟨a, z2, z1.trans z3⟩) hg hTI2
        have hq2 : QY u2 g 1 (w2 1) sm lm cm B B := by
          rw [f6]
          exact QY.frame (by omega) hd1.1 (Nat.le_refl _) (fun R hR => f5 R (by unfold OWN at hR; omega)) (fun t _ _ => f5 _ (by omega))
        have hq3 : QY u3 (ga g) 1 (w2 1) sm lm cm B B := QY.frame (g2 := ga g) (by omega) hq2 (Nat.le_succ _) (fun R hR => k2.2.2 R (by unfold OWN at hR; omega)) (fun t _ z => k2.2.2 _ (by omega))
        have gn : (ga g).nt = g.nt + 1 := rfl
        obtain ⟨r', c', a1, a2, a3, a4, a5, a6, a7, a8, a9, a10⟩ := add_ok2 (r := w2) (c := u3) (g := ga g) (L := 1) (l := V) (t := g.nt + 1) (len := len) (by omega) hq3 c hV r4 h16 r5.2.2.2.1 (by omega) (Nat.le_refl _) (by omega) k2.1 (fun k hk => by rw [k2.2.1 k hk]; exact hlet k hk)
        rw [r2.fine, bS, if_neg (show ¬ nI 1 = (0 : Int32) from nz0), k1, bS, if_pos (show w2 0 11 = (0 : Int32) from r2.w0), a1, bS, bS]
        dsimp only
        rw [a2, bS]
        have n0 : ¬ OWN 1 0 := by unfold OWN; omega
        have n3 : ¬ OWN 1 3 := by unfold OWN; omega
        have n5 : ¬ OWN 1 5 := by unfold OWN; omega
        have cR : ∀ R, ¬ OWN 1 R → R ≠ 500 + (g.nt + 1) → c' R = u2 R := fun R p q => (a4 R p).trans (k2.2.2 R q)
        have gX : XC g.nt c' u := by
          refine ⟨fun R p0 p4 p5 p6 po pn => ?_, fun j p q s t z => ?_, ?_⟩
          · rw [cR R po (by omega)]; exact fX.1 R p0 p4 p5 p6 po pn
          · rw [cR 0 n0 (by omega)]; exact fX.2.1 j p q s t z
          · rw [cR 5 n5 (by omega)]; exact fX.2.2
        have gW : XW r' w := by
          refine ⟨fun R p q s t => ?_, fun j p q s t y z => ?_⟩
          · rw [a3 R q]; exact fW.1 R p q s t
          · rw [a3 0 (by decide)]; exact fW.2 j p q s t y z
        have w21 : ∀ j, w2 1 j = w1 1 j := fun j => by rw [f6]
        have c11 : ∀ j, u3 (10 + 1) j = u1 (10 + 1) j := fun j => by rw [k2.2.2 _ (by omega), f5 _ (by omega)]
        have hTI : TI (ga g) c' := by
          intro L hL
          rw [gn]
          by_cases e : L = 1
          · subst e
            refine ⟨fun s hs => ?_, fun q hq => ?_⟩
            · rw [a9 _ (by omega) (by omega) (by omega), c11]; exact Nat.le_succ_of_le ((hd1.2.2.2.2 1 hL).1 s hs)
            · by_cases eq : q = cm
              · subst eq; rw [a10, nI_clamp (by omega)]; exact Nat.le_refl _
              · rw [a9 _ (by omega) (by omega) (by omega), c11]; exact Nat.le_succ_of_le ((hd1.2.2.2.2 1 hL).2 q hq)
          · rw [cR _ (by unfold OWN; omega) (by omega), f5 _ (by omega)]
            exact ⟨fun s hs => Nat.le_succ_of_le ((hd1.2.2.2.2 L hL).1 s hs), fun q hq => Nat.le_succ_of_le ((hd1.2.2.2.2 L hL).2 q hq)⟩
        refine ⟨ga g, c', r', rfl, rfl, gX, gW, rfl, Nat.le_succ _, Nat.le_refl _, hTI, Or.inl ⟨i2, sm, lm, cm + 1, by omega, ?_, a5, ?_, ?_, ?_, hTI⟩⟩
        · obtain ⟨z1, z2, z3, z4, z5, z6, z7⟩ := r2
          have c0 := cR 0 n0 (by omega)
          have c3 := cR 3 n3 (by omega)
          have r0 := a3 0 (by decide)
          have r6 := a3 6 (by decide)
          exact ⟨⟨by rw [c0]; exact z1.1, fun k hk => by rw [c3]; exact z1.2 k hk⟩, ⟨by rw [r0]; exact z2.1, fun k hk => by rw [r6]; exact z2.2 k hk⟩, z3, by rw [c0]; exact z4, by rw [r0]; exact z5, by rw [c0]; exact z6, by rw [r0]; exact z7⟩
        · intro s k p q r s' t
          rw [a8 _ (by omega) (by omega) (by omega), w21]; exact hd1.2.1 s k p q r s' t
        · intro l k p q r s'
          rw [a8 _ (by omega) (by omega) (by omega), w21]; exact hd1.2.2.1 l k p q r s'
        · rw [a9 _ (by omega) (by omega) (by omega), c11]; exact hd1.2.2.2.1
      · rw [r.fine, bS, if_pos (show nI 0 = (0 : Int32) from rfl), if_neg r.ne.1, bS]
        exact ⟨g, u2, w2, rfl, rfl, fX, fW, rfl, Nat.le_refl _, Nat.le_succ _, hTI2, Or.inr (Or.inl r)⟩
      · obtain ⟨z1, z2, i2, z3, z4, z5, z6, z7, z8, z9, z10, z11⟩ := r1
        have hq1 := hd1.1
        have w29 : w2 1 9 = nI cm := by rw [f6]; exact hq1.v9
        have hsz := cnt_le (n := cm) (p := loC (sC (u1 (10 + 1))) V)
        have w2s : w2 1 (113 + 4 * V + 1) = nI (cnt cm (loC (sC (u1 (10 + 1))) V)) := by
          rw [f6, sL_r (v := w1 1) (by omega) (by omega), hq1.l.eql V 1 hV (by omega)]; exact hq1.l.size V hV
        obtain ⟨r', a1, a2, -⟩ := adds_F (r := w2) (l := V) (by omega) c r2 (by omega) w29 w2s r3
        rw [fineC1 (k := 1) z8 (by omega) (by omega), bS, if_pos (show nI 0 = (0 : Int32) from rfl), if_pos (show w2 0 11 = (0 : Int32) from z11), a1, bS, bS]
        have r0 := a2 0 (by decide)
        have r6 := a2 6 (by decide)
        refine ⟨g, u2, r', rfl, rfl, fX, ⟨fun R p q s t => ?_, fun j p q s t y z => ?_⟩, rfl, Nat.le_refl _, Nat.le_succ _, hTI2, Or.inr (Or.inr ⟨z1, ⟨by rw [r0]; exact z2.1, fun k hk => by rw [r6]; exact z2.2 k hk⟩, i2, z3, z4, z5, z6, z7, z8, z9, by rw [r0]; exact z10, by rw [r0]; exact z11⟩)⟩
        · rw [a2 R q]; exact fW.1 R p q s t
        · rw [a2 0 (by decide)]; exact fW.2 j p q s t y z
    · rw [q1.fine, bS, if_pos (show nI 0 = (0 : Int32) from rfl), bS, q1.fine, bS, if_pos (show nI 0 = (0 : Int32) from rfl), if_neg q1.ne.1, bS, if_neg q1.ne.1, bS]
      exact ⟨g, u1, w1, rfl, rfl, (OUT.err e3 e4.w1.x q1 hd.2.2.2.2).two⟩
  · obtain ⟨u', w', e1, e2, e3, e4, e5⟩ := many1 (g := g) h h14 hs
    obtain ⟨x, y⟩ := e3.ne
    have hl : cm = 30 := by omega
    rw [hl, if_neg (show ¬ nI 30 < (30 : Int32) by decide), if_pos (show nI 30 = (30 : Int32) from rfl), e1, bS, bS, e2, bS]
    unfold F8_number
    rw [if_neg x, bS]
    dsimp only
    rw [if_neg x, bS, if_neg x, bS]
    exact ⟨g, u', w', rfl, rfl, (OUT.err e4 e5.w1.x e3 hd.2.2.2.2).two⟩
end
section
theorem reads_ok {b : Nat → Int32} {n i : Nat} {g : CG} {u w : RS} (hb : BB b n) (h : OKs b n i u w) : ∃ s e U1 U2 W2, C5_skipSpaces g u = some (nI s, U1) ∧ U1 0 6 = nI s ∧ C5_readWord_L5 U1 g FUEL U1 = some U2 ∧ F8_reads w = some W2 ∧ s ≤ e ∧ e ≤ n ∧ i ≤ s ∧ OKs b n e U2 W2 ∧ W2 0 10 = nI s ∧ FC U2 u ∧ FW W2 w := by
  obtain ⟨o1, o2, o3, o4, o5, o6, o7⟩ := h
  have hn := hb.1
  have hs := SK_le (b := b) o3
  have hl := lt_le (b := b) (n - SK b n i) (SK b n i)
  have k1 := skipC (g := g) hb o1 o4 o3
  have k2 := nextW hb o2 o5 o3
  generalize SK b n i = s at *
  have hT : TC b n (up u 0 6 (nI s)) := o1.fr (FC.up (by omega))
  have hW : TW b n (up (up w 0 9 (nI s)) 0 10 (nI s)) := (o2.fr (FW.up (by omega))).fr (FW.up (by omega))
  have k3 := wordLC (g := g) (u0 := up u 0 6 (nI s)) hb (n - s) s FUEL (up u 0 6 (nI s)) (by omega) (by show n - s < 10000; omega) hT up_eq
  have k4 := wordLW hb (n - s) s FUEL (up (up w 0 9 (nI s)) 0 10 (nI s)) (by omega) (by show n - s < 10000; omega) hW (by rw [up_ne (by omega), up_eq])
  generalize lt b (n - s) s = e at *
  refine ⟨s, e, up u 0 6 (nI s), up (up u 0 6 (nI s)) 0 6 (nI e), up (up (up w 0 9 (nI s)) 0 10 (nI s)) 0 9 (nI e), k1, up_eq, k3, ?_, by omega, by omega, hs.1, ⟨?_, ?_, by omega, up_eq, up_eq, ?_, ?_⟩, ?_, ?_, ?_⟩
  · unfold F8_reads
    rw [k2, bS]
    dsimp only
    rw [k4, bS]
  · exact hT.fr (FC.up (by omega))
  · exact hW.fr (FW.up (by omega))
  · rw [up_ne (by omega), up_ne (by omega)]; exact o6
  · rw [up_ne (by omega), up_ne (by omega), up_ne (by omega)]; exact o7
  · rw [up_ne (by omega), up_eq]
  · exact (FC.up (by omega)).trans (FC.up (by omega))
  · exact (FW.up (by omega)).trans ((FW.up (by omega)).trans (FW.up (by omega)))
noncomputable def stT (g : CG) (L : Nat) (s : Int32) (t3 : Int32 × RS) : Option (CG × RS) := if (t3.1) = (-1) then ((C5_error g (t3.2) (1) (s)).bind fun u6 => some (g, u6)) else ((if (t3.1) = 4 then (some (1 : Int32)) else (some (0 : Int32)) : Option (Int32)).bind fun t9 => (if ((t3.2) 0 9) = 0 then (some (1 : Int32)) else (some (0 : Int32)) : Option (Int32)).bind fun t13 => if t9 = t13 then (if (t3.1) = 4 then ((C5_readLine g (t3.2) L).bind fun u18 => some (g, u18)) else (if (t3.1) = 5 then ((C5_readRest g (t3.2) L).bind fun u21 => some (g, u21)) else (if (t3.1) = 6 then ((C5_readLot g (t3.2) L (s)).bind fun u24 => some (g, u24)) else (if (t3.1) = 7 then ((C5_readCard g (t3.2) L (s)).bind fun t27 => some ((t27.1), (t27.2))) else ((C5_readStation g (t3.2) L ((t3.1)) (s)).bind fun t33 => some ((t33.1), (t33.2))))))) else ((C5_error g (t3.2) (1) (s)).bind fun u39 => some (g, u39)))
theorem readStatement_t {g : CG} {u : RS} {L : Nat} : C5_readStatement g u L = (C5_skipSpaces g u).bind fun t1 => (C5_readWord g t1.2).bind fun t3 => stT g L t1.1 t3 := rfl
theorem bP {α β : Type} {x : Option (α × β)} : (x.bind fun t => some (t.1, t.2)) = x := by cases x <;> rfl
theorem stT_e {g : CG} {L k : Nat} {s : Int32} {U : RS} {r : Int32} (h9 : U 0 9 = nI k) (hk : k < 10000) (hr : r = m1 ∨ (k = 0 ∧ ¬ r = nI 4) ∨ (¬ k = 0 ∧ r = nI 4)) : stT g L s (r, U) = (C5_error g U (1 : Int32) s).bind fun u6 => some (g, u6) := by
  unfold stT
  dsimp only
  rcases hr with rfl | ⟨rfl, hr⟩ | ⟨hk0, rfl⟩
  · rw [if_pos (show m1 = (-1 : Int32) from rfl)]
  · by_cases e : r = (-1 : Int32)
    · rw [if_pos e]
    · rw [if_neg e, if_neg (show ¬ r = (4 : Int32) from hr), bS, if_pos (show U 0 9 = (0 : Int32) from h9), bS, if_neg (show ¬ (0 : Int32) = 1 by decide)]
  · rw [if_neg (show ¬ nI 4 = (-1 : Int32) by decide), if_pos (show nI 4 = (4 : Int32) from rfl), bS, if_neg (show ¬ U 0 9 = (0 : Int32) by rw [h9]; exact nI_ne (b := 0) hk0 (by omega) (by omega)), bS, if_neg (show ¬ (1 : Int32) = 0 by decide)]
theorem stT_n {g : CG} {L k : Nat} {s : Int32} {U : RS} {r : Nat} (h9 : U 0 9 = nI k) (hk : k < 10000) (hk0 : ¬ k = 0) (hr : r < 8) (h4 : ¬ r = 4) : stT g L s (nI r, U) = (if r = 5 then ((C5_readRest g U L).bind fun u21 => some (g, u21)) else (if r = 6 then ((C5_readLot g U L (s)).bind fun u24 => some (g, u24)) else (if r = 7 then (C5_readCard g U L (s)) else (C5_readStation g U L (nI r) (s))))) := by
  unfold stT
  dsimp only
  rw [if_neg (show ¬ nI r = (-1 : Int32) from m1_ne (by omega)), if_neg (show ¬ nI r = (4 : Int32) from nI_ne (b := 4) h4 (by omega) (by omega)), bS, if_neg (show ¬ U 0 9 = (0 : Int32) by rw [h9]; exact nI_ne (b := 0) hk0 (by omega) (by omega)), bS, if_pos rfl, if_neg (show ¬ nI r = (4 : Int32) from nI_ne (b := 4) h4 (by omega) (by omega)), bP, bP]
  by_cases e5 : r = 5
  · rw [if_pos e5, if_pos (show nI r = (5 : Int32) by rw [e5]; rfl)]
  · rw [if_neg e5, if_neg (show ¬ nI r = (5 : Int32) from nI_ne (b := 5) e5 (by omega) (by omega))]
    by_cases e6 : r = 6
    · rw [if_pos e6, if_pos (show nI r = (6 : Int32) by rw [e6]; rfl)]
    · rw [if_neg e6, if_neg (show ¬ nI r = (6 : Int32) from nI_ne (b := 6) e6 (by omega) (by omega))]
      by_cases e7 : r = 7
      · rw [if_pos e7, if_pos (show nI r = (7 : Int32) by rw [e7]; rfl)]
      · rw [if_neg e7, if_neg (show ¬ nI r = (7 : Int32) from nI_ne (b := 7) e7 (by omega) (by omega))]
theorem stT_l {g : CG} {L : Nat} {s : Int32} {U : RS} (h9 : U 0 9 = nI 0) : stT g L s (nI 4, U) = (C5_readLine g U L).bind fun u18 => some (g, u18) := by
  unfold stT
  dsimp only
  rw [if_neg (show ¬ nI 4 = (-1 : Int32) by decide), if_pos (show nI 4 = (4 : Int32) from rfl), bS, if_pos (show U 0 9 = (0 : Int32) from h9), bS, if_pos rfl, if_pos (show nI 4 = (4 : Int32) from rfl)]
theorem OKs.wo {b : Nat → Int32} {n i : Nat} {u w : RS} {x : Int32} {j : Nat} (h : OKs b n i u w) (h1 : ¬ j = 8) (h2 : ¬ j = 9) (h3 : ¬ j = 11) : OKs b n i u (up w 0 j x) := by
  obtain ⟨o1, o2, o3, o4, o5, o6, o7⟩ := h
  exact ⟨o1, ⟨by rw [up_ne (by omega)]; exact o2.1, fun k hk => by rw [up_ne (by omega)]; exact o2.2 k hk⟩, o3, o4, by rw [up_ne (by omega)]; exact o5, o6, by rw [up_ne (by omega)]; exact o7⟩
theorem OUT2.tr {b : Nat → Int32} {n B m m2 : Nat} {g g' : CG} {u w u0 w0 u' w' : RS} (h : OUT2 b n B m g u w g' u' w') (hm : m2 ≤ m) (hc : XC g.nt u u0) (hw : XW w w0) : OUT2 b n B m2 g u0 w0 g' u' w' := by
  obtain ⟨h1, h2, h3, h4, h5, h6, h7⟩ := h
  refine ⟨h1.trans hc (Nat.le_refl _), h2.trans hw, h3, h4, h5, h6, ?_⟩
  rcases h7 with ⟨i, sm, lm, cm, q1, q2⟩ | q
  · exact Or.inl ⟨i, sm, lm, cm, Nat.le_trans hm q1, q2⟩
  · exact Or.inr q
theorem stmt2 {b : Nat → Int32} {n i k sm lm cm B : Nat} {g : CG} {u w : RS} (hb : BB b n) (h : OKs b n i u w) (h1i : 1 ≤ i) (hd : DR u w g sm lm cm B) (h50 : u 5 0 = nI 0) (hg : g.nt < 1000000) (h9 : u 0 9 = nI k) (hk0 : ¬ k = 0) (hk : k < 10000) : ∃ g' u' w', C5_readStatement g u 1 = some (g', u') ∧ F8_statement w = some w' ∧ OUT2 b n B i g u w g' u' w' := by
  have hn := hb.1
  obtain ⟨s, e, U1, U2, W2, a1, a2, a3, a4, a5, a6, a7, a8, a9, a10, a11⟩ := reads_ok (g := g) hb h
  have hd2 := hd.fr a10 a11
  have b1 : OKs b n e U2 (up W2 0 14 (nI s)) := a8.wo (by omega) (by omega) (by omega)
  have b2 : DR U2 (up W2 0 14 (nI s)) g sm lm cm B := by
    unfold DR
    rw [up_or (show ¬ 1 = 0 by omega)]
    exact hd2
  have b3 : up W2 0 14 (nI s) 0 10 = nI s := by rw [up_ne (by omega)]; exact a9
  have b4 : up W2 0 14 (nI s) 0 14 = nI s := up_eq
  have b5 : XW (up W2 0 14 (nI s)) w := ⟨fun R p q r t => by rw [up_or p]; exact a11.1 R p, fun j p q r t y z => by rw [up_ne (by omega)]; exact a11.2 j p q r t⟩
  have b6 : U2 5 0 = nI 0 := by rw [a10.1 5 (by decide)]; exact h50
  have b7 : U2 0 9 = nI k := by rw [a10.2 9 (by decide) (by decide) (by decide)]; exact h9
  have eC : C5_readStatement g u 1 = (C5_readWord g U1).bind fun t3 => stT g 1 (nI s) t3 := by rw [readStatement_t, a1, bS]
  have eW0 : (F8_reads w).bind (fun u1 => pt u1 0 14 (u1 0 10)) = some (up W2 0 14 (nI s)) := by rw [a4, bS, pt_n, a9]
  rw [eC]
  unfold F8_statement C5_readWord
  rw [a3, a4, bS, bS, a2, pt_n, bS, a9]
  generalize up W2 0 14 (nI s) = W at *
  obtain ⟨x0, k0, m0, s0, r0⟩ := word2 (g := g) hb w_chip b1.1 b1.2.1 b1.2.2.2.1 b1.2.2.2.2.1 b3 a5 a6
  have s0' : C5_stands g U2 (nI s) [99, 104, 105, 112] = some x0 := s0
  have r0' : F8_isWord W [99, 104, 105, 112] = some x0 := r0
  rw [s0', r0', bS, bS]
  rcases k0 with rfl | rfl
  · rw [if_pos (show nI 0 = (0 : Int32) from rfl), if_pos (show nI 0 = (0 : Int32) from rfl)]
    obtain ⟨x1, k1, m1, s1, r1⟩ := word2 (g := g) hb w_stripe b1.1 b1.2.1 b1.2.2.2.1 b1.2.2.2.2.1 b3 a5 a6
    have s1' : C5_stands g U2 (nI s) [115, 116, 114, 105, 112, 101] = some x1 := s1
    have r1' : F8_isWord W [115, 116, 114, 105, 112, 101] = some x1 := r1
    rw [s1', r1', bS, bS]
    rcases k1 with rfl | rfl
    · rw [if_pos (show nI 0 = (0 : Int32) from rfl), if_pos (show nI 0 = (0 : Int32) from rfl)]
      obtain ⟨x2, k2, m2, s2, r2⟩ := word2 (g := g) hb w_print b1.1 b1.2.1 b1.2.2.2.1 b1.2.2.2.2.1 b3 a5 a6
      have s2' : C5_stands g U2 (nI s) [112, 114, 105, 110, 116] = some x2 := s2
      have r2' : F8_isWord W [112, 114, 105, 110, 116] = some x2 := r2
      rw [s2', r2', bS, bS]
      rcases k2 with rfl | rfl
      · rw [if_pos (show nI 0 = (0 : Int32) from rfl), if_pos (show nI 0 = (0 : Int32) from rfl)]
        obtain ⟨x3, k3, m3, s3, r3⟩ := word2 (g := g) hb w_wheel b1.1 b1.2.1 b1.2.2.2.1 b1.2.2.2.2.1 b3 a5 a6
        have s3' : C5_stands g U2 (nI s) [119, 104, 101, 101, 108] = some x3 := s3
        have r3' : F8_isWord W [119, 104, 101, 101, 108] = some x3 := r3
        rw [s3', r3', bS, bS]
        rcases k3 with rfl | rfl
        · rw [if_pos (show nI 0 = (0 : Int32) from rfl), if_pos (show nI 0 = (0 : Int32) from rfl)]
          obtain ⟨x4, k4, m4, s4, r4⟩ := word2 (g := g) hb w_rest b1.1 b1.2.1 b1.2.2.2.1 b1.2.2.2.2.1 b3 a5 a6
          have s4' : C5_stands g U2 (nI s) [114, 101, 115, 116] = some x4 := s4
          have r4' : F8_isWord W [114, 101, 115, 116] = some x4 := r4
          rw [s4', r4', bS, bS]
          rcases k4 with rfl | rfl
          · rw [if_pos (show nI 0 = (0 : Int32) from rfl), if_pos (show nI 0 = (0 : Int32) from rfl)]
            obtain ⟨x5, k5, m5, s5, r5⟩ := word2 (g := g) hb w_lot b1.1 b1.2.1 b1.2.2.2.1 b1.2.2.2.2.1 b3 a5 a6
            have s5' : C5_stands g U2 (nI s) [108, 111, 116] = some x5 := s5
            have r5' : F8_isWord W [108, 111, 116] = some x5 := r5
            rw [s5', r5', bS, bS]
            rcases k5 with rfl | rfl
            · rw [if_pos (show nI 0 = (0 : Int32) from rfl), if_pos (show nI 0 = (0 : Int32) from rfl)]
              obtain ⟨x6, k6, m6, s6, r6⟩ := word2 (g := g) hb w_card b1.1 b1.2.1 b1.2.2.2.1 b1.2.2.2.2.1 b3 a5 a6
              have s6' : C5_stands g U2 (nI s) [99, 97, 114, 100] = some x6 := s6
              have r6' : F8_isWord W [99, 97, 114, 100] = some x6 := r6
              rw [s6', r6', bS, bS]
              rcases k6 with rfl | rfl
              · rw [if_pos (show nI 0 = (0 : Int32) from rfl), if_pos (show nI 0 = (0 : Int32) from rfl)]
                obtain ⟨x, kx, mx, sx, rx⟩ := word2 (g := g) hb w_line b1.1 b1.2.1 b1.2.2.2.1 b1.2.2.2.2.1 b3 a5 a6
                have sx' : C5_stands g U2 (nI s) [108, 105, 110, 101] = some x := sx
                obtain ⟨u', w', z1, z2, z3, z4, z5⟩ := err2 (g := g) (e := 1) b1.1 b1.2.1 a6 b1.2.2.2.1 b1.2.2.2.2.2.1 b1.2.2.2.2.2.2 b3 (by omega) (by omega) (by omega)
                have z1' : C5_error g U2 (1 : Int32) (nI s) = some u' := z1
                have z2' : F8_fails W (1 : Int32) = some w' := z2
                have o2 : OUT2 b n B i g u w g u' w' := ((OUT.err (m := i) z4 z5.w1.x z3 b2.2.2.2.2).two).tr (Nat.le_refl _) a10.x b5
                rw [sx', bS, z2', bS, bS]
                rcases kx with rfl | rfl
                · rw [if_pos (show nI 0 = (0 : Int32) from rfl), bS, bS, stT_e (r := -1) b7 hk (Or.inl rfl), z1', bS]
                  exact ⟨g, u', w', rfl, rfl, o2⟩
                · rw [if_neg (show ¬ nI 1 = (0 : Int32) from nz0), bS, bS, stT_e (r := 4) b7 hk (Or.inr (Or.inr ⟨hk0, rfl⟩)), z1', bS]
                  exact ⟨g, u', w', rfl, rfl, o2⟩
              · rw [if_neg (show ¬ nI 1 = (0 : Int32) from nz0), if_neg (show ¬ nI 1 = (0 : Int32) from nz0), bS]
                obtain ⟨g', u', w', z1, z2, z3⟩ := card2 (g := g) hb b1 (by omega) b2 b4 (by omega) b6 hg
                rw [show stT g 1 (nI s) ((7 : Int32), U2) = C5_readCard g U2 1 (nI s) from stT_n (r := 7) b7 hk hk0 (by omega) (by omega), z1, z2, bS, bS]
                exact ⟨g', u', w', rfl, rfl, z3.tr (by omega) a10.x b5⟩
            · rw [if_neg (show ¬ nI 1 = (0 : Int32) from nz0), if_neg (show ¬ nI 1 = (0 : Int32) from nz0), bS]
              obtain ⟨u', w', z1, z2, z3⟩ := lot2 (g := g) hb b1 (by omega) b2 b4 (by omega)
              rw [show stT g 1 (nI s) ((6 : Int32), U2) = (C5_readLot g U2 1 (nI s)).bind fun u24 => some (g, u24) from stT_n (r := 6) b7 hk hk0 (by omega) (by omega), z1, z2, bS, bS, bS]
              exact ⟨g, u', w', rfl, rfl, z3.two.tr (by omega) a10.x b5⟩
          · rw [if_neg (show ¬ nI 1 = (0 : Int32) from nz0), if_neg (show ¬ nI 1 = (0 : Int32) from nz0), bS]
            obtain ⟨u', w', z1, z2, z3⟩ := rest2 (g := g) hb b1 (by omega) b2
            rw [show stT g 1 (nI s) ((5 : Int32), U2) = (C5_readRest g U2 1).bind fun u21 => some (g, u21) from stT_n (r := 5) b7 hk hk0 (by omega) (by omega), z1, z2, bS, bS, bS]
            exact ⟨g, u', w', rfl, rfl, z3.two.tr (by omega) a10.x b5⟩
        · rw [if_neg (show ¬ nI 1 = (0 : Int32) from nz0), if_neg (show ¬ nI 1 = (0 : Int32) from nz0), bS]
          obtain ⟨g', u', w', z1, z2, z3⟩ := stat2 (g := g) (ty := 3) hb b1 (by omega) b2 b4 (by omega) (by omega) hg
          have z2' : F8_stationPart W (3 : Int32) = some w' := z2
          rw [show stT g 1 (nI s) ((3 : Int32), U2) = C5_readStation g U2 1 (nI 3) (nI s) from stT_n (r := 3) b7 hk hk0 (by omega) (by omega), z1, z2', bS, bS]
          exact ⟨g', u', w', rfl, rfl, z3.two.tr (by omega) a10.x b5⟩
      · rw [if_neg (show ¬ nI 1 = (0 : Int32) from nz0), if_neg (show ¬ nI 1 = (0 : Int32) from nz0), bS]
        obtain ⟨g', u', w', z1, z2, z3⟩ := stat2 (g := g) (ty := 2) hb b1 (by omega) b2 b4 (by omega) (by omega) hg
        have z2' : F8_stationPart W (2 : Int32) = some w' := z2
        rw [show stT g 1 (nI s) ((2 : Int32), U2) = C5_readStation g U2 1 (nI 2) (nI s) from stT_n (r := 2) b7 hk hk0 (by omega) (by omega), z1, z2', bS, bS]
        exact ⟨g', u', w', rfl, rfl, z3.two.tr (by omega) a10.x b5⟩
    · rw [if_neg (show ¬ nI 1 = (0 : Int32) from nz0), if_neg (show ¬ nI 1 = (0 : Int32) from nz0), bS]
      obtain ⟨g', u', w', z1, z2, z3⟩ := stat2 (g := g) (ty := 1) hb b1 (by omega) b2 b4 (by omega) (by omega) hg
      have z2' : F8_stationPart W (1 : Int32) = some w' := z2
      rw [show stT g 1 (nI s) ((1 : Int32), U2) = C5_readStation g U2 1 (nI 1) (nI s) from stT_n (r := 1) b7 hk hk0 (by omega) (by omega), z1, z2', bS, bS]
      exact ⟨g', u', w', rfl, rfl, z3.two.tr (by omega) a10.x b5⟩
  · rw [if_neg (show ¬ nI 1 = (0 : Int32) from nz0), if_neg (show ¬ nI 1 = (0 : Int32) from nz0), bS]
    obtain ⟨g', u', w', z1, z2, z3⟩ := stat2 (g := g) (ty := 0) hb b1 (by omega) b2 b4 (by omega) (by omega) hg
    have z2' : F8_stationPart W (0 : Int32) = some w' := z2
    rw [show stT g 1 (nI s) ((0 : Int32), U2) = C5_readStation g U2 1 (nI 0) (nI s) from stT_n (r := 0) b7 hk hk0 (by omega) (by omega), z1, z2', bS, bS]
    exact ⟨g', u', w', rfl, rfl, z3.two.tr (by omega) a10.x b5⟩
theorem first_no {b : Nat → Int32} {n s e : Nat} {g : CG} {U1 U2 W : RS} (hb : BB b n) (hL : C5_readWord_L5 U1 g FUEL U1 = some U2) (hs : U1 0 6 = nI s) (h1 : TC b n U2) (h2 : TW b n W) (h6 : U2 0 6 = nI e) (h9 : W 0 9 = nI e) (h10 : W 0 10 = nI s) (hse : s ≤ e) (hen : e ≤ n) (sx' : C5_stands g U2 (nI s) [108, 105, 110, 101] = some (nI 0)) : ∃ r, C5_readWord g U1 = some (r, U2) ∧ ¬ r = nI 4 := by
  unfold C5_readWord
  rw [hL, bS, hs]
  obtain ⟨x0, k0, m0, s0, r0⟩ := word2 (g := g) hb w_chip h1 h2 h6 h9 h10 hse hen
  have s0' : C5_stands g U2 (nI s) [99, 104, 105, 112] = some x0 := s0
  rw [s0', bS]
  rcases k0 with rfl | rfl
  · rw [if_pos (show nI 0 = (0 : Int32) from rfl)]
    obtain ⟨x1, k1, m1, s1, r1⟩ := word2 (g := g) hb w_stripe h1 h2 h6 h9 h10 hse hen
    have s1' : C5_stands g U2 (nI s) [115, 116, 114, 105, 112, 101] = some x1 := s1
    rw [s1', bS]
    rcases k1 with rfl | rfl
    · rw [if_pos (show nI 0 = (0 : Int32) from rfl)]
      obtain ⟨x2, k2, m2, s2, r2⟩ := word2 (g := g) hb w_print h1 h2 h6 h9 h10 hse hen
      have s2' : C5_stands g U2 (nI s) [112, 114, 105, 110, 116] = some x2 := s2
      rw [s2', bS]
      rcases k2 with rfl | rfl
      · rw [if_pos (show nI 0 = (0 : Int32) from rfl)]
        obtain ⟨x3, k3, m3, s3, r3⟩ := word2 (g := g) hb w_wheel h1 h2 h6 h9 h10 hse hen
        have s3' : C5_stands g U2 (nI s) [119, 104, 101, 101, 108] = some x3 := s3
        rw [s3', bS]
        rcases k3 with rfl | rfl
        · rw [if_pos (show nI 0 = (0 : Int32) from rfl)]
          obtain ⟨x4, k4, m4, s4, r4⟩ := word2 (g := g) hb w_rest h1 h2 h6 h9 h10 hse hen
          have s4' : C5_stands g U2 (nI s) [114, 101, 115, 116] = some x4 := s4
          rw [s4', bS]
          rcases k4 with rfl | rfl
          · rw [if_pos (show nI 0 = (0 : Int32) from rfl)]
            obtain ⟨x5, k5, m5, s5, r5⟩ := word2 (g := g) hb w_lot h1 h2 h6 h9 h10 hse hen
            have s5' : C5_stands g U2 (nI s) [108, 111, 116] = some x5 := s5
            rw [s5', bS]
            rcases k5 with rfl | rfl
            · rw [if_pos (show nI 0 = (0 : Int32) from rfl)]
              obtain ⟨x6, k6, m6, s6, r6⟩ := word2 (g := g) hb w_card h1 h2 h6 h9 h10 hse hen
              have s6' : C5_stands g U2 (nI s) [99, 97, 114, 100] = some x6 := s6
              rw [s6', bS]
              rcases k6 with rfl | rfl
              · rw [if_pos (show nI 0 = (0 : Int32) from rfl)]
                rw [sx', bS, if_pos (show nI 0 = (0 : Int32) from rfl), bS]
                exact ⟨-1, rfl, by decide⟩
              · rw [if_neg (show ¬ nI 1 = (0 : Int32) from nz0)]
                exact ⟨7, rfl, by decide⟩
            · rw [if_neg (show ¬ nI 1 = (0 : Int32) from nz0)]
              exact ⟨6, rfl, by decide⟩
          · rw [if_neg (show ¬ nI 1 = (0 : Int32) from nz0)]
            exact ⟨5, rfl, by decide⟩
        · rw [if_neg (show ¬ nI 1 = (0 : Int32) from nz0)]
          exact ⟨3, rfl, by decide⟩
      · rw [if_neg (show ¬ nI 1 = (0 : Int32) from nz0)]
        exact ⟨2, rfl, by decide⟩
    · rw [if_neg (show ¬ nI 1 = (0 : Int32) from nz0)]
      exact ⟨1, rfl, by decide⟩
  · rw [if_neg (show ¬ nI 1 = (0 : Int32) from nz0)]
    exact ⟨0, rfl, by decide⟩
theorem first_line {b : Nat → Int32} {n s e : Nat} {g : CG} {U1 U2 W : RS} (hb : BB b n) (hL : C5_readWord_L5 U1 g FUEL U1 = some U2) (hs : U1 0 6 = nI s) (h1 : TC b n U2) (h2 : TW b n W) (h6 : U2 0 6 = nI e) (h9 : W 0 9 = nI e) (h10 : W 0 10 = nI s) (hse : s ≤ e) (hen : e ≤ n) (sx' : C5_stands g U2 (nI s) [108, 105, 110, 101] = some (nI 1)) (hm : WMs b s e 4 W_line) : C5_readWord g U1 = some (nI 4, U2) := by
  unfold C5_readWord
  rw [hL, bS, hs]
  obtain ⟨x0, k0, m0, s0, r0⟩ := word2 (g := g) hb w_chip h1 h2 h6 h9 h10 hse hen
  have s0' : C5_stands g U2 (nI s) [99, 104, 105, 112] = some x0 := s0
  rw [s0', bS]
  rcases k0 with rfl | rfl
  · rw [if_pos (show nI 0 = (0 : Int32) from rfl)]
    obtain ⟨x1, k1, m1, s1, r1⟩ := word2 (g := g) hb w_stripe h1 h2 h6 h9 h10 hse hen
    have s1' : C5_stands g U2 (nI s) [115, 116, 114, 105, 112, 101] = some x1 := s1
    rw [s1', bS]
    rcases k1 with rfl | rfl
    · rw [if_pos (show nI 0 = (0 : Int32) from rfl)]
      obtain ⟨x2, k2, m2, s2, r2⟩ := word2 (g := g) hb w_print h1 h2 h6 h9 h10 hse hen
      have s2' : C5_stands g U2 (nI s) [112, 114, 105, 110, 116] = some x2 := s2
      rw [s2', bS]
      rcases k2 with rfl | rfl
      · rw [if_pos (show nI 0 = (0 : Int32) from rfl)]
        obtain ⟨x3, k3, m3, s3, r3⟩ := word2 (g := g) hb w_wheel h1 h2 h6 h9 h10 hse hen
        have s3' : C5_stands g U2 (nI s) [119, 104, 101, 101, 108] = some x3 := s3
        rw [s3', bS]
        rcases k3 with rfl | rfl
        · rw [if_pos (show nI 0 = (0 : Int32) from rfl)]
          obtain ⟨x4, k4, m4, s4, r4⟩ := word2 (g := g) hb w_rest h1 h2 h6 h9 h10 hse hen
          have s4' : C5_stands g U2 (nI s) [114, 101, 115, 116] = some x4 := s4
          rw [s4', bS]
          rcases k4 with rfl | rfl
          · rw [if_pos (show nI 0 = (0 : Int32) from rfl)]
            obtain ⟨x5, k5, m5, s5, r5⟩ := word2 (g := g) hb w_lot h1 h2 h6 h9 h10 hse hen
            have s5' : C5_stands g U2 (nI s) [108, 111, 116] = some x5 := s5
            rw [s5', bS]
            rcases k5 with rfl | rfl
            · rw [if_pos (show nI 0 = (0 : Int32) from rfl)]
              obtain ⟨x6, k6, m6, s6, r6⟩ := word2 (g := g) hb w_card h1 h2 h6 h9 h10 hse hen
              have s6' : C5_stands g U2 (nI s) [99, 97, 114, 100] = some x6 := s6
              rw [s6', bS]
              rcases k6 with rfl | rfl
              · rw [if_pos (show nI 0 = (0 : Int32) from rfl)]
                rw [sx', bS, if_neg (show ¬ nI 1 = (0 : Int32) from nz0), bS]
                rfl
              · exact absurd (m6 rfl) (no_card hm)
            · exact absurd (m5 rfl) (no_lot hm)
          · exact absurd (m4 rfl) (no_rest hm)
        · exact absurd (m3 rfl) (no_wheel hm)
      · exact absurd (m2 rfl) (no_print hm)
    · exact absurd (m1 rfl) (no_stripe hm)
  · exact absurd (m0 rfl) (no_chip hm)
theorem lineTail_e {b : Nat → Int32} {n : Nat} {u w : RS} (h : ERs b n u w) : ∃ w', lineTail w = some w' ∧ ERs b n u w' ∧ FW1 w' w := by
  have nE : ∀ (v : RS) (a1 a2 : Int32), ¬ v 0 11 = (0 : Int32) → F8_number v a1 a2 = some (a1, v) := fun v a1 a2 q => by
    unfold F8_number
    rw [if_neg q]
  unfold lineTail
  have x0 := h.ne.1
  rw [nE _ _ _ x0, bS]
  dsimp only
  rw [show ws w 1 1037 (0 : Int32) (1 : Int32) = some (up w 1 0 (1 : Int32)) from wsk (k := 0) (by omega), bS, nE _ _ _ (by rw [up_ne (by omega)]; exact x0), bS]
  dsimp only
  rw [show ws (up w 1 0 (1 : Int32)) 1 1037 (3 : Int32) (0 : Int32) = some (up (up w 1 0 (1 : Int32)) 1 3 (0 : Int32)) from wsk (k := 3) (by omega), bS, up_eq, show ws (up (up w 1 0 (1 : Int32)) 1 3 (0 : Int32)) 1 1037 (5 : Int32) (0 : Int32) = some (up (up (up w 1 0 (1 : Int32)) 1 3 (0 : Int32)) 1 5 (0 : Int32)) from wsk (k := 5) (by omega), bS, nE _ _ _ (by rw [up_ne (by omega), up_ne (by omega), up_ne (by omega)]; exact x0), bS]
  dsimp only
  generalize hv : up (up (up w 1 0 (1 : Int32)) 1 3 (0 : Int32)) 1 5 (0 : Int32) = v
  have xv : ¬ v 0 11 = (0 : Int32) := by rw [← hv, up_ne (by omega), up_ne (by omega), up_ne (by omega)]; exact x0
  have ev : ERs b n u v := by rw [← hv]; exact h.w1.w1.w1
  have fv : FW1 v w := by rw [← hv]; exact FW1.up.trans (FW1.up.trans FW1.up)
  rw [show ws v 1 1037 (1 : Int32) (1 : Int32) = some (up v 1 1 (1 : Int32)) from wsk (k := 1) (by omega), bS, nE _ _ _ (by rw [up_ne (by omega)]; exact xv), bS]
  dsimp only
  rw [show ws (up v 1 1 (1 : Int32)) 1 1037 (2 : Int32) (1 : Int32) = some (up (up v 1 1 (1 : Int32)) 1 2 (1 : Int32)) from wsk (k := 2) (by omega), bS]
  exact ⟨_, rfl, ev.w1.w1, FW1.up.trans (FW1.up.trans fv)⟩
theorem first2 {b : Nat → Int32} {n B : Nat} {g : CG} {u w : RS} (hb : BB b n) (h : OKs b n 0 u w) (hB : B < 2000000000) (hti : TI g u) (h9 : u 0 9 = nI 0) (hz : ∀ i, i < 137 → i ≠ 0 → i ≠ 1 → i ≠ 2 → w 1 i = nI 0) : ∃ u' w', C5_readStatement g u 1 = some (g, u') ∧ F8_linePart w = some w' ∧ OUT2 b n B 0 g u w g u' w' := by
  have hn := hb.1
  obtain ⟨s, e, U1, U2, W, a1, a2, a3, a4, a5, a6, a7, a8, a9, a10, a11⟩ := reads_ok (g := g) hb h
  have b7 : U2 0 9 = nI 0 := by rw [a10.2 9 (by decide) (by decide) (by decide)]; exact h9
  obtain ⟨x, kx, mx, sx, rx⟩ := word2 (g := g) hb w_line a8.1 a8.2.1 a8.2.2.2.1 a8.2.2.2.2.1 a9 a5 a6
  have sx' : C5_stands g U2 (nI s) [108, 105, 110, 101] = some x := sx
  have rx' : F8_isWord W [108, 105, 110, 101] = some x := rx
  rw [readStatement_t, a1, bS, linePart_t, a4, bS, rx', bS]
  dsimp only
  rcases kx with rfl | rfl
  · obtain ⟨r, c1, c2⟩ := first_no hb a3 a2 a8.1 a8.2.1 a8.2.2.2.1 a8.2.2.2.2.1 a9 a5 a6 sx'
    obtain ⟨u', w', z1, z2, z3, z4, z5⟩ := err2 (g := g) (e := 1) a8.1 a8.2.1 a6 a8.2.2.2.1 a8.2.2.2.2.2.1 a8.2.2.2.2.2.2 a9 (by omega) (by omega) (by omega)
    have z1' : C5_error g U2 (1 : Int32) (nI s) = some u' := z1
    have z2' : F8_fails W (1 : Int32) = some w' := z2
    obtain ⟨w2, y1, y2, y3⟩ := lineTail_e z3
    rw [c1, bS, stT_e b7 (by omega) (Or.inr (Or.inl ⟨rfl, c2⟩)), z1', bS, if_pos (show nI 0 = (0 : Int32) from rfl), z2', bS, bS, y1]
    exact ⟨u', w2, rfl, rfl, ((OUT.err (z4.trans a10) (y3.trans (z5.trans a11).w1).x y2 hti).two)⟩
  · have hm := mx rfl
    have he : 1 ≤ e := by have := hm.1; omega
    have c1 := first_line hb a3 a2 a8.1 a8.2.1 a8.2.2.2.1 a8.2.2.2.2.1 a9 a5 a6 sx' hm
    obtain ⟨u', w', z1, z2, z3⟩ := line2 (g := g) (B := B) hb ⟨e, he, a8⟩ hB (TI_fc hti a10) (fun i p q r t => by rw [a11.1 1 (by decide)]; exact hz i p q r t)
    rw [c1, bS, stT_l b7, z1, bS, if_neg (show ¬ nI 1 = (0 : Int32) from nz0), bS, z2]
    exact ⟨u', w', rfl, rfl, z3.two.tr (by omega) a10.x a11.w1.x⟩
end
