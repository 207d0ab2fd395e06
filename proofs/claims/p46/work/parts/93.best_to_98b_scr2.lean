section
noncomputable def gBn (p : Nat) (hi : Int32) (f : RS → Int32 → Option (Int32 × RS)) (g : CG) : Nat → Int32 → Int32 → Int32 → RS → Option (Int32 × Int32 × Int32 × RS)
  | 0, _, _, _, _ => none
  | m + 1, y4, y5, y6, u7 => if hi < y4 then (some ((y4, y5, y6, u7))) else (if y5 < 0 then (some ((y4, y5, y6, u7))) else ((C7_copyOfLine g u7).bind fun t16 => (pt t16 (10 + 1) p y4).bind fun u20 => (f u20 y5).bind fun t22 => (if (t22.1) = (-1) then (some (y5, y6)) else (some (((t22.1) - 1), y4)) : Option (Int32 × Int32)).bind fun t25 => gBn p hi f g m ((y4 + 1)) ((t25.1)) ((t25.2)) (t22.2)))
theorem gB_rank {g : CG} {l : Nat} (hl : l < 6) : ∀ (m : Nat) (y4 y5 y6 : Int32) (u : RS), C7_bestRank_L14 (nI l) g m y4 y5 y6 u = gBn (113 + 4 * l + 0) (nI 9) (fun u y => C7_ticksUntil_e1 g u 1 (nI l) y) g m y4 y5 y6 u := by
  intro m
  induction m with
  | zero => intro y4 y5 y6 u; rfl
  | succ m ih =>
    intro y4 y5 y6 u
    rw [C7_bestRank_L14, gBn]
    simp only [ih, lit32, neg1]
    cases C7_copyOfLine g u with
    | none => rfl
    | some t => rw [bS, bS, ix_n hl (by omega), bS]
theorem gB_tray {g : CG} : ∀ (m : Nat) (y4 y5 y6 : Int32) (u : RS), C7_bestTray_L8 g m y4 y5 y6 u = gBn 1 (nI 20) (fun u y => C7_ticksUntil_e2 g u 1 m1 y) g m y4 y5 y6 u := by
  intro m
  induction m with
  | zero => intro y4 y5 y6 u; rfl
  | succ m ih =>
    intro y4 y5 y6 u
    rw [C7_bestTray_L8, gBn]
    simp only [ih, lit32, neg1]
theorem best_L {r c0 : RS} {g : CG} {B T sm lm cm p lo hi a1 : Nat} {a2 : Int32} {hap : RS → Option Int32} {f : RS → Int32 → Option (Int32 × RS)} (h : GI r c0 g B T) (hT : T < 2 ^ 31) (hB : B + 2001 < 2000000000) (h0 : QY c0 g 0 (r 1) sm lm cm B B) (h3 : a1 ≠ 3) (h10 : a1 < 10) (hp : p < 1037) (hhi : hi < 100) (hm : ∀ r, MET (fun u => F8_isMet u (nI a1) a2 (nI 0)) hap r g sm lm cm) (hs : ∀ r, MSM (fun u => F8_isMet u (nI a1) a2 (nI 0)) r g sm lm cm) (hset : ∀ (x : Nat) (c1 : RS) (v : Nat → Int32), lo ≤ x → x ≤ hi → QY c1 g 1 v sm lm cm B B → QX c1 g 1 (upd v p (nI x)) (upd (c1 (10 + 1)) p (nI x)) (c1 (400 + 1)) sm lm cm B B) (hf : ∀ (u : RS) (lim : Nat) (y : Int32) (c2 : RS), gUn hap 1 (nI lim) g FUEL (nI 0) u = some (.inl (y, c2)) → f u (nI lim) = some (y, c2)) :
    ∀ (d v0 fu fu2 least : Nat) (best : Int32) (u c : RS), v0 + d = hi + 1 → lo ≤ v0 → d < fu → d < fu2 → least ≤ 2001 → (∀ j, j < 1037 → u 2 j = r 1 j) → (∀ j, j < 1037 → u 1 j = r 1 j) → (∀ R, R ≠ 1 → R ≠ 2 → u R = r R) → PRc c0 c g →
    ∃ z z5 b2 u2 z' z5' c2, F8_bestOf_L24 (nI p) (nI lo) (nI hi) (nI a1) a2 fu (nI v0) (nI least) best u = some (z, z5, b2, u2) ∧ gBn p (nI hi) f g fu2 (nI v0) (nI least - nI 1) best c = some (z', z5', b2, c2) ∧ (∀ R, R ≠ 1 → R ≠ 2 → u2 R = r R) ∧ (∀ j, j < 1037 → u2 1 j = r 1 j) ∧ PRc c0 c2 g := by
  have hg : g.nt < 2 ^ 31 := Nat.lt_of_le_of_lt h.n hT
  -- one value on the class's side: the copy, with the value set
  have hone : ∀ (x : Nat) (u c : RS), lo ≤ x → x ≤ hi → (∀ j, j < 1037 → u 1 j = r 1 j) → PRc c0 c g → ∃ c1, C7_copyOfLine g c = some c1 ∧ (∀ R, ¬ OWN 1 R → c1 R = c R) ∧ QY (setL c1 1 (upd (c1 (10 + 1)) p (nI x)) (c1 (400 + 1))) g 1 (upd (u 1) p (nI x)) sm lm cm B B := fun x u c hx0 hx h1 hc => by
    obtain ⟨c1, k1, k2, k3⟩ := copyL (h.pred PRr.refl hc) (PRc.y h0 hc PRr.refl)
    exact ⟨c1, k1, k2, QX.toY (by omega) (hset x c1 (u 1) hx0 hx (QY.ext k3 h1))⟩
  intro d
  induction d with
  | zero =>
    intro v0 fu fu2 least best u c hy hlo hfu hfu2 hl h2 h1 hR hc
    obtain ⟨fu, rfl⟩ : ∃ m, fu = m + 1 := ⟨fu - 1, by omega⟩
    obtain ⟨fu2, rfl⟩ : ∃ m, fu2 = m + 1 := ⟨fu2 - 1, by omega⟩
    rw [F8_bestOf_L24, gBn, if_pos (nI_lt (by omega) (by omega)), if_pos (nI_lt (by omega) (by omega))]
    exact ⟨_, _, best, u, _, _, c, rfl, rfl, hR, h1, hc⟩
  | succ d ih =>
    intro v0 fu fu2 least best u c hy hlo hfu hfu2 hl h2 h1 hR hc
    by_cases hz : least = 0
    · subst hz
      obtain ⟨fu2, rfl⟩ : ∃ m, fu2 = m + 1 := ⟨fu2 - 1, by omega⟩
      have hC : gBn p (nI hi) f g (fu2 + 1) (nI v0) (nI 0 - nI 1) best c = some (nI v0, nI 0 - nI 1, best, c) := by
        rw [gBn]
        simp only [lit32]
        rw [if_neg (nI_nlt (by omega) (by omega)), sub1, if_pos rfl, if_pos (show m1 < nI 0 by decide)]
      have hG := bestRank_F (r := r) (p := p) (l := lo) (hi := hi) (a1 := nI a1) (a2 := a2) (d + 1) v0 fu best u hy hlo hfu hhi hp h2 hR (fun x u' e2 eR e1 hx0 hx => by
        · obtain ⟨c1, k1, k2, k3⟩ := hone x u' c hx0 hx e1 hc
          obtain ⟨x', v', y, c2, j1, -, -, j4⟩ := goes_ok (r := u') (lim := 2000) (hap := hap) hg (Nat.le_refl _) hB (no3 h3 h10) (hm _) (hs _) k3
          refine ⟨x', v', j1, ?_⟩
          rcases j4 with ⟨a, -⟩ | ⟨k, a, b, -⟩
          · exact Or.inl a
          · exact Or.inr ⟨k, a, b⟩) h1
      obtain ⟨b2, u2, z, q1, q2, q3, q4⟩ := hG
      exact ⟨z, _, best, u2, _, _, c, q1, hC, q2, q3, hc⟩
    · obtain ⟨fu, rfl⟩ : ∃ m, fu = m + 1 := ⟨fu - 1, by omega⟩
      obtain ⟨fu2, rfl⟩ : ∃ m, fu2 = m + 1 := ⟨fu2 - 1, by omega⟩
      obtain ⟨c1, k1, k2, k3⟩ := hone v0 u c hlo (by omega) h1 hc
      obtain ⟨x, v', y, c2, j1, j2, j3, j4⟩ := try_1 (r := u) (least := least) hg hB h3 h10 (by omega) hl (hm u) (hs u) k3
      have e : ws u 1 1037 (nI p) (nI v0) = some (setR u (upd (u 1) p (nI v0))) := by rw [ws_n hp (by omega), up1]
      obtain ⟨b1, b2, b3⟩ := best_row (v' := v') h2 hR
      have hc2 : PRc c0 c2 g := hc.trans ⟨fun R a b => by rw [j3.1 R a, setL_o (by unfold OWN at a; omega) (by unfold OWN at a; omega), k2 R a], j3.2⟩
      have hls : nI least - nI 1 = nI (least - 1) := nI_sub (by omega)
      rw [F8_bestOf_L24, gBn, if_neg (nI_nlt (by omega) (by omega)), if_neg (nI_nlt (by omega) (by omega)), e, bS, j1, bS]
      simp only [lit32, neg1]
      rw [hls, if_neg (nI_nlt (Nat.zero_le _) (by omega)), k1, bS, pt_n, bS, upC, hf _ _ _ _ j2, bS]
      dsimp only
      rcases j4 with ⟨rfl, j4⟩ | ⟨k, q1, rfl, rfl, q2⟩
      · have hF : (if x = m1 then some (nI least, best) else (if nI least ≤ x then some (nI least, best) else some (x, nI v0)) : Option (Int32 × Int32)) = some (nI least, best) := by
          rcases j4 with e | ⟨k, q1, e, q2⟩
          · rw [if_pos e]
          · rw [e, if_neg (m1_ne (by omega)), if_pos ((best_num hl q1).mpr q2)]
        rw [hF, bS, if_pos rfl, bS, cp_2_1 (by omega) (by omega), bS, nI_add, ← hls]
        exact ih (v0 + 1) fu fu2 least best _ c2 (by omega) (by omega) (by omega) (by omega) hl b2 b3 b1 hc2
      · rw [if_neg (m1_ne (by omega)), if_neg (fun q => by have := (best_num hl q1).mp q; omega), bS, if_neg (m1_ne (by omega)), bS, cp_2_1 (by omega) (by omega), bS, nI_add]
        exact ih (v0 + 1) fu fu2 k (nI v0) _ c2 (by omega) (by omega) (by omega) (by omega) (by omega) b2 b3 b1 hc2
theorem bestOf_ok {r c : RS} {g : CG} {B T sm lm cm p lo hi a1 : Nat} {a2 : Int32} {hap : RS → Option Int32} {f : RS → Int32 → Option (Int32 × RS)} (h : GI r c g B T) (hT : T < 2 ^ 31) (hB : B + 2001 < 2000000000) (h0 : QY c g 0 (r 1) sm lm cm B B) (h3 : a1 ≠ 3) (h10 : a1 < 10) (hp : p < 1037) (hhi : hi < 100) (hlo : lo ≤ hi) (hm : ∀ r, MET (fun u => F8_isMet u (nI a1) a2 (nI 0)) hap r g sm lm cm) (hs : ∀ r, MSM (fun u => F8_isMet u (nI a1) a2 (nI 0)) r g sm lm cm) (hset : ∀ (x : Nat) (c1 : RS) (v : Nat → Int32), lo ≤ x → x ≤ hi → QY c1 g 1 v sm lm cm B B → QX c1 g 1 (upd v p (nI x)) (upd (c1 (10 + 1)) p (nI x)) (c1 (400 + 1)) sm lm cm B B) (hf : ∀ (u : RS) (lim : Nat) (y : Int32) (c2 : RS), gUn hap 1 (nI lim) g FUEL (nI 0) u = some (.inl (y, c2)) → f u (nI lim) = some (y, c2)) :
    ∃ b2 r2 z' z5' c2, F8_bestOf r (nI p) (nI lo) (nI hi) (nI a1) a2 = some (b2, r2) ∧ gBn p (nI hi) f g FUEL (nI lo) (nI 2000) m1 c = some (z', z5', b2, c2) ∧ PRr r r2 ∧ PRc c c2 g := by
  have h1 : ∀ j, j < 1037 → cpA r 1 0 2 0 2 j = r 1 j := fun j hj => by
    have h2 := cpA_n (u := r) (A := 1) (i := 0) (B := 2) (k := 0) hj
    simp only [Nat.mul_zero, Nat.zero_add] at h2
    exact h2
  obtain ⟨z, z5, b2, u2, z', z5', c2, k1, k2, k3, k4, k5⟩ := best_L h hT hB h0 h3 h10 hp hhi hm hs hset hf (hi + 1 - lo) lo FUEL FUEL 2001 m1 (cpA r 1 0 2 0) c (by omega) (Nat.le_refl _) (by show hi + 1 - lo < 10000; omega) (by show hi + 1 - lo < 10000; omega) (Nat.le_refl _) h1 (fun j hj => by rw [cpA_o (by decide)]) (fun R a b => cpA_o b) ⟨fun _ _ _ => rfl, h.ti 1 (by omega)⟩
  rw [nI_sub (by omega)] at k2
  refine ⟨b2, u2, z', z5', c2, ?_, k2, ⟨fun R a b _ => k3 R a b, k4⟩, k5⟩
  unfold F8_bestOf
  simp only [lit32, neg1]
  rw [cp_1_2 (by omega) (by omega), bS, k1, bS]
theorem a_bestRank {r c : RS} {g : CG} {B T : Nat} {a : Int32} (h : GI r c g B T) (hT : T < 2 ^ 31) (hB : B + 2001 < 2000000000) : CT (F8_bestRank r a) (C7_bestRank g c a) r g 0 B T := by
  obtain ⟨sm, lm, cm, h0⟩ := h.l
  have hlm := h0.a.lm6
  unfold F8_bestRank C7_bestRank
  simp only [lit32, neg1]
  rcases argLo (r := r) (c := c) (g := g) (a := a) (n := lm) (by omega) h0.v8 h0.n8 with ⟨l, s1, rfl, s2, s3⟩ | ⟨s2, s3⟩
  · have hl6 : l < 6 := by omega
    have h1 : QY c g 0 (th r 0 1) sm lm cm B B := by rw [th_o (by decide)]; exact h0
    obtain ⟨b2, r2, z', z5', c2, k1, k2, k3, k4⟩ := bestOf_ok (p := 113 + 4 * l + 0) (lo := 0) (hi := 9) (a1 := 1) (a2 := nI l) (f := fun u y => C7_ticksUntil_e1 g u 1 (nI l) y) (h.thr (k := 0)) hT hB h1 (by decide) (by decide) (by omega) (by decide) (by decide) (fun _ => met_1 s1) (fun _ => msm_1) (fun x c1 v _ hx q => QR.rank hx hl6 q) (fun u lim y c2 e => un_1 e)
    rw [← gB_rank hl6] at k2
    rw [s2, s3, bS, bS, isThrown_1, bS, trR]
    simp only [if_true, nI_add, nI_mul]
    rw [k1, bS, bS, k2, bS]
    exact Or.inl ⟨b2, r2, c2, rfl, rfl, h.thr.pred k3 k4, k3.t⟩
  · rw [s2, s3, bS, bS, isThrown_0, bS, trL]
    refine Or.inr ⟨1, by omega, by omega, ?_, rfl⟩
    simp only [nz0, if_false, bS]
theorem a_bestTray {r c : RS} {g : CG} {B T : Nat} (h : GI r c g B T) (hT : T < 2 ^ 31) (hB : B + 2001 < 2000000000) : BT (F8_bestTray r) (C7_bestTray g c) g B T := by
  obtain ⟨sm, lm, cm, h0⟩ := h.l
  unfold F8_bestTray C7_bestTray
  simp only [lit32, neg1]
  have h1 : QY c g 0 (th r 0 1) sm lm cm B B := by rw [th_o (by decide)]; exact h0
  obtain ⟨b2, r2, z', z5', c2, k1, k2, k3, k4⟩ := bestOf_ok (p := 1) (lo := 1) (hi := 20) (a1 := 2) (a2 := m1) (f := fun u y => C7_ticksUntil_e2 g u 1 m1 y) (h.thr (k := 0)) hT hB h1 (by decide) (by decide) (by omega) (by decide) (by decide) (fun _ => met_2) (fun _ => msm_2) (fun x c1 v _ hx q => QR.tot (by omega) q) (fun u lim y c2 e => un_2 e)
  rw [← gB_tray] at k2
  rw [zth, bS, k1, bS, k2, bS]
  exact ⟨b2, r2, c2, rfl, rfl, h.thr.pred k3 k4, k3.t⟩
theorem lotBy_E {r c : RS} {g : CG} {B T sm lm cm : Nat} {a : Int32} (h : GI r c g B T) (hT : T < 2 ^ 31) (hB : B + 2001 < 2000000000) (h0 : QY c g 0 (r 1) sm lm cm B B) : ∀ (d y fu fu2 : Nat) (u z : RS), y + d = lm → d < fu → d < fu2 → PRr r u → PRc c z g → (∀ k, k < y → u 9 k = z 2 k) →
    ∃ u2 z2, F8_lotBy_L28 a fu (nI y) u = some (nI lm, u2) ∧ C7_lotBy_L19 a g fu2 (nI y) z = some (nI lm, z2) ∧ PRr r u2 ∧ PRc c z2 g ∧ ∀ k, k < lm → u2 9 k = z2 2 k := by
  have hlm := h0.a.lm6
  intro d
  induction d with
  | zero =>
    intro y fu fu2 u z hy hfu hfu2 hr hc he
    obtain ⟨fu, rfl⟩ : ∃ m, fu = m + 1 := ⟨fu - 1, by omega⟩
    obtain ⟨fu2, rfl⟩ : ∃ m, fu2 = m + 1 := ⟨fu2 - 1, by omega⟩
    obtain rfl : y = lm := by omega
    have q := PRc.y h0 hc hr
    rw [F8_lotBy_L28, C7_lotBy_L19, q.v8, q.n8, if_pos (nI_le (by omega) (by omega)), if_pos (nI_le (by omega) (by omega))]
    exact ⟨u, z, rfl, rfl, hr, hc, he⟩
  | succ d ih =>
    intro y fu fu2 u z hy hfu hfu2 hr hc he
    obtain ⟨fu, rfl⟩ : ∃ m, fu = m + 1 := ⟨fu - 1, by omega⟩
    obtain ⟨fu2, rfl⟩ : ∃ m, fu2 = m + 1 := ⟨fu2 - 1, by omega⟩
    have q := PRc.y h0 hc hr
    have hG := h.pred hr hc
    obtain ⟨x, r2, c1, c2, k1, k2, k3, k4, k5, k6, k7⟩ := behind_ok hG q hT hB (a1 := 1) (a2 := nI y) (t2 := nI 0) (no3 (by decide) (by decide)) (fun u e => by
      unfold F8_of; simp only [lit32, nI_add, nI_mul]; unfold rd; rw [e]) (fun _ => met_1 (by omega)) (fun _ => msm_1)
    have hx : (if x = m1 then some (nI 2001) else some x : Option Int32) = some (if x = m1 then nI 2001 else x) := by
      by_cases e : x = m1
      · rw [if_pos e, if_pos e]
      · rw [if_neg e, if_neg e]
    rw [F8_lotBy_L28, C7_lotBy_L19, q.v8, q.n8, if_neg (nI_ge (by omega) (by omega)), if_neg (nI_ge (by omega) (by omega))]
    simp only [lit32, neg1]
    rw [k1, bS, k2, bS, un_1 k3, bS]
    dsimp only
    rw [hx, bS, ws_n (by omega) (by omega), bS, bS, ws_n (by omega) (by omega), bS, nI_add]
    refine ih (y + 1) fu fu2 _ _ (by omega) (by omega) (by omega) (hr.trans ⟨fun R a b e => ?_, fun j hj => ?_⟩) (hc.trans ⟨fun R a b => ?_, ?_⟩) (fun k hk => ?_)
    · rw [up_or e]; exact k4.1 R a b e
    · rw [up_ne (by omega)]; exact k4.2 j hj
    · rw [up_or b]; exact k5.1 R a b
    · rw [up_or (by decide)]; exact k5.2
    · by_cases e : k = y
      · rw [e, up_eq, up_eq]
      · rw [up_ne (by omega), up_ne (by omega), k6, k7]; exact he k (by omega)
theorem ahead_L {u z : RS} {g : CG} {lm l : Nat} {a1 : Int32} {t8 : Int32 × RS} (hlm : lm ≤ 6) (hl : l < lm) (hu : t8.2 = u) (h8u : u 1 8 = nI lm) (h8z : z (10 + 0) 8 = nI lm) (he : ∀ k, k < lm → u 9 k = z 2 k) : ∀ (d y fu fu2 : Nat) (s : Int32), y + d = lm → d < fu → d < fu2 → ∃ s2, F8_lotBy_L88 (nI l) a1 t8 fu (nI y) s = some (nI lm, s2) ∧ C7_lotsFinishedBefore_L4 (nI l) g z fu2 (nI y) s = some (nI lm, s2) := by
  subst hu
  intro d
  induction d with
  | zero =>
    intro y fu fu2 s hy hfu hfu2
    obtain ⟨fu, rfl⟩ : ∃ m, fu = m + 1 := ⟨fu - 1, by omega⟩
    obtain ⟨fu2, rfl⟩ : ∃ m, fu2 = m + 1 := ⟨fu2 - 1, by omega⟩
    obtain rfl : y = lm := by omega
    rw [F8_lotBy_L88, C7_lotsFinishedBefore_L4, h8u, h8z, if_pos (nI_le (by omega) (by omega)), if_pos (nI_le (by omega) (by omega))]
    exact ⟨s, rfl, rfl⟩
  | succ d ih =>
    intro y fu fu2 s hy hfu hfu2
    obtain ⟨fu, rfl⟩ : ∃ m, fu = m + 1 := ⟨fu - 1, by omega⟩
    obtain ⟨fu2, rfl⟩ : ∃ m, fu2 = m + 1 := ⟨fu2 - 1, by omega⟩
    have hn : ¬ nI lm ≤ nI y := nI_ge (by omega) (by omega)
    rw [F8_lotBy_L88, C7_lotsFinishedBefore_L4, h8u, h8z, if_neg hn, if_neg hn]
    simp only [lit32]
    rw [rd_n (by omega) (by omega), bS, rd_n (by omega) (by omega), bS, bS, bS, rd_n (by omega) (by omega), bS, rd_n (by omega) (by omega), bS, bS, bS, he y (by omega), he l hl, nI_add]
    by_cases c1 : z 2 y < z 2 l
    · have c2 : ¬ z 2 l ≤ z 2 y := fun q => by rw [Int32.lt_iff_toInt_lt] at c1; rw [Int32.le_iff_toInt_le] at q; omega
      rw [if_pos c1, bS, if_neg c2, bS, if_neg nz0, bS]
      exact ih (y + 1) fu fu2 _ (by omega) (by omega) (by omega)
    · have c2 : z 2 l ≤ z 2 y := by rw [Int32.lt_iff_toInt_lt] at c1; rw [Int32.le_iff_toInt_le]; omega
      rw [if_neg c1, if_pos c2, bS, if_pos rfl]
      by_cases c3 : z 2 y = z 2 l
      · rw [if_pos c3, if_pos c3]
        by_cases c4 : l ≤ y
        · rw [if_pos (nI_le c4 (by omega)), if_pos (nI_le c4 (by omega)), bS, bS, nI_z]
          exact ih (y + 1) fu fu2 _ (by omega) (by omega) (by omega)
        · rw [if_neg (nI_ge (by omega) (by omega)), if_neg (nI_ge (by omega) (by omega)), bS, bS]
          exact ih (y + 1) fu fu2 _ (by omega) (by omega) (by omega)
      · rw [if_neg c3, if_neg c3, bS, bS, nI_z]
        exact ih (y + 1) fu fu2 _ (by omega) (by omega) (by omega)
theorem byL {u z : RS} {g : CG} {lm : Nat} {a1 t1 t2 : Int32} (hlm : lm ≤ 6) (h8u : u 1 8 = nI lm) (h8z : z (10 + 0) 8 = nI lm) (he : ∀ k, k < lm → u 9 k = z 2 k) : ∀ (d y fu fu2 : Nat), y + d = lm → d < fu → d < fu2 → (∃ x, F8_lotBy_L72 a1 (t1, u) fu (nI y) = some (.inl (x, u)) ∧ C7_lotBy_L71 a1 g (t2, z) fu2 (nI y) = some (.inl (x, z))) ∨ (∃ p q, F8_lotBy_L72 a1 (t1, u) fu (nI y) = some (.inr p) ∧ C7_lotBy_L71 a1 g (t2, z) fu2 (nI y) = some (.inr q)) := by
  intro d
  induction d with
  | zero =>
    intro y fu fu2 hy hfu hfu2
    obtain ⟨fu, rfl⟩ : ∃ m, fu = m + 1 := ⟨fu - 1, by omega⟩
    obtain ⟨fu2, rfl⟩ : ∃ m, fu2 = m + 1 := ⟨fu2 - 1, by omega⟩
    obtain rfl : y = lm := by omega
    right
    have e1 : (t1, u).2 1 8 = nI y := h8u
    have e2 : (t2, z).2 (10 + 0) 8 = nI y := h8z
    rw [F8_lotBy_L72, C7_lotBy_L71, e1, e2, if_pos (nI_le (by omega) (by omega)), if_pos (nI_le (by omega) (by omega))]
    exact ⟨_, _, rfl, rfl⟩
  | succ d ih =>
    intro y fu fu2 hy hfu hfu2
    obtain ⟨fu, rfl⟩ : ∃ m, fu = m + 1 := ⟨fu - 1, by omega⟩
    obtain ⟨fu2, rfl⟩ : ∃ m, fu2 = m + 1 := ⟨fu2 - 1, by omega⟩
    obtain ⟨s2, k1, k2⟩ := ahead_L (g := g) (a1 := a1) (t8 := (t1, u)) hlm (l := y) (by omega) rfl h8u h8z he lm 0 FUEL FUEL (nI 0) (by omega) (by show lm < 10000; omega) (by show lm < 10000; omega)
    have k3 : C7_lotsFinishedBefore g z (nI y) = some s2 := by unfold C7_lotsFinishedBefore; simp only [lit32]; rw [k2, bS]
    rw [F8_lotBy_L72, C7_lotBy_L71]
    simp only [lit32]
    rw [h8u, h8z, if_neg (nI_ge (by omega) (by omega)), if_neg (nI_ge (by omega) (by omega)), k1, bS, k3, bS, nI_add]
    by_cases e : s2 = a1
    · rw [if_pos e, if_pos e]; exact Or.inl ⟨_, rfl, rfl⟩
    · rw [if_neg e, if_neg e]
      exact ih (y + 1) fu fu2 (by omega) (by omega) (by omega)
theorem a_lotBy {r c : RS} {g : CG} {B T : Nat} {a : Int32} (h : GI r c g B T) (hT : T < 2 ^ 31) (hB : B + 2001 < 2000000000) : BT (F8_lotBy r a) (C7_lotBy g c a) g B T := by
  obtain ⟨sm, lm, cm, h0⟩ := h.l
  have hlm := h0.a.lm6
  have h1 : QY c g 0 (th r 0 1) sm lm cm B B := by rw [th_o (by decide)]; exact h0
  unfold F8_lotBy C7_lotBy
  simp only [lit32, neg1]
  rw [zth, bS, th1, h0.v8, h0.n8]
  rcases below (a := a) (n := lm) (by omega) with ⟨k, hk, rfl⟩ | hb
  · rw [inB_pos (p := 0) (q := (lm : Int) - 1) (by decide) (by rw [Int32.toInt_toInt64, sub1_toInt (by omega)]) (by rw [nI_toInt (by omega)]; omega), if_neg nz0, if_neg (nI_nlt (by omega) (by omega)), if_pos (nI_lt hk (by omega))]
    obtain ⟨u2, z2, k1, k2, k3, k4, k5⟩ := lotBy_E (a := nI k) (h.thr (k := 0)) hT hB h1 lm 0 FUEL FUEL (th r 0) c (by omega) (by show lm < 10000; omega) (by show lm < 10000; omega) PRr.refl ⟨fun _ _ _ => rfl, h.ti 1 (by omega)⟩ (fun k hk => by omega)
    have q := PRc.y h1 k4 k3
    rw [k1, bS, k2, bS]
    rcases byL (g := g) (a1 := nI k) (t1 := nI lm) (t2 := nI lm) hlm q.v8 q.n8 k5 lm 0 FUEL FUEL (by omega) (by show lm < 10000; omega) (by show lm < 10000; omega) with ⟨x, j1, j2⟩ | ⟨p, p', j1, j2⟩
    · rw [j1, bS, j2, bS]
      exact ⟨x, u2, z2, rfl, rfl, h.thr.pred k3 k4, k3.t⟩
    · rw [j1, bS, j2, bS]
      exact ⟨m1, u2, z2, rfl, rfl, h.thr.pred k3 k4, k3.t⟩
  · rw [inB_neg (p := 0) (q := (lm : Int) - 1) (by decide) (by rw [Int32.toInt_toInt64, sub1_toInt (by omega)]) (by omega), if_pos rfl]
    by_cases h2 : a < nI 0
    · rw [if_pos h2]; exact ⟨m1, th r 0, c, rfl, rfl, h.thr, th_6⟩
    · have h3 : ¬ a.toInt < 0 := fun q => h2 (lt0.mpr q)
      rw [if_neg h2, if_neg (fun q => by have := (ltn (by omega)).mp q; omega)]
      exact ⟨m1, th r 0, c, rfl, rfl, h.thr, th_6⟩
end
section
theorem z32b {x : Int32} : x = 0 ↔ x.toBitVec = 0#32 := ⟨fun h => by rw [h]; rfl, fun h => Int32.toBitVec_inj.mp h⟩
theorem m255 : ∀ i : Nat, i < 32 → (255#64).getLsbD i = decide (i < 8) := by decide +kernel
theorem bvz (v : BitVec 64) (n : Nat) (hn : n ≤ 56) : ((((v >>> n).signExtend 32).signExtend 8).signExtend 32 = 0#32) ↔ (((v.sshiftRight n) &&& 255#64).signExtend 32 = 0#32) := by
  have key1 : ((((v >>> n).signExtend 32).signExtend 8).signExtend 32 = 0#32) ↔ ∀ i : Nat, i < 8 → v.getLsbD (n + i) = false := by
    constructor
    · intro h i hi
      have e := congrArg (fun x : BitVec 32 => x.getLsbD i) h
      simp only [BitVec.getLsbD_signExtend, BitVec.getLsbD_ushiftRight, BitVec.getLsbD_zero] at e
      simpa [show i < 32 by omega, hi, show i < 64 by omega] using e
    · intro h
      apply BitVec.eq_of_getLsbD_eq
      intro i hi
      have h7 := h 7 (by decide)
      simp only [BitVec.getLsbD_signExtend, BitVec.getLsbD_ushiftRight, BitVec.getLsbD_zero, BitVec.msb_eq_getLsbD_last]
      by_cases h8 : i < 8
      · have := h i h8
        simp [h8, this, hi, show i < 64 by omega, show ¬ 64 ≤ i by omega]
      · simp [h8, h7]
  have key2 : (((v.sshiftRight n) &&& 255#64).signExtend 32 = 0#32) ↔ ∀ i : Nat, i < 8 → v.getLsbD (n + i) = false := by
    constructor
    · intro h i hi
      have e := congrArg (fun x : BitVec 32 => x.getLsbD i) h
      simp only [BitVec.getLsbD_signExtend, BitVec.getLsbD_and, BitVec.getLsbD_sshiftRight, BitVec.getLsbD_zero, m255 i (by omega)] at e
      simpa [show i < 32 by omega, hi, show i < 64 by omega, show n + i < 64 by omega, show ¬ 64 ≤ i by omega] using e
    · intro h
      apply BitVec.eq_of_getLsbD_eq
      intro i hi
      simp only [BitVec.getLsbD_signExtend, BitVec.getLsbD_and, BitVec.getLsbD_sshiftRight, BitVec.getLsbD_zero, m255 i hi]
      by_cases h8 : i < 8
      · have := h i h8
        have h9 : v[n + i]'(by omega) = false := by rw [← BitVec.getLsbD_eq_getElem]; exact this
        simp [h8, h9, hi, show n + i < 64 by omega, show i < 64 by omega]
      · simp [h8, hi, show ¬ 64 ≤ i by omega]
  exact key1.trans key2.symm
theorem bve (v : BitVec 64) (n : Nat) (hn : n ≤ 56) : ((v >>> n).signExtend 32).signExtend 8 = (((v.sshiftRight n) &&& 255#64).signExtend 32).signExtend 8 := by
  apply BitVec.eq_of_getLsbD_eq
  intro i hi
  simp only [BitVec.getLsbD_signExtend, BitVec.getLsbD_ushiftRight, BitVec.getLsbD_and, BitVec.getLsbD_sshiftRight, m255 i (by omega)]
  simp [show i < 32 by omega, hi, show i < 64 by omega, show n + i < 64 by omega, show ¬ 64 ≤ i by omega]
noncomputable def kB (a : Int64) (y : Int32) : Int32 := (((a.toUInt64 >>> ((y).toInt64.toUInt64 &&& Int64.toUInt64 63)).toInt64).toInt32).toInt8.toInt32
noncomputable def fB (a : Int64) (k : Int32) : Int32 := (((a >>> (((8 * (7 - k))).toInt64 &&& 63)) &&& 255)).toInt32
noncomputable def yk (k : Nat) : Int32 := Int32.ofInt (56 - 8 * (k : Int))
theorem kz {a : Int64} {k : Nat} (hk : k < 8) : kB a (yk k) = 0 ↔ fB a (nI k) = 0 := by
  rw [z32b, z32b]
  rcases (show k = 0 ∨ k = 1 ∨ k = 2 ∨ k = 3 ∨ k = 4 ∨ k = 5 ∨ k = 6 ∨ k = 7 by omega) with rfl | rfl | rfl | rfl | rfl | rfl | rfl | rfl
  · exact bvz a.toBitVec 56 (by decide)
  · exact bvz a.toBitVec 48 (by decide)
  · exact bvz a.toBitVec 40 (by decide)
  · exact bvz a.toBitVec 32 (by decide)
  · exact bvz a.toBitVec 24 (by decide)
  · exact bvz a.toBitVec 16 (by decide)
  · exact bvz a.toBitVec 8 (by decide)
  · exact bvz a.toBitVec 0 (by decide)
noncomputable def kC (a : Int64) (y : Int32) : Int8 := (((a.toUInt64 >>> ((y).toInt64.toUInt64 &&& Int64.toUInt64 63)).toInt64).toInt32).toInt8
theorem ke {a : Int64} {k : Nat} (hk : k < 8) : kC a (yk k) = (fB a (nI k)).toInt8 := by
  rw [← Int8.toBitVec_inj]
  rcases (show k = 0 ∨ k = 1 ∨ k = 2 ∨ k = 3 ∨ k = 4 ∨ k = 5 ∨ k = 6 ∨ k = 7 by omega) with rfl | rfl | rfl | rfl | rfl | rfl | rfl | rfl
  · exact bve a.toBitVec 56 (by decide)
  · exact bve a.toBitVec 48 (by decide)
  · exact bve a.toBitVec 40 (by decide)
  · exact bve a.toBitVec 32 (by decide)
  · exact bve a.toBitVec 24 (by decide)
  · exact bve a.toBitVec 16 (by decide)
  · exact bve a.toBitVec 8 (by decide)
  · exact bve a.toBitVec 0 (by decide)
theorem nar8 (x : Int8) : vp_nar .byte x.toInt32 = x.toInt32 := by
  show x.toInt32.toInt8.toInt32 = x.toInt32
  rw [Int8.toInt8_toInt32]
theorem byt8 (x : Int8) : BYT x.toInt32 := by
  unfold BYT
  rw [Int8.toInt_toInt32]
  exact ⟨Int8.le_toInt x, Int8.toInt_lt x⟩
theorem kBC {a : Int64} {y : Int32} : kB a y = (kC a y).toInt32 := Eq.trans rfl rfl
theorem nS {a : Int64} {k : Nat} (hk : k < 8) : vp_nar .byte (fB a (nI k)).toInt8.toInt32 = kB a (yk k) ∧ vp_nar .byte (kB a (yk k)) = kB a (yk k) ∧ BYT (kB a (yk k)) := by
  rw [kBC, nar8, nar8, ke hk]
  exact ⟨rfl, rfl, byt8 _⟩
theorem yk_s {k : Nat} (hk : k < 8) : yk k + (-8) = yk (k + 1) ∧ ¬ yk k < 0 := by
  rcases (show k = 0 ∨ k = 1 ∨ k = 2 ∨ k = 3 ∨ k = 4 ∨ k = 5 ∨ k = 6 ∨ k = 7 by omega) with rfl | rfl | rfl | rfl | rfl | rfl | rfl | rfl <;> decide
theorem yk_8 : yk 8 < 0 := by decide
noncomputable def cf (a : Int64) : Nat → Nat → Nat
  | 0, _ => 0
  | j + 1, k => (if fB a (nI k) = 0 then 0 else 1) + cf a j (k + 1)
theorem cf_le {a : Int64} : ∀ j k, cf a j k ≤ j
  | 0, _ => Nat.le_refl _
  | j + 1, k => by
    have := cf_le (a := a) j (k + 1)
    unfold cf; split <;> omega
theorem app_F10 {a : Int64} {u : RS} : ∀ (j k f m : Nat), k + j = 8 → j < f → m + j < 10000 → F8_append_L10 a u f (nI k) (nI m) = some (nI 8, nI (m + cf a j k))
  | 0, k, f, m, h1, h2, h3 => by
    obtain ⟨f, rfl⟩ : ∃ n, f = n + 1 := ⟨f - 1, by omega⟩
    obtain rfl : k = 8 := by omega
    rw [F8_append_L10]
    rw [if_pos (show (8 : Int32) ≤ nI 8 by decide)]; rfl
  | j + 1, k, f, m, h1, h2, h3 => by
    obtain ⟨f, rfl⟩ : ∃ n, f = n + 1 := ⟨f - 1, by omega⟩
    rw [F8_append_L10]
    have hge : ¬ (8 : Int32) ≤ nI k := by rw [lit32]; exact nI_ge (by omega) (by omega)
    rw [if_neg hge]
    show (some (fB a (nI k))).bind _ = _
    rw [bS]
    have e1 : nI k + 1 = nI (k + 1) := nI_add _ 1
    by_cases hz : fB a (nI k) = 0
    · rw [if_pos hz, bS, e1, show nI m + 0 = nI m from Int32.add_zero _, app_F10 j (k + 1) f m (by omega) (by omega) (by omega)]
      show some (nI 8, nI (m + cf a j (k + 1))) = some (nI 8, nI (m + ((if fB a (nI k) = 0 then 0 else 1) + cf a j (k + 1))))
      rw [if_pos hz, Nat.zero_add]
    · rw [if_neg hz, bS, e1, show nI m + 1 = nI (m + 1) from nI_add _ 1, app_F10 j (k + 1) f (m + 1) (by omega) (by omega) (by omega)]
      show some (nI 8, nI (m + 1 + cf a j (k + 1))) = some (nI 8, nI (m + ((if fB a (nI k) = 0 then 0 else 1) + cf a j (k + 1))))
      rw [if_neg hz, Nat.add_assoc]
theorem app_C9 {a : Int64} {g : CG} {u : RS} : ∀ (j k f m : Nat), k + j = 8 → j < f → m + j < 10000 → C5_add_L9 a g u f (yk k) (nI m) = some (yk 8, nI (m + cf a j k))
  | 0, k, f, m, h1, h2, h3 => by
    obtain ⟨f, rfl⟩ : ∃ n, f = n + 1 := ⟨f - 1, by omega⟩
    obtain rfl : k = 8 := by omega
    rw [C5_add_L9, if_pos yk_8]; rfl
  | j + 1, k, f, m, h1, h2, h3 => by
    obtain ⟨f, rfl⟩ : ∃ n, f = n + 1 := ⟨f - 1, by omega⟩
    obtain ⟨e1, e2⟩ := yk_s (k := k) (by omega)
    rw [C5_add_L9, if_neg e2]
    show (if kB a (yk k) = 0 then (some (nI m)) else (some (nI m + 1)) : Option Int32).bind _ = _
    have hzz := kz (a := a) (k := k) (by omega)
    by_cases hz : fB a (nI k) = 0
    · rw [if_pos (hzz.mpr hz), bS, e1, app_C9 j (k + 1) f m (by omega) (by omega) (by omega)]
      show some (yk 8, nI (m + cf a j (k + 1))) = some (yk 8, nI (m + ((if fB a (nI k) = 0 then 0 else 1) + cf a j (k + 1))))
      rw [if_pos hz, Nat.zero_add]
    · rw [if_neg (fun q => hz (hzz.mp q)), bS, e1, show nI m + 1 = nI (m + 1) from nI_add _ 1, app_C9 j (k + 1) f (m + 1) (by omega) (by omega) (by omega)]
      show some (yk 8, nI (m + 1 + cf a j (k + 1))) = some (yk 8, nI (m + ((if fB a (nI k) = 0 then 0 else 1) + cf a j (k + 1))))
      rw [if_neg hz, Nat.add_assoc]
noncomputable def BFn (r c : RS) (n : Nat) : Prop := n ≤ 600 ∧ c 0 5 = nI n ∧ r 0 8 = nI n ∧ ∀ k, k < n → c 3 k = r 6 k ∧ BYT (c 3 k)
noncomputable def APr (w r : RS) : Prop := (∀ R, R ≠ 0 → R ≠ 6 → w R = r R) ∧ (∀ i, i ≠ 8 → w 0 i = r 0 i)
noncomputable def APc (u c : RS) : Prop := (∀ R, R ≠ 0 → R ≠ 3 → u R = c R) ∧ (∀ i, i ≠ 5 → u 0 i = c 0 i)
theorem app_L {a : Int64} {g : CG} {r c : RS} {t7 t3 : Int32 × Int32} : ∀ (j k f f2 n : Nat) (u w : RS), k + j = 8 → j < f → j < f2 → BFn w u n → n + cf a j k ≤ 600 → APr w r → APc u c → ∃ u2 w2, C5_add_L45 t3 a g f (yk k) u = some (yk 8, u2) ∧ F8_append_L58 t7 a f2 (nI k) w = some (nI 8, w2) ∧ BFn w2 u2 (n + cf a j k) ∧ APr w2 r ∧ APc u2 c
  | 0, k, f, f2, n, u, w, h1, h2, h3, hb, h4, h5, h6 => by
    obtain ⟨f, rfl⟩ : ∃ n, f = n + 1 := ⟨f - 1, by omega⟩
    obtain ⟨f2, rfl⟩ : ∃ n, f2 = n + 1 := ⟨f2 - 1, by omega⟩
    obtain rfl : k = 8 := by omega
    refine ⟨u, w, ?_, ?_, hb, h5, h6⟩
    · rw [C5_add_L45, if_pos yk_8]
    · rw [F8_append_L58, if_pos (show (8 : Int32) ≤ nI 8 by decide)]
  | j + 1, k, f, f2, n, u, w, h1, h2, h3, hb, h4, h5, h6 => by
    obtain ⟨f, rfl⟩ : ∃ n, f = n + 1 := ⟨f - 1, by omega⟩
    obtain ⟨f2, rfl⟩ : ∃ n, f2 = n + 1 := ⟨f2 - 1, by omega⟩
    obtain ⟨e1, e2⟩ := yk_s (k := k) (by omega)
    have hge : ¬ (8 : Int32) ≤ nI k := by rw [lit32]; exact nI_ge (by omega) (by omega)
    have e3 : nI k + 1 = nI (k + 1) := nI_add _ 1
    have hzz := kz (a := a) (k := k) (by omega)
    rw [C5_add_L45, F8_append_L58, if_neg e2, if_neg hge]
    have hcf : cf a (j + 1) k = (if fB a (nI k) = 0 then 0 else 1) + cf a j (k + 1) := rfl
    have hl := cf_le (a := a) j (k + 1)
    have eF : F8_byteOf a (nI k) = some (fB a (nI k)) := rfl
    rw [eF, bS, bS, e1, e3]
    show ∃ u2 w2, ((if kB a (yk k) = 0 then (some u) else (if 600 ≤ (u 0 5) then (some u) else ((ws u 3 600 (u 0 5) (vp_nar .byte (kB a (yk k)))).bind fun u22 => (pt u22 0 5 ((u22 0 5) + 1)).bind fun u24 => some u24)) : Option RS).bind fun t18 => C5_add_L45 t3 a g f (yk (k + 1)) t18) = some (yk 8, u2) ∧ _ ∧ _
    by_cases hz : fB a (nI k) = 0
    · rw [if_pos hz, bS, if_pos (hzz.mpr hz), bS]
      rw [if_pos hz, Nat.zero_add] at hcf
      rw [hcf] at h4 ⊢
      exact app_L j (k + 1) f f2 n u w (by omega) (by omega) (by omega) hb h4 h5 h6
    · rw [if_neg hz] at hcf
      rw [hcf] at h4 ⊢
      obtain ⟨b1, b2, b3, b4⟩ := hb
      obtain ⟨s1, s2, s3⟩ := nS (a := a) (k := k) (by omega)
      have h600 : ¬ (600 : Int32) ≤ nI n := by rw [lit32]; exact nI_ge (by omega) (by omega)
      rw [if_neg hz, if_neg (fun q => hz (hzz.mp q)), b2, b3, if_neg h600, s1, s2, ws_n (by omega) (by omega), ws_n (by omega) (by omega), bS, bS, pt_n, pt_n, bS, bS, bS, bS, up_ne (by omega), up_ne (by omega), b2, b3, show nI n + 1 = nI (n + 1) from nI_add _ 1]
      have := app_L (a := a) (r := r) (c := c) (t7 := t7) (t3 := t3) (g := g) j (k + 1) f f2 (n + 1) (up (up u 3 n (kB a (yk k))) 0 5 (nI (n + 1))) (up (up w 6 n (kB a (yk k))) 0 8 (nI (n + 1))) (by omega) (by omega) (by omega) ⟨by omega, up_eq, up_eq, fun i hi => ?_⟩ (by omega) ⟨fun R a b => ?_, fun i a => ?_⟩ ⟨fun R a b => ?_, fun i a => ?_⟩
      · rw [show n + (1 + cf a j (k + 1)) = n + 1 + cf a j (k + 1) by omega]
        exact this
      · rw [up_or (r := 3) (k := 0) (by decide), up_or (r := 6) (k := 0) (by decide)]
        by_cases e : i = n
        · subst e; rw [up_eq, up_eq]; exact ⟨rfl, s3⟩
        · rw [up_ne (by omega), up_ne (by omega)]; exact b4 i (by omega)
      · rw [up_or a, up_or b]; exact h5.1 R a b
      · rw [up_ne (by omega), up_ne (by omega)]; exact h5.2 i a
      · rw [up_or a, up_or b]; exact h6.1 R a b
      · rw [up_ne (by omega), up_ne (by omega)]; exact h6.2 i a
theorem GI.buf {r c r2 c2 : RS} {g : CG} {B T n : Nat} (h : GI r c g B T) (hr : APr r2 r) (hc : APc c2 c) (hb : BFn r2 c2 n) : GI r2 c2 g B T := by
  obtain ⟨b1, b2, b3, b4⟩ := hb
  have cR : ∀ R, R ≠ 0 → R ≠ 3 → c2 R = c R := hc.1
  refine ⟨?_, fun L hL => ?_, ?_, ?_, ⟨by rw [cR 5 (by decide) (by decide)]; exact h.b.1, n, b1, b2, b3, b4⟩, ?_, ?_, h.n⟩
  · rw [hr.1 1 (by decide) (by decide)]
    exact h.l.frame (by omega) (Nat.le_refl _) (fun R hR => cR R (by unfold OWN at hR; omega) (by unfold OWN at hR; omega)) (fun t _ _ => cR _ (by omega) (by omega))
  · rw [cR _ (by omega) (by omega)]; exact h.ti L hL
  · exact h.p.frame (Nat.le_refl _) (fun _ _ _ q => q) (hc.2 3 (by decide)) (hc.2 4 (by decide)) (hr.2 5 (by decide)) (hr.1 3 (by decide) (by decide)) (fun L R a b hR => cR R (by unfold OWN at hR; omega) (by unfold OWN at hR; omega)) (fun t _ _ => cR _ (by omega) (by omega))
  · exact h.s.frame (Nat.le_refl _) (fun _ _ _ => rfl) (hr.1 5 (by decide) (by decide)) (hr.1 4 (by decide) (by decide)) (fun L R a b hR => cR R (by unfold OWN at hR; omega) (by unfold OWN at hR; omega)) (fun t _ _ => cR _ (by omega) (by omega))
  · exact h.e.frame (hc.2 1 (by decide)) (hc.2 2 (by decide)) (hr.2 15 (by decide)) (hr.2 16 (by decide))
  · exact h.o.frame (hc.2 0 (by decide)) (hr.2 22 (by decide))
theorem a_append {r c : RS} {g : CG} {B T : Nat} {a : Int64} (h : GI r c g B T) : BT (F8_append r a) (C7_append g c a) g B T := by
  obtain ⟨bz, n, b1, b2, b3, b4⟩ := h.b
  have hl := cf_le (a := a) 8 0
  have hF := app_F10 (a := a) (u := th r 0) 8 0 FUEL 0 (by omega) (by show 8 < 10000; omega) (by omega)
  have hC := app_C9 (a := a) (g := g) (u := c) 8 0 FUEL n (by omega) (by show 8 < 10000; omega) (by omega)
  rw [Nat.zero_add] at hF
  unfold F8_append C7_append C5_add
  have e0 : pt r 0 6 0 = some (th r 0) := Eq.trans rfl rfl
  have e8 : th r 0 0 8 = nI n := by rw [th_0 (by decide)]; exact b3
  rw [e0, bS]
  rw [show (0 : Int32) = nI 0 from lit32 0, show (56 : Int32) = yk 0 from rfl, hF, bS, b2, hC, bS]
  dsimp only
  rw [e8, nI_add, lit32 600]
  by_cases hfit : n + cf a 8 0 ≤ 600
  · obtain ⟨u2, w2, k1, k2, k3, k4, k5⟩ := app_L (a := a) (g := g) (r := th r 0) (c := c) (t7 := (nI 8, nI (cf a 8 0))) (t3 := (yk 8, nI (n + cf a 8 0))) 8 0 FUEL FUEL n c (th r 0) (by omega) (by show 8 < 10000; omega) (by show 8 < 10000; omega) ⟨b1, b2, e8, fun k hk => by rw [th_o (by decide)]; exact b4 k hk⟩ hfit ⟨fun _ _ _ => rfl, fun _ _ => rfl⟩ ⟨fun _ _ _ => rfl, fun _ _ => rfl⟩
    have hle : nI (n + cf a 8 0) ≤ nI 600 := nI_le (by omega) (by omega)
    rw [if_pos hle, if_pos hle, k2, bS, k1, bS, bS]
    dsimp only
    rw [show (1 : Int32) = nI 1 from lit32 1, if_neg nz0, bS]
    refine ⟨_, _, _, rfl, ?_, (h.thr (k := 0)).buf k4 k5 k3, ?_⟩
    · rw [k3.2.1, k3.2.2.1]
    · rw [k4.2 6 (by decide), th_6]
  · have hle : ¬ nI (n + cf a 8 0) ≤ nI 600 := nI_ge (by omega) (by omega)
    rw [if_neg hle, if_neg hle, bS]
    dsimp only
    rw [if_pos rfl, bS]
    exact ⟨_, _, _, rfl, rfl, h.thr, th_6⟩
end
section
theorem nI_inj {a b : Nat} (ha : a < 2 ^ 31) (hb : b < 2 ^ 31) (h : nI a = nI b) : a = b := by
  have := congrArg Int32.toInt h
  rw [nI_toInt ha, nI_toInt hb] at this
  omega
noncomputable def cd (b : Int32) : Nat := (b &&& 255).toNatClampNeg
theorem cd_p : ∀ k : Nat, k < 128 → nI k &&& 255 = nI k := by decide +kernel
theorem cd_q : ∀ k : Nat, k < 128 → Int32.ofInt ((k : Int) - 128) &&& 255 = nI (k + 128) := by decide +kernel
theorem cd_spec {b : Int32} (h : BYT b) : b &&& 255 = nI (cd b) ∧ cd b < 256 ∧ ((cd b < 128 ∧ b = nI (cd b)) ∨ (128 ≤ cd b ∧ b.toInt < 0)) := by
  obtain ⟨h1, h2⟩ := h
  by_cases h0 : 0 ≤ b.toInt
  · obtain ⟨e, -⟩ := nI_ofInt h0
    have hk : b.toInt.toNat < 128 := by omega
    generalize b.toInt.toNat = k at e hk
    subst e
    have e2 : cd (nI k) = k := by unfold cd; rw [cd_p k hk, nI_clamp (by omega)]
    rw [e2]
    exact ⟨cd_p k hk, by omega, Or.inl ⟨hk, rfl⟩⟩
  · have e : b = Int32.ofInt (((b.toInt + 128).toNat : Int) - 128) := by
      apply Int32.toInt_inj.mp
      rw [Int32.toInt_ofInt_of_le (by omega) (by omega)]
      omega
    have hk : (b.toInt + 128).toNat < 128 := by omega
    have hn : b.toInt < 0 := by omega
    generalize (b.toInt + 128).toNat = k at e hk
    have e2 : cd b = k + 128 := by unfold cd; rw [e, cd_q k hk, nI_clamp (by omega)]
    rw [e2]
    exact ⟨by rw [e]; exact cd_q k hk, by omega, Or.inr ⟨by omega, hn⟩⟩
theorem b_eq {b : Int32} (h : BYT b) {c : Nat} (hc : c < 128) : b = nI c ↔ cd b = c := by
  obtain ⟨-, h2, h3⟩ := cd_spec h
  rcases h3 with ⟨h3, h4⟩ | ⟨h3, h4⟩
  · constructor
    · intro e
      rw [h4] at e
      exact nI_inj (by omega) (by omega) e
    · intro e; rw [h4, e]
  · constructor
    · intro e; rw [e, nI_toInt (by omega)] at h4; omega
    · intro e; omega
theorem dig_C {b : Int32} (h : BYT b) : C5_isDigit b = some (if 48 ≤ cd b ∧ cd b ≤ 57 then nI 1 else nI 0) := by
  obtain ⟨-, h2, h3⟩ := cd_spec h
  unfold C5_isDigit
  simp only [lit32]
  rcases h3 with ⟨h3, h4⟩ | ⟨h3, h4⟩
  · by_cases c1 : cd b < 48
    · rw [if_pos (by rw [h4]; exact nI_lt c1 (by omega)), bS, nz_0, bS, if_neg (by omega)]
    · rw [if_neg (by rw [h4]; exact nI_nlt (by omega) (by omega))]
      by_cases c2 : 57 < cd b
      · rw [if_pos (by rw [h4]; exact nI_lt c2 (by omega)), bS, nz_0, bS, if_neg (by omega)]
      · rw [if_neg (by rw [h4]; exact nI_nlt (by omega) (by omega)), bS, nz_1, bS, if_pos (by omega)]
  · rw [if_pos (by rw [Int32.lt_iff_toInt_lt, nI_toInt (by omega)]; omega), bS, nz_0, bS, if_neg (by omega)]
theorem let_C {b : Int32} (h : BYT b) : C5_isLetter b = some (if 97 ≤ cd b ∧ cd b ≤ 122 then nI 1 else nI 0) := by
  obtain ⟨-, h2, h3⟩ := cd_spec h
  unfold C5_isLetter
  simp only [lit32]
  rcases h3 with ⟨h3, h4⟩ | ⟨h3, h4⟩
  · by_cases c1 : cd b < 97
    · rw [if_pos (by rw [h4]; exact nI_lt c1 (by omega)), bS, nz_0, bS, if_neg (by omega)]
    · rw [if_neg (by rw [h4]; exact nI_nlt (by omega) (by omega))]
      by_cases c2 : 122 < cd b
      · rw [if_pos (by rw [h4]; exact nI_lt c2 (by omega)), bS, nz_0, bS, if_neg (by omega)]
      · rw [if_neg (by rw [h4]; exact nI_nlt (by omega) (by omega)), bS, nz_1, bS, if_pos (by omega)]
  · rw [if_pos (by rw [Int32.lt_iff_toInt_lt, nI_toInt (by omega)]; omega), bS, nz_0, bS, if_neg (by omega)]
noncomputable def ch (b : Nat → Int32) (n i : Nat) : Nat := if i < n then cd (b i) else 256
noncomputable def hv (x : Nat) : Int32 := if x = 256 then m1 else nI x
noncomputable def BB (b : Nat → Int32) (n : Nat) : Prop := n ≤ 600 ∧ ∀ k, k < n → BYT (b k)
theorem ch_i {b : Nat → Int32} {n i : Nat} (h : i < n) : ch b n i = cd (b i) := if_pos h
theorem ch_n {b : Nat → Int32} {n i : Nat} (h : n ≤ i) : ch b n i = 256 := if_neg (by omega)
theorem ch_le {b : Nat → Int32} {n i : Nat} (h : BB b n) : ch b n i ≤ 256 := by
  unfold ch; split
  · rename_i q; have := (cd_spec (h.2 i q)).2.1; omega
  · omega
theorem ch_lt {b : Nat → Int32} {n i : Nat} (h : ch b n i < 256) : i < n := by
  unfold ch at h; split at h
  · assumption
  · omega
theorem hv_eq {x c : Nat} (hx : x ≤ 256) (hc : c < 256) : hv x = nI c ↔ x = c := by
  unfold hv; split
  · rename_i q; subst q
    exact ⟨fun e => absurd e (m1_neq (by omega)), fun e => by omega⟩
  · exact ⟨fun e => nI_inj (by omega) (by omega) e, fun e => by rw [e]⟩
theorem inB_hv {x : Nat} {lo hi : Int64} {p q : Nat} (hx : x ≤ 256) (h1 : lo.toInt = p) (h2 : hi.toInt = q) (hp : 0 < p) (hq : q < 256) : inB (hv x).toInt64 lo hi = if p ≤ x ∧ x ≤ q then nI 1 else nI 0 := by
  rw [inB_i h1 h2]
  unfold hv; split
  · rename_i e; rw [if_neg (by rw [show m1.toInt = -1 from rfl]; omega), if_neg (by omega)]
  · rename_i e
    rw [nI_toInt (by omega)]
    by_cases c : p ≤ x ∧ x ≤ q
    · rw [if_pos (by omega), if_pos c]
    · rw [if_neg (by omega), if_neg c]
noncomputable def TC (b : Nat → Int32) (n : Nat) (u : RS) : Prop := u 0 5 = nI n ∧ ∀ k, k < n → u 3 k = b k
noncomputable def TW (b : Nat → Int32) (n : Nat) (w : RS) : Prop := w 0 8 = nI n ∧ ∀ k, k < n → w 6 k = b k
noncomputable def FC (u' u : RS) : Prop := (∀ R, R ≠ 0 → u' R = u R) ∧ ∀ i, i ≠ 6 → i ≠ 7 → i ≠ 8 → u' 0 i = u 0 i
noncomputable def FW (w' w : RS) : Prop := (∀ R, R ≠ 0 → w' R = w R) ∧ ∀ i, i ≠ 9 → i ≠ 10 → i ≠ 11 → i ≠ 12 → w' 0 i = w 0 i
theorem FC.rfl {u : RS} : FC u u := ⟨fun _ _ => Eq.refl _, fun _ _ _ _ => Eq.refl _⟩
theorem FW.rfl {u : RS} : FW u u := ⟨fun _ _ => Eq.refl _, fun _ _ _ _ _ => Eq.refl _⟩
theorem FC.trans {a b c : RS} (h : FC a b) (h2 : FC b c) : FC a c := ⟨fun R q => (h.1 R q).trans (h2.1 R q), fun i p q r => (h.2 i p q r).trans (h2.2 i p q r)⟩
theorem FW.trans {a b c : RS} (h : FW a b) (h2 : FW b c) : FW a c := ⟨fun R q => (h.1 R q).trans (h2.1 R q), fun i o p q r => (h.2 i o p q r).trans (h2.2 i o p q r)⟩
theorem FC.up {u : RS} {i : Nat} {x : Int32} (hi : i = 6 ∨ i = 7 ∨ i = 8) : FC (up u 0 i x) u := ⟨fun R q => up_or q, fun j a b c => up_ne (by omega)⟩
theorem FW.up {u : RS} {i : Nat} {x : Int32} (hi : i = 9 ∨ i = 10 ∨ i = 11 ∨ i = 12) : FW (up u 0 i x) u := ⟨fun R q => up_or q, fun j a b c d => up_ne (by omega)⟩
theorem TC.fr {b : Nat → Int32} {n : Nat} {u u' : RS} (h : TC b n u) (f : FC u' u) : TC b n u' := ⟨(f.2 5 (by decide) (by decide) (by decide)).trans h.1, fun k q => by rw [f.1 3 (by decide)]; exact h.2 k q⟩
theorem TW.fr {b : Nat → Int32} {n : Nat} {u u' : RS} (h : TW b n u) (f : FW u' u) : TW b n u' := ⟨(f.2 8 (by decide) (by decide) (by decide) (by decide)).trans h.1, fun k q => by rw [f.1 6 (by decide)]; exact h.2 k q⟩
theorem up_up {u : RS} {k i : Nat} {x y : Int32} : up (up u k i x) k i y = up u k i y := by
  funext R j
  simp only [up_at]
  split <;> rfl
theorem up_id {u : RS} {k i : Nat} {x : Int32} (h : u k i = x) : up u k i x = u := by
  funext R j
  rw [up_at]
  split
  · rename_i q; rw [q.1, q.2, h]
  · rfl
theorem here_ok {b : Nat → Int32} {n i : Nat} {w : RS} (hb : BB b n) (ht : TW b n w) (h9 : w 0 9 = nI i) (hi : i ≤ n) : F8_here w = some (hv (ch b n i)) := by
  have hn := hb.1
  unfold F8_here
  rw [ht.1, h9]
  by_cases c : i < n
  · have e := cd_spec (hb.2 i c)
    rw [if_neg (nI_ge c (by omega)), rd_n (by omega) (by omega), bS, bS, ht.2 i c, ch_i c]
    rw [e.1]
    unfold hv
    rw [if_neg (by omega)]
  · rw [if_pos (nI_le (by omega) (by omega)), bS, ch_n (by omega)]; rfl
noncomputable def sk (b : Nat → Int32) : Nat → Nat → Nat
  | 0, i => i
  | d + 1, i => if cd (b i) = 32 then sk b d (i + 1) else i
theorem sk_le {b : Nat → Int32} : ∀ d i, i ≤ sk b d i ∧ sk b d i ≤ i + d
  | 0, i => ⟨Nat.le_refl _, Nat.le_refl _⟩
  | d + 1, i => by
    have := sk_le (b := b) d (i + 1)
    unfold sk; split <;> omega
theorem sk_nb {b : Nat → Int32} : ∀ d i, sk b d i < i + d → cd (b (sk b d i)) ≠ 32
  | 0, i => fun h => by unfold sk at h; omega
  | d + 1, i => by
    have := sk_nb (b := b) d (i + 1)
    unfold sk; split
    · intro h; exact this (by omega)
    · rename_i q; exact fun _ => q
noncomputable def SK (b : Nat → Int32) (n i : Nat) : Nat := sk b (n - i) i
theorem SK_le {b : Nat → Int32} {n i : Nat} (h : i ≤ n) : i ≤ SK b n i ∧ SK b n i ≤ n := by
  have := sk_le (b := b) (n - i) i
  unfold SK; omega
theorem SK_nb {b : Nat → Int32} {n i : Nat} (h : i ≤ n) : ch b n (SK b n i) ≠ 32 := by
  have h1 := SK_le (b := b) h
  by_cases c : SK b n i < n
  · rw [ch_i c]; exact sk_nb (n - i) i (by unfold SK at c; omega)
  · rw [ch_n (by omega)]; decide
theorem SK_id {b : Nat → Int32} {n i : Nat} (h : ch b n i ≠ 32) : SK b n i = i := by
  unfold SK
  by_cases c : i < n
  · rw [ch_i c] at h
    obtain ⟨d, hd⟩ : ∃ d, n - i = d + 1 := ⟨n - i - 1, by omega⟩
    rw [hd]; unfold sk; rw [if_neg h]
  · rw [show n - i = 0 by omega]; rfl
theorem skC {b : Nat → Int32} {n : Nat} {g : CG} (hb : BB b n) : ∀ (d i f : Nat) (u : RS), i + d = n → d < f → TC b n u → u 0 6 = nI i → C5_skipSpaces_L0 g f u = some (up u 0 6 (nI (sk b d i)))
  | 0, i, f, u, h1, h2, h3, h4 => by
    have hn := hb.1
    obtain ⟨f, rfl⟩ : ∃ m, f = m + 1 := ⟨f - 1, by omega⟩
    rw [C5_skipSpaces_L0, h3.1, h4, if_pos (nI_le (by omega) (by omega))]
    show some u = some (up u 0 6 (nI i))
    rw [up_id h4]
  | d + 1, i, f, u, h1, h2, h3, h4 => by
    have hn := hb.1
    obtain ⟨f, rfl⟩ : ∃ m, f = m + 1 := ⟨f - 1, by omega⟩
    rw [C5_skipSpaces_L0, h3.1, h4, if_neg (nI_ge (by omega) (by omega)), rd_n (by omega) (by omega), bS, h3.2 i (by omega)]
    have e : b i = (32 : Int32) ↔ cd (b i) = 32 := b_eq (hb.2 i (by omega)) (c := 32) (by omega)
    unfold sk
    by_cases c : cd (b i) = 32
    · rw [if_pos c, if_pos (e.mpr c), pt_n, bS, show nI i + 1 = nI (i + 1) from nI_add _ 1, skC hb d (i + 1) f (up u 0 6 (nI (i + 1))) (by omega) (by omega) (h3.fr (FC.up (by omega))) up_eq, up_up]
    · rw [if_neg c, if_neg (fun q => c (e.mp q)), up_id h4]
theorem skW {b : Nat → Int32} {n : Nat} (hb : BB b n) : ∀ (d i f : Nat) (w : RS), i + d = n → d < f → TW b n w → w 0 9 = nI i → F8_next_L0 f w = some (up w 0 9 (nI (sk b d i)))
  | 0, i, f, w, h1, h2, h3, h4 => by
    have hn := hb.1
    obtain ⟨f, rfl⟩ : ∃ m, f = m + 1 := ⟨f - 1, by omega⟩
    rw [F8_next_L0, here_ok hb h3 h4 (by omega), bS, ch_n (by omega)]
    rw [if_neg (show ¬ hv 256 = 32 from fun q => absurd ((hv_eq (c := 32) (by omega) (by omega)).mp q) (by omega))]
    show some w = some (up w 0 9 (nI i))
    rw [up_id h4]
  | d + 1, i, f, w, h1, h2, h3, h4 => by
    have hn := hb.1
    obtain ⟨f, rfl⟩ : ∃ m, f = m + 1 := ⟨f - 1, by omega⟩
    rw [F8_next_L0, here_ok hb h3 h4 (by omega), bS, h4]
    have e : hv (ch b n i) = (32 : Int32) ↔ ch b n i = 32 := hv_eq (x := ch b n i) (c := 32) (ch_le hb) (by omega)
    rw [ch_i (show i < n by omega)] at e ⊢
    unfold sk
    by_cases c : cd (b i) = 32
    · rw [if_pos c, if_pos (e.mpr c), pt_n, bS, show nI i + 1 = nI (i + 1) from nI_add _ 1, skW hb d (i + 1) f (up w 0 9 (nI (i + 1))) (by omega) (by omega) (h3.fr (FW.up (by omega))) up_eq, up_up]
    · rw [if_neg c, if_neg (fun q => c (e.mp q)), up_id h4]
theorem skipC {b : Nat → Int32} {n i : Nat} {g : CG} {u : RS} (hb : BB b n) (ht : TC b n u) (h6 : u 0 6 = nI i) (hi : i ≤ n) : C5_skipSpaces g u = some (nI (SK b n i), up u 0 6 (nI (SK b n i))) := by
  have hn := hb.1
  unfold C5_skipSpaces
  rw [skC hb (n - i) i FUEL u (by omega) (by show n - i < 10000; omega) ht h6, bS, up_eq]; rfl
theorem nextW {b : Nat → Int32} {n i : Nat} {w : RS} (hb : BB b n) (ht : TW b n w) (h9 : w 0 9 = nI i) (hi : i ≤ n) : F8_next w = some (hv (ch b n (SK b n i)), up (up w 0 9 (nI (SK b n i))) 0 10 (nI (SK b n i))) := by
  have hn := hb.1
  have hs := SK_le (b := b) hi
  unfold F8_next
  rw [skW hb (n - i) i FUEL w (by omega) (by show n - i < 10000; omega) ht h9, bS, pt_n, bS, up_eq]
  rw [here_ok hb (i := SK b n i) ((ht.fr (FW.up (by omega))).fr (FW.up (by omega))) (by rw [up_ne (by omega), up_eq]; rfl) hs.2, bS]; rfl
end
section
noncomputable def OKs (b : Nat → Int32) (n i : Nat) (u w : RS) : Prop := TC b n u ∧ TW b n w ∧ i ≤ n ∧ u 0 6 = nI i ∧ w 0 9 = nI i ∧ u 0 7 = nI 0 ∧ w 0 11 = nI 0
noncomputable def ERs (b : Nat → Int32) (n : Nat) (u w : RS) : Prop := TC b n u ∧ TW b n w ∧ (∃ i, i ≤ n ∧ u 0 6 = nI i) ∧ ∃ e p, 1 ≤ e ∧ e ≤ 4 ∧ p ≤ 600 ∧ u 0 7 = nI e ∧ w 0 11 = nI e ∧ u 0 8 = nI p ∧ w 0 12 = nI p
theorem errC0 {g : CG} {u : RS} {e p : Int32} (h : u 0 7 = nI 0) : C5_error g u e p = some (up (up u 0 7 e) 0 8 p) := by
  unfold C5_error
  rw [if_pos (show u 0 7 = (0 : Int32) from h), pt_n, bS, pt_n, bS, bS]
theorem errC1 {g : CG} {u : RS} {e p : Int32} {k : Nat} (h : u 0 7 = nI k) (h1 : 1 ≤ k) (h4 : k ≤ 4) : C5_error g u e p = some u := by
  unfold C5_error
  rw [if_neg (show ¬ u 0 7 = (0 : Int32) from fun q => nI_ne (a := k) (b := 0) (by omega) (by omega) (by omega) (h.symm.trans q)), bS]
theorem failW0 {w : RS} {e : Int32} (h : w 0 11 = nI 0) : F8_fails w e = some (up (up w 0 11 e) 0 12 (w 0 10)) := by
  unfold F8_fails
  rw [if_pos (show w 0 11 = (0 : Int32) from h), pt_n, bS, pt_n, bS, bS, up_ne (by omega)]
theorem fineC0 {g : CG} {u : RS} (h : u 0 7 = nI 0) : C5_isFine g u = some (nI 1) := by
  unfold C5_isFine
  rw [if_pos (show u 0 7 = (0 : Int32) from h), bS]
  show (nz (nI 1)).bind _ = _
  rw [nz_1, bS]
theorem fineC1 {g : CG} {u : RS} {k : Nat} (h : u 0 7 = nI k) (h1 : 1 ≤ k) (h4 : k ≤ 4) : C5_isFine g u = some (nI 0) := by
  unfold C5_isFine
  rw [if_neg (show ¬ u 0 7 = (0 : Int32) from fun q => nI_ne (a := k) (b := 0) (by omega) (by omega) (by omega) (h.symm.trans q)), bS]
  show (nz (nI 0)).bind _ = _
  rw [nz_0, bS]
theorem ERs.ne {b : Nat → Int32} {n : Nat} {u w : RS} (h : ERs b n u w) : ¬ w 0 11 = (0 : Int32) ∧ ¬ u 0 7 = (0 : Int32) := by
  obtain ⟨-, -, -, e, p, h1, h4, -, h7, h11, -⟩ := h
  exact ⟨fun q => nI_ne (a := e) (b := 0) (by omega) (by omega) (by omega) (h11.symm.trans q), fun q => nI_ne (a := e) (b := 0) (by omega) (by omega) (by omega) (h7.symm.trans q)⟩
theorem ERs.errC {b : Nat → Int32} {n : Nat} {g : CG} {u w : RS} {e p : Int32} (h : ERs b n u w) : C5_error g u e p = some u := by
  obtain ⟨-, -, -, e, p, h1, h4, -, h7, -⟩ := h
  exact errC1 h7 h1 h4
theorem ERs.fine {b : Nat → Int32} {n : Nat} {g : CG} {u w : RS} (h : ERs b n u w) : C5_isFine g u = some (nI 0) := by
  obtain ⟨-, -, -, e, p, h1, h4, -, h7, -⟩ := h
  exact fineC1 h7 h1 h4
theorem OKs.fine {b : Nat → Int32} {n i : Nat} {g : CG} {u w : RS} (h : OKs b n i u w) : C5_isFine g u = some (nI 1) := fineC0 h.2.2.2.2.2.1
theorem OKs.w0 {b : Nat → Int32} {n i : Nat} {u w : RS} (h : OKs b n i u w) : w 0 11 = (0 : Int32) := h.2.2.2.2.2.2
theorem err2 {b : Nat → Int32} {n i e p : Nat} {g : CG} {u w : RS} (h1 : TC b n u) (h2 : TW b n w) (hi : i ≤ n) (h6 : u 0 6 = nI i) (h7 : u 0 7 = nI 0) (h11 : w 0 11 = nI 0) (h10 : w 0 10 = nI p) (hp : p ≤ 600) (he : 1 ≤ e) (he4 : e ≤ 4) : ∃ u' w', C5_error g u (nI e) (nI p) = some u' ∧ F8_fails w (nI e) = some w' ∧ ERs b n u' w' ∧ FC u' u ∧ FW w' w := by
  refine ⟨_, _, errC0 h7, failW0 h11, ⟨?_, ?_, ⟨i, hi, ?_⟩, e, p, he, he4, hp, ?_, ?_, ?_, ?_⟩, ?_, ?_⟩
  · exact (h1.fr (FC.up (by omega))).fr (FC.up (by omega))
  · exact (h2.fr (FW.up (by omega))).fr (FW.up (by omega))
  · rw [up_ne (by omega), up_ne (by omega)]; exact h6
  · rw [up_ne (by omega), up_eq]
  · rw [up_ne (by omega), up_eq]
  · exact up_eq
  · rw [up_eq]; exact h10
  · exact (FC.up (by omega)).trans (FC.up (by omega))
  · exact (FW.up (by omega)).trans (FW.up (by omega))
theorem ERs.fc {b : Nat → Int32} {n i : Nat} {u w : RS} (h : ERs b n u w) (hi : i ≤ n) : ERs b n (up u 0 6 (nI i)) w := by
  obtain ⟨h1, h2, -, e, p, q1, q2, q3, q4, q5, q6, q7⟩ := h
  exact ⟨h1.fr (FC.up (by omega)), h2, ⟨i, hi, up_eq⟩, e, p, q1, q2, q3, by rw [up_ne (by omega)]; exact q4, q5, by rw [up_ne (by omega)]; exact q6, q7⟩
noncomputable def dg (b : Nat → Int32) : Nat → Nat → Nat
  | 0, i => i
  | d + 1, i => if 48 ≤ cd (b i) ∧ cd (b i) ≤ 57 then dg b d (i + 1) else i
noncomputable def dvv (b : Nat → Int32) : Nat → Nat → Nat → Nat
  | 0, _, V => V
  | d + 1, i, V => if 48 ≤ cd (b i) ∧ cd (b i) ≤ 57 then dvv b d (i + 1) (10 * V + cd (b i) - 48) else V
theorem dg_le {b : Nat → Int32} : ∀ d i, i ≤ dg b d i ∧ dg b d i ≤ i + d
  | 0, i => ⟨Nat.le_refl _, Nat.le_refl _⟩
  | d + 1, i => by
    have := dg_le (b := b) d (i + 1)
    unfold dg; split <;> omega
theorem dg_0 {b : Nat → Int32} {d i : Nat} : dg b d i = i ↔ ¬ (0 < d ∧ 48 ≤ cd (b i) ∧ cd (b i) ≤ 57) := by
  cases d with
  | zero => exact ⟨fun _ q => absurd q.1 (by omega), fun _ => rfl⟩
  | succ d =>
    have := dg_le (b := b) d (i + 1)
    unfold dg
    by_cases c : 48 ≤ cd (b i) ∧ cd (b i) ≤ 57
    · rw [if_pos c]; exact ⟨fun q => by omega, fun q => absurd ⟨by omega, c⟩ q⟩
    · rw [if_neg c]; exact ⟨fun _ q => c q.2, fun _ => rfl⟩
theorem b_num {b : Int32} (h : BYT b) (h1 : cd b < 128) : b = nI (cd b) := (b_eq h h1).mpr rfl
theorem numLC {b : Nat → Int32} {n : Nat} {g : CG} {a1 a2 : Int32} {t1 : Int32 × RS} (hb : BB b n) : ∀ (d i f V : Nat) (u : RS), i + d = n → d < f → TC b n u → u 0 6 = nI i → C5_readNumber_L8 t1 a1 a2 g f (nI (min 1000000 V)) u = some (nI (min 1000000 (dvv b d i V)), up u 0 6 (nI (dg b d i)))
  | 0, i, f, V, u, h1, h2, h3, h4 => by
    have hn := hb.1
    obtain ⟨f, rfl⟩ : ∃ m, f = m + 1 := ⟨f - 1, by omega⟩
    rw [C5_readNumber_L8, h3.1, h4, if_pos (nI_le (by omega) (by omega))]
    show some (nI (min 1000000 V), u) = some (nI (min 1000000 V), up u 0 6 (nI i))
    rw [up_id h4]
  | d + 1, i, f, V, u, h1, h2, h3, h4 => by
    have hn := hb.1
    obtain ⟨f, rfl⟩ : ∃ m, f = m + 1 := ⟨f - 1, by omega⟩
    have hbi := hb.2 i (by omega)
    rw [C5_readNumber_L8, h3.1, h4, if_neg (nI_ge (by omega) (by omega)), rd_n (by omega) (by omega), bS, h3.2 i (by omega), dig_C hbi, bS]
    unfold dg dvv
    by_cases c : 48 ≤ cd (b i) ∧ cd (b i) ≤ 57
    · rw [if_pos c, if_pos c, if_pos c, if_neg (show ¬ nI 1 = (0 : Int32) from nz0), bS, pt_n, bS]
      have hx := b_num hbi (by omega)
      generalize cd (b i) = x at c hx ⊢
      rw [hx]
      have e1 : nI (min 1000000 V) * 10 + nI x - 48 = nI (min 1000000 V * 10 + x - 48) := by
        show nI (min 1000000 V) * nI 10 + nI x - nI 48 = _
        rw [nI_mul, nI_add, nI_sub (by omega)]
      rw [e1]
      have e2 : (if (1000000 : Int32) < nI (min 1000000 V * 10 + x - 48) then (1000000 : Int32) else nI (min 1000000 V * 10 + x - 48)) = nI (min 1000000 (10 * V + x - 48)) := by
        show (if nI 1000000 < nI (min 1000000 V * 10 + x - 48) then nI 1000000 else nI (min 1000000 V * 10 + x - 48)) = _
        by_cases q : 1000000 < min 1000000 V * 10 + x - 48
        · rw [if_pos (nI_lt q (by omega))]; congr 1; omega
        · rw [if_neg (nI_nlt (by omega) (by omega))]; congr 1; omega
      rw [e2, show nI i + 1 = nI (i + 1) from nI_add _ 1, numLC hb d (i + 1) f (10 * V + x - 48) (up u 0 6 (nI (i + 1))) (by omega) (by omega) (h3.fr (FC.up (by omega))) up_eq, up_up]
    · rw [if_neg c, if_neg c, if_neg c, if_pos (show nI 0 = (0 : Int32) from rfl), up_id h4]
theorem numLW {b : Nat → Int32} {n : Nat} {a1 a2 : Int32} (hb : BB b n) : ∀ (d i f V : Nat) (w : RS), i + d = n → d < f → TW b n w → w 0 9 = nI i → F8_number_L35 a1 a2 f (nI (min 10000000 V)) w = some (nI (min 10000000 (dvv b d i V)), up w 0 9 (nI (dg b d i)))
  | 0, i, f, V, w, h1, h2, h3, h4 => by
    have hn := hb.1
    obtain ⟨f, rfl⟩ : ∃ m, f = m + 1 := ⟨f - 1, by omega⟩
    rw [F8_number_L35, here_ok hb h3 h4 (by omega), bS, inB_hv (p := 48) (q := 57) (ch_le hb) rfl rfl (by omega) (by omega), ch_n (show n ≤ i by omega), if_neg (show ¬ (48 ≤ 256 ∧ 256 ≤ 57) by omega), if_pos (show nI 0 = (0 : Int32) from rfl)]
    show some (nI (min 10000000 V), w) = some (nI (min 10000000 V), up w 0 9 (nI i))
    rw [up_id h4]
  | d + 1, i, f, V, w, h1, h2, h3, h4 => by
    have hn := hb.1
    obtain ⟨f, rfl⟩ : ∃ m, f = m + 1 := ⟨f - 1, by omega⟩
    have hbi := hb.2 i (by omega)
    have hl := ch_le (i := i) hb
    rw [F8_number_L35, here_ok hb h3 h4 (by omega), bS, inB_hv (p := 48) (q := 57) hl rfl rfl (by omega) (by omega), ch_i (show i < n by omega)]
    rw [ch_i (show i < n by omega)] at hl
    unfold dg dvv
    by_cases c : 48 ≤ cd (b i) ∧ cd (b i) ≤ 57
    · rw [if_pos c, if_pos c, if_pos c, if_neg (show ¬ nI 1 = (0 : Int32) from nz0), bS, pt_n, bS, h4]
      have hx : hv (cd (b i)) = nI (cd (b i)) := (hv_eq hl (by omega)).mpr rfl
      rw [hx]
      generalize cd (b i) = x at c ⊢
      have e1 : 10 * nI (min 10000000 V) + nI x - 48 = nI (10 * min 10000000 V + x - 48) := by
        show nI 10 * nI (min 10000000 V) + nI x - nI 48 = _
        rw [nI_mul, nI_add, nI_sub (by omega)]
      rw [e1]
      have e2 : (if nI (10 * min 10000000 V + x - 48) < (10000000 : Int32) then nI (10 * min 10000000 V + x - 48) else (10000000 : Int32)) = nI (min 10000000 (10 * V + x - 48)) := by
        show (if nI (10 * min 10000000 V + x - 48) < nI 10000000 then nI (10 * min 10000000 V + x - 48) else nI 10000000) = _
        by_cases q : 10 * min 10000000 V + x - 48 < 10000000
        · rw [if_pos (nI_lt q (by omega))]; congr 1; omega
        · rw [if_neg (nI_nlt (by omega) (by omega))]; congr 1; omega
      rw [e2, show nI i + 1 = nI (i + 1) from nI_add _ 1, numLW hb d (i + 1) f (10 * V + x - 48) (up w 0 9 (nI (i + 1))) (by omega) (by omega) (h3.fr (FW.up (by omega))) up_eq, up_up]
    · rw [if_neg c, if_neg c, if_neg c, if_pos (show nI 0 = (0 : Int32) from rfl), up_id h4]
theorem num2 {b : Nat → Int32} {n i lo : Nat} {g : CG} {u w : RS} {a2 : Int32} (hb : BB b n) (h : OKs b n i u w) (hlo : lo ≤ 2000) (ha2 : a2.toInt ≤ 2000) : ∃ u' w' y x, C5_readNumber g u (nI lo) a2 = some (y, u') ∧ F8_number w (nI lo) a2 = some (x, w') ∧ FC u' u ∧ FW w' w ∧ ((∃ i' V, i < i' ∧ OKs b n i' u' w' ∧ y = nI V ∧ x = nI V ∧ lo ≤ V ∧ (V : Int) ≤ a2.toInt) ∨ (ERs b n u' w' ∧ x = nI lo)) := by
  obtain ⟨h1, h2, h3, h4, h5, h6, h7⟩ := h
  have hn := hb.1
  have hs := SK_le (b := b) h3
  have hdl := dg_le (b := b) (n - SK b n i) (SK b n i)
  have hz := dg_0 (b := b) (d := n - SK b n i) (i := SK b n i)
  have hch := ch_le (i := SK b n i) hb
  unfold C5_readNumber F8_number
  rw [skipC hb h1 h4 h3, if_pos (show w 0 11 = (0 : Int32) from h7), nextW hb h2 h5 h3, bS, bS]
  dsimp only
  rw [inB_hv (p := 48) (q := 57) hch rfl rfl (by omega) (by omega)]
  have hnum := numLC (g := g) (a1 := nI lo) (a2 := a2) (t1 := (nI (SK b n i), up u 0 6 (nI (SK b n i)))) hb (n - SK b n i) (SK b n i) FUEL 0 (up u 0 6 (nI (SK b n i))) (by omega) (by show n - SK b n i < 10000; omega) (h1.fr (FC.up (by omega))) up_eq
  rw [Nat.min_zero] at hnum
  rw [show (0 : Int32) = nI 0 from rfl, hnum, bS]
  dsimp only
  generalize hs' : SK b n i = s at *
  generalize hV : dvv b (n - s) s 0 = V at *
  generalize he : dg b (n - s) s = e at *
  rw [up_up]
  have hT : TC b n (up u 0 6 (nI e)) := h1.fr (FC.up (by omega))
  have hW : TW b n (up (up w 0 9 (nI s)) 0 10 (nI s)) := (h2.fr (FW.up (by omega))).fr (FW.up (by omega))
  have k6 : up u 0 6 (nI e) 0 6 = nI e := up_eq
  have k7 : up u 0 6 (nI e) 0 7 = nI 0 := by rw [up_ne (by omega)]; exact h6
  have k11 : up (up w 0 9 (nI s)) 0 10 (nI s) 0 11 = nI 0 := by rw [up_ne (by omega), up_ne (by omega)]; exact h7
  have k10 : up (up w 0 9 (nI s)) 0 10 (nI s) 0 10 = nI s := up_eq
  have fC : FC (up u 0 6 (nI e)) u := FC.up (by omega)
  have fW : FW (up (up w 0 9 (nI s)) 0 10 (nI s)) w := (FW.up (by omega)).trans (FW.up (by omega))
  by_cases c : 48 ≤ ch b n s ∧ ch b n s ≤ 57
  · have hsn : s < n := ch_lt (b := b) (by omega)
    have hne : ¬ e = s := by rw [hz, ← ch_i (b := b) hsn]; exact fun q => q ⟨by omega, c⟩
    rw [if_pos c, if_neg (show ¬ nI 1 = nI 0 from nz0), if_neg (show ¬ up u 0 6 (nI e) 0 6 = nI s by rw [k6]; exact nI_ne hne (by omega) (by omega))]
    have hnw := numLW (a1 := nI lo) (a2 := a2) hb (n - s) s FUEL 0 (up (up w 0 9 (nI s)) 0 10 (nI s)) (by omega) (by show n - s < 10000; omega) hW (by rw [up_ne (by omega), up_eq])
    rw [Nat.min_zero, hV, he] at hnw
    rw [hnw, bS]
    dsimp only
    generalize hw2 : up (up (up w 0 9 (nI s)) 0 10 (nI s)) 0 9 (nI e) = w2
    have hW2 : TW b n w2 := by rw [← hw2]; exact hW.fr (FW.up (by omega))
    have fW2 : FW w2 w := by rw [← hw2]; exact (FW.up (by omega)).trans fW
    have q9 : w2 0 9 = nI e := by rw [← hw2]; exact up_eq
    have q10 : w2 0 10 = nI s := by rw [← hw2, up_ne (by omega)]; exact k10
    have q11 : w2 0 11 = nI 0 := by rw [← hw2, up_ne (by omega)]; exact k11
    have eB : inB (nI (min 10000000 V)).toInt64 (nI lo).toInt64 a2.toInt64 = if (lo : Int) ≤ (min 10000000 V : Nat) ∧ ((min 10000000 V : Nat) : Int) ≤ a2.toInt then nI 1 else nI 0 := by
      rw [inB_i (p := (lo : Int)) (q := a2.toInt) (by rw [Int32.toInt_toInt64, nI_toInt (by omega)]) (Int32.toInt_toInt64 a2), nI_toInt (by omega)]
    by_cases r1 : V < lo
    · obtain ⟨u', w', e1, e2, e3, e4, e5⟩ := err2 (g := g) (e := 2) hT hW2 (by omega) k6 k7 q11 q10 (by omega) (by omega) (by omega)
      rw [if_neg (by omega)] at eB
      rw [if_pos (nI_lt (a := min 1000000 V) (b := lo) (by omega) (by omega)), eB, if_pos (show nI 0 = nI 0 from rfl)]
      rw [show (2 : Int32) = nI 2 from rfl, e1, e2, bS, bS, bS]
      exact ⟨u', w', _, _, rfl, rfl, e4.trans fC, e5.trans fW2, Or.inr ⟨e3, rfl⟩⟩
    · rw [if_neg (nI_nlt (a := min 1000000 V) (b := lo) (by omega) (by omega))]
      by_cases r2 : (V : Int) ≤ a2.toInt
      · have r3 : nI (min 1000000 V) ≤ a2 := by rw [Int32.le_iff_toInt_le, nI_toInt (by omega)]; omega
        rw [if_pos (by omega)] at eB
        rw [if_pos r3, bS, eB, if_neg (show ¬ nI 1 = nI 0 from nz0)]
        refine ⟨_, _, _, _, rfl, rfl, fC, fW2, Or.inl ⟨e, V, by omega, ⟨hT, hW2, by omega, k6, q9, k7, q11⟩, ?_, ?_, by omega, r2⟩⟩
        · congr 1; omega
        · congr 1; omega
      · have r3 : ¬ nI (min 1000000 V) ≤ a2 := by rw [Int32.le_iff_toInt_le, nI_toInt (by omega)]; omega
        obtain ⟨u', w', e1, e2, e3, e4, e5⟩ := err2 (g := g) (e := 2) hT hW2 (by omega) k6 k7 q11 q10 (by omega) (by omega) (by omega)
        rw [if_neg (by omega)] at eB
        rw [if_neg r3, eB, if_pos (show nI 0 = nI 0 from rfl), show (2 : Int32) = nI 2 from rfl, e1, e2, bS, bS, bS]
        exact ⟨u', w', _, _, rfl, rfl, e4.trans fC, e5.trans fW2, Or.inr ⟨e3, rfl⟩⟩
  · have hne : e = s := by
      rw [hz]
      intro q
      rw [← ch_i (b := b) (n := n) (by omega)] at q
      exact c q.2
    obtain ⟨u', w', e1, e2, e3, e4, e5⟩ := err2 (g := g) (e := 1) hT hW (by omega) k6 k7 k11 k10 (by omega) (by omega) (by omega)
    rw [if_neg c, if_pos (show nI 0 = nI 0 from rfl), if_pos (show up u 0 6 (nI e) 0 6 = nI s by rw [k6, hne])]
    rw [show (1 : Int32) = nI 1 from rfl, e1, e2, bS, bS, bS]
    refine ⟨u', w', _, _, rfl, rfl, ?_, e5.trans fW, Or.inr ⟨e3, rfl⟩⟩
    exact e4.trans fC
theorem numE {b : Nat → Int32} {n : Nat} {g : CG} {u w : RS} {a1 a2 : Int32} (hb : BB b n) (h : ERs b n u w) : ∃ u' y, C5_readNumber g u a1 a2 = some (y, u') ∧ F8_number w a1 a2 = some (a1, w) ∧ FC u' u ∧ ERs b n u' w := by
  obtain ⟨i, h3, h4⟩ := h.2.2.1
  have h1 := h.1
  have hn := hb.1
  have hs := SK_le (b := b) h3
  have hdl := dg_le (b := b) (n - SK b n i) (SK b n i)
  unfold C5_readNumber F8_number
  rw [skipC hb h1 h4 h3, if_neg h.ne.1, bS]
  dsimp only
  have hnum := numLC (g := g) (a1 := a1) (a2 := a2) (t1 := (nI (SK b n i), up u 0 6 (nI (SK b n i)))) hb (n - SK b n i) (SK b n i) FUEL 0 (up u 0 6 (nI (SK b n i))) (by omega) (by show n - SK b n i < 10000; omega) (h1.fr (FC.up (by omega))) up_eq
  rw [Nat.min_zero] at hnum
  rw [show (0 : Int32) = nI 0 from rfl, hnum, bS, up_up]
  dsimp only
  have he := h.fc (i := dg b (n - SK b n i) (SK b n i)) (by omega)
  simp only [he.errC, bS]
  refine ⟨up u 0 6 (nI (dg b (n - SK b n i) (SK b n i))), nI (min 1000000 (dvv b (n - SK b n i) (SK b n i) 0)), ?_, trivial, FC.up (by omega), he⟩
  repeat' split
  all_goals rfl
end
section
noncomputable def lt (b : Nat → Int32) : Nat → Nat → Nat
  | 0, i => i
  | d + 1, i => if 97 ≤ cd (b i) ∧ cd (b i) ≤ 122 then lt b d (i + 1) else i
theorem lt_le {b : Nat → Int32} : ∀ d i, i ≤ lt b d i ∧ lt b d i ≤ i + d
  | 0, i => ⟨Nat.le_refl _, Nat.le_refl _⟩
  | d + 1, i => by
    have := lt_le (b := b) d (i + 1)
    unfold lt; split <;> omega
theorem wordLC {b : Nat → Int32} {n : Nat} {g : CG} {u0 : RS} (hb : BB b n) : ∀ (d i f : Nat) (u : RS), i + d = n → d < f → TC b n u → u 0 6 = nI i → C5_readWord_L5 u0 g f u = some (up u 0 6 (nI (lt b d i)))
  | 0, i, f, u, h1, h2, h3, h4 => by
    have hn := hb.1
    obtain ⟨f, rfl⟩ : ∃ m, f = m + 1 := ⟨f - 1, by omega⟩
    rw [C5_readWord_L5, h3.1, h4, if_pos (nI_le (by omega) (by omega))]
    show some u = some (up u 0 6 (nI i))
    rw [up_id h4]
  | d + 1, i, f, u, h1, h2, h3, h4 => by
    have hn := hb.1
    obtain ⟨f, rfl⟩ : ∃ m, f = m + 1 := ⟨f - 1, by omega⟩
    have hbi := hb.2 i (by omega)
    rw [C5_readWord_L5, h3.1, h4, if_neg (nI_ge (by omega) (by omega)), rd_n (by omega) (by omega), bS, h3.2 i (by omega), let_C hbi, bS]
    unfold lt
    by_cases c : 97 ≤ cd (b i) ∧ cd (b i) ≤ 122
    · rw [if_pos c, if_pos c, if_neg (show ¬ nI 1 = (0 : Int32) from nz0), pt_n, bS, show nI i + 1 = nI (i + 1) from nI_add _ 1, wordLC hb d (i + 1) f (up u 0 6 (nI (i + 1))) (by omega) (by omega) (h3.fr (FC.up (by omega))) up_eq, up_up]
    · rw [if_neg c, if_neg c, if_pos (show nI 0 = (0 : Int32) from rfl), up_id h4]
theorem wordLW {b : Nat → Int32} {n : Nat} (hb : BB b n) : ∀ (d i f : Nat) (w : RS), i + d = n → d < f → TW b n w → w 0 9 = nI i → F8_reads_L5 f w = some (up w 0 9 (nI (lt b d i)))
  | 0, i, f, w, h1, h2, h3, h4 => by
    have hn := hb.1
    obtain ⟨f, rfl⟩ : ∃ m, f = m + 1 := ⟨f - 1, by omega⟩
    rw [F8_reads_L5, here_ok hb h3 h4 (by omega), bS, inB_hv (p := 97) (q := 122) (ch_le hb) rfl rfl (by omega) (by omega), ch_n (show n ≤ i by omega), if_neg (show ¬ (97 ≤ 256 ∧ 256 ≤ 122) by omega), if_pos (show nI 0 = (0 : Int32) from rfl)]
    show some w = some (up w 0 9 (nI i))
    rw [up_id h4]
  | d + 1, i, f, w, h1, h2, h3, h4 => by
    have hn := hb.1
    obtain ⟨f, rfl⟩ : ∃ m, f = m + 1 := ⟨f - 1, by omega⟩
    have hl := ch_le (i := i) hb
    rw [F8_reads_L5, here_ok hb h3 h4 (by omega), bS, inB_hv (p := 97) (q := 122) hl rfl rfl (by omega) (by omega), ch_i (show i < n by omega)]
    unfold lt
    by_cases c : 97 ≤ cd (b i) ∧ cd (b i) ≤ 122
    · rw [if_pos c, if_pos c, if_neg (show ¬ nI 1 = (0 : Int32) from nz0), pt_n, bS, h4, show nI i + 1 = nI (i + 1) from nI_add _ 1, wordLW hb d (i + 1) f (up w 0 9 (nI (i + 1))) (by omega) (by omega) (h3.fr (FW.up (by omega))) up_eq, up_up]
    · rw [if_neg c, if_neg c, if_pos (show nI 0 = (0 : Int32) from rfl), up_id h4]
noncomputable def WMs (b : Nat → Int32) (s e m : Nat) (bs : List Int32) : Prop := e = s + m ∧ ∀ k, k < m → F_J0_charAt_5068e (nI k) bs = some (b (s + k))
noncomputable def WDs (bs : List Int32) (m : Nat) : Prop := m ≤ 6 ∧ F_J0_length_8abf5 bs = some (nI m) ∧ ∀ k, k < m → ∃ c, F_J0_charAt_5068e (nI k) bs = some c
theorem wordL {b : Nat → Int32} {n s m : Nat} {g : CG} {u w : RS} {bs : List Int32} (hb : BB b n) (hw : WDs bs m) (hc : TC b n u) (ht : TW b n w) (h10 : w 0 10 = nI s) (hn : s + m ≤ n) : ∀ (j k f : Nat), k + j = m → j + 1 < f → ∃ x, (x = nI 0 ∨ x = nI 1) ∧ (x = nI 1 → ∀ i, k ≤ i → i < m → F_J0_charAt_5068e (nI i) bs = some (b (s + i))) ∧ ((x = nI 0 ∧ C5_stands_L17 (nI s) g u bs f (nI k) = some (.inl (nI 0))) ∨ (x = nI 1 ∧ C5_stands_L17 (nI s) g u bs f (nI k) = some (.inr (nI m)))) ∧ ∃ y, F8_isWord_L24 w bs f (nI k) (nI 1) = some (y, x)
  | 0, k, f, h1, h2 => by
    obtain ⟨f, rfl⟩ : ∃ m, f = m + 1 := ⟨f - 1, by omega⟩
    have hm := hw.1
    refine ⟨nI 1, Or.inr rfl, fun _ i q1 q2 => by omega, Or.inr ⟨rfl, ?_⟩, nI k, ?_⟩
    · rw [C5_stands_L17, hw.2.1, bS, if_pos (nI_le (by omega) (by omega)), show k = m by omega]
    · rw [F8_isWord_L24, if_neg (show ¬ nI 1 = (0 : Int32) from nz0), hw.2.1, bS, if_pos (nI_le (by omega) (by omega))]
  | j + 1, k, f, h1, h2 => by
    obtain ⟨f, rfl⟩ : ∃ m, f = m + 1 := ⟨f - 1, by omega⟩
    have hm := hw.1
    have hb1 := hb.1
    obtain ⟨c, hcA⟩ := hw.2.2 k (by omega)
    have eC : C5_stands_L17 (nI s) g u bs (f + 1) (nI k) = if b (s + k) = c then C5_stands_L17 (nI s) g u bs f (nI (k + 1)) else some (.inl (nI 0)) := by
      rw [C5_stands_L17, hw.2.1, bS, if_neg (nI_ge (by omega) (by omega)), nI_add, rd_n (by omega) (by omega), bS, hc.2 _ (by omega), hcA, bS, show nI k + 1 = nI (k + 1) from nI_add _ 1]; rfl
    have eW : F8_isWord_L24 w bs (f + 1) (nI k) (nI 1) = F8_isWord_L24 w bs f (nI (k + 1)) (if b (s + k) = c then nI 1 else nI 0) := by
      rw [F8_isWord_L24, if_neg (show ¬ nI 1 = (0 : Int32) from nz0), hw.2.1, bS, if_neg (nI_ge (by omega) (by omega)), h10, nI_add, rd_n (by omega) (by omega), bS, ht.2 _ (by omega), hcA, bS, show nI k + 1 = nI (k + 1) from nI_add _ 1]
      by_cases q : b (s + k) = c
      · rw [if_pos q, if_pos q, bS]; rfl
      · rw [if_neg q, if_neg q, bS]; rfl
    rw [eC, eW]
    by_cases q : b (s + k) = c
    · rw [if_pos q, if_pos q]
      obtain ⟨x, k1, k2, k3, k4⟩ := wordL (g := g) hb hw hc ht h10 hn j (k + 1) f (by omega) (by omega)
      refine ⟨x, k1, fun hx i q1 q2 => ?_, k3, k4⟩
      by_cases e : i = k
      · subst e; rw [hcA, q]
      · exact k2 hx i (by omega) q2
    · rw [if_neg q, if_neg q]
      refine ⟨nI 0, Or.inl rfl, fun hx => absurd hx.symm nz0, Or.inl ⟨rfl, rfl⟩, nI (k + 1), ?_⟩
      obtain ⟨f, rfl⟩ : ∃ m, f = m + 1 := ⟨f - 1, by omega⟩
      rw [F8_isWord_L24, if_pos (show nI 0 = (0 : Int32) from rfl)]
theorem word2 {b : Nat → Int32} {n s e m : Nat} {g : CG} {u w : RS} {bs : List Int32} (hb : BB b n) (hw : WDs bs m) (hc : TC b n u) (ht : TW b n w) (h6 : u 0 6 = nI e) (h9 : w 0 9 = nI e) (h10 : w 0 10 = nI s) (hse : s ≤ e) (hen : e ≤ n) : ∃ x, (x = nI 0 ∨ x = nI 1) ∧ (x = nI 1 → WMs b s e m bs) ∧ C5_stands g u (nI s) bs = some x ∧ F8_isWord w bs = some x := by
  have hn := hb.1
  have hm := hw.1
  unfold C5_stands F8_isWord
  rw [hw.2.1, bS, bS, h6, h9, h10, nI_sub hse]
  by_cases q : e = s + m
  · have q1 : nI (e - s) = nI m := by rw [q]; congr 1; omega
    obtain ⟨x, k1, k2, k3, y, k4⟩ := wordL (g := g) hb hw hc ht h10 (by omega) m 0 FUEL (by omega) (by show m + 1 < 10000; omega)
    refine ⟨x, k1, fun hx => ⟨q, fun k hk => k2 hx k (by omega) hk⟩, ?_, ?_⟩
    · rw [if_pos q1]
      rcases k3 with ⟨e1, e2⟩ | ⟨e1, e2⟩
      · rw [show (0 : Int32) = nI 0 from rfl, e2, e1]; rfl
      · rw [show (0 : Int32) = nI 0 from rfl, e2, e1]; rfl
    · rw [if_pos q1, bS]
      show ((F8_isWord_L24 w bs FUEL (nI 0) (nI 1)).bind _) = _
      rw [k4, bS]
      dsimp only
      rw [nz_of k1, bS]
  · have q1 : ¬ nI (e - s) = nI m := nI_ne (by omega) (by omega) (by omega)
    refine ⟨nI 0, Or.inl rfl, fun hx => absurd hx.symm nz0, ?_, ?_⟩
    · rw [if_neg q1]; rfl
    · rw [if_neg q1, bS]
      show ((F8_isWord_L24 w bs (9999 + 1) (nI 0) (nI 0)).bind _) = _
      rw [F8_isWord_L24, if_pos (show nI 0 = (0 : Int32) from rfl), bS]
      dsimp only
      rw [nz_0, bS]
noncomputable def W_chip : List Int32 := [99, 104, 105, 112]
theorem w_chip : WDs W_chip 4 := ⟨by omega, by decide, fun k hk => by
  rcases (show k = 0 ∨ k = 1 ∨ k = 2 ∨ k = 3 by omega) with rfl | rfl | rfl | rfl <;> exact ⟨_, rfl⟩⟩
noncomputable def W_stripe : List Int32 := [115, 116, 114, 105, 112, 101]
theorem w_stripe : WDs W_stripe 6 := ⟨by omega, by decide, fun k hk => by
  rcases (show k = 0 ∨ k = 1 ∨ k = 2 ∨ k = 3 ∨ k = 4 ∨ k = 5 by omega) with rfl | rfl | rfl | rfl | rfl | rfl <;> exact ⟨_, rfl⟩⟩
noncomputable def W_print : List Int32 := [112, 114, 105, 110, 116]
theorem w_print : WDs W_print 5 := ⟨by omega, by decide, fun k hk => by
  rcases (show k = 0 ∨ k = 1 ∨ k = 2 ∨ k = 3 ∨ k = 4 by omega) with rfl | rfl | rfl | rfl | rfl <;> exact ⟨_, rfl⟩⟩
noncomputable def W_wheel : List Int32 := [119, 104, 101, 101, 108]
theorem w_wheel : WDs W_wheel 5 := ⟨by omega, by decide, fun k hk => by
  rcases (show k = 0 ∨ k = 1 ∨ k = 2 ∨ k = 3 ∨ k = 4 by omega) with rfl | rfl | rfl | rfl | rfl <;> exact ⟨_, rfl⟩⟩
noncomputable def W_rest : List Int32 := [114, 101, 115, 116]
theorem w_rest : WDs W_rest 4 := ⟨by omega, by decide, fun k hk => by
  rcases (show k = 0 ∨ k = 1 ∨ k = 2 ∨ k = 3 by omega) with rfl | rfl | rfl | rfl <;> exact ⟨_, rfl⟩⟩
noncomputable def W_lot : List Int32 := [108, 111, 116]
theorem w_lot : WDs W_lot 3 := ⟨by omega, by decide, fun k hk => by
  rcases (show k = 0 ∨ k = 1 ∨ k = 2 by omega) with rfl | rfl | rfl <;> exact ⟨_, rfl⟩⟩
noncomputable def W_card : List Int32 := [99, 97, 114, 100]
theorem w_card : WDs W_card 4 := ⟨by omega, by decide, fun k hk => by
  rcases (show k = 0 ∨ k = 1 ∨ k = 2 ∨ k = 3 by omega) with rfl | rfl | rfl | rfl <;> exact ⟨_, rfl⟩⟩
noncomputable def W_line : List Int32 := [108, 105, 110, 101]
theorem w_line : WDs W_line 4 := ⟨by omega, by decide, fun k hk => by
  rcases (show k = 0 ∨ k = 1 ∨ k = 2 ∨ k = 3 by omega) with rfl | rfl | rfl | rfl <;> exact ⟨_, rfl⟩⟩
theorem no_chip {b : Nat → Int32} {s e : Nat} (h : WMs b s e 4 W_line) : ¬ WMs b s e 4 W_chip := fun q => by
  have e1 := h.2 0 (by omega)
  rw [← q.2 0 (by omega)] at e1
  exact absurd e1 (by decide)
theorem no_stripe {b : Nat → Int32} {s e : Nat} (h : WMs b s e 4 W_line) : ¬ WMs b s e 6 W_stripe := fun q => by
  have := h.1; have := q.1; omega
theorem no_print {b : Nat → Int32} {s e : Nat} (h : WMs b s e 4 W_line) : ¬ WMs b s e 5 W_print := fun q => by
  have := h.1; have := q.1; omega
theorem no_wheel {b : Nat → Int32} {s e : Nat} (h : WMs b s e 4 W_line) : ¬ WMs b s e 5 W_wheel := fun q => by
  have := h.1; have := q.1; omega
theorem no_rest {b : Nat → Int32} {s e : Nat} (h : WMs b s e 4 W_line) : ¬ WMs b s e 4 W_rest := fun q => by
  have e1 := h.2 0 (by omega)
  rw [← q.2 0 (by omega)] at e1
  exact absurd e1 (by decide)
theorem no_lot {b : Nat → Int32} {s e : Nat} (h : WMs b s e 4 W_line) : ¬ WMs b s e 3 W_lot := fun q => by
  have := h.1; have := q.1; omega
theorem no_card {b : Nat → Int32} {s e : Nat} (h : WMs b s e 4 W_line) : ¬ WMs b s e 4 W_card := fun q => by
  have e1 := h.2 0 (by omega)
  rw [← q.2 0 (by omega)] at e1
  exact absurd e1 (by decide)
end
section
noncomputable def sfl (b : Nat → Int32) : Nat → Nat → Nat
  | 0, _ => 1
  | d + 1, i => if 48 ≤ cd (b i) ∧ cd (b i) ≤ 57 then (if cd (b i) ≤ 49 then sfl b d (i + 1) else 0) else 1
theorem sfl_01 {b : Nat → Int32} : ∀ d i, sfl b d i = 0 ∨ sfl b d i = 1
  | 0, _ => Or.inr rfl
  | d + 1, i => by
    unfold sfl
    split
    · split
      · exact sfl_01 d (i + 1)
      · exact Or.inl rfl
    · exact Or.inr rfl
theorem scrLC {b : Nat → Int32} {n : Nat} {g : CG} {t1 : Int32 × RS} (hb : BB b n) : ∀ (d i f fl : Nat) (u : RS), i + d = n → d < f → fl ≤ 1 → TC b n u → u 0 6 = nI i → C5_readScript_L7 t1 g f (nI fl) u = some (nI (fl * sfl b d i), up u 0 6 (nI (dg b d i)))
  | 0, i, f, fl, u, h1, h2, hf, h3, h4 => by
    have hn := hb.1
    obtain ⟨f, rfl⟩ : ∃ m, f = m + 1 := ⟨f - 1, by omega⟩
    rw [C5_readScript_L7, h3.1, h4, if_pos (nI_le (by omega) (by omega))]
    show some (nI fl, u) = some (nI (fl * 1), up u 0 6 (nI i))
    rw [up_id h4, Nat.mul_one]
  | d + 1, i, f, fl, u, h1, h2, hf, h3, h4 => by
    have hn := hb.1
    obtain ⟨f, rfl⟩ : ∃ m, f = m + 1 := ⟨f - 1, by omega⟩
    have hbi := hb.2 i (by omega)
    rw [C5_readScript_L7, h3.1, h4, if_neg (nI_ge (by omega) (by omega)), rd_n (by omega) (by omega), bS, h3.2 i (by omega), dig_C hbi, bS, bS]
    unfold sfl dg
    by_cases c : 48 ≤ cd (b i) ∧ cd (b i) ≤ 57
    · rw [if_pos c, if_pos c, if_pos c, if_neg (show ¬ nI 1 = (0 : Int32) from nz0), pt_n]
      have hx := b_num hbi (by omega)
      have e1 : ((if nI fl = (0 : Int32) then (some (0 : Int32)) else (if (49 : Int32) < b i then (some (0 : Int32)) else (some (1 : Int32)))) : Option Int32) = some (nI (if cd (b i) ≤ 49 then fl else 0)) := by
        by_cases q : fl = 0
        · rw [q, if_pos (show nI 0 = (0 : Int32) from rfl)]; split <;> rfl
        · have q1 : fl = 1 := by omega
          rw [q1, if_neg (show ¬ nI 1 = (0 : Int32) from nz0), hx]
          by_cases r : cd (b i) ≤ 49
          · rw [if_neg (show ¬ (49 : Int32) < nI (cd (b i)) from nI_nlt (a := 49) (by omega) (by omega)), ← hx, if_pos r]; rfl
          · rw [if_pos (show (49 : Int32) < nI (cd (b i)) from nI_lt (a := 49) (by omega) (by omega)), ← hx, if_neg r]; rfl
      rw [e1, bS, bS, show nI i + 1 = nI (i + 1) from nI_add _ 1, scrLC hb d (i + 1) f (if cd (b i) ≤ 49 then fl else 0) (up u 0 6 (nI (i + 1))) (by omega) (by omega) (by split <;> omega) (h3.fr (FC.up (by omega))) up_eq, up_up]
      by_cases r : cd (b i) ≤ 49
      · rw [if_pos r, if_pos r]
      · rw [if_neg r, if_neg r, Nat.zero_mul, Nat.mul_zero]
    · rw [if_neg c, if_neg c, if_neg c, if_pos (show nI 0 = (0 : Int32) from rfl), up_id h4, Nat.mul_one]
theorem bit_s1 : ∀ c : Nat, c < 12 → ∀ m : Nat, m < 2 ^ c → nI m ||| (nI 1 <<< (nI c &&& 31)) = nI (m + 2 ^ c) := by decide +kernel
theorem bit_s0 : ∀ c : Nat, c < 12 → nI 0 <<< (nI c &&& 31) = nI 0 := by decide +kernel
theorem bit_y : ∀ y : Nat, y < 10 → (nI (48 + y) - 48) &&& 1 = nI (y % 2) := by decide +kernel
theorem bit_or0 (x : Int32) : x ||| nI 0 = x := by
  show x ||| 0 = x
  exact Int32.or_zero
theorem fl_and : ∀ x : Nat, x < 2 → ∀ y : Nat, y < 2 → nI x &&& nI y = nI (x * y) := by decide +kernel
theorem scrLW {b : Nat → Int32} {n : Nat} {a1 : Int32} (hb : BB b n) : ∀ (d i f c m fl : Nat) (w : RS), i + d = n → d < f → c ≤ i → fl ≤ 1 → m < 2 ^ (min c 12) → TW b n w → w 0 9 = nI i → ∃ m' fl', F8_scriptPart_L44 a1 f (nI fl) (nI m) (nI c) w = some (nI fl', nI m', nI (c + (dg b d i - i)), up w 0 9 (nI (dg b d i))) ∧ m' < 4096 ∧ fl' ≤ 1 ∧ (fl' = 1 ↔ fl = 1 ∧ sfl b d i = 1 ∧ (dg b d i = i ∨ c + (dg b d i - i) ≤ 12)) ∧ (fl' = 1 → (∀ k, k < c → m'.testBit k = m.testBit k) ∧ ∀ k, k < dg b d i - i → (m'.testBit (c + k) = true ↔ b (i + k) = nI 49))
  | 0, i, f, c, m, fl, w, h1, h2, hc, hf, hm, h3, h4 => by
    have hn := hb.1
    obtain ⟨f, rfl⟩ : ∃ m, f = m + 1 := ⟨f - 1, by omega⟩
    have h12 : 2 ^ (min c 12) ≤ 2 ^ 12 := Nat.pow_le_pow_right (by omega) (by omega)
    refine ⟨m, fl, ?_, by omega, hf, ⟨fun q => ⟨q, rfl, Or.inl rfl⟩, fun q => q.1⟩, fun _ => ⟨fun _ _ => rfl, fun k hk => ?_⟩⟩
    · rw [F8_scriptPart_L44, here_ok hb h3 h4 (by omega), bS, inB_hv (p := 48) (q := 57) (ch_le hb) rfl rfl (by omega) (by omega), ch_n (show n ≤ i by omega), if_neg (show ¬ (48 ≤ 256 ∧ 256 ≤ 57) by omega), if_pos (show nI 0 = (0 : Int32) from rfl)]
      show some (nI fl, nI m, nI c, w) = some (nI fl, nI m, nI (c + (i - i)), up w 0 9 (nI i))
      rw [up_id h4, Nat.sub_self, Nat.add_zero]
    · unfold dg at hk; omega
  | d + 1, i, f, c, m, fl, w, h1, h2, hc, hf, hm, h3, h4 => by
    have hn := hb.1
    obtain ⟨f, rfl⟩ : ∃ m, f = m + 1 := ⟨f - 1, by omega⟩
    have h12 : 2 ^ (min c 12) ≤ 2 ^ 12 := Nat.pow_le_pow_right (by omega) (by omega)
    have hbi := hb.2 i (by omega)
    have hl := ch_le (i := i) hb
    rw [ch_i (show i < n by omega)] at hl
    rw [F8_scriptPart_L44, here_ok hb h3 h4 (by omega), bS, inB_hv (p := 48) (q := 57) (ch_le hb) rfl rfl (by omega) (by omega), ch_i (show i < n by omega)]
    unfold sfl dg
    by_cases q : 48 ≤ cd (b i) ∧ cd (b i) ≤ 57
    · rw [if_pos q, if_pos q, if_pos q, if_neg (show ¬ nI 1 = (0 : Int32) from nz0), bS]
      have hx : hv (cd (b i)) = nI (cd (b i)) := (hv_eq hl (by omega)).mpr rfl
      have hdl := dg_le (b := b) d (i + 1)
      rw [hx]
      have ef : ((if (49 : Int32) < nI (cd (b i)) then (some (0 : Int32)) else (if (12 : Int32) ≤ nI c then (some (0 : Int32)) else (some (1 : Int32)))) : Option Int32) = some (nI (if cd (b i) ≤ 49 ∧ c < 12 then 1 else 0)) := by
        by_cases r : cd (b i) ≤ 49
        · rw [if_neg (show ¬ (49 : Int32) < nI (cd (b i)) from nI_nlt (a := 49) (by omega) (by omega))]
          by_cases r2 : c < 12
          · rw [if_neg (show ¬ (12 : Int32) ≤ nI c from nI_ge (b := 12) (by omega) (by omega)), if_pos ⟨r, r2⟩]; rfl
          · rw [if_pos (show (12 : Int32) ≤ nI c from nI_le (a := 12) (by omega) (by omega)), if_neg (fun z => r2 z.2)]; rfl
        · rw [if_pos (show (49 : Int32) < nI (cd (b i)) from nI_lt (a := 49) (by omega) (by omega)), if_neg (fun z => r z.1)]; rfl
      rw [ef, bS]
      have em : ∃ M, nI m ||| (if c < 12 then ((nI (cd (b i)) - 48) &&& 1) <<< (nI c &&& 31) else nI 0) = nI M ∧ M < 2 ^ (min (c + 1) 12) ∧ (c < 12 → (∀ k, k < c → M.testBit k = m.testBit k) ∧ (cd (b i) ≤ 49 → (M.testBit c = true ↔ b i = nI 49))) := by
        by_cases r2 : c < 12
        · rw [if_pos r2]
          have ey := bit_y (cd (b i) - 48) (by omega)
          rw [show 48 + (cd (b i) - 48) = cd (b i) by omega] at ey
          rw [ey]
          rw [show min c 12 = c by omega] at hm
          have hmc : m.testBit c = false := Nat.testBit_lt_two_pow hm
          have hpow : 2 ^ (c + 1) = 2 ^ c + 2 ^ c := by rw [Nat.pow_succ]; omega
          have e49 : cd (b i) ≤ 49 → (b i = nI 49 ↔ (cd (b i) - 48) % 2 = 1) := fun z => by
            rw [b_eq hbi (c := 49) (by omega)]; omega
          rcases (show (cd (b i) - 48) % 2 = 0 ∨ (cd (b i) - 48) % 2 = 1 by omega) with y | y
          · rw [y, bit_s0 c r2, bit_or0]
            refine ⟨m, rfl, by rw [show min (c + 1) 12 = c + 1 by omega]; omega, fun _ => ⟨fun _ _ => rfl, fun z => ?_⟩⟩
            rw [hmc, e49 z, y]; decide
          · rw [y, bit_s1 c r2 m hm]
            refine ⟨m + 2 ^ c, rfl, by rw [show min (c + 1) 12 = c + 1 by omega]; omega, fun _ => ⟨fun k hk => ?_, fun z => ?_⟩⟩
            · rw [Nat.add_comm, Nat.testBit_two_pow_add_gt hk]
            · rw [Nat.add_comm, Nat.testBit_two_pow_add_eq, hmc, e49 z, y]; decide
        · rw [if_neg r2, bit_or0]
          exact ⟨m, rfl, by rw [show min (c + 1) 12 = min c 12 by omega]; exact hm, fun z => absurd z r2⟩
      obtain ⟨M, eM, hM, hB⟩ := em
      have eg : ((if (12 : Int32) ≤ nI c then (some (0 : Int32)) else ((F8_here w).bind fun x45 => some (((x45 - 48) &&& 1) <<< (nI c &&& 31)))) : Option Int32) = some (if c < 12 then ((nI (cd (b i)) - 48) &&& 1) <<< (nI c &&& 31) else nI 0) := by
        by_cases r2 : c < 12
        · rw [if_neg (show ¬ (12 : Int32) ≤ nI c from nI_ge (b := 12) (by omega) (by omega)), if_pos r2, here_ok hb h3 h4 (by omega), bS, ch_i (show i < n by omega), hx]
        · rw [if_pos (show (12 : Int32) ≤ nI c from nI_le (a := 12) (by omega) (by omega)), if_neg r2]; rfl
      rw [here_ok hb h3 h4 (by omega), ch_i (show i < n by omega), hx] at eg
      rw [eg, bS, pt_n, bS, h4, eM, fl_and fl (by omega) _ (by split <;> omega), show nI i + 1 = nI (i + 1) from nI_add _ 1, show nI c + 1 = nI (c + 1) from nI_add _ 1]
      obtain ⟨m', fl', k1, k2, k3, k4, k5⟩ := scrLW (a1 := a1) hb d (i + 1) f (c + 1) M (fl * if cd (b i) ≤ 49 ∧ c < 12 then 1 else 0) (up w 0 9 (nI (i + 1))) (by omega) (by omega) (by omega) (by split <;> omega) hM (h3.fr (FW.up (by omega))) up_eq
      refine ⟨m', fl', ?_, k2, k3, ?_, fun z => ?_⟩
      · rw [k1, up_up]
        have : c + 1 + (dg b d (i + 1) - (i + 1)) = c + (dg b d (i + 1) - i) := by omega
        rw [this]
      · rw [k4]
        by_cases r : cd (b i) ≤ 49
        · rw [if_pos r]
          by_cases r2 : c < 12
          · rw [if_pos ⟨r, r2⟩, Nat.mul_one]
            constructor
            · intro z; exact ⟨z.1, z.2.1, by omega⟩
            · intro z; exact ⟨z.1, z.2.1, by omega⟩
          · rw [if_neg (fun z => r2 z.2), Nat.mul_zero]
            constructor
            · intro z; omega
            · intro z; omega
        · rw [if_neg r, if_neg (fun z => r z.1), Nat.mul_zero]
          constructor
          · intro z; omega
          · intro z; omega
      · have z4 := k4.mp z
        have r : cd (b i) ≤ 49 ∧ c < 12 := by
          by_cases r : cd (b i) ≤ 49 ∧ c < 12
          · exact r
          · rw [if_neg r, Nat.mul_zero] at z4; omega
        obtain ⟨B1, B2⟩ := hB r.2
        obtain ⟨k5a, k5b⟩ := k5 z
        refine ⟨fun k hk => (k5a k (by omega)).trans (B1 k hk), fun k hk => ?_⟩
        by_cases e : k = 0
        · subst e
          rw [Nat.add_zero, Nat.add_zero, k5a c (by omega)]
          exact B2 r.1
        · have := k5b (k - 1) (by omega)
          rw [show c + 1 + (k - 1) = c + k by omega, show i + 1 + (k - 1) = i + k by omega] at this
          exact this
    · rw [if_neg q, if_neg q, if_neg q, if_pos (show nI 0 = (0 : Int32) from rfl)]
      refine ⟨m, fl, by rw [up_id h4, Nat.sub_self, Nat.add_zero], by omega, hf, ⟨fun z => ⟨z, rfl, Or.inl rfl⟩, fun z => z.1⟩, fun _ => ⟨fun _ _ => rfl, fun k hk => by omega⟩⟩
theorem bit_sh (m k : Nat) (hk : k < 12) : (nI m >>> nI k).toBitVec = (BitVec.ofNat 32 m).sshiftRight k := by
  have e : ∀ k : Nat, k < 12 → ((nI k).toBitVec.smod 32).toNat = k := by decide +kernel
  show (BitVec.ofNat 32 m).sshiftRight ((nI k).toBitVec.smod 32).toNat = _
  rw [e k hk]
theorem bit_t {m k : Nat} (hm : m < 4096) (hk : k < 12) : (nI m >>> nI k) &&& nI 1 = nI 1 ↔ m.testBit k = true := by
  have h1 : ((nI m >>> nI k) &&& nI 1).toBitVec = (BitVec.ofNat 32 m).sshiftRight k &&& 1#32 := by
    show (nI m >>> nI k).toBitVec &&& (nI 1).toBitVec = _
    rw [bit_sh m k hk]; rfl
  have h2 : ((BitVec.ofNat 32 m).sshiftRight k).getLsbD 0 = m.testBit k := by
    rw [BitVec.getLsbD_sshiftRight, BitVec.getLsbD_ofNat]
    have hk2 : k < 32 := by omega
    simp [hk2]
  constructor
  · intro h
    have h3 : (BitVec.ofNat 32 m).sshiftRight k &&& 1#32 = 1#32 := by rw [← h1, h]; rfl
    have h4 := congrArg (fun x : BitVec 32 => x.getLsbD 0) h3
    simp only [BitVec.getLsbD_and, h2] at h4
    simpa using h4
  · intro h
    have h3 : (BitVec.ofNat 32 m).sshiftRight k &&& 1#32 = 1#32 := by
      apply BitVec.eq_of_getLsbD_eq
      intro i hi
      rw [BitVec.getLsbD_and]
      by_cases e : i = 0
      · subst e; rw [h2, h]; rfl
      · have : (1#32).getLsbD i = false := by simp [BitVec.getLsbD_one, e]
        rw [this, Bool.and_false]
    exact Int32.toBitVec_inj.mp (h1.trans h3)
theorem fits_b {x : Int32} (h : BYT x) : fits .byte (.int x) = true := by
  show (decide ((-128 : Int32) ≤ x) && decide (x ≤ (127 : Int32))) = true
  have h1 : (-128 : Int32) ≤ x := by rw [Int32.le_iff_toInt_le]; exact h.1
  have h2 : x ≤ (127 : Int32) := by rw [Int32.le_iff_toInt_le]; have := h.2; show x.toInt ≤ 127; omega
  rw [decide_eq_true h1, decide_eq_true h2]; rfl
theorem cpo_b {n0 n1 n sp dp : Nat} {f : Nat → Int32} (h0 : sp + n ≤ n0) (h1 : dp + n ≤ n1) (hn0 : n0 < 2 ^ 31) (hn1 : n1 < 2 ^ 31) (hb : ∀ i, i < n → BYT (f (sp + i))) : cpo n0 n1 f true (nI sp) (nI dp) (nI n) = some n := by
  unfold cpo
  rw [nI_toInt (by omega), nI_toInt (by omega), nI_toInt (by omega), nI_clamp (by omega), nI_clamp (by omega), nI_clamp (by omega)]
  exact if_pos ⟨⟨by omega, by omega, by omega, h0, h1⟩, fun _ i hi => fits_b (hb i hi)⟩
theorem al_n {g : CG} {u : RS} {n : Nat} (hn : n ≤ 16) (hg : g.nt < 1000000) (ht : TI g u) : al g u (nI n) = some (nI (g.nt + 1)) := by
  unfold al
  rw [nI_toInt (by omega)]
  exact if_pos ⟨⟨by omega, by omega, hg⟩, ht⟩
noncomputable def NT (g : CG) (u u2 : RS) (n : Nat) (f : Nat → Int32) : Prop := u2 (500 + (g.nt + 1)) 0 = nI n ∧ (∀ k, k < n → u2 (500 + (g.nt + 1)) (1 + k) = f k) ∧ ∀ R, R ≠ 500 + (g.nt + 1) → u2 R = u R
theorem copyRange {b : Nat → Int32} {n s e : Nat} {g : CG} {u : RS} (hb : BB b n) (h : TC b n u) (h1 : 1 ≤ s) (hse : s ≤ e) (he : e ≤ n) (h12 : e - s ≤ 12) (hg : g.nt < 1000000) (ht : TI g u) : ∃ u2, C_J7_copyOfRange_39247_tb g u (nI s) (nI e) = some (nI (g.nt + 1), ga g, u2) ∧ NT g u u2 (e - s) (fun k => b (s + k)) := by
  have hn := hb.1
  unfold C_J7_copyOfRange_39247_tb C_J7_copyOfRangeByte_39247_tb C_J7_checkLength_df160
  rw [if_neg (show ¬ nI s = (0 : Int32) from nI_ne (b := 0) (by omega) (by omega) (by omega)), if_pos (nI_le hse (by omega)), bS, nI_sub hse, al_n (by omega) hg ht, bS, bS, bS, nI_clamp (by omega)]
  have e0 : ut g u (nI (e - s)) (500 + (g.nt + 1)) = fun i => if i = 0 then nI (e - s) else 0 := rw_eq
  have e3 : ut g u (nI (e - s)) 3 = u 3 := rw_ne (by omega)
  have em : (if nI (e - s) < (600 : Int32) - nI s then nI (e - s) else (600 : Int32) - nI s) = nI (e - s) := by
    show (if nI (e - s) < nI 600 - nI s then nI (e - s) else nI 600 - nI s) = nI (e - s)
    rw [nI_sub (by omega)]
    by_cases q : e - s < 600 - s
    · rw [if_pos (nI_lt q (by omega))]
    · rw [if_neg (nI_nlt (by omega) (by omega))]; congr 1; omega
  rw [em, e0, e3]
  simp only [if_true]
  rw [nI_clamp (by omega), show (0 : Int32) = nI 0 from rfl, cpo_b (sp := s) (dp := 0) (n := e - s) (by omega) (by omega) (by omega) (by omega) (fun i hi => by rw [h.2 _ (by omega)]; exact hb.2 _ (by omega)), bS, bS, nI_clamp (by omega), nI_clamp (by omega), bS]
  refine ⟨_, rfl, ?_, fun k hk => ?_, fun R hR => ?_⟩
  · unfold cpR; dsimp only
    rw [rw_eq, if_neg (by omega), e0]; rfl
  · unfold cpR; dsimp only
    rw [rw_eq, if_pos (by omega), show s + (1 + k - (1 + 0)) = s + k by omega]
    exact h.2 _ (by omega)
  · unfold cpR ut; dsimp only
    rw [rw_ne hR, rw_ne hR]
end
section
theorem TI_fc {g : CG} {u u' : RS} (h : TI g u) (f : FC u' u) : TI g u' := fun L hL => by
  rw [f.1 _ (by omega)]; exact h L hL
noncomputable def FW1 (w' w : RS) : Prop := (∀ R, R ≠ 0 → R ≠ 1 → w' R = w R) ∧ ∀ i, i ≠ 9 → i ≠ 10 → i ≠ 11 → i ≠ 12 → w' 0 i = w 0 i
theorem FW.w1 {w' w : RS} (h : FW w' w) : FW1 w' w := ⟨fun R a _ => h.1 R a, h.2⟩
theorem FW1.trans {a b c : RS} (h : FW1 a b) (h2 : FW1 b c) : FW1 a c := ⟨fun R q r => (h.1 R q r).trans (h2.1 R q r), fun i o p q r => (h.2 i o p q r).trans (h2.2 i o p q r)⟩
theorem FW1.up {u : RS} {i : Nat} {x : Int32} : FW1 (up u 1 i x) u := ⟨fun R _ r => up_or r, fun j a b c d => up_ne (by omega)⟩
theorem TW.fr1 {b : Nat → Int32} {n : Nat} {u u' : RS} (h : TW b n u) (f : FW1 u' u) : TW b n u' := ⟨(f.2 8 (by decide) (by decide) (by decide) (by decide)).trans h.1, fun k q => by rw [f.1 6 (by decide) (by decide)]; exact h.2 k q⟩
theorem ERs.w1 {b : Nat → Int32} {n i : Nat} {u w : RS} {x : Int32} (h : ERs b n u w) : ERs b n u (up w 1 i x) := by
  obtain ⟨h1, h2, h3, e, p, q1, q2, q3, q4, q5, q6, q7⟩ := h
  exact ⟨h1, h2.fr1 FW1.up, h3, e, p, q1, q2, q3, q4, by rw [up_ne (by omega)]; exact q5, q6, by rw [up_ne (by omega)]; exact q7⟩
theorem OKs.w1 {b : Nat → Int32} {n j i : Nat} {u w : RS} {x : Int32} (h : OKs b n j u w) : OKs b n j u (up w 1 i x) := by
  obtain ⟨h1, h2, h3, q1, q2, q3, q4⟩ := h
  exact ⟨h1, h2.fr1 FW1.up, h3, q1, by rw [up_ne (by omega)]; exact q2, q3, by rw [up_ne (by omega)]; exact q4⟩
theorem OKs.nt {b : Nat → Int32} {n j len : Nat} {g : CG} {u u2 w : RS} {f : Nat → Int32} (h : OKs b n j u w) (ht : NT g u u2 len f) : OKs b n j u2 w := by
  obtain ⟨h1, h2, h3, q1, q2, q3, q4⟩ := h
  have e0 : u2 0 = u 0 := ht.2.2 0 (by omega)
  have e3 : u2 3 = u 3 := ht.2.2 3 (by omega)
  exact ⟨⟨by rw [e0]; exact h1.1, fun k hk => by rw [e3]; exact h1.2 k hk⟩, h2, h3, by rw [e0]; exact q1, q2, by rw [e0]; exact q3, q4⟩
theorem sets14 {u : RS} {s : Nat} {v : Int32} (hs : s < 6) : F8_sets u (nI s) (14 : Int32) v = some (up u 1 (17 + 16 * s + 14) v) := F8_sets_n (k := 14) hs (by omega)
theorem sets15 {u : RS} {s : Nat} {v : Int32} (hs : s < 6) : F8_sets u (nI s) (15 : Int32) v = some (up u 1 (17 + 16 * s + 15) v) := F8_sets_n (k := 15) hs (by omega)
theorem scr2 {b : Nat → Int32} {n i st : Nat} {g : CG} {u w : RS} (hb : BB b n) (h : OKs b n i u w) (h1i : 1 ≤ i) (hst : st < 6) (hg : g.nt < 1000000) (hti : TI g u) :
    (∃ i' len m u1 u' w1, C5_readScript g u = some (nI (g.nt + 1), ga g, u') ∧ F8_scriptPart w (nI st) = some (up (up w1 1 (17 + 16 * st + 14) (nI len)) 1 (17 + 16 * st + 15) (nI m)) ∧ i ≤ i' ∧ OKs b n i' u' (up (up w1 1 (17 + 16 * st + 14) (nI len)) 1 (17 + 16 * st + 15) (nI m)) ∧ FC u1 u ∧ NT g u1 u' len (fun k => u' (500 + (g.nt + 1)) (1 + k)) ∧ FW w1 w ∧ 1 ≤ len ∧ len ≤ 12 ∧ (∀ k, k < len → (u' (500 + (g.nt + 1)) (1 + k) = nI 49 ↔ (nI m >>> nI k) &&& nI 1 = nI 1))) ∨
    (∃ u' w', C5_readScript g u = some (0, g, u') ∧ F8_scriptPart w (nI st) = some w' ∧ FC u' u ∧ FW1 w' w ∧ ERs b n u' w') := by
  obtain ⟨h1, h2, h3, h4, h5, h6, h7⟩ := h
  have hn := hb.1
  have hs := SK_le (b := b) h3
  have hdl := dg_le (b := b) (n - SK b n i) (SK b n i)
  have hz := dg_0 (b := b) (d := n - SK b n i) (i := SK b n i)
  have hch := ch_le (i := SK b n i) hb
  have hsf := sfl_01 (b := b) (n - SK b n i) (SK b n i)
  unfold C5_readScript F8_scriptPart
  rw [skipC hb h1 h4 h3, if_pos (show w 0 11 = (0 : Int32) from h7), nextW hb h2 h5 h3, bS, bS]
  dsimp only
  rw [inB_hv (p := 48) (q := 57) hch rfl rfl (by omega) (by omega)]
  have hsc := scrLC (g := g) (t1 := (nI (SK b n i), up u 0 6 (nI (SK b n i)))) hb (n - SK b n i) (SK b n i) FUEL 1 (up u 0 6 (nI (SK b n i))) (by omega) (by show n - SK b n i < 10000; omega) (by omega) (h1.fr (FC.up (by omega))) up_eq
  rw [Nat.one_mul] at hsc
  rw [show (1 : Int32) = nI 1 from rfl, hsc, bS]
  dsimp only
  generalize hs' : SK b n i = s at *
  generalize hV : sfl b (n - s) s = V at *
  generalize he : dg b (n - s) s = e at *
  rw [up_up]
  have hT : TC b n (up u 0 6 (nI e)) := h1.fr (FC.up (by omega))
  have hW : TW b n (up (up w 0 9 (nI s)) 0 10 (nI s)) := (h2.fr (FW.up (by omega))).fr (FW.up (by omega))
  have k6 : up u 0 6 (nI e) 0 6 = nI e := up_eq
  have k7 : up u 0 6 (nI e) 0 7 = nI 0 := by rw [up_ne (by omega)]; exact h6
  have k9 : up (up w 0 9 (nI s)) 0 10 (nI s) 0 9 = nI s := by rw [up_ne (by omega), up_eq]
  have k11 : up (up w 0 9 (nI s)) 0 10 (nI s) 0 11 = nI 0 := by rw [up_ne (by omega), up_ne (by omega)]; exact h7
  have k10 : up (up w 0 9 (nI s)) 0 10 (nI s) 0 10 = nI s := up_eq
  have fC : FC (up u 0 6 (nI e)) u := FC.up (by omega)
  have fW : FW (up (up w 0 9 (nI s)) 0 10 (nI s)) w := (FW.up (by omega)).trans (FW.up (by omega))
  generalize hu1 : up u 0 6 (nI e) = u1 at *
  generalize hw1 : up (up w 0 9 (nI s)) 0 10 (nI s) = w1 at *
  by_cases c : 48 ≤ ch b n s ∧ ch b n s ≤ 57
  · have hsn : s < n := ch_lt (b := b) (by omega)
    have hne : ¬ e = s := by rw [hz, ← ch_i (b := b) hsn]; exact fun q => q ⟨by omega, c⟩
    rw [if_pos c, if_neg (show ¬ nI 1 = (0 : Int32) from nz0), bS, if_pos (show w1 0 11 = (0 : Int32) from k11), if_neg (show ¬ u1 0 6 = nI s by rw [k6]; exact nI_ne hne (by omega) (by omega))]
    obtain ⟨m, fl, q1, q2, q3, q4, q5⟩ := scrLW (a1 := nI st) hb (n - s) s FUEL 0 0 1 w1 (by omega) (by show n - s < 10000; omega) (by omega) (by omega) (by decide) hW k9
    rw [he, Nat.zero_add] at q1
    rw [he] at q4 q5
    rw [hV] at q4
    rw [show (0 : Int32) = nI 0 from rfl, q1, bS]
    dsimp only
    generalize hw2 : up w1 0 9 (nI e) = w2 at *
    have hW2 : TW b n w2 := by rw [← hw2]; exact hW.fr (FW.up (by omega))
    have fW2 : FW w2 w := by rw [← hw2]; exact (FW.up (by omega)).trans fW
    have z9 : w2 0 9 = nI e := by rw [← hw2]; exact up_eq
    have z10 : w2 0 10 = nI s := by rw [← hw2, up_ne (by omega)]; exact k10
    have z11 : w2 0 11 = nI 0 := by rw [← hw2, up_ne (by omega)]; exact k11
    by_cases good : V = 1 ∧ e - s ≤ 12
    · have hfl : fl = 1 := q4.mpr ⟨rfl, good.1, Or.inr (by omega)⟩
      have eC : (if nI V = nI 0 then ((C5_error g u1 (2 : Int32) (nI s)).bind fun u23 => some u23) else (if u1 0 6 - nI s ≤ (12 : Int32) then (some u1) else ((C5_error g u1 (2 : Int32) (nI s)).bind fun u26 => some u26)) : Option RS) = some u1 := by
        rw [good.1, if_neg nz0, k6, nI_sub (by omega), if_pos (show nI (e - s) ≤ (12 : Int32) from nI_le (b := 12) good.2 (by omega))]
      rw [eC, bS, fineC0 k7, bS, if_neg nz0, k6]
      obtain ⟨u', c1, c2⟩ := copyRange (g := g) hb hT (show 1 ≤ s by omega) (show s ≤ e by omega) (by omega) good.2 hg (TI_fc hti fC)
      rw [c1, bS, hfl, if_neg nz0, bS, sets14 hst, bS, sets15 hst, bS]
      refine Or.inl ⟨e, e - s, m, u1, u', w2, rfl, rfl, by omega, ((OKs.nt (⟨hT, hW2, by omega, k6, z9, k7, z11⟩) c2).w1).w1, fC, ⟨c2.1, fun _ _ => rfl, c2.2.2⟩, fW2, by omega, good.2, fun k hk => ?_⟩
      have q6 := (q5 hfl).2 k hk
      rw [Nat.zero_add] at q6
      rw [c2.2.1 k hk, bit_t q2 (by omega)]
      exact q6.symm
    · have hfl : fl = 0 := by
        rcases (show fl = 0 ∨ fl = 1 by omega) with q | q
        · exact q
        · have := q4.mp q; exfalso; omega
      obtain ⟨u', w', e1, e2, e3, e4, e5⟩ := err2 (g := g) (e := 2) hT hW2 (by omega) k6 k7 z11 z10 (by omega) (by omega) (by omega)
      have eC : (if nI V = nI 0 then ((C5_error g u1 (2 : Int32) (nI s)).bind fun u23 => some u23) else (if u1 0 6 - nI s ≤ (12 : Int32) then (some u1) else ((C5_error g u1 (2 : Int32) (nI s)).bind fun u26 => some u26)) : Option RS) = some u' := by
        have e1' : C5_error g u1 (2 : Int32) (nI s) = some u' := e1
        rw [e1', bS]
        by_cases v : V = 1
        · rw [v, if_neg nz0, k6, nI_sub (by omega), if_neg (show ¬ nI (e - s) ≤ (12 : Int32) from nI_ge (a := 12) (by omega) (by omega))]
        · rw [show V = 0 by omega, if_pos rfl]
      rw [eC, bS, e3.fine, bS, if_pos rfl, hfl, if_pos rfl, show (2 : Int32) = nI 2 from rfl, e2, bS, bS, sets14 hst, bS, sets15 hst, bS]
      exact Or.inr ⟨u', _, rfl, rfl, e4.trans fC, FW1.up.trans (FW1.up.trans ((e5.trans fW2).w1)), e3.w1.w1⟩
  · have hne : e = s := by
      rw [hz]
      intro q
      rw [← ch_i (b := b) (n := n) (by omega)] at q
      exact c q.2
    obtain ⟨u', w', e1, e2, e3, e4, e5⟩ := err2 (g := g) (e := 1) hT hW (by omega) k6 k7 k11 k10 (by omega) (by omega) (by omega)
    rw [if_neg c, if_pos (show nI 0 = (0 : Int32) from rfl), if_pos (show u1 0 6 = nI s by rw [k6, hne])]
    rw [e1, e2, bS, bS, bS, bS, e3.fine, bS, if_pos (show nI 0 = (0 : Int32) from rfl), if_neg e3.ne.1]
    exact Or.inr ⟨u', w', rfl, rfl, e4.trans fC, (e5.trans fW).w1, e3⟩
end
