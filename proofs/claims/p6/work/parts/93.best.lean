noncomputable def gBn (p : Nat) (hi : Int32) (f : RS → Int32 → Option (Int32 × RS)) (g : CG) : Nat → Int32 → Int32 → Int32 → RS → Option (Int32 × Int32 × Int32 × RS)
  | 0, _, _, _, _ => none
  | m + 1, y4, y5, y6, u7 => if hi < y4 then (some ((y4, y5, y6, u7))) else (if y5 < 0 then (some ((y4, y5, y6, u7))) else ((C7_copyOfLine g u7).bind fun t16 => (pt t16 (10 + 1) p y4).bind fun u20 => (f u20 y5).bind fun t22 => (if (t22.1) = (-1) then (some (y5, y6)) else (some (((t22.1) - 1), y4)) : Option (Int32 × Int32)).bind fun t25 => gBn p hi f g m ((y4 + 1)) ((t25.1)) ((t25.2)) (t22.2)))
theorem gB_rank {g : CG} {l : Nat} (hl : l < 6) : ∀ (m : Nat) (y4 y5 y6 : Int32) (u : RS), C7_bestRank_L14 (nI l) g m y4 y5 y6 u = gBn (113 + 4 * l + 0) (nI 9) (fun u y => C7_ticksUntil_e1 g u 1 (nI l) y) g m y4 y5 y6 u := by
  intro m
  induction m with
  | zero => intro y4 y5 y6 u; rfl
  | succ m ih =>
    intro y4 y5 y6 u
    rw [C7_bestRank_L14, gBn]
    simp only [ih, lit32, neg1]
    cases C7_copyOfLine g u with
    | none => rfl
    | some t => rw [bS, bS, ix_n hl (by omega), bS]
theorem gB_tray {g : CG} : ∀ (m : Nat) (y4 y5 y6 : Int32) (u : RS), C7_bestTray_L8 g m y4 y5 y6 u = gBn 1 (nI 20) (fun u y => C7_ticksUntil_e2 g u 1 m1 y) g m y4 y5 y6 u := by
  intro m
  induction m with
  | zero => intro y4 y5 y6 u; rfl
  | succ m ih =>
    intro y4 y5 y6 u
    rw [C7_bestTray_L8, gBn]
    simp only [ih, lit32, neg1]
theorem best_L {r c0 : RS} {g : CG} {B T sm lm cm p lo hi a1 : Nat} {a2 : Int32} {hap : RS → Option Int32} {f : RS → Int32 → Option (Int32 × RS)} (h : GI r c0 g B T) (hT : T < 2 ^ 31) (hB : B + 2001 < 2000000000) (h0 : QY c0 g 0 (r 1) sm lm cm B B) (h3 : a1 ≠ 3) (h10 : a1 < 10) (hp : p < 1037) (hhi : hi < 100) (hm : ∀ r, MET (fun u => F8_isMet u (nI a1) a2 (nI 0)) hap r g sm lm cm) (hs : ∀ r, MSM (fun u => F8_isMet u (nI a1) a2 (nI 0)) r g sm lm cm) (hset : ∀ (x : Nat) (c1 : RS) (v : Nat → Int32), lo ≤ x → x ≤ hi → QY c1 g 1 v sm lm cm B B → QX c1 g 1 (upd v p (nI x)) (upd (c1 (10 + 1)) p (nI x)) (c1 (400 + 1)) sm lm cm B B) (hf : ∀ (u : RS) (lim : Nat) (y : Int32) (c2 : RS), gUn hap 1 (nI lim) g FUEL (nI 0) u = some (.inl (y, c2)) → f u (nI lim) = some (y, c2)) :
    ∀ (d v0 fu fu2 least : Nat) (best : Int32) (u c : RS), v0 + d = hi + 1 → lo ≤ v0 → d < fu → d < fu2 → least ≤ 2001 → (∀ j, j < 1037 → u 2 j = r 1 j) → (∀ j, j < 1037 → u 1 j = r 1 j) → (∀ R, R ≠ 1 → R ≠ 2 → u R = r R) → PRc c0 c g →
    ∃ z z5 b2 u2 z' z5' c2, F8_bestOf_L24 (nI p) (nI lo) (nI hi) (nI a1) a2 fu (nI v0) (nI least) best u = some (z, z5, b2, u2) ∧ gBn p (nI hi) f g fu2 (nI v0) (nI least - nI 1) best c = some (z', z5', b2, c2) ∧ (∀ R, R ≠ 1 → R ≠ 2 → u2 R = r R) ∧ (∀ j, j < 1037 → u2 1 j = r 1 j) ∧ PRc c0 c2 g := by
  have hg : g.nt < 2 ^ 31 := Nat.lt_of_le_of_lt h.n hT
  -- one value on the class's side: the copy, with the value set
  have hone : ∀ (x : Nat) (u c : RS), lo ≤ x → x ≤ hi → (∀ j, j < 1037 → u 1 j = r 1 j) → PRc c0 c g → ∃ c1, C7_copyOfLine g c = some c1 ∧ (∀ R, ¬ OWN 1 R → c1 R = c R) ∧ QY (setL c1 1 (upd (c1 (10 + 1)) p (nI x)) (c1 (400 + 1))) g 1 (upd (u 1) p (nI x)) sm lm cm B B := fun x u c hx0 hx h1 hc => by
    obtain ⟨c1, k1, k2, k3⟩ := copyL (h.pred PRr.refl hc) (PRc.y h0 hc PRr.refl)
    exact ⟨c1, k1, k2, QX.toY (by omega) (hset x c1 (u 1) hx0 hx (QY.ext k3 h1))⟩
  intro d
  induction d with
  | zero =>
    intro v0 fu fu2 least best u c hy hlo hfu hfu2 hl h2 h1 hR hc
    obtain ⟨fu, rfl⟩ : ∃ m, fu = m + 1 := ⟨fu - 1, by omega⟩
    obtain ⟨fu2, rfl⟩ : ∃ m, fu2 = m + 1 := ⟨fu2 - 1, by omega⟩
    rw [F8_bestOf_L24, gBn, if_pos (nI_lt (by omega) (by omega)), if_pos (nI_lt (by omega) (by omega))]
    exact ⟨_, _, best, u, _, _, c, rfl, rfl, hR, h1, hc⟩
  | succ d ih =>
    intro v0 fu fu2 least best u c hy hlo hfu hfu2 hl h2 h1 hR hc
    by_cases hz : least = 0
    · subst hz
      obtain ⟨fu2, rfl⟩ : ∃ m, fu2 = m + 1 := ⟨fu2 - 1, by omega⟩
      have hC : gBn p (nI hi) f g (fu2 + 1) (nI v0) (nI 0 - nI 1) best c = some (nI v0, nI 0 - nI 1, best, c) := by
        rw [gBn]
        simp only [lit32]
        rw [if_neg (nI_nlt (by omega) (by omega)), sub1, if_pos rfl, if_pos (show m1 < nI 0 by decide)]
      have hG := bestRank_F (r := r) (p := p) (l := lo) (hi := hi) (a1 := nI a1) (a2 := a2) (d + 1) v0 fu best u hy hlo hfu hhi hp h2 hR (fun x u' e2 eR e1 hx0 hx => by
        · obtain ⟨c1, k1, k2, k3⟩ := hone x u' c hx0 hx e1 hc
          obtain ⟨x', v', y, c2, j1, -, -, j4⟩ := goes_ok (r := u') (lim := 2000) (hap := hap) hg (Nat.le_refl _) hB (no3 h3 h10) (hm _) (hs _) k3
          refine ⟨x', v', j1, ?_⟩
          rcases j4 with ⟨a, -⟩ | ⟨k, a, b, -⟩
          · exact Or.inl a
          · exact Or.inr ⟨k, a, b⟩) h1
      obtain ⟨b2, u2, z, q1, q2, q3, q4⟩ := hG
      exact ⟨z, _, best, u2, _, _, c, q1, hC, q2, q3, hc⟩
    · obtain ⟨fu, rfl⟩ : ∃ m, fu = m + 1 := ⟨fu - 1, by omega⟩
      obtain ⟨fu2, rfl⟩ : ∃ m, fu2 = m + 1 := ⟨fu2 - 1, by omega⟩
      obtain ⟨c1, k1, k2, k3⟩ := hone v0 u c hlo (by omega) h1 hc
      obtain ⟨x, v', y, c2, j1, j2, j3, j4⟩ := try_1 (r := u) (least := least) hg hB h3 h10 (by omega) hl (hm u) (hs u) k3
      have e : ws u 1 1037 (nI p) (nI v0) = some (setR u (upd (u 1) p (nI v0))) := by rw [ws_n hp (by omega), up1]
      obtain ⟨b1, b2, b3⟩ := best_row (v' := v') h2 hR
      have hc2 : PRc c0 c2 g := hc.trans ⟨fun R a b => by rw [j3.1 R a, setL_o (by unfold OWN at a; omega) (by unfold OWN at a; omega), k2 R a], j3.2⟩
      have hls : nI least - nI 1 = nI (least - 1) := nI_sub (by omega)
      rw [F8_bestOf_L24, gBn, if_neg (nI_nlt (by omega) (by omega)), if_neg (nI_nlt (by omega) (by omega)), e, bS, j1, bS]
      simp only [lit32, neg1]
      rw [hls, if_neg (nI_nlt (Nat.zero_le _) (by omega)), k1, bS, pt_n, bS, upC, hf _ _ _ _ j2, bS]
      dsimp only
      rcases j4 with ⟨rfl, j4⟩ | ⟨k, q1, rfl, rfl, q2⟩
      · have hF : (if x = m1 then some (nI least, best) else (if nI least ≤ x then some (nI least, best) else some (x, nI v0)) : Option (Int32 × Int32)) = some (nI least, best) := by
          rcases j4 with e | ⟨k, q1, e, q2⟩
          · rw [if_pos e]
          · rw [e, if_neg (m1_ne (by omega)), if_pos ((best_num hl q1).mpr q2)]
        rw [hF, bS, if_pos rfl, bS, cp_2_1 (by omega) (by omega), bS, nI_add, ← hls]
        exact ih (v0 + 1) fu fu2 least best _ c2 (by omega) (by omega) (by omega) (by omega) hl b2 b3 b1 hc2
      · rw [if_neg (m1_ne (by omega)), if_neg (fun q => by have := (best_num hl q1).mp q; omega), bS, if_neg (m1_ne (by omega)), bS, cp_2_1 (by omega) (by omega), bS, nI_add]
        exact ih (v0 + 1) fu fu2 k (nI v0) _ c2 (by omega) (by omega) (by omega) (by omega) (by omega) b2 b3 b1 hc2
theorem bestOf_ok {r c : RS} {g : CG} {B T sm lm cm p lo hi a1 : Nat} {a2 : Int32} {hap : RS → Option Int32} {f : RS → Int32 → Option (Int32 × RS)} (h : GI r c g B T) (hT : T < 2 ^ 31) (hB : B + 2001 < 2000000000) (h0 : QY c g 0 (r 1) sm lm cm B B) (h3 : a1 ≠ 3) (h10 : a1 < 10) (hp : p < 1037) (hhi : hi < 100) (hlo : lo ≤ hi) (hm : ∀ r, MET (fun u => F8_isMet u (nI a1) a2 (nI 0)) hap r g sm lm cm) (hs : ∀ r, MSM (fun u => F8_isMet u (nI a1) a2 (nI 0)) r g sm lm cm) (hset : ∀ (x : Nat) (c1 : RS) (v : Nat → Int32), lo ≤ x → x ≤ hi → QY c1 g 1 v sm lm cm B B → QX c1 g 1 (upd v p (nI x)) (upd (c1 (10 + 1)) p (nI x)) (c1 (400 + 1)) sm lm cm B B) (hf : ∀ (u : RS) (lim : Nat) (y : Int32) (c2 : RS), gUn hap 1 (nI lim) g FUEL (nI 0) u = some (.inl (y, c2)) → f u (nI lim) = some (y, c2)) :
    ∃ b2 r2 z' z5' c2, F8_bestOf r (nI p) (nI lo) (nI hi) (nI a1) a2 = some (b2, r2) ∧ gBn p (nI hi) f g FUEL (nI lo) (nI 2000) m1 c = some (z', z5', b2, c2) ∧ PRr r r2 ∧ PRc c c2 g := by
  have h1 : ∀ j, j < 1037 → cpA r 1 0 2 0 2 j = r 1 j := fun j hj => by
    have h2 := cpA_n (u := r) (A := 1) (i := 0) (B := 2) (k := 0) hj
    simp only [Nat.mul_zero, Nat.zero_add] at h2
    exact h2
  obtain ⟨z, z5, b2, u2, z', z5', c2, k1, k2, k3, k4, k5⟩ := best_L h hT hB h0 h3 h10 hp hhi hm hs hset hf (hi + 1 - lo) lo FUEL FUEL 2001 m1 (cpA r 1 0 2 0) c (by omega) (Nat.le_refl _) (by show hi + 1 - lo < 10000; omega) (by show hi + 1 - lo < 10000; omega) (Nat.le_refl _) h1 (fun j hj => by rw [cpA_o (by decide)]) (fun R a b => cpA_o b) ⟨fun _ _ _ => rfl, h.ti 1 (by omega)⟩
  rw [nI_sub (by omega)] at k2
  refine ⟨b2, u2, z', z5', c2, ?_, k2, ⟨fun R a b _ => k3 R a b, k4⟩, k5⟩
  unfold F8_bestOf
  simp only [lit32, neg1]
  rw [cp_1_2 (by omega) (by omega), bS, k1, bS]
theorem a_bestRank {r c : RS} {g : CG} {B T : Nat} {a : Int32} (h : GI r c g B T) (hT : T < 2 ^ 31) (hB : B + 2001 < 2000000000) : CT (F8_bestRank r a) (C7_bestRank g c a) r g 0 B T := by
  obtain ⟨sm, lm, cm, h0⟩ := h.l
  have hlm := h0.a.lm6
  unfold F8_bestRank C7_bestRank
  simp only [lit32, neg1]
  rcases argLo (r := r) (c := c) (g := g) (a := a) (n := lm) (by omega) h0.v8 h0.n8 with ⟨l, s1, rfl, s2, s3⟩ | ⟨s2, s3⟩
  · have hl6 : l < 6 := by omega
    have h1 : QY c g 0 (th r 0 1) sm lm cm B B := by rw [th_o (by decide)]; exact h0
    obtain ⟨b2, r2, z', z5', c2, k1, k2, k3, k4⟩ := bestOf_ok (p := 113 + 4 * l + 0) (lo := 0) (hi := 9) (a1 := 1) (a2 := nI l) (f := fun u y => C7_ticksUntil_e1 g u 1 (nI l) y) (h.thr (k := 0)) hT hB h1 (by decide) (by decide) (by omega) (by decide) (by decide) (fun _ => met_1 s1) (fun _ => msm_1) (fun x c1 v _ hx q => QR.rank hx hl6 q) (fun u lim y c2 e => un_1 e)
    rw [← gB_rank hl6] at k2
    rw [s2, s3, bS, bS, isThrown_1, bS, trR]
    simp only [if_true, nI_add, nI_mul]
    rw [k1, bS, bS, k2, bS]
    exact Or.inl ⟨b2, r2, c2, rfl, rfl, h.thr.pred k3 k4, k3.t⟩
  · rw [s2, s3, bS, bS, isThrown_0, bS, trL]
    refine Or.inr ⟨1, by omega, by omega, ?_, rfl⟩
    simp only [nz0, if_false, bS]
theorem a_bestTray {r c : RS} {g : CG} {B T : Nat} (h : GI r c g B T) (hT : T < 2 ^ 31) (hB : B + 2001 < 2000000000) : BT (F8_bestTray r) (C7_bestTray g c) g B T := by
  obtain ⟨sm, lm, cm, h0⟩ := h.l
  unfold F8_bestTray C7_bestTray
  simp only [lit32, neg1]
  have h1 : QY c g 0 (th r 0 1) sm lm cm B B := by rw [th_o (by decide)]; exact h0
  obtain ⟨b2, r2, z', z5', c2, k1, k2, k3, k4⟩ := bestOf_ok (p := 1) (lo := 1) (hi := 20) (a1 := 2) (a2 := m1) (f := fun u y => C7_ticksUntil_e2 g u 1 m1 y) (h.thr (k := 0)) hT hB h1 (by decide) (by decide) (by omega) (by decide) (by decide) (fun _ => met_2) (fun _ => msm_2) (fun x c1 v _ hx q => QR.tot (by omega) q) (fun u lim y c2 e => un_2 e)
  rw [← gB_tray] at k2
  rw [zth, bS, k1, bS, k2, bS]
  exact ⟨b2, r2, c2, rfl, rfl, h.thr.pred k3 k4, k3.t⟩
theorem lotBy_E {r c : RS} {g : CG} {B T sm lm cm : Nat} {a : Int32} (h : GI r c g B T) (hT : T < 2 ^ 31) (hB : B + 2001 < 2000000000) (h0 : QY c g 0 (r 1) sm lm cm B B) : ∀ (d y fu fu2 : Nat) (u z : RS), y + d = lm → d < fu → d < fu2 → PRr r u → PRc c z g → (∀ k, k < y → u 9 k = z 2 k) →
    ∃ u2 z2, F8_lotBy_L28 a fu (nI y) u = some (nI lm, u2) ∧ C7_lotBy_L19 a g fu2 (nI y) z = some (nI lm, z2) ∧ PRr r u2 ∧ PRc c z2 g ∧ ∀ k, k < lm → u2 9 k = z2 2 k := by
  have hlm := h0.a.lm6
  intro d
  induction d with
  | zero =>
    intro y fu fu2 u z hy hfu hfu2 hr hc he
    obtain ⟨fu, rfl⟩ : ∃ m, fu = m + 1 := ⟨fu - 1, by omega⟩
    obtain ⟨fu2, rfl⟩ : ∃ m, fu2 = m + 1 := ⟨fu2 - 1, by omega⟩
    obtain rfl : y = lm := by omega
    have q := PRc.y h0 hc hr
    rw [F8_lotBy_L28, C7_lotBy_L19, q.v8, q.n8, if_pos (nI_le (by omega) (by omega)), if_pos (nI_le (by omega) (by omega))]
    exact ⟨u, z, rfl, rfl, hr, hc, he⟩
  | succ d ih =>
    intro y fu fu2 u z hy hfu hfu2 hr hc he
    obtain ⟨fu, rfl⟩ : ∃ m, fu = m + 1 := ⟨fu - 1, by omega⟩
    obtain ⟨fu2, rfl⟩ : ∃ m, fu2 = m + 1 := ⟨fu2 - 1, by omega⟩
    have q := PRc.y h0 hc hr
    have hG := h.pred hr hc
    obtain ⟨x, r2, c1, c2, k1, k2, k3, k4, k5, k6, k7⟩ := behind_ok hG q hT hB (a1 := 1) (a2 := nI y) (t2 := nI 0) (no3 (by decide) (by decide)) (fun u e => by
      unfold F8_of; simp only [lit32, nI_add, nI_mul]; unfold rd; rw [e]) (fun _ => met_1 (by omega)) (fun _ => msm_1)
    have hx : (if x = m1 then some (nI 2001) else some x : Option Int32) = some (if x = m1 then nI 2001 else x) := by
      by_cases e : x = m1
      · rw [if_pos e, if_pos e]
      · rw [if_neg e, if_neg e]
    rw [F8_lotBy_L28, C7_lotBy_L19, q.v8, q.n8, if_neg (nI_ge (by omega) (by omega)), if_neg (nI_ge (by omega) (by omega))]
    simp only [lit32, neg1]
    rw [k1, bS, k2, bS, un_1 k3, bS]
    dsimp only
    rw [hx, bS, ws_n (by omega) (by omega), bS, bS, ws_n (by omega) (by omega), bS, nI_add]
    refine ih (y + 1) fu fu2 _ _ (by omega) (by omega) (by omega) (hr.trans ⟨fun R a b e => ?_, fun j hj => ?_⟩) (hc.trans ⟨fun R a b => ?_, ?_⟩) (fun k hk => ?_)
    · rw [up_or e]; exact k4.1 R a b e
    · rw [up_ne (by omega)]; exact k4.2 j hj
    · rw [up_or b]; exact k5.1 R a b
    · rw [up_or (by decide)]; exact k5.2
    · by_cases e : k = y
      · rw [e, up_eq, up_eq]
      · rw [up_ne (by omega), up_ne (by omega), k6, k7]; exact he k (by omega)
theorem ahead_L {u z : RS} {g : CG} {lm l : Nat} {a1 : Int32} {t8 : Int32 × RS} (hlm : lm ≤ 6) (hl : l < lm) (hu : t8.2 = u) (h8u : u 1 8 = nI lm) (h8z : z (10 + 0) 8 = nI lm) (he : ∀ k, k < lm → u 9 k = z 2 k) : ∀ (d y fu fu2 : Nat) (s : Int32), y + d = lm → d < fu → d < fu2 → ∃ s2, F8_lotBy_L88 (nI l) a1 t8 fu (nI y) s = some (nI lm, s2) ∧ C7_lotsFinishedBefore_L4 (nI l) g z fu2 (nI y) s = some (nI lm, s2) := by
  subst hu
  intro d
  induction d with
  | zero =>
    intro y fu fu2 s hy hfu hfu2
    obtain ⟨fu, rfl⟩ : ∃ m, fu = m + 1 := ⟨fu - 1, by omega⟩
    obtain ⟨fu2, rfl⟩ : ∃ m, fu2 = m + 1 := ⟨fu2 - 1, by omega⟩
    obtain rfl : y = lm := by omega
    rw [F8_lotBy_L88, C7_lotsFinishedBefore_L4, h8u, h8z, if_pos (nI_le (by omega) (by omega)), if_pos (nI_le (by omega) (by omega))]
    exact ⟨s, rfl, rfl⟩
  | succ d ih =>
    intro y fu fu2 s hy hfu hfu2
    obtain ⟨fu, rfl⟩ : ∃ m, fu = m + 1 := ⟨fu - 1, by omega⟩
    obtain ⟨fu2, rfl⟩ : ∃ m, fu2 = m + 1 := ⟨fu2 - 1, by omega⟩
    have hn : ¬ nI lm ≤ nI y := nI_ge (by omega) (by omega)
    rw [F8_lotBy_L88, C7_lotsFinishedBefore_L4, h8u, h8z, if_neg hn, if_neg hn]
    simp only [lit32]
    rw [rd_n (by omega) (by omega), bS, rd_n (by omega) (by omega), bS, bS, bS, rd_n (by omega) (by omega), bS, rd_n (by omega) (by omega), bS, bS, bS, he y (by omega), he l hl, nI_add]
    by_cases c1 : z 2 y < z 2 l
    · have c2 : ¬ z 2 l ≤ z 2 y := fun q => by rw [Int32.lt_iff_toInt_lt] at c1; rw [Int32.le_iff_toInt_le] at q; omega
      rw [if_pos c1, bS, if_neg c2, bS, if_neg nz0, bS]
      exact ih (y + 1) fu fu2 _ (by omega) (by omega) (by omega)
    · have c2 : z 2 l ≤ z 2 y := by rw [Int32.lt_iff_toInt_lt] at c1; rw [Int32.le_iff_toInt_le]; omega
      rw [if_neg c1, if_pos c2, bS, if_pos rfl]
      by_cases c3 : z 2 y = z 2 l
      · rw [if_pos c3, if_pos c3]
        by_cases c4 : l ≤ y
        · rw [if_pos (nI_le c4 (by omega)), if_pos (nI_le c4 (by omega)), bS, bS, nI_z]
          exact ih (y + 1) fu fu2 _ (by omega) (by omega) (by omega)
        · rw [if_neg (nI_ge (by omega) (by omega)), if_neg (nI_ge (by omega) (by omega)), bS, bS]
          exact ih (y + 1) fu fu2 _ (by omega) (by omega) (by omega)
      · rw [if_neg c3, if_neg c3, bS, bS, nI_z]
        exact ih (y + 1) fu fu2 _ (by omega) (by omega) (by omega)
theorem byL {u z : RS} {g : CG} {lm : Nat} {a1 t1 t2 : Int32} (hlm : lm ≤ 6) (h8u : u 1 8 = nI lm) (h8z : z (10 + 0) 8 = nI lm) (he : ∀ k, k < lm → u 9 k = z 2 k) : ∀ (d y fu fu2 : Nat), y + d = lm → d < fu → d < fu2 → (∃ x, F8_lotBy_L72 a1 (t1, u) fu (nI y) = some (.inl (x, u)) ∧ C7_lotBy_L71 a1 g (t2, z) fu2 (nI y) = some (.inl (x, z))) ∨ (∃ p q, F8_lotBy_L72 a1 (t1, u) fu (nI y) = some (.inr p) ∧ C7_lotBy_L71 a1 g (t2, z) fu2 (nI y) = some (.inr q)) := by
  intro d
  induction d with
  | zero =>
    intro y fu fu2 hy hfu hfu2
    obtain ⟨fu, rfl⟩ : ∃ m, fu = m + 1 := ⟨fu - 1, by omega⟩
    obtain ⟨fu2, rfl⟩ : ∃ m, fu2 = m + 1 := ⟨fu2 - 1, by omega⟩
    obtain rfl : y = lm := by omega
    right
    have e1 : (t1, u).2 1 8 = nI y := h8u
    have e2 : (t2, z).2 (10 + 0) 8 = nI y := h8z
    rw [F8_lotBy_L72, C7_lotBy_L71, e1, e2, if_pos (nI_le (by omega) (by omega)), if_pos (nI_le (by omega) (by omega))]
    exact ⟨_, _, rfl, rfl⟩
  | succ d ih =>
    intro y fu fu2 hy hfu hfu2
    obtain ⟨fu, rfl⟩ : ∃ m, fu = m + 1 := ⟨fu - 1, by omega⟩
    obtain ⟨fu2, rfl⟩ : ∃ m, fu2 = m + 1 := ⟨fu2 - 1, by omega⟩
    obtain ⟨s2, k1, k2⟩ := ahead_L (g := g) (a1 := a1) (t8 := (t1, u)) hlm (l := y) (by omega) rfl h8u h8z he lm 0 FUEL FUEL (nI 0) (by omega) (by show lm < 10000; omega) (by show lm < 10000; omega)
    have k3 : C7_lotsFinishedBefore g z (nI y) = some s2 := by unfold C7_lotsFinishedBefore; simp only [lit32]; rw [k2, bS]
    rw [F8_lotBy_L72, C7_lotBy_L71]
    simp only [lit32]
    rw [h8u, h8z, if_neg (nI_ge (by omega) (by omega)), if_neg (nI_ge (by omega) (by omega)), k1, bS, k3, bS, nI_add]
    by_cases e : s2 = a1
    · rw [if_pos e, if_pos e]; exact Or.inl ⟨_, rfl, rfl⟩
    · rw [if_neg e, if_neg e]
      exact ih (y + 1) fu fu2 (by omega) (by omega) (by omega)
theorem a_lotBy {r c : RS} {g : CG} {B T : Nat} {a : Int32} (h : GI r c g B T) (hT : T < 2 ^ 31) (hB : B + 2001 < 2000000000) : BT (F8_lotBy r a) (C7_lotBy g c a) g B T := by
  obtain ⟨sm, lm, cm, h0⟩ := h.l
  have hlm := h0.a.lm6
  have h1 : QY c g 0 (th r 0 1) sm lm cm B B := by rw [th_o (by decide)]; exact h0
  unfold F8_lotBy C7_lotBy
  simp only [lit32, neg1]
  rw [zth, bS, th1, h0.v8, h0.n8]
  rcases below (a := a) (n := lm) (by omega) with ⟨k, hk, rfl⟩ | hb
  · rw [inB_pos (p := 0) (q := (lm : Int) - 1) (by decide) (by rw [Int32.toInt_toInt64, sub1_toInt (by omega)]) (by rw [nI_toInt (by omega)]; omega), if_neg nz0, if_neg (nI_nlt (by omega) (by omega)), if_pos (nI_lt hk (by omega))]
    obtain ⟨u2, z2, k1, k2, k3, k4, k5⟩ := lotBy_E (a := nI k) (h.thr (k := 0)) hT hB h1 lm 0 FUEL FUEL (th r 0) c (by omega) (by show lm < 10000; omega) (by show lm < 10000; omega) PRr.refl ⟨fun _ _ _ => rfl, h.ti 1 (by omega)⟩ (fun k hk => by omega)
    have q := PRc.y h1 k4 k3
    rw [k1, bS, k2, bS]
    rcases byL (g := g) (a1 := nI k) (t1 := nI lm) (t2 := nI lm) hlm q.v8 q.n8 k5 lm 0 FUEL FUEL (by omega) (by show lm < 10000; omega) (by show lm < 10000; omega) with ⟨x, j1, j2⟩ | ⟨p, p', j1, j2⟩
    · rw [j1, bS, j2, bS]
      exact ⟨x, u2, z2, rfl, rfl, h.thr.pred k3 k4, k3.t⟩
    · rw [j1, bS, j2, bS]
      exact ⟨m1, u2, z2, rfl, rfl, h.thr.pred k3 k4, k3.t⟩
  · rw [inB_neg (p := 0) (q := (lm : Int) - 1) (by decide) (by rw [Int32.toInt_toInt64, sub1_toInt (by omega)]) (by omega), if_pos rfl]
    by_cases h2 : a < nI 0
    · rw [if_pos h2]; exact ⟨m1, th r 0, c, rfl, rfl, h.thr, th_6⟩
    · have h3 : ¬ a.toInt < 0 := fun q => h2 (lt0.mpr q)
      rw [if_neg h2, if_neg (fun q => by have := (ltn (by omega)).mp q; omega)]
      exact ⟨m1, th r 0, c, rfl, rfl, h.thr, th_6⟩
