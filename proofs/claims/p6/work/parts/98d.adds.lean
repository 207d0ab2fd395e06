theorem addsL39 {u0 : RS} {a1 : Int32} {cm : Nat} (h9 : u0 1 9 = nI cm) (hcm : cm < 30) : ∀ (d y f : Nat) (u : RS), y + d = 22 → d < f → ∃ u2, F8_adds_L39 u0 a1 f (nI y) u = some (nI 22, u2) ∧ (∀ R, R ≠ 1 → u2 R = u R) ∧ (∀ i, (i < 137 + 25 * cm + 3 + y ∨ 137 + 25 * cm + 25 ≤ i) → u2 1 i = u 1 i) ∧ ∀ k, 3 + y ≤ k → k < 25 → u2 1 (137 + 25 * cm + k) = nI 0
  | 0, y, f, u, h1, h2 => by
    obtain ⟨f, rfl⟩ : ∃ m, f = m + 1 := ⟨f - 1, by omega⟩
    obtain rfl : y = 22 := by omega
    refine ⟨u, ?_, fun _ _ => rfl, fun _ _ => rfl, fun k _ _ => by omega⟩
    rw [F8_adds_L39, if_pos (show (22 : Int32) ≤ nI 22 by decide)]
  | d + 1, y, f, u, h1, h2 => by
    obtain ⟨f, rfl⟩ : ∃ m, f = m + 1 := ⟨f - 1, by omega⟩
    rw [F8_adds_L39, if_neg (show ¬ (22 : Int32) ≤ nI y from nI_ge (b := 22) (by omega) (by omega)), h9, show (3 : Int32) + nI y = nI (3 + y) from nI_add 3 y, F8_setsCard_n hcm (by omega), bS, show nI y + 1 = nI (y + 1) from nI_add _ 1]
    obtain ⟨u2, k1, k2, k3, k4⟩ := addsL39 (a1 := a1) h9 hcm d (y + 1) f (up u 1 (137 + 25 * cm + (3 + y)) 0) (by omega) (by omega)
    refine ⟨u2, k1, fun R hR => (k2 R hR).trans (up_or hR), fun i hi => ?_, fun k q1 q2 => ?_⟩
    · rw [k3 i (by omega), up_ne (by omega)]
    · by_cases e : k = 3 + y
      · subst e; rw [k3 _ (by omega), up_eq]; rfl
      · exact k4 k (by omega) q2
theorem addsL77 {u0 : RS} {a1 : Int32} {cm len : Nat} (h9 : u0 1 9 = nI cm) (hcm : cm < 30) (hlen : len ≤ 16) : ∀ (d y f : Nat) (u : RS), y + d = len → d < f → u 0 19 = nI len → ∃ u2, F8_adds_L77 u0 a1 f (nI y) u = some (nI len, u2) ∧ (∀ R, R ≠ 1 → u2 R = u R) ∧ (∀ i, (i < 137 + 25 * cm + 9 + y ∨ 137 + 25 * cm + 25 ≤ i) → u2 1 i = u 1 i) ∧ ∀ k, y ≤ k → k < len → u2 1 (137 + 25 * cm + (9 + k)) = u 7 k
  | 0, y, f, u, h1, h2, h3 => by
    obtain ⟨f, rfl⟩ : ∃ m, f = m + 1 := ⟨f - 1, by omega⟩
    obtain rfl : y = len := by omega
    refine ⟨u, ?_, fun _ _ => rfl, fun _ _ => rfl, fun k _ _ => by omega⟩
    rw [F8_adds_L77, h3, if_pos (nI_le (by omega) (by omega))]
  | d + 1, y, f, u, h1, h2, h3 => by
    obtain ⟨f, rfl⟩ : ∃ m, f = m + 1 := ⟨f - 1, by omega⟩
    rw [F8_adds_L77, h3, if_neg (nI_ge (by omega) (by omega)), rd_n (by omega) (by omega), bS, h9, show (9 : Int32) + nI y = nI (9 + y) from nI_add 9 y, F8_setsCard_n hcm (by omega), bS, show nI y + 1 = nI (y + 1) from nI_add _ 1]
    obtain ⟨u2, k1, k2, k3, k4⟩ := addsL77 (a1 := a1) h9 hcm hlen d (y + 1) f (up u 1 (137 + 25 * cm + (9 + y)) (u 7 y)) (by omega) (by omega) (by rw [up_ne (by omega)]; exact h3)
    refine ⟨u2, k1, fun R hR => (k2 R hR).trans (up_or hR), fun i hi => ?_, fun k q1 q2 => ?_⟩
    · rw [k3 i (by omega), up_ne (by omega)]
    · by_cases e : k = y
      · subst e; rw [k3 _ (by omega), up_eq]
      · rw [k4 k (by omega) q2, up_or (by omega)]
theorem adds_F {r : RS} {l cm sz len : Nat} (hl : l < 6) (hcm : cm < 30) (hlen : len ≤ 16) (hsz : sz ≤ 30) (h9 : r 1 9 = nI cm) (hs : r 1 (113 + 4 * l + 1) = nI sz) (h19 : r 0 19 = nI len) : ∃ r2, F8_adds r (nI l) = some r2 ∧ (∀ R, R ≠ 1 → r2 R = r R) ∧ (∀ i, i ≠ 9 → i ≠ 114 + 4 * l → (i < 137 + 25 * cm ∨ 162 + 25 * cm ≤ i) → r2 1 i = r 1 i) ∧ r2 1 9 = nI (cm + 1) ∧ r2 1 (113 + 4 * l + 1) = nI (sz + 1) ∧ (∀ k, k < 9 → k ≠ 2 → r2 1 (137 + 25 * cm + k) = NC l sz k) ∧ r2 1 (137 + 25 * cm + 2) = nI len ∧ ∀ k, k < len → r2 1 (137 + 25 * cm + (9 + k)) = r 7 k := by
  unfold F8_adds
  rw [h9, show (0 : Int32) = nI 0 from rfl, show (1 : Int32) = nI 1 from rfl, show (2 : Int32) = nI 2 from rfl, show (4 : Int32) = nI 4 from rfl, show (7 : Int32) = nI 7 from rfl, show (113 : Int32) = nI 113 from rfl]
  rw [F8_setsCard_n hcm (by omega), bS, F8_ofLot_n hl (by omega), bS, up_ne (by omega), hs, F8_setsCard_n hcm (by omega), bS, up_ne (by omega), up_ne (by omega), h19, F8_setsCard_n hcm (by omega), bS]
  obtain ⟨u2, a1, a2, a3, a4⟩ := addsL39 (u0 := r) (a1 := nI l) h9 hcm 22 0 FUEL (up (up (up r 1 (137 + 25 * cm + 0) (nI l)) 1 (137 + 25 * cm + 1) (nI sz)) 1 (137 + 25 * cm + 2) (nI len)) (by omega) (by show 22 < 10000; omega)
  rw [a1, bS]
  dsimp only
  rw [F8_setsCard_n hcm (by omega), bS, F8_setsCard_n hcm (by omega), bS]
  obtain ⟨u3, b1, b2, b3, b4⟩ := addsL77 (u0 := r) (a1 := nI l) h9 hcm hlen len 0 FUEL (up (up u2 1 (137 + 25 * cm + 4) (-nI 1)) 1 (137 + 25 * cm + 7) (-nI 1)) (by omega) (by show len < 10000; omega) (by rw [up_ne (by omega), up_ne (by omega), a2 0 (by decide), up_ne (by omega), up_ne (by omega), up_ne (by omega)]; exact h19)
  rw [b1, bS]
  dsimp only
  rw [show (9 : Int32) = nI 9 from rfl, ws_n (by omega) (by omega), bS, nI_mul, nI_add, nI_add, rd_n (by omega) (by omega), bS, ws_n (by omega) (by omega), bS, up_ne (by omega)]
  have base : ∀ i, i ≠ 9 → i ≠ 114 + 4 * l → (i < 137 + 25 * cm ∨ 162 + 25 * cm ≤ i) → u3 1 i = r 1 i := fun i p q s => by
    rw [b3 i (by omega), up_ne (by omega), up_ne (by omega), a3 i (by omega), up_ne (by omega), up_ne (by omega), up_ne (by omega)]
  have e9 : u3 1 9 = nI cm := by
    rw [b3 9 (by omega), up_ne (by omega), up_ne (by omega), a3 9 (by omega), up_ne (by omega), up_ne (by omega), up_ne (by omega)]; exact h9
  have es : u3 1 (113 + 4 * l + 1) = nI sz := by
    rw [b3 _ (by omega), up_ne (by omega), up_ne (by omega), a3 _ (by omega), up_ne (by omega), up_ne (by omega), up_ne (by omega)]; exact hs
  rw [e9, es, nI_add, nI_add]
  refine ⟨_, rfl, fun R hR => ?_, fun i p q s => ?_, ?_, ?_, fun k p q => ?_, ?_, fun k hk => ?_⟩
  · rw [up_or hR, up_or hR, b2 R hR, up_or hR, up_or hR, a2 R hR, up_or hR, up_or hR, up_or hR]
  · rw [up_ne (by omega), up_ne (by omega)]; exact base i p q s
  · rw [up_ne (by omega), up_eq]
  · exact up_eq
  · rw [up_ne (by omega), up_ne (by omega), b3 _ (by omega)]
    unfold NC
    rcases (show k = 0 ∨ k = 1 ∨ k = 3 ∨ k = 4 ∨ k = 5 ∨ k = 6 ∨ k = 7 ∨ k = 8 by omega) with rfl | rfl | rfl | rfl | rfl | rfl | rfl | rfl
    · rw [up_ne (by omega), up_ne (by omega), a3 _ (by omega), up_ne (by omega), up_ne (by omega), up_eq]; rfl
    · rw [up_ne (by omega), up_ne (by omega), a3 _ (by omega), up_ne (by omega), up_eq]; rfl
    · rw [up_ne (by omega), up_ne (by omega), a4 3 (by omega) (by omega)]; rfl
    · rw [up_ne (by omega), up_eq]; rfl
    · rw [up_ne (by omega), up_ne (by omega), a4 5 (by omega) (by omega)]; rfl
    · rw [up_ne (by omega), up_ne (by omega), a4 6 (by omega) (by omega)]; rfl
    · rw [up_eq]; rfl
    · rw [up_ne (by omega), up_ne (by omega), a4 8 (by omega) (by omega)]; rfl
  · rw [up_ne (by omega), up_ne (by omega), b3 _ (by omega), up_ne (by omega), up_ne (by omega), a3 _ (by omega), up_eq]
  · rw [up_ne (by omega), up_ne (by omega), b4 k (by omega) hk, up_or (by omega), up_or (by omega), a2 7 (by omega), up_or (by omega), up_or (by omega), up_or (by omega)]
theorem adds_C {c : RS} {g : CG} {L l cm sz t : Nat} (hL : L < 12) (hl : l < 6) (hcm : cm < 30) (hsz : sz < 30) (h9 : c (10 + L) 9 = nI cm) (hs : c (10 + L) (113 + 4 * l + 1) = nI sz) : ∃ c2, C3_addCard g c L (nI l) (nI t) = some c2 ∧ (∀ R, R ≠ 10 + L → R ≠ 100 + 6 * L + l → R ≠ 400 + L → c2 R = c R) ∧ (∀ i, i ≠ 9 → i ≠ 114 + 4 * l → (i < 137 + 25 * cm ∨ 162 + 25 * cm ≤ i) → c2 (10 + L) i = c (10 + L) i) ∧ c2 (10 + L) 9 = nI (cm + 1) ∧ c2 (10 + L) (113 + 4 * l + 1) = nI (sz + 1) ∧ (∀ k, k < 9 → k ≠ 2 → c2 (10 + L) (137 + 25 * cm + k) = NC l sz k) ∧ c2 (10 + L) (137 + 25 * cm + 2) = nI t ∧ c2 (400 + L) 0 = c (400 + L) 0 + nI 1 ∧ (∀ a, a ≠ 0 → c2 (400 + L) a = c (400 + L) a) ∧ c2 (100 + 6 * L + l) sz = nI cm ∧ ∀ p, p ≠ sz → c2 (100 + 6 * L + l) p = c (100 + 6 * L + l) p := by
  unfold C3_addCard C1_begin
  simp only [pt_n, bS]
  rw [h9, if_neg (show ¬ (30 : Int32) ≤ nI cm from nI_ge (b := 30) hcm (by omega)), ix_n hcm (by omega), bS, ix_n hl (by omega), bS]
  simp only [bS]
  generalize hu : up (up (up (up (up (up (up (up (up c (10 + L) (137 + 25 * cm + 0) (nI l)) (10 + L) (137 + 25 * cm + 1) (c (10 + L) (113 + 4 * l + 1))) (10 + L) (137 + 25 * cm + 2) (nI t)) (10 + L) (137 + 25 * cm + 3) 0) (10 + L) (137 + 25 * cm + 4) (-1)) (10 + L) (137 + 25 * cm + 5) 0) (10 + L) (137 + 25 * cm + 6) 0) (10 + L) (137 + 25 * cm + 7) (-1)) (10 + L) (137 + 25 * cm + 8) 0 = u
  have ur : ∀ R, R ≠ 10 + L → u R = c R := fun R hR => by rw [← hu]; simp only [up_or hR]
  have ui : ∀ i, (i < 137 + 25 * cm ∨ 162 + 25 * cm ≤ i) → u (10 + L) i = c (10 + L) i := fun i hi => by rw [← hu]; simp (disch := omega) only [up_ne]
  have uk : ∀ k, k < 9 → k ≠ 2 → u (10 + L) (137 + 25 * cm + k) = NC l sz k := fun k p q => by
    rw [← hu, hs]
    unfold NC
    rcases (show k = 0 ∨ k = 1 ∨ k = 3 ∨ k = 4 ∨ k = 5 ∨ k = 6 ∨ k = 7 ∨ k = 8 by omega) with rfl | rfl | rfl | rfl | rfl | rfl | rfl | rfl <;> (simp (disch := omega) only [up_ne, up_eq]; rfl)
  have u2 : u (10 + L) (137 + 25 * cm + 2) = nI t := by rw [← hu]; simp (disch := omega) only [up_ne, up_eq]
  clear hu
  have us : u (10 + L) (113 + 4 * l + 1) = nI sz := by rw [ui _ (by omega)]; exact hs
  have u9 : u (10 + L) 9 = nI cm := by rw [ui _ (by omega)]; exact h9
  rw [us, u9, ws_n (by omega) (by omega), bS, up_ne (by omega), us, show nI sz + 1 = nI (sz + 1) from nI_add _ 1, show (0 : Int32) = nI 0 from rfl, ws_n (by omega) (by omega), bS, up_ne (by omega), up_ne (by omega), up_ne (by omega), up_ne (by omega), up_ne (by omega), u9, show nI cm + 1 = nI (cm + 1) from nI_add _ 1]
  refine ⟨_, rfl, fun R a b d => ?_, fun i p q s => ?_, ?_, ?_, fun k p q => ?_, ?_, ?_, fun a ha => ?_, ?_, fun p hp => ?_⟩
  · rw [up_or a, up_or d, up_or a, up_or b, ur R a]
  · rw [up_ne (by omega), up_ne (by omega), up_ne (by omega), up_ne (by omega)]; exact ui i s
  · exact up_eq
  · rw [up_ne (by omega), up_ne (by omega), up_eq]
  · rw [up_ne (by omega), up_ne (by omega), up_ne (by omega), up_ne (by omega)]; exact uk k p q
  · rw [up_ne (by omega), up_ne (by omega), up_ne (by omega), up_ne (by omega)]; exact u2
  · rw [up_ne (by omega), up_eq, ur _ (by omega)]; rfl
  · rw [up_ne (by omega), up_ne (by omega), up_ne (by omega), up_ne (by omega), ur _ (by omega)]
  · rw [up_ne (by omega), up_ne (by omega), up_ne (by omega), up_eq]
  · rw [up_ne (by omega), up_ne (by omega), up_ne (by omega), up_ne (by omega), ur _ (by omega)]
theorem add_ok {r c : RS} {g : CG} {L l sm lm cm B U t len : Nat} (hL : L < 12) (hq : QY c g L (r 1) sm lm cm B U) (hcm : cm < 30) (hl : l < lm) (hlen1 : 1 ≤ len) (hlen : len ≤ 16) (h19 : r 0 19 = nI len) (ht1 : 1 ≤ t) (ht2 : t ≤ g.nt) (hg : g.nt < 2 ^ 31) (ht0 : c (500 + t) 0 = nI len) (htk : ∀ k, k < len → c (500 + t) (1 + k) = r 7 k ∧ ∃ a, a < 26 ∧ r 7 k = nI a) : ∃ r2 c2, F8_adds r (nI l) = some r2 ∧ C3_addCard g c L (nI l) (nI t) = some c2 ∧ (∀ R, R ≠ 1 → r2 R = r R) ∧ (∀ R, ¬ OWN L R → c2 R = c R) ∧ QY c2 g L (r2 1) sm lm (cm + 1) B U ∧ r2 1 9 = nI (cm + 1) ∧ c2 (10 + L) 9 = nI (cm + 1) ∧ (∀ i, i ≠ 9 → i ≠ 114 + 4 * l → (i < 137 + 25 * cm ∨ 162 + 25 * cm ≤ i) → r2 1 i = r 1 i) := by
  have hsm := hq.a.sm6; have hlm := hq.a.lm6
  have hsz := cnt_le (n := cm) (p := loC (sC (c (10 + L))) l)
  have es : c (10 + L) (113 + 4 * l + 1) = nI (cnt cm (loC (sC (c (10 + L))) l)) := by
    rw [sL_r (v := c (10 + L)) (by omega) (by omega)]; exact hq.l.size l hl
  have esv : r 1 (113 + 4 * l + 1) = nI (cnt cm (loC (sC (c (10 + L))) l)) := by
    rw [sL_r (v := r 1) (by omega) (by omega), hq.l.eql l 1 hl (by omega)]; exact hq.l.size l hl
  obtain ⟨r2, a1, a2, a3, a4, a5, a6, a7, a8⟩ := adds_F (r := r) (l := l) (by omega) hcm hlen (by omega) hq.v9 esv h19
  obtain ⟨c2, b1, b2, b3, b4, b5, b6, b7, b8, b9, b10, b11⟩ := adds_C (c := c) (g := g) (L := L) (l := l) (t := t) hL (by omega) hcm (by omega) hq.n9 es
  have bx : ∀ t', c2 (500 + t') = c (500 + t') := fun t' => b2 _ (by omega) (by omega) (by omega)
  have key := QR.card (v2 := r2 1) (w2 := c2 (10 + L)) (iv2 := c2 (400 + L)) (bp2 := fun l => c2 (100 + 6 * L + l)) (tx2 := fun t => c2 (500 + t)) (nt2 := g.nt) (l := l) (t := t) (len := len) hq hcm hl hlen1 hlen a3 a4 a5 a6 a7 (fun k hk => by
    rw [a8 k hk]
    rw [bx t, (htk k hk).1]
    exact ⟨rfl, (htk k hk).2⟩) b3 b4 b5 b6 b7 b8 (fun a p q => b9 a (by omega)) b10 (fun l' p q z => by
    by_cases e : l' = l
    · subst e; exact b11 p (fun y => z ⟨rfl, y⟩)
    · rw [b2 _ (by omega) (by omega) (by omega)]) (Nat.le_refl _) (fun t' _ _ => bx t') ht1 ht2 (by omega) (by rw [bx t]; exact ht0)
  refine ⟨r2, c2, a1, b1, a2, fun R hR => b2 R (by unfold OWN at hR; omega) (by unfold OWN at hR; omega) (by unfold OWN at hR; omega), ?_, a4, b4, a3⟩
  exact key.congr (Nat.le_refl _) (fun l' h' => rfl) (fun l' h' => b2 _ (by omega) (by omega) (by omega)) (fun l' h' => b2 _ (by omega) (by omega) (by omega)) (fun t' _ _ => rfl)
