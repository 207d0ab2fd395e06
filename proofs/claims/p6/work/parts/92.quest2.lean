theorem still_T {r : RS} {g : CG} {sm lm cm n : Nat} {p : Int32} (hg : g.nt < 2 ^ 31) (hn : n ≤ 2000) : ∀ (d y fu B U : Nat) (v : Nat → Int32) (c : RS), y + d = n → d < fu → QY c g 1 v sm lm cm B U → B + d < 2000000000 → U + d < 2000000000 → STL c g 1 sm lm cm (c (10 + 1)) (c (400 + 1)) → ∃ v', F8_then_L15 p (nI n) fu (nI y) (setR r v) = some (nI n, setR r v') ∧ ∀ i, i < 17 → i ≠ 6 → i ≠ 11 → i ≠ 16 → v' i = v i := by
  intro d
  induction d with
  | zero =>
    intro y fu B U v c hy hfu h hB hU hs
    obtain ⟨fu, rfl⟩ : ∃ m, fu = m + 1 := ⟨fu - 1, by omega⟩
    obtain rfl : y = n := by omega
    rw [F8_then_L15, if_pos (nI_le (by omega) (by omega))]
    exact ⟨v, rfl, fun _ _ _ _ _ => rfl⟩
  | succ d ih =>
    intro y fu B U v c hy hfu h hB hU hs
    obtain ⟨fu, rfl⟩ : ∃ m, fu = m + 1 := ⟨fu - 1, by omega⟩
    obtain ⟨v1, c1, m, k1, k2, k3, k4, k5⟩ := tickY (r := r) (by omega : 1 < 12) hg h (by omega) (by omega)
    rcases k5 with ⟨k5, -⟩ | ⟨-, -, k6, k7⟩
    · exact absurd hs k5
    · obtain ⟨v2, j1, j2⟩ := ih (y + 1) fu (B + 1) (U + 1) v1 c1 (by omega) (by omega) k3 (by omega) (by omega) k7
      rw [F8_then_L15, if_neg (nI_ge (by omega) (by omega)), k1, bS]
      simp only [lit32]
      rw [nI_add]
      exact ⟨v2, j1, fun i a b d e => (j2 i a b d e).trans (k6.2.2.2.2.2.2.2.1 i a b d e)⟩
theorem then_L {r : RS} {g : CG} {sm lm cm n : Nat} {p : Int32} (hg : g.nt < 2 ^ 31) (hn : n ≤ 2000) : ∀ (d y fu fu2 B U : Nat) (v : Nat → Int32) (c : RS), y + d = n → d < fu → d < fu2 → QY c g 1 v sm lm cm B U → B + d < 2000000000 → U + d < 2000000000 → ∃ v' y2 y3 c', F8_then_L15 p (nI n) fu (nI y) (setR r v) = some (nI n, setR r v') ∧ C7_copyBehind_L10 (nI n) g fu2 (nI y) (nI 1) c = some (y2, y3, c') ∧ FRM c c' g ∧ v' 10 = c' (400 + 1) 3 ∧ v' 5 = c' (10 + 1) 5 := by
  intro d
  induction d with
  | zero =>
    intro y fu fu2 B U v c hy hfu hfu2 h hB hU
    obtain ⟨fu, rfl⟩ : ∃ m, fu = m + 1 := ⟨fu - 1, by omega⟩
    obtain ⟨fu2, rfl⟩ : ∃ m, fu2 = m + 1 := ⟨fu2 - 1, by omega⟩
    obtain rfl : y = n := by omega
    rw [F8_then_L15, C7_copyBehind_L10, if_pos (nI_le (by omega) (by omega)), if_pos (nI_le (by omega) (by omega))]
    exact ⟨v, _, _, c, rfl, rfl, ⟨fun _ _ => rfl, h.tir⟩, by rw [sA_r (v := v) (by omega), h.n.nl], QR.ra h (by omega) (by omega) (by omega)⟩
  | succ d ih =>
    intro y fu fu2 B U v c hy hfu hfu2 h hB hU
    obtain ⟨fu, rfl⟩ : ∃ m, fu = m + 1 := ⟨fu - 1, by omega⟩
    obtain ⟨fu2, rfl⟩ : ∃ m, fu2 = m + 1 := ⟨fu2 - 1, by omega⟩
    obtain ⟨v1, c1, m, k1, k2, k3, k4, k5⟩ := tickY (r := r) (by omega : 1 < 12) hg h (by omega) (by omega)
    rw [F8_then_L15, C7_copyBehind_L10, if_neg (nI_ge (by omega) (by omega)), if_neg (nI_ge (by omega) (by omega)), k1, bS]
    simp only [lit32]
    rw [if_neg nz0, k2, bS, nI_add]
    dsimp only
    rcases k5 with ⟨-, rfl⟩ | ⟨-, rfl, k6, k7⟩
    · obtain ⟨v2, y2, y3, c2, j1, j2, j3, j4, j5⟩ := ih (y + 1) fu fu2 (B + 1) (U + 1) v1 c1 (by omega) (by omega) (by omega) k3 (by omega) (by omega)
      exact ⟨v2, y2, y3, c2, j1, j2, ⟨fun R hR => (j3.1 R hR).trans (k4 R hR), j3.2⟩, j4, j5⟩
    · obtain ⟨v2, j1, j2⟩ := still_T (r := r) (p := p) hg hn d (y + 1) fu (B + 1) (U + 1) v1 c1 (by omega) (by omega) k3 (by omega) (by omega) k7
      obtain ⟨fu2, rfl⟩ : ∃ m, fu2 = m + 1 := ⟨fu2 - 1, by omega⟩
      have hC : ∃ y2 y3, C7_copyBehind_L10 (nI n) g (fu2 + 1) (nI (y + 1)) (nI 0) c1 = some (y2, y3, c1) := by
        rw [C7_copyBehind_L10]
        simp only [lit32]
        by_cases q : nI n ≤ nI (y + 1)
        · rw [if_pos q]; exact ⟨_, _, rfl⟩
        · rw [if_neg q, if_pos trivial]; exact ⟨_, _, rfl⟩
      obtain ⟨y2, y3, hC⟩ := hC
      refine ⟨v2, y2, y3, c1, j1, hC, ⟨k4, k3.tir⟩, ?_, ?_⟩
      · rw [j2 10 (by omega) (by omega) (by omega) (by omega), sA_r (v := v1) (by omega), k3.n.nl]
      · rw [j2 5 (by omega) (by omega) (by omega) (by omega)]; exact QR.ra k3 (by omega) (by omega) (by omega)
theorem then_ok {r c : RS} {g : CG} {B T sm lm cm n p : Nat} (h : GI r c g B T) (h0 : QY c g 0 (r 1) sm lm cm B B) (hT : T < 2 ^ 31) (hB : B + 2001 < 2000000000) (hn : n ≤ 2000) (hp : p = 10 ∨ p = 5) :
    ∃ x r2 c2, F8_then r (nI p) (nI n) = some (x, r2) ∧ C7_copyBehind g c (nI n) = some c2 ∧ PRr r r2 ∧ PRc c c2 g ∧ (p = 10 → x = c2 (400 + 1) 3) ∧ (p = 5 → x = c2 (10 + 1) 5) := by
  have hg : g.nt < 2 ^ 31 := Nat.lt_of_le_of_lt h.n hT
  obtain ⟨c1, k1, k2, k3⟩ := copyL h h0
  have e1 : cpA r 1 0 2 0 = setR (cpA r 1 0 2 0) (r 1) := by
    have : (cpA r 1 0 2 0) 1 = r 1 := cpA_o (by decide)
    rw [← this]; exact setR_self
  obtain ⟨v', y2, y3, c2, j1, j2, j3, j4, j5⟩ := then_L (r := cpA r 1 0 2 0) (p := nI p) hg hn n 0 FUEL FUEL B B (r 1) c1 (by omega) (by show n < 10000; omega) (by show n < 10000; omega) k3 (by omega) (by omega)
  refine ⟨v' p, _, c2, ?_, ?_, back_r (v' := v'), ⟨fun R a b => (j3.1 R a).trans (k2 R a), j3.2⟩, fun e => by rw [e]; exact j4, fun e => by rw [e]; exact j5⟩
  · unfold F8_then
    simp only [lit32]
    rw [cp_1_2 (by omega) (by omega), bS]
    rw [← e1] at j1
    rw [j1, bS]
    dsimp only
    rw [rd_n (by omega) (by omega), bS, cp_2_1 (by omega) (by omega), bS, setR_1]
  · unfold C7_copyBehind
    simp only [lit32]
    rw [k1, bS, j2, bS]
theorem a_leftIn {r c : RS} {g : CG} {B T : Nat} {a : Int32} (h : GI r c g B T) (hT : T < 2 ^ 31) (hB : B + 2001 < 2000000000) : CT (F8_leftIn r a) (C7_leftIn g c a) r g 1 B T := by
  obtain ⟨sm, lm, cm, h0⟩ := h.l
  unfold F8_leftIn C7_leftIn
  simp only [lit32]
  rcases argR (a := a) (lo := 1) (hi := 2000) (by omega) (by omega) (l := 1) (h := 2000) rfl rfl with ⟨k, k1, k2, rfl, k3, k4⟩ | ⟨k3, k4, k5⟩
  · have h1 : QY c g 0 (th r 0 1) sm lm cm B B := by rw [th_o (by decide)]; exact h0
    obtain ⟨x, r2, c2, j1, j2, j3, j4, j5, -⟩ := then_ok (p := 10) (n := k) (h.thr (k := 0)) h1 hT hB k2 (Or.inl rfl)
    rw [k3, k4, isThrown_1, bS, bS, trR]
    simp only [if_true]
    rw [j1, bS, bS, j2, bS, ← j5 rfl]
    exact Or.inl ⟨x, r2, c2, rfl, rfl, h.thr.pred j3 j4, j3.t⟩
  · rw [k3, k4, isThrown_0, bS, bS, trL]
    refine Or.inr ⟨1, by omega, by omega, ?_, rfl⟩
    simp only [nz0, if_false, bS]
theorem a_blanksIn {r c : RS} {g : CG} {B T : Nat} {a : Int32} (h : GI r c g B T) (hT : T < 2 ^ 31) (hB : B + 2001 < 2000000000) : CT (F8_blanksIn r a) (C7_blanksIn g c a) r g 1 B T := by
  obtain ⟨sm, lm, cm, h0⟩ := h.l
  unfold F8_blanksIn C7_blanksIn
  simp only [lit32]
  rcases argR (a := a) (lo := 1) (hi := 2000) (by omega) (by omega) (l := 1) (h := 2000) rfl rfl with ⟨k, k1, k2, rfl, k3, k4⟩ | ⟨k3, k4, k5⟩
  · have h1 : QY c g 0 (th r 0 1) sm lm cm B B := by rw [th_o (by decide)]; exact h0
    obtain ⟨x, r2, c2, j1, j2, j3, j4, -, j5⟩ := then_ok (p := 5) (n := k) (h.thr (k := 0)) h1 hT hB k2 (Or.inr rfl)
    rw [k3, k4, isThrown_1, bS, bS, trR]
    simp only [if_true]
    rw [j1, bS, bS, j2, bS, ← j5 rfl]
    exact Or.inl ⟨x, r2, c2, rfl, rfl, h.thr.pred j3 j4, j3.t⟩
  · rw [k3, k4, isThrown_0, bS, bS, trL]
    refine Or.inr ⟨1, by omega, by omega, ?_, rfl⟩
    simp only [nz0, if_false, bS]
theorem best_num {least k : Nat} (h : least ≤ 2001) (hk : k ≤ 2000) : (nI least ≤ nI k ↔ least ≤ k) := by
  constructor
  · intro q
    by_cases e : least ≤ k
    · exact e
    · exact absurd q (nI_ge (by omega) (by omega))
  · intro q; exact nI_le q (by omega)
theorem try_1 {r c : RS} {g : CG} {B sm lm cm a1 least : Nat} {a2 : Int32} {v : Nat → Int32} {hap : RS → Option Int32} (hg : g.nt < 2 ^ 31) (hB : B + 2001 < 2000000000) (h3 : a1 ≠ 3) (h10 : a1 < 10) (hl : 1 ≤ least) (hl2 : least ≤ 2001) (hm : MET (fun u => F8_isMet u (nI a1) a2 (nI 0)) hap r g sm lm cm) (hs : MSM (fun u => F8_isMet u (nI a1) a2 (nI 0)) r g sm lm cm) (h : QY c g 1 v sm lm cm B B) :
    ∃ x v' y c2, F8_goes (setR r v) (nI a1) a2 = some (x, setR r v') ∧ gUn hap 1 (nI (least - 1)) g FUEL (nI 0) c = some (.inl (y, c2)) ∧ FRM c c2 g ∧ ((y = m1 ∧ (x = m1 ∨ ∃ k, k ≤ 2000 ∧ x = nI k ∧ least ≤ k)) ∨ ∃ k, k ≤ 2000 ∧ x = nI k ∧ y = nI k ∧ k < least) := by
  obtain ⟨x, v', y, c2, j1, j2, j3, j4⟩ := goes_ok (r := r) (a1 := a1) (a2 := a2) (lim := least - 1) hg (by omega) hB (no3 h3 h10) hm hs h
  refine ⟨x, v', y, c2, j1, j2, j3, ?_⟩
  rcases j4 with ⟨a, b⟩ | ⟨k, a, b, d⟩
  · exact Or.inl ⟨b, Or.inl a⟩
  · by_cases q : k ≤ least - 1
    · rw [if_pos q] at d
      exact Or.inr ⟨k, a, b, d, by omega⟩
    · rw [if_neg q] at d
      exact Or.inl ⟨d, Or.inr ⟨k, a, b, by omega⟩⟩
theorem best_row {u r : RS} {v' : Nat → Int32} (h : ∀ j, j < 1037 → u 2 j = r 1 j) (hR : ∀ R, R ≠ 1 → R ≠ 2 → u R = r R) : (∀ R, R ≠ 1 → R ≠ 2 → cpA (setR u v') 2 0 1 0 R = r R) ∧ (∀ j, j < 1037 → cpA (setR u v') 2 0 1 0 2 j = r 1 j) ∧ (∀ j, j < 1037 → cpA (setR u v') 2 0 1 0 1 j = r 1 j) := by
  refine ⟨fun R a b => by rw [cpA_o a, setR_o a, hR R a b], fun j hj => by rw [cpA_o (by decide), setR_o (by decide), h j hj], fun j hj => ?_⟩
  have h1 := cpA_n (u := setR u v') (A := 2) (i := 0) (B := 1) (k := 0) hj
  simp only [Nat.mul_zero, Nat.zero_add] at h1
  rw [h1, setR_o (by decide), h j hj]
theorem bestRank_F {r : RS} {p l hi : Nat} {a1 : Int32} {a2 : Int32} : ∀ (d v0 fu : Nat) (best : Int32) (u : RS), v0 + d = hi + 1 → l ≤ v0 → d < fu → hi < 100 → p < 1037 → (∀ j, j < 1037 → u 2 j = r 1 j) → (∀ R, R ≠ 1 → R ≠ 2 → u R = r R) → (∀ x : Nat, ∀ u' : RS, (∀ j, j < 1037 → u' 2 j = r 1 j) → (∀ R, R ≠ 1 → R ≠ 2 → u' R = r R) → (∀ j, j < 1037 → u' 1 j = r 1 j) → l ≤ x → x ≤ hi → ∃ k v', F8_goes (setR u' (upd (u' 1) p (nI x))) a1 a2 = some (k, setR u' v') ∧ (k = m1 ∨ ∃ q, q ≤ 2000 ∧ k = nI q)) → (∀ j, j < 1037 → u 1 j = r 1 j) → ∃ b2 u2 z, F8_bestOf_L24 (nI p) (nI l) (nI hi) a1 a2 fu (nI v0) (nI 0) best u = some (z, nI 0, best, u2) ∧ (∀ R, R ≠ 1 → R ≠ 2 → u2 R = r R) ∧ (∀ j, j < 1037 → u2 1 j = r 1 j) ∧ b2 = best := by
  intro d
  induction d with
  | zero =>
    intro v0 fu best u hy hlo hfu hh hp h2 hR hg h1
    obtain ⟨fu, rfl⟩ : ∃ m, fu = m + 1 := ⟨fu - 1, by omega⟩
    rw [F8_bestOf_L24, if_pos (nI_lt (by omega) (by omega))]
    exact ⟨best, u, _, rfl, hR, h1, rfl⟩
  | succ d ih =>
    intro v0 fu best u hy hlo hfu hh hp h2 hR hg h1
    obtain ⟨fu, rfl⟩ : ∃ m, fu = m + 1 := ⟨fu - 1, by omega⟩
    obtain ⟨k, v', k1, k2⟩ := hg v0 u h2 hR h1 hlo (by omega)
    obtain ⟨b1, b2, b3⟩ := best_row (v' := v') h2 hR
    obtain ⟨b, u2, z, j1, j2, j3, j4⟩ := ih (v0 + 1) fu best _ (by omega) (by omega) (by omega) hh hp b2 b1 hg b3
    refine ⟨b, u2, z, ?_, j2, j3, j4⟩
    have e : ws u 1 1037 (nI p) (nI v0) = some (setR u (upd (u 1) p (nI v0))) := by rw [ws_n hp (by omega), up1]
    rw [F8_bestOf_L24, if_neg (nI_nlt (by omega) (by omega)), e, bS, k1, bS]
    simp only [lit32, neg1]
    rcases k2 with rfl | ⟨q, q1, rfl⟩
    · rw [if_pos rfl, bS, cp_2_1 (by omega) (by omega), bS, nI_add]; exact j1
    · rw [if_neg (m1_ne (by omega)), if_pos (nI_le (Nat.zero_le _) (by omega)), bS, cp_2_1 (by omega) (by omega), bS, nI_add]; exact j1
