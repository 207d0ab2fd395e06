theorem FW1.one {w' w : RS} (h : FW1 w' w) : XW w' w := h.x
theorem stat2 {b : Nat → Int32} {n i s ty sm lm cm B : Nat} {g : CG} {u w : RS} (hb : BB b n) (h : OKs b n i u w) (h1i : 1 ≤ i) (hd : DR u w g sm lm cm B) (h14 : w 0 14 = nI s) (hs : s ≤ 600) (hty : ty < 4) (hg : g.nt < 1000000) : ∃ g' u' w', C5_readStation g u 1 (nI ty) (nI s) = some (g', u') ∧ F8_stationPart w (nI ty) = some w' ∧ OUT b n B i g u w g' u' w' := by
  have hq := hd.1
  have hsm := hq.a.sm6
  unfold C5_readStation F8_stationPart
  rw [hq.n7, hq.v7]
  by_cases c : sm < 6
  · rw [if_pos (show nI sm < (6 : Int32) from nI_lt (b := 6) c (by omega)), if_neg (show ¬ nI sm = (6 : Int32) from nI_ne (b := 6) (by omega) (by omega) (by omega)), bS, many0, bS, if_pos h.w0, hq.v7]
    rw [show F8_sets w (nI sm) (0 : Int32) (nI ty) = some (up w 1 (17 + 16 * sm + 0) (nI ty)) from F8_sets_n (k := 0) c (by omega), bS]
    obtain ⟨P, hP, hP1, hP2, hP3⟩ : ∃ P, P ≤ 99 ∧ C7_mostPace (nI ty) = some (nI P) ∧ F8_mostPace (nI ty) = some (nI P) ∧ (nI P).toInt = P := by
      by_cases z : ty = 3
      · refine ⟨9, by omega, ?_, ?_, by decide⟩
        · unfold C7_mostPace; rw [z, if_pos (show nI 3 = (3 : Int32) from rfl)]; rfl
        · unfold F8_mostPace; rw [z, if_pos (show nI 3 = (3 : Int32) from rfl)]; rfl
      · refine ⟨99, by omega, ?_, ?_, by decide⟩
        · unfold C7_mostPace; rw [if_neg (show ¬ nI ty = (3 : Int32) from nI_ne (b := 3) z (by omega) (by omega))]; rfl
        · unfold F8_mostPace; rw [if_neg (show ¬ nI ty = (3 : Int32) from nI_ne (b := 3) z (by omega) (by omega))]; rfl
    rw [hP1, hP2, bS, bS]
    obtain ⟨e8, he8, hE8⟩ : ∃ x, x = (if ty = 3 then nI 0 else m1) ∧ (if nI ty = (3 : Int32) then (some (0 : Int32)) else (some (-1 : Int32)) : Option Int32) = some x := by
      by_cases z : ty = 3
      · exact ⟨nI 0, by rw [if_pos z], by rw [z, if_pos (show nI 3 = (3 : Int32) from rfl)]; rfl⟩
      · exact ⟨m1, by rw [if_neg z], by rw [if_neg (show ¬ nI ty = (3 : Int32) from nI_ne (b := 3) z (by omega) (by omega))]; rfl⟩
    rw [hE8]
    obtain ⟨u1, w1, y, x, e1, e2, e3, e4, e5⟩ := num2 (g := g) (lo := 1) (a2 := nI P) hb (h.w1 (i := 17 + 16 * sm + 0) (x := nI ty)) (by omega) (by omega)
    rw [show (1 : Int32) = nI 1 from rfl, e1, e2, bS, bS]
    dsimp only
    rw [F8_sets_n c (by omega), bS, show F8_sets (up w1 1 (17 + 16 * sm + 1) x) (nI sm) (2 : Int32) (-nI 1) = some (up (up w1 1 (17 + 16 * sm + 1) x) 1 (17 + 16 * sm + 2) (-nI 1)) from F8_sets_n (k := 2) c (by omega), bS, bS, show F8_sets (up (up w1 1 (17 + 16 * sm + 1) x) 1 (17 + 16 * sm + 2) (-nI 1)) (nI sm) (8 : Int32) e8 = some (up (up (up w1 1 (17 + 16 * sm + 1) x) 1 (17 + 16 * sm + 2) (-nI 1)) 1 (17 + 16 * sm + 8) e8) from F8_sets_n (k := 8) c (by omega), bS]
    have hTI1 := TI_fc hd.2.2.2.2 e3
    have fw1 : FW1 (up (up (up w1 1 (17 + 16 * sm + 1) x) 1 (17 + 16 * sm + 2) (-nI 1)) 1 (17 + 16 * sm + 8) e8) w := FW1.up.trans (FW1.up.trans (FW1.up.trans (e4.w1.trans FW1.up)))
    rcases e5 with ⟨i1, V, q1, q2, rfl, rfl, q5, q6⟩ | ⟨q1, q2⟩
    · rcases scr2 (g := g) (st := sm) hb ((q2.w1 (i := 17 + 16 * sm + 1) (x := nI V)).w1 (i := 17 + 16 * sm + 2) (x := -nI 1) |>.w1 (i := 17 + 16 * sm + 8) (x := e8)) (by omega) c hg hTI1 with ⟨i2, len, m, u2, u3, w2, k1, k2, k3, k4, k5, k6, k7, k8, k9, k10⟩ | ⟨u2, w2, k1, k2, k3, k4, k5⟩
      · rw [k1, k2, bS, bS, k4.fine, bS, if_neg (show ¬ nI 1 = (0 : Int32) from nz0)]
        have r1 : ∀ j, j ≠ 7 → (j < 17 + 16 * sm ∨ 33 + 16 * sm ≤ j) → w2 1 j = w 1 j := fun j p q => by
          rw [k7.1 1 (by decide), up_ne (by omega), up_ne (by omega), up_ne (by omega), e4.1 1 (by decide), up_ne (by omega)]
        have r7 : w2 1 7 = nI sm := by
          rw [k7.1 1 (by decide), up_ne (by omega), up_ne (by omega), up_ne (by omega), e4.1 1 (by decide), up_ne (by omega)]; exact hq.v7
        have rk : ∀ k, k < 16 → k ≠ 0 → k ≠ 1 → k ≠ 2 → k ≠ 8 → w2 1 (17 + 16 * sm + k) = w 1 (17 + 16 * sm + k) := fun k p a0 a1 a2 a8 => by
          rw [k7.1 1 (by decide), up_ne (by omega), up_ne (by omega), up_ne (by omega), e4.1 1 (by decide), up_ne (by omega)]
        have rk0 : w2 1 (17 + 16 * sm + 0) = nI ty := by
          rw [k7.1 1 (by decide), up_ne (by omega), up_ne (by omega), up_ne (by omega), e4.1 1 (by decide), up_eq]
        have rk1 : w2 1 (17 + 16 * sm + 1) = nI V := by
          rw [k7.1 1 (by decide), up_ne (by omega), up_ne (by omega), up_eq]
        have rk2 : w2 1 (17 + 16 * sm + 2) = m1 := by
          rw [k7.1 1 (by decide), up_ne (by omega), up_eq]; rfl
        have rk8 : w2 1 (17 + 16 * sm + 8) = e8 := by rw [k7.1 1 (by decide), up_eq]
        have c0 : ∀ R, R ≠ 0 → R ≠ 500 + (g.nt + 1) → u3 R = u R := fun R a b => (k6.2.2 R b).trans ((k5.1 R a).trans (e3.1 R a))
        have c7 : u3 (10 + 1) 7 = nI sm := by rw [c0 _ (by omega) (by omega)]; exact hq.n7
        unfold C3_addStation C6_begin
        simp only [pt_n, bS]
        rw [c7, if_neg (show ¬ (6 : Int32) ≤ nI sm from nI_ge (b := 6) c (by omega)), ix_n c (by omega)]
        rw [show (7 : Int32) = nI 7 from rfl, ws_n (by omega) (by omega)]
        simp only [bS]
        generalize hU : up (up (up (up (up (up (up (up (up (up (up (up (up (up (up u3 (10 + 1) (17 + 16 * sm + 0) (nI ty)) (10 + 1) (17 + 16 * sm + 1) (nI V)) (10 + 1) (17 + 16 * sm + 14) (nI (g.nt + 1))) (10 + 1) (17 + 16 * sm + 2) (-1)) (10 + 1) (17 + 16 * sm + 3) 0) (10 + 1) (17 + 16 * sm + 4) 0) (10 + 1) (17 + 16 * sm + 13) 0) (10 + 1) (17 + 16 * sm + 5) 0) (10 + 1) (17 + 16 * sm + 6) 0) (10 + 1) (17 + 16 * sm + 7) 0) (10 + 1) (17 + 16 * sm + 8) 0) (10 + 1) (17 + 16 * sm + 9) 0) (10 + 1) (17 + 16 * sm + 10) 0) (10 + 1) (17 + 16 * sm + 11) 0) (10 + 1) (17 + 16 * sm + 12) 0 = U
        have ur : ∀ R, R ≠ 10 + 1 → U R = u3 R := fun R hR => by rw [← hU]; simp only [up_or hR]
        have ui : ∀ j, (j < 17 + 16 * sm ∨ 33 + 16 * sm ≤ j) → U (10 + 1) j = u3 (10 + 1) j := fun j p => by rw [← hU]; simp (disch := omega) only [up_ne]
        have y0 : U (10 + 1) (17 + 16 * sm + 0) = nI ty := by rw [← hU]; simp (disch := omega) only [up_ne, up_eq]
        have y1 : U (10 + 1) (17 + 16 * sm + 1) = nI V := by rw [← hU]; simp (disch := omega) only [up_ne, up_eq]
        have y2 : U (10 + 1) (17 + 16 * sm + 2) = m1 := by rw [← hU]; simp (disch := omega) only [up_ne, up_eq]; rfl
        have y14 : U (10 + 1) (17 + 16 * sm + 14) = nI (g.nt + 1) := by rw [← hU]; simp (disch := omega) only [up_ne, up_eq]
        have yk : ∀ k, 3 ≤ k → k < 14 → U (10 + 1) (17 + 16 * sm + k) = nI 0 := fun k p q => by
          rw [← hU]
          rcases (show k = 3 ∨ k = 4 ∨ k = 5 ∨ k = 6 ∨ k = 7 ∨ k = 8 ∨ k = 9 ∨ k = 10 ∨ k = 11 ∨ k = 12 ∨ k = 13 by omega) with rfl | rfl | rfl | rfl | rfl | rfl | rfl | rfl | rfl | rfl | rfl <;> (simp (disch := omega) only [up_ne, up_eq]; rfl)
        clear hU
        have e7c : U (10 + 1) 7 + 1 = nI (sm + 1) := by rw [ui 7 (by omega), c7]; exact nI_add sm 1
        have e7r : up (up w2 1 (17 + 16 * sm + 14) (nI len)) 1 (17 + 16 * sm + 15) (nI m) 1 7 + nI 1 = nI (sm + 1) := by rw [up_ne (by omega), up_ne (by omega), r7]; exact nI_add sm 1
        have hV : V ≤ 99 := by rw [hP3] at q6; omega
        have hqn := QR.stat (v := w 1) (w := u (10 + 1)) (v2 := up (up (up w2 1 (17 + 16 * sm + 14) (nI len)) 1 (17 + 16 * sm + 15) (nI m)) 1 7 (up (up w2 1 (17 + 16 * sm + 14) (nI len)) 1 (17 + 16 * sm + 15) (nI m) 1 7 + nI 1) 1) (w2 := up U (10 + 1) 7 (U (10 + 1) 7 + 1) (10 + 1)) (ty := ty) (p := V) (t := g.nt + 1) (len := len) (m := nI m) (nt2 := g.nt + 1) (tx2 := fun t => u3 (500 + t)) hq c hty q5 hV
          (fun j p q => by rw [up_ne (by omega), up_ne (by omega), up_ne (by omega)]; exact r1 j p q) (by rw [up_eq]; exact e7r) (by rw [up_ne (by omega), up_ne (by omega), up_ne (by omega)]; exact rk0) (by rw [up_ne (by omega), up_ne (by omega), up_ne (by omega)]; exact rk1) (by rw [up_ne (by omega), up_ne (by omega), up_ne (by omega)]; exact rk2) (fun k p q z => by rw [up_ne (by omega), up_ne (by omega), up_ne (by omega), rk k (by omega) (by omega) (by omega) (by omega) z]; exact hd.2.1 sm k (Nat.le_refl _) c p q z) (by rw [up_ne (by omega), up_ne (by omega), up_ne (by omega), rk8]; exact he8) (by rw [up_ne (by omega), up_ne (by omega), up_eq]) (by rw [up_ne (by omega), up_eq])
          (fun j p q => by rw [up_ne (by omega), ui j q, c0 _ (by omega) (by omega)]) (by rw [up_eq]; exact e7c) (by rw [up_ne (by omega)]; exact y0) (by rw [up_ne (by omega)]; exact y1) (by rw [up_ne (by omega)]; exact y2) (fun k p q => by rw [up_ne (by omega)]; exact yk k p q) (by rw [up_ne (by omega)]; exact y14)
          (Nat.le_succ _) (fun t' z1 z2 => c0 _ (by omega) (by omega)) (by omega) (Nat.le_refl _) (by omega) k8 k9 k6.1 k10
        refine ⟨_, _, _, rfl, rfl, ?_, (FW1.up.trans (FW1.up.trans (FW1.up.trans (k7.w1.trans fw1)))).x, rfl, Nat.le_succ _, Nat.le_refl _, Or.inl ⟨i2, sm + 1, lm, cm, by omega, ?_, ?_, ?_, ?_, ?_, ?_⟩⟩
        · refine ⟨fun R p _ _ _ s z => ?_, fun j p q s _ _ => ?_, ?_⟩
          · have : R ≠ 10 + 1 := fun z => s (Or.inl z)
            rw [up_or this, ur R this]; exact c0 R p (by omega)
          · rw [up_ne (by omega), ur 0 (by omega), k6.2.2 0 (by omega), k5.2 j p q s]; exact e3.2 j p q s
          · rw [up_ne (by omega), ur 5 (by omega), c0 5 (by omega) (by omega)]
        · obtain ⟨z1, z2, z3, z4, z5, z6, z7⟩ := k4.w1 (i := 7) (x := up (up w2 1 (17 + 16 * sm + 14) (nI len)) 1 (17 + 16 * sm + 15) (nI m) 1 7 + nI 1)
          have ee0 : up U (10 + 1) 7 (U (10 + 1) 7 + 1) 0 = u3 0 := by rw [up_or (by omega), ur 0 (by omega)]
          have ee3 : up U (10 + 1) 7 (U (10 + 1) 7 + 1) 3 = u3 3 := by rw [up_or (by omega), ur 3 (by omega)]
          exact ⟨⟨by rw [ee0]; exact z1.1, fun k hk => by rw [ee3]; exact z1.2 k hk⟩, z2, z3, by rw [ee0]; exact z4, z5, by rw [ee0]; exact z6, z7⟩
        · have e400 : up U (10 + 1) 7 (U (10 + 1) 7 + 1) (400 + 1) = u (400 + 1) := by rw [up_or (by omega), ur _ (by omega), c0 _ (by omega) (by omega)]
          unfold QY
          rw [e400]
          exact hqn.congr (Nat.le_refl _) (fun l hl => by rw [up_or (by omega), ur _ (by omega), c0 _ (by omega) (by omega)]) (fun l hl => by rw [up_or (by omega), ur _ (by omega), c0 _ (by omega) (by omega)]) (fun l hl => by rw [up_or (by omega), ur _ (by omega), c0 _ (by omega) (by omega)]) (fun t _ _ => by rw [up_or (by omega), ur _ (by omega)])
        · intro s k p q r s' t
          rw [up_ne (by omega), up_ne (by omega), up_ne (by omega), r1 _ (by omega) (by omega)]; exact hd.2.1 s k (by omega) q r s' t
        · intro l k p q r s'
          rw [up_ne (by omega), up_ne (by omega), up_ne (by omega), r1 _ (by omega) (by omega)]; exact hd.2.2.1 l k p q r s'
        · rw [up_ne (by omega), ui 6 (by omega), c0 _ (by omega) (by omega)]; exact hd.2.2.2.1
        · intro L hL
          have gn : (ga g).nt = g.nt + 1 := rfl
          rw [gn]
          by_cases e : L = 1
          · subst e
            refine ⟨fun s hs => ?_, fun q hq => ?_⟩
            · by_cases es : s = sm
              · subst es; rw [up_ne (by omega), y14, nI_clamp (by omega)]; exact Nat.le_refl _
              · rw [up_ne (by omega), ui _ (by omega), c0 _ (by omega) (by omega)]; exact Nat.le_succ_of_le ((hd.2.2.2.2 1 hL).1 s hs)
            · rw [up_ne (by omega), ui _ (by omega), c0 _ (by omega) (by omega)]; exact Nat.le_succ_of_le ((hd.2.2.2.2 1 hL).2 q hq)
          · rw [up_or (by omega), ur _ (by omega), c0 _ (by omega) (by omega)]
            exact ⟨fun s hs => Nat.le_succ_of_le ((hd.2.2.2.2 L hL).1 s hs), fun q hq => Nat.le_succ_of_le ((hd.2.2.2.2 L hL).2 q hq)⟩
      · rw [k1, k2, bS, bS, k5.fine, bS, if_pos (show nI 0 = (0 : Int32) from rfl), bS, show (7 : Int32) = nI 7 from rfl, ws_n (by omega) (by omega), bS]
        exact ⟨g, u2, _, rfl, rfl, OUT.err (k3.trans e3) ((FW1.up.trans k4).trans fw1).x k5.w1 hd.2.2.2.2⟩
    · obtain ⟨u2, k1, k2, k3, k4⟩ := scrE (st := sm) (g := g) hb ((q1.w1 (i := 17 + 16 * sm + 1) (x := x)).w1 (i := 17 + 16 * sm + 2) (x := -nI 1) |>.w1 (i := 17 + 16 * sm + 8) (x := e8))
      rw [k1, k2, bS, bS, k4.fine, bS, if_pos (show nI 0 = (0 : Int32) from rfl), bS, show (7 : Int32) = nI 7 from rfl, ws_n (by omega) (by omega), bS]
      exact ⟨g, u2, _, rfl, rfl, OUT.err (k3.trans e3) (FW1.up.trans fw1).x k4.w1 hd.2.2.2.2⟩
  · obtain ⟨u', w', e1, e2, e3, e4, e5⟩ := many1 (g := g) h h14 hs
    obtain ⟨x, y⟩ := e3.ne
    have hl : sm = 6 := by omega
    rw [hl, if_neg (show ¬ nI 6 < (6 : Int32) by decide), if_pos (show nI 6 = (6 : Int32) from rfl), e1, bS, bS, e2, bS, if_neg x]
    exact ⟨g, u', w', rfl, rfl, OUT.err e4 e5.w1.x e3 hd.2.2.2.2⟩
