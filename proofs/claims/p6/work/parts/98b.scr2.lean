theorem TI_fc {g : CG} {u u' : RS} (h : TI g u) (f : FC u' u) : TI g u' := fun L hL => by
  rw [f.1 _ (by omega)]; exact h L hL
noncomputable def FW1 (w' w : RS) : Prop := (∀ R, R ≠ 0 → R ≠ 1 → w' R = w R) ∧ ∀ i, i ≠ 9 → i ≠ 10 → i ≠ 11 → i ≠ 12 → w' 0 i = w 0 i
theorem FW.w1 {w' w : RS} (h : FW w' w) : FW1 w' w := ⟨fun R a _ => h.1 R a, h.2⟩
theorem FW1.trans {a b c : RS} (h : FW1 a b) (h2 : FW1 b c) : FW1 a c := ⟨fun R q r => (h.1 R q r).trans (h2.1 R q r), fun i o p q r => (h.2 i o p q r).trans (h2.2 i o p q r)⟩
theorem FW1.up {u : RS} {i : Nat} {x : Int32} : FW1 (up u 1 i x) u := ⟨fun R _ r => up_or r, fun j a b c d => up_ne (by omega)⟩
theorem TW.fr1 {b : Nat → Int32} {n : Nat} {u u' : RS} (h : TW b n u) (f : FW1 u' u) : TW b n u' := ⟨(f.2 8 (by decide) (by decide) (by decide) (by decide)).trans h.1, fun k q => by rw [f.1 6 (by decide) (by decide)]; exact h.2 k q⟩
theorem ERs.w1 {b : Nat → Int32} {n i : Nat} {u w : RS} {x : Int32} (h : ERs b n u w) : ERs b n u (up w 1 i x) := by
  obtain ⟨h1, h2, h3, e, p, q1, q2, q3, q4, q5, q6, q7⟩ := h
  exact ⟨h1, h2.fr1 FW1.up, h3, e, p, q1, q2, q3, q4, by rw [up_ne (by omega)]; exact q5, q6, by rw [up_ne (by omega)]; exact q7⟩
theorem OKs.w1 {b : Nat → Int32} {n j i : Nat} {u w : RS} {x : Int32} (h : OKs b n j u w) : OKs b n j u (up w 1 i x) := by
  obtain ⟨h1, h2, h3, q1, q2, q3, q4⟩ := h
  exact ⟨h1, h2.fr1 FW1.up, h3, q1, by rw [up_ne (by omega)]; exact q2, q3, by rw [up_ne (by omega)]; exact q4⟩
theorem OKs.nt {b : Nat → Int32} {n j len : Nat} {g : CG} {u u2 w : RS} {f : Nat → Int32} (h : OKs b n j u w) (ht : NT g u u2 len f) : OKs b n j u2 w := by
  obtain ⟨h1, h2, h3, q1, q2, q3, q4⟩ := h
  have e0 : u2 0 = u 0 := ht.2.2 0 (by omega)
  have e3 : u2 3 = u 3 := ht.2.2 3 (by omega)
  exact ⟨⟨by rw [e0]; exact h1.1, fun k hk => by rw [e3]; exact h1.2 k hk⟩, h2, h3, by rw [e0]; exact q1, q2, by rw [e0]; exact q3, q4⟩
theorem sets14 {u : RS} {s : Nat} {v : Int32} (hs : s < 6) : F8_sets u (nI s) (14 : Int32) v = some (up u 1 (17 + 16 * s + 14) v) := F8_sets_n (k := 14) hs (by omega)
theorem sets15 {u : RS} {s : Nat} {v : Int32} (hs : s < 6) : F8_sets u (nI s) (15 : Int32) v = some (up u 1 (17 + 16 * s + 15) v) := F8_sets_n (k := 15) hs (by omega)
theorem scr2 {b : Nat → Int32} {n i st : Nat} {g : CG} {u w : RS} (hb : BB b n) (h : OKs b n i u w) (h1i : 1 ≤ i) (hst : st < 6) (hg : g.nt < 1000000) (hti : TI g u) :
    (∃ i' len m u1 u' w1, C5_readScript g u = some (nI (g.nt + 1), ga g, u') ∧ F8_scriptPart w (nI st) = some (up (up w1 1 (17 + 16 * st + 14) (nI len)) 1 (17 + 16 * st + 15) (nI m)) ∧ i ≤ i' ∧ OKs b n i' u' (up (up w1 1 (17 + 16 * st + 14) (nI len)) 1 (17 + 16 * st + 15) (nI m)) ∧ FC u1 u ∧ NT g u1 u' len (fun k => u' (500 + (g.nt + 1)) (1 + k)) ∧ FW w1 w ∧ 1 ≤ len ∧ len ≤ 12 ∧ (∀ k, k < len → (u' (500 + (g.nt + 1)) (1 + k) = nI 49 ↔ (nI m >>> nI k) &&& nI 1 = nI 1))) ∨
    (∃ u' w', C5_readScript g u = some (0, g, u') ∧ F8_scriptPart w (nI st) = some w' ∧ FC u' u ∧ FW1 w' w ∧ ERs b n u' w') := by
  obtain ⟨h1, h2, h3, h4, h5, h6, h7⟩ := h
  have hn := hb.1
  have hs := SK_le (b := b) h3
  have hdl := dg_le (b := b) (n - SK b n i) (SK b n i)
  have hz := dg_0 (b := b) (d := n - SK b n i) (i := SK b n i)
  have hch := ch_le (i := SK b n i) hb
  have hsf := sfl_01 (b := b) (n - SK b n i) (SK b n i)
  unfold C5_readScript F8_scriptPart
  rw [skipC hb h1 h4 h3, if_pos (show w 0 11 = (0 : Int32) from h7), nextW hb h2 h5 h3, bS, bS]
  dsimp only
  rw [inB_hv (p := 48) (q := 57) hch rfl rfl (by omega) (by omega)]
  have hsc := scrLC (g := g) (t1 := (nI (SK b n i), up u 0 6 (nI (SK b n i)))) hb (n - SK b n i) (SK b n i) FUEL 1 (up u 0 6 (nI (SK b n i))) (by omega) (by show n - SK b n i < 10000; omega) (by omega) (h1.fr (FC.up (by omega))) up_eq
  rw [Nat.one_mul] at hsc
  rw [show (1 : Int32) = nI 1 from rfl, hsc, bS]
  dsimp only
  generalize hs' : SK b n i = s at *
  generalize hV : sfl b (n - s) s = V at *
  generalize he : dg b (n - s) s = e at *
  rw [up_up]
  have hT : TC b n (up u 0 6 (nI e)) := h1.fr (FC.up (by omega))
  have hW : TW b n (up (up w 0 9 (nI s)) 0 10 (nI s)) := (h2.fr (FW.up (by omega))).fr (FW.up (by omega))
  have k6 : up u 0 6 (nI e) 0 6 = nI e := up_eq
  have k7 : up u 0 6 (nI e) 0 7 = nI 0 := by rw [up_ne (by omega)]; exact h6
  have k9 : up (up w 0 9 (nI s)) 0 10 (nI s) 0 9 = nI s := by rw [up_ne (by omega), up_eq]
  have k11 : up (up w 0 9 (nI s)) 0 10 (nI s) 0 11 = nI 0 := by rw [up_ne (by omega), up_ne (by omega)]; exact h7
  have k10 : up (up w 0 9 (nI s)) 0 10 (nI s) 0 10 = nI s := up_eq
  have fC : FC (up u 0 6 (nI e)) u := FC.up (by omega)
  have fW : FW (up (up w 0 9 (nI s)) 0 10 (nI s)) w := (FW.up (by omega)).trans (FW.up (by omega))
  generalize hu1 : up u 0 6 (nI e) = u1 at *
  generalize hw1 : up (up w 0 9 (nI s)) 0 10 (nI s) = w1 at *
  by_cases c : 48 ≤ ch b n s ∧ ch b n s ≤ 57
  · have hsn : s < n := ch_lt (b := b) (by omega)
    have hne : ¬ e = s := by rw [hz, ← ch_i (b := b) hsn]; exact fun q => q ⟨by omega, c⟩
    rw [if_pos c, if_neg (show ¬ nI 1 = (0 : Int32) from nz0), bS, if_pos (show w1 0 11 = (0 : Int32) from k11), if_neg (show ¬ u1 0 6 = nI s by rw [k6]; exact nI_ne hne (by omega) (by omega))]
    obtain ⟨m, fl, q1, q2, q3, q4, q5⟩ := scrLW (a1 := nI st) hb (n - s) s FUEL 0 0 1 w1 (by omega) (by show n - s < 10000; omega) (by omega) (by omega) (by decide) hW k9
    rw [he, Nat.zero_add] at q1
    rw [he] at q4 q5
    rw [hV] at q4
    rw [show (0 : Int32) = nI 0 from rfl, q1, bS]
    dsimp only
    generalize hw2 : up w1 0 9 (nI e) = w2 at *
    have hW2 : TW b n w2 := by rw [← hw2]; exact hW.fr (FW.up (by omega))
    have fW2 : FW w2 w := by rw [← hw2]; exact (FW.up (by omega)).trans fW
    have z9 : w2 0 9 = nI e := by rw [← hw2]; exact up_eq
    have z10 : w2 0 10 = nI s := by rw [← hw2, up_ne (by omega)]; exact k10
    have z11 : w2 0 11 = nI 0 := by rw [← hw2, up_ne (by omega)]; exact k11
    by_cases good : V = 1 ∧ e - s ≤ 12
    · have hfl : fl = 1 := q4.mpr ⟨rfl, good.1, Or.inr (by omega)⟩
      have eC : (if nI V = nI 0 then ((C5_error g u1 (2 : Int32) (nI s)).bind fun u23 => some u23) else (if u1 0 6 - nI s ≤ (12 : Int32) then (some u1) else ((C5_error g u1 (2 : Int32) (nI s)).bind fun u26 => some u26)) : Option RS) = some u1 := by
        rw [good.1, if_neg nz0, k6, nI_sub (by omega), if_pos (show nI (e - s) ≤ (12 : Int32) from nI_le (b := 12) good.2 (by omega))]
      rw [eC, bS, fineC0 k7, bS, if_neg nz0, k6]
      obtain ⟨u', c1, c2⟩ := copyRange (g := g) hb hT (show 1 ≤ s by omega) (show s ≤ e by omega) (by omega) good.2 hg (TI_fc hti fC)
      rw [c1, bS, hfl, if_neg nz0, bS, sets14 hst, bS, sets15 hst, bS]
      refine Or.inl ⟨e, e - s, m, u1, u', w2, rfl, rfl, by omega, ((OKs.nt (⟨hT, hW2, by omega, k6, z9, k7, z11⟩) c2).w1).w1, fC, ⟨c2.1, fun _ _ => rfl, c2.2.2⟩, fW2, by omega, good.2, fun k hk => ?_⟩
      have q6 := (q5 hfl).2 k hk
      rw [Nat.zero_add] at q6
      rw [c2.2.1 k hk, bit_t q2 (by omega)]
      exact q6.symm
    · have hfl : fl = 0 := by
        rcases (show fl = 0 ∨ fl = 1 by omega) with q | q
        · exact q
        · have := q4.mp q; exfalso; omega
      obtain ⟨u', w', e1, e2, e3, e4, e5⟩ := err2 (g := g) (e := 2) hT hW2 (by omega) k6 k7 z11 z10 (by omega) (by omega) (by omega)
      have eC : (if nI V = nI 0 then ((C5_error g u1 (2 : Int32) (nI s)).bind fun u23 => some u23) else (if u1 0 6 - nI s ≤ (12 : Int32) then (some u1) else ((C5_error g u1 (2 : Int32) (nI s)).bind fun u26 => some u26)) : Option RS) = some u' := by
        have e1' : C5_error g u1 (2 : Int32) (nI s) = some u' := e1
        rw [e1', bS]
        by_cases v : V = 1
        · rw [v, if_neg nz0, k6, nI_sub (by omega), if_neg (show ¬ nI (e - s) ≤ (12 : Int32) from nI_ge (a := 12) (by omega) (by omega))]
        · rw [show V = 0 by omega, if_pos rfl]
      rw [eC, bS, e3.fine, bS, if_pos rfl, hfl, if_pos rfl, show (2 : Int32) = nI 2 from rfl, e2, bS, bS, sets14 hst, bS, sets15 hst, bS]
      exact Or.inr ⟨u', _, rfl, rfl, e4.trans fC, FW1.up.trans (FW1.up.trans ((e5.trans fW2).w1)), e3.w1.w1⟩
  · have hne : e = s := by
      rw [hz]
      intro q
      rw [← ch_i (b := b) (n := n) (by omega)] at q
      exact c q.2
    obtain ⟨u', w', e1, e2, e3, e4, e5⟩ := err2 (g := g) (e := 1) hT hW (by omega) k6 k7 k11 k10 (by omega) (by omega) (by omega)
    rw [if_neg c, if_pos (show nI 0 = (0 : Int32) from rfl), if_pos (show u1 0 6 = nI s by rw [k6, hne])]
    rw [e1, e2, bS, bS, bS, bS, e3.fine, bS, if_pos (show nI 0 = (0 : Int32) from rfl), if_neg e3.ne.1]
    exact Or.inr ⟨u', w', rfl, rfl, e4.trans fC, (e5.trans fW).w1, e3⟩
