set_option maxHeartbeats 4000000 in
set_option maxRecDepth 100000 in
theorem c_X7_needLot_y (l : Launch) (hst : l.stackTraces = false) (dC : Nat → ClassId) (dI : Nat → Nat → Nat) (cy : Nat → ClassId) (nb : Nat → Nat) (ad : CK → Nat) (ks : List CK) (g : CG) (hk : GA nb ad g ks) (u0 : RS) (a1 : Int32) (xc : Int32) (sz : Nat) (hF : C7_needLot g u0 a1 = some (.inl xc)) : vx_Met l yX7_needLot (wsg yX7_needLot cX7_needLot 2 none) ({ frames := 7, cells := 1, slots := 6, locals := 200 }) (va_Pc [.ref (ad .cl), .int a1] (fun U => U.heap.size = sz ∧ va_P (dC, dI) vwCl (WC cy ad ks g u0) U.heap ∧ va_K (dC, dI) vwCl (tyL cy) U ∧ va_D (fun _ => True) (WC cy ad ks g u0) ∧ GE nb (va_A (WC cy ad ks g u0) sz) U)) (va_Qv (fun (_ : Unit) => False) (fun _ _ => True) (va_A (WC cy ad ks g u0) sz)) (vx_X (fun (_ : Unit) => True) (fun E9 _ t9 => E9 = exn xc ∧ va_P (dC, dI) vwCl (WC cy ad ks g u0) t9.heap) (va_A (WC cy ad ks g u0) sz)) 1 6 (va_A (WC cy ad ks g u0) sz) := by
  refine vx_ofW (cc := cX7_needLot) (maxL := 2) (ret := none) pn_X7 rfl ?_
  intro p e s m args below meth c s₁ B hml hout hv
  obtain ⟨rfl, hsz, hP, hK, hD0, hE⟩ := hv
  have hx := B.exec
  have hb := B.bytes
  have hr := B.returns
  have hts0 := atoms_spec (ws := (wsg yX7_needLot cX7_needLot 2 none)) B.pre
  have hts : ∀ w ∈ wsL_law, w.before _ s = true := fun w h => hts0 w (List.mem_cons_of_mem _ h)
  have hown : s.vm.findClass RX7 = some m.cls := by have h9 := findClass_of_methodNamed B.named; exact h9
  have hlocks := B.notSynchronized
  subst hsz
  have hD := hD0.self (sz := s.heap.size)
  generalize hAe : va_A (WC cy ad ks g u0) s.heap.size = A at hD hE ⊢
  have hA : ∀ q : Nat, s.heap.size ≤ q → A q := fun q h => by rw [← hAe]; exact Or.inr h
  have hS : va_S A s.heap s.heap [] := va_S.rf
  have hl := lv_entry ([.ref (ad .cl), .int a1]) (n := 2) (Nat.le_of_ble_eq_true rfl)
  rw [lg_entry_eq]
  generalize (lg_sl ([.ref (ad .cl), .int a1]) ++ List.replicate (2 - (lg_sl ([.ref (ad .cl), .int a1])).length) Slot.unset).toArray = ls at hl ⊢
  have hl : lv_has ls 2 [(0, .ref (ad .cl)), (1, .int a1)] := hl
  generalize hHe : s.heap = H at hP hS ⊢
  have hS : va_S A s.heap H [] := by rw [hHe]; exact hS
  refine my_Q (fun Qn hQ => ?_)
  simp only [C7_needLot] at hF
  refine lv_iload_n hx hb dX7_needLot_0 rfl (lv_at hl 1 rfl) ?_
  refine lv_if_lt (tgt := 15) hx hb dX7_needLot_1 (by decide) (fun c1 => ?_) (fun c1 => ?_)
  · rw [if_pos c1] at hF
    have hZ := s4 hF
    subst hZ
    obtain ⟨sa, hsa⟩ := hE.t103
    rw [hQ]
    exact vx_throwS (A := A) (own := RX7) (cls := xI) (text := "no such lot") (names := ["java/lang/RuntimeException", "java/lang/Exception"]) (ik := 88) (is := 103) (ic := 92) hx hb hst hown (by decide) (by decide) (hts _ mw_635) (hts _ mw_636) hsa (my_hat (fun w h => hts w (List.mem_append_right _ h)) my_atI hE.cI hE.dc) my_gI hE.zU hE.zN hS (by rw [hml]; exact hl.1) dX7_needLot_15 dX7_needLot_18 dX7_needLot_19 dX7_needLot_21 dX7_needLot_24 (fun x hx => (hout x hx).elim) (Nat.le_of_ble_eq_true rfl) (Nat.le_of_ble_eq_true rfl) (Nat.le_of_ble_eq_true rfl) (Nat.le_of_ble_eq_true rfl) hlocks (fun t _ h1 h2 => ⟨(), trivial, ⟨rfl, my_keep hP (fun q9 z9 _ => h2 q9 z9)⟩, my_F hS h1 h2⟩) hS.2.2 (Nat.le_of_ble_eq_true rfl) (Nat.le_of_ble_eq_true rfl)
  · rw [if_neg c1] at hF
    refine lv_iload_n hx hb dX7_needLot_4 rfl (lv_at hl 1 rfl) ?_
    refine lv_aload_n hx hb dX7_needLot_5 rfl (lv_at hl 0 rfl) ?_
    obtain ⟨q9, h9⟩ := wc_at (cy := cy) (ad := ad) (ks := ks) (g := g) (u := u0) (κ := .cl) hk.1 True.intro
    refine va_get (D := (dC, dI)) (ci := 7) (v := .ref (ad (.ln 0))) (C := RX7) (T := TX7) (N := 12) hx hb hts inlX7 hown hK hP q9 h9 rfl 0 (by decide) (hts _ mw_18) (fun _ h9 => h9) rfl dX7_needLot_6 ?_
    clear h9
    obtain ⟨q9, h9⟩ := wc_at (cy := cy) (ad := ad) (ks := ks) (g := g) (u := u0) (κ := (.ln 0)) hk.1 (Or.inl (by decide))
    refine va_get (D := (dC, dI)) (ci := 3) (v := .int (u0 (10 + 0) 8)) (C := RX3) (T := TX3) (N := 17) hx hb hts inlX3 hown hK hP q9 h9 rfl 8 (by decide) (hts _ mw_571) (fun _ h9 => h9) rfl dX7_needLot_9 ?_
    clear h9
    refine lv_icmp_lt (tgt := 25) hx hb dX7_needLot_12 (by decide) (fun c2 => ?_) (fun c2 => ?_)
    · rw [if_pos c2] at hF
      cases hF
    · rw [if_neg c2] at hF
      have hZ := s4 hF
      subst hZ
      obtain ⟨sa, hsa⟩ := hE.t103
      rw [hQ]
      exact vx_throwS (A := A) (own := RX7) (cls := xI) (text := "no such lot") (names := ["java/lang/RuntimeException", "java/lang/Exception"]) (ik := 88) (is := 103) (ic := 92) hx hb hst hown (by decide) (by decide) (hts _ mw_635) (hts _ mw_636) hsa (my_hat (fun w h => hts w (List.mem_append_right _ h)) my_atI hE.cI hE.dc) my_gI hE.zU hE.zN hS (by rw [hml]; exact hl.1) dX7_needLot_15 dX7_needLot_18 dX7_needLot_19 dX7_needLot_21 dX7_needLot_24 (fun x hx => (hout x hx).elim) (Nat.le_of_ble_eq_true rfl) (Nat.le_of_ble_eq_true rfl) (Nat.le_of_ble_eq_true rfl) (Nat.le_of_ble_eq_true rfl) hlocks (fun t _ h1 h2 => ⟨(), trivial, ⟨rfl, my_keep hP (fun q9 z9 _ => h2 q9 z9)⟩, my_F hS h1 h2⟩) hS.2.2 (Nat.le_of_ble_eq_true rfl) (Nat.le_of_ble_eq_true rfl)
set_option maxHeartbeats 4000000 in
set_option maxRecDepth 100000 in
theorem c_X7_bestRank_y (l : Launch) (hst : l.stackTraces = false) (dC : Nat → ClassId) (dI : Nat → Nat → Nat) (cy : Nat → ClassId) (nb : Nat → Nat) (ad : CK → Nat) (ks : List CK) (g : CG) (hk : GA nb ad g ks) (u0 : RS) (a1 : Int32) (xc : Int32) (sz : Nat) (hF : C7_bestRank g u0 a1 = some (.inl xc)) : vx_Met l yX7_bestRank (wsg yX7_bestRank cX7_bestRank 7 (some .int)) ({ frames := 13, cells := 1, slots := 6, locals := 800 }) (va_Pc [.ref (ad .cl), .int a1] (fun U => U.heap.size = sz ∧ va_P (dC, dI) vwCl (WC cy ad ks g u0) U.heap ∧ va_K (dC, dI) vwCl (tyL cy) U ∧ va_D (fun _ => True) (WC cy ad ks g u0) ∧ GE nb (va_A (WC cy ad ks g u0) sz) U)) (va_Qi (fun (_ : Int32) (_ : Unit) => False) (fun _ _ => True) (va_A (WC cy ad ks g u0) sz)) (vx_X (fun (_ : Unit) => True) (fun E9 _ t9 => E9 = exn xc ∧ va_P (dC, dI) vwCl (WC cy ad ks g u0) t9.heap) (va_A (WC cy ad ks g u0) sz)) 1 6 (va_A (WC cy ad ks g u0) sz) := by
  refine vx_ofW (cc := cX7_bestRank) (maxL := 7) (ret := (some .int)) pn_X7 rfl ?_
  intro p e s m args below meth c s₁ B hml hout hv
  obtain ⟨rfl, hsz, hP, hK, hD0, hE⟩ := hv
  have hx := B.exec
  have hb := B.bytes
  have hr := B.returns
  have hts0 := atoms_spec (ws := (wsg yX7_bestRank cX7_bestRank 7 (some .int))) B.pre
  have hts : ∀ w ∈ wsL_law, w.before _ s = true := fun w h => hts0 w (List.mem_cons_of_mem _ h)
  have hown : s.vm.findClass RX7 = some m.cls := by have h9 := findClass_of_methodNamed B.named; exact h9
  have hlocks := B.notSynchronized
  subst hsz
  have hD := hD0.self (sz := s.heap.size)
  generalize hAe : va_A (WC cy ad ks g u0) s.heap.size = A at hD hE ⊢
  have hA : ∀ q : Nat, s.heap.size ≤ q → A q := fun q h => by rw [← hAe]; exact Or.inr h
  have hS : va_S A s.heap s.heap [] := va_S.rf
  have hl := lv_entry ([.ref (ad .cl), .int a1]) (n := 7) (Nat.le_of_ble_eq_true rfl)
  rw [lg_entry_eq]
  generalize (lg_sl ([.ref (ad .cl), .int a1]) ++ List.replicate (7 - (lg_sl ([.ref (ad .cl), .int a1])).length) Slot.unset).toArray = ls at hl ⊢
  have hl : lv_has ls 7 [(0, .ref (ad .cl)), (1, .int a1)] := hl
  generalize hHe : s.heap = H at hP hS ⊢
  have hS : va_S A s.heap H [] := by rw [hHe]; exact hS
  refine my_Q (fun Qn hQ => ?_)
  simp only [C7_bestRank] at hF
  refine lv_aload_n hx hb dX7_bestRank_0 rfl (lv_at hl 0 rfl) ?_
  refine lv_iload_n hx hb dX7_bestRank_1 rfl (lv_at hl 1 rfl) ?_
  obtain ⟨t1, e2, hF⟩ := ob hF
  rcases t1 with xz9 | t3
  · have hF : some (Sum.inl xz9) = some (.inl xc) := hF
    have hPc := hP
    have hDc := hD
    have hFc := my_free hD hS hA
    obtain ⟨q8, h8⟩ := wc_at (cy := cy) (ad := ad) (ks := ks) (g := g) (u := u0) (κ := .cl) hk.1 True.intro
    refine vx_callv (vx_runV (As := [.int a1]) (rest := []) ⟨hx, hb, hml, hown, hts⟩ (c_X7_needLot_y l hst dC dI cy nb ad ks g hk u0 (a1) xz9 H.size e2) (cwV 1 hts (gV mw_704 mw_705 mw_706 mw_2 mw_707) rfl rfl rfl (by decide +kernel) ⟨Nat.le_of_ble_eq_true rfl, Nat.le_of_ble_eq_true rfl⟩) (my_preV hPc hK hDc hE hS hFc (va_recv (q := (RX7, TX7, 12)) hK hP (ci := 7) (q0 := q8) rfl h8)) rfl rfl hl.1 rfl (lv_room (Nat.le_of_ble_eq_true rfl)) dX7_bestRank_2 ⟨Nat.le_of_ble_eq_true rfl, Nat.le_of_ble_eq_true rfl⟩) hS (fun q _ h => hFc q h) hFc (fun q _ h => hFc q h) (fun E9 ce9 q9 u9 t9 H1 locs1 ht9 hvm9 hp9 hB9 hz9 hk9 hS9 hc9 hv9 hcl9 => ?_) (fun u9 t9 H1 locs1 ht9 hvm9 hp9 _ _ _ _ => hp9.elim)
    have hZ := s4 hF
    rw [hQ]
    exact vx_out (fun x hx => (hout x hx).elim) hlocks hc9 hv9 hcl9 (fun t h1 h2 => ⟨(), trivial, ⟨hB9.1.trans (congrArg exn hZ), by rw [h1, ← ht9]; exact hB9.2⟩, hS9.F h1⟩) hS9.2.2 (Nat.le_of_ble_eq_true rfl) (Nat.le_of_ble_eq_true rfl)
  · dsimp only [tr] at hF
    have hPc := hP
    have hDc := hD
    have hFc := my_free hD hS hA
    obtain ⟨q8, h8⟩ := wc_at (cy := cy) (ad := ad) (ks := ks) (g := g) (u := u0) (κ := .cl) hk.1 True.intro
    refine va_callv (va_runV (As := [.int a1]) (rest := []) ⟨hx, hb, hml, hown, hts⟩ (c_X7_needLot l dC dI cy nb ad ks g hk u0 (a1) H.size e2) (cwV 1 hts (gV mw_704 mw_705 mw_706 mw_2 mw_707) rfl rfl rfl (by decide +kernel) ⟨Nat.le_of_ble_eq_true rfl, Nat.le_of_ble_eq_true rfl⟩) (my_preV hPc hK hDc hE hS hFc (va_recv (q := (RX7, TX7, 12)) hK hP (ci := 7) (q0 := q8) rfl h8)) rfl rfl hl.1 rfl (lv_room (Nat.le_of_ble_eq_true rfl)) dX7_bestRank_2 ⟨Nat.le_of_ble_eq_true rfl, Nat.le_of_ble_eq_true rfl⟩) hS (fun q _ h => hFc q h) hFc (fun u t H1 locs ht hvm hw hB hz1 hk1 hS => ?_)
    clear h8
    obtain ⟨hP1, hD1⟩ := hB
    rw [ht] at hP1
    have hP := hP1
    have hD := hD1.weaken (fun k q _ h => hFc q.1 h)
    generalize H1 = H at hP hS ⊢
    clear hP1 hD1 hPc hDc hFc hk1 hz1 hvm ht
    refine lv_iconst (v := (-1)) hx hb dX7_bestRank_5 (by decide) ?_
    refine lv_istore_n (lv' := [(2, .int (-1)), (0, .ref (ad .cl)), (1, .int a1)]) hx hb dX7_bestRank_6 rfl hl (by decide) rfl (fun ls hl => ?_)
    refine lv_sipush (v := 2000) hx hb dX7_bestRank_7 (by decide) ?_
    refine lv_istore_n (lv' := [(3, .int 2000), (2, .int (-1)), (0, .ref (ad .cl)), (1, .int a1)]) hx hb dX7_bestRank_10 rfl hl (by decide) rfl (fun ls hl => ?_)
    refine lv_iconst (v := 0) hx hb dX7_bestRank_11 (by decide) ?_
    refine lv_istore (lv' := [(4, .int 0), (3, .int 2000), (2, .int (-1)), (0, .ref (ad .cl)), (1, .int a1)]) hx hb dX7_bestRank_12 hl (by decide) rfl (fun ls hl => ?_)
    obtain ⟨t8, hL9, hF⟩ := ob hF
    have kx10 : ∀ (H : Heap) (locs : List Loc) (ls : Array Slot), va_P (dC, dI) vwCl (WC cy ad ks g (t8.2.2.2)) H → va_D A (WC cy ad ks g (t8.2.2.2)) → va_S A s.heap H locs → lv_has ls 7 [(4, .int (t8.1)), (3, .int (t8.2.1)), (2, .int (t8.2.2.1)), (0, .ref (ad .cl)), (1, .int a1)] → W p l e (headSpec (wsg yX7_bestRank cX7_bestRank 7 (some .int)) ({ frames := 13, cells := 1, slots := 6, locals := 800 })).room s m ([.ref (ad .cl), .int a1] : List Value).toArray below meth c H locs 0 0 Qn (F0 m 75 ls []) := by
      intro H locs ls hP hD hS hl
      refine lv_iload_n hx hb dX7_bestRank_75 rfl (lv_at hl 2 rfl) ?_
      cases hF
    clear hF
    have loop12 : ∀ (m13 : Nat) (y4 : Int32) (y5 : Int32) (y6 : Int32) (u7 : RS), C7_bestRank_L14 a1 g m13 y4 y5 y6 u7 = some t8 → ∀ (H : Heap) (locs : List Loc) (ls : Array Slot), va_P (dC, dI) vwCl (WC cy ad ks g u7) H → va_D A (WC cy ad ks g u7) → va_S A s.heap H locs → lv_has ls 7 [(4, .int y4), (3, .int y5), (2, .int y6), (0, .ref (ad .cl)), (1, .int a1)] → W p l e (headSpec (wsg yX7_bestRank cX7_bestRank 7 (some .int)) ({ frames := 13, cells := 1, slots := 6, locals := 800 })).room s m ([.ref (ad .cl), .int a1] : List Value).toArray below meth c H locs 0 0 Qn (F0 m 14 ls []) := by
      intro m13
      induction m13 with
      | zero => intro y4 y5 y6 u7 hF; cases hF
      | succ m13 ih =>
        intro y4 y5 y6 u7 hF H locs ls hP hD hS hl
        simp only [C7_bestRank_L14] at hF
        refine lv_iload hx hb dX7_bestRank_14 (lv_at hl 0 rfl) ?_
        refine lv_bipush (v := 9) hx hb dX7_bestRank_16 (by decide) ?_
        refine lv_icmp_gt (tgt := 75) hx hb dX7_bestRank_18 (by decide) (fun c14 => ?_) (fun c14 => ?_)
        · rw [if_pos c14] at hF
          have ht := s1 hF
          subst ht
          exact kx10 _ _ _ hP hD hS (lv_sub hl [0, 1, 2, 3, 4] rfl)
        · rw [if_neg c14] at hF
          refine lv_iload_n hx hb dX7_bestRank_21 rfl (lv_at hl 1 rfl) ?_
          refine lv_if_lt (tgt := 75) hx hb dX7_bestRank_22 (by decide) (fun c15 => ?_) (fun c15 => ?_)
          · rw [if_pos c15] at hF
            have ht := s1 hF
            subst ht
            exact kx10 _ _ _ hP hD hS (lv_sub hl [0, 1, 2, 3, 4] rfl)
          · rw [if_neg c15] at hF
            refine lv_aload_n hx hb dX7_bestRank_25 rfl (lv_at hl 3 rfl) ?_
            obtain ⟨t16, e17, hF⟩ := ob hF
            have hPc := hP
            have hDc := hD
            have hFc := my_free hD hS hA
            obtain ⟨q8, h8⟩ := wc_at (cy := cy) (ad := ad) (ks := ks) (g := g) (u := u7) (κ := .cl) hk.1 True.intro
            refine va_callr (va_runV (As := []) (rest := []) ⟨hx, hb, hml, hown, hts⟩ (c_X7_copyOfLine l dC dI cy nb ad ks g hk u7 (t16) H.size e17) (cwV 0 hts (gV mw_1298 mw_1299 mw_1300 mw_2 mw_1301) rfl rfl rfl (by decide +kernel) ⟨Nat.le_of_ble_eq_true rfl, Nat.le_of_ble_eq_true rfl⟩) (my_preV hPc hK hDc hE hS hFc (va_recv (q := (RX7, TX7, 12)) hK hP (ci := 7) (q0 := q8) rfl h8)) rfl rfl hl.1 rfl (lv_room (Nat.le_of_ble_eq_true rfl)) dX7_bestRank_26 ⟨Nat.le_of_ble_eq_true rfl, Nat.le_of_ble_eq_true rfl⟩) hS (fun q _ h => hFc q h) hFc (fun u ra t H1 locs ht hvm hw hB hz1 hk1 hS => ?_)
            clear h8
            obtain ⟨hra, hP1, hD1⟩ := hB
            rw [ht] at hP1
            have hP := hP1
            have hD := hD1.weaken (fun k q _ h => hFc q.1 h)
            generalize H1 = H at hP hS ⊢
            clear hP1 hD1 hPc hDc hFc hk1 hz1 hvm ht
            obtain rfl := hra.symm
            refine lv_astore (lv' := [(5, .ref (ad (.ln 1))), (4, .int y4), (3, .int y5), (2, .int y6), (0, .ref (ad .cl)), (1, .int a1)]) hx hb dX7_bestRank_29 hl (by decide) rfl (fun ls hl => ?_)
            refine lv_aload hx hb dX7_bestRank_31 (lv_at hl 0 rfl) ?_
            obtain ⟨q9, h9⟩ := wc_at (cy := cy) (ad := ad) (ks := ks) (g := g) (u := t16) (κ := (.ln 1)) hk.1 (Or.inl (by decide))
            refine va_get (D := (dC, dI)) (ci := 3) (v := .ref (ad (.ls 1))) (C := RX3) (T := TX3) (N := 17) hx hb hts inlX3 hown hK hP q9 h9 rfl 11 (by decide) (hts _ mw_697) (fun _ h9 => h9) rfl dX7_bestRank_33 ?_
            clear h9
            refine lv_iload_n hx hb dX7_bestRank_36 rfl (lv_at hl 5 rfl) ?_
            obtain ⟨n18, e19, hF⟩ := ob hF
            obtain ⟨q9, h9⟩ := wc_at (cy := cy) (ad := ad) (ks := ks) (g := g) (u := t16) (κ := (.ls 1)) hk.1 (Or.inl (by decide))
            refine va_aldq hx hb hK hP q9 7 h9 rfl (ix_in e19) dX7_bestRank_37 ?_
            refine my_top (y := .ref (ad (.lo 1 n18))) (ixv (F := fun j => ad (.lo 1 j)) e19) ?_
            clear h9
            refine lv_iload hx hb dX7_bestRank_38 (lv_at hl 1 rfl) ?_
            obtain ⟨q9, h9, ez9⟩ := wc_set (cy := cy) (ad := ad) (ks := ks) (g := g) (u := t16) (κ := (.lo 1 n18)) (r := (10 + 1)) (i := (113 + 4 * n18 + 0)) (v := y4) hk.1 ⟨(Or.inl (by decide)), (ix_lt e19)⟩ (own_lo (show 1 < 12 by decide) (ix_lt e19) (by decide)) (sf_lo_0)
            refine va_put (D := (dC, dI)) (ci := 4) (v := .int y4) (ty := .int) (C := RX4) (T := TX4) (N := 12) hx hb hts inlX4 tyX4 tyX4_ok nmX4 hown hK hP hD hS q9 h9 rfl 0 (by decide) (hts _ mw_698) (fun _ h9 => h9) rfl (by decide +kernel) rfl rfl (Nat.le_of_ble_eq_true rfl) dX7_bestRank_40 (fun H locs hP hD hS => ?_)
            obtain ⟨u20, e21, hF⟩ := ob hF
            have hP : va_P (dC, dI) vwCl (WC cy ad ks g u20) H := by rw [← pt_eq e21, ← ez9]; exact hP
            have hD : va_D A (WC cy ad ks g u20) := by rw [← pt_eq e21, ← ez9]; exact hD
            clear ez9 h9
            refine lv_aload hx hb dX7_bestRank_43 (lv_at hl 0 rfl) ?_
            refine va_gets (C := RX2) (n := "LOT_FINISHED") (d := "LCardLine$Event;") (ref := "CardLine$Event") (v := .ref (nb (40 + 1))) hx hb (hE.evk 1 rfl).1 hS hown (hts _ mw_1349) (fun _ h9 => h9) dX7_bestRank_45 ?_
            refine lv_iload_n hx hb dX7_bestRank_48 rfl (lv_at hl 5 rfl) ?_
            refine lv_iload_n hx hb dX7_bestRank_49 rfl (lv_at hl 2 rfl) ?_
            obtain ⟨t22, e23, hF⟩ := ob hF
            have hPc := hP
            have hDc := hD
            have hFc := my_free hD hS hA
            refine va_calli (va_runS (As := [.ref (ad (.ln 1)), .ref (nb (40 + 1)), .int a1, .int y5]) (rest := []) ⟨hx, hb, hml, hown, hts⟩ (c_X7_ticksUntil_e1 l dC dI cy nb ad ks g hk u20 1 (a1) (y5) (t22.1) (t22.2) H.size (Or.inl (by decide)) e23) (va_cwS 4 hts (gS mw_1302 mw_1303 mw_2 mw_1304) rfl rfl rfl (by decide +kernel) ⟨Nat.le_of_ble_eq_true rfl, Nat.le_of_ble_eq_true rfl⟩) (my_preS hPc hK hDc hE hS hFc) rfl rfl hl.1 rfl (lv_room (Nat.le_of_ble_eq_true rfl)) dX7_bestRank_50 ⟨Nat.le_of_ble_eq_true rfl, Nat.le_of_ble_eq_true rfl⟩) hS (fun q _ h => hFc q h) hFc (fun r u t H1 locs ht hvm hw hB hz1 hk1 hS => ?_)
            obtain ⟨hP1, hD1⟩ := hB
            rw [ht] at hP1
            have hP := hP1
            have hD := hD1.weaken (fun k q _ h => hFc q.1 h)
            generalize H1 = H at hP hS ⊢
            clear hP1 hD1 hPc hDc hFc hk1 hz1 hvm ht
            obtain rfl := hw.symm
            refine lv_istore (lv' := [(6, .int (t22.1)), (5, .ref (ad (.ln 1))), (4, .int y4), (3, .int y5), (2, .int y6), (0, .ref (ad .cl)), (1, .int a1)]) hx hb dX7_bestRank_53 hl (by decide) rfl (fun ls hl => ?_)
            refine lv_iload hx hb dX7_bestRank_55 (lv_at hl 0 rfl) ?_
            refine lv_iconst (v := (-1)) hx hb dX7_bestRank_57 (by decide) ?_
            obtain ⟨t25, hJ26, hF⟩ := ob hF
            have join27 : ∀ (H : Heap) (locs : List Loc) (ls : Array Slot), va_P (dC, dI) vwCl (WC cy ad ks g (t22.2)) H → va_D A (WC cy ad ks g (t22.2)) → va_S A s.heap H locs → lv_has ls 7 [(6, .int (t22.1)), (5, .ref (ad (.ln 1))), (4, .int y4), (3, .int (t25.1)), (2, .int (t25.2)), (0, .ref (ad .cl)), (1, .int a1)] → W p l e (headSpec (wsg yX7_bestRank cX7_bestRank 7 (some .int)) ({ frames := 13, cells := 1, slots := 6, locals := 800 })).room s m ([.ref (ad .cl), .int a1] : List Value).toArray below meth c H locs 0 0 Qn (F0 m 69 ls []) := by
              intro H locs ls hP hD hS hl
              refine lv_iinc (v := (y4 + 1)) (lv' := [(4, .int (y4 + 1)), (6, .int (t22.1)), (5, .ref (ad (.ln 1))), (3, .int (t25.1)), (2, .int (t25.2)), (0, .ref (ad .cl)), (1, .int a1)]) hx hb dX7_bestRank_69 hl (k := 2) rfl (by rfl) (by decide) rfl (fun ls hl => ?_)
              refine lv_goto (tgt := 14) hx hb dX7_bestRank_72 (by decide) ?_
              exact ih _ _ _ _ hF _ _ _ hP hD hS (lv_sub hl [0, 3, 4, 5, 6] rfl)
            clear hF
            have hF := hJ26
            clear hJ26
            refine lv_icmp_eq (tgt := 69) hx hb dX7_bestRank_58 (by decide) (fun c24 => ?_) (fun c24 => ?_)
            · rw [if_pos c24] at hF
              have ht := s1 hF
              subst ht
              exact join27 _ _ _ hP hD hS (lv_sub hl [0, 1, 2, 3, 4, 5, 6] rfl)
            · rw [if_neg c24] at hF
              refine lv_iload hx hb dX7_bestRank_61 (lv_at hl 2 rfl) ?_
              refine lv_istore_n (lv' := [(2, .int y4), (6, .int (t22.1)), (5, .ref (ad (.ln 1))), (4, .int y4), (3, .int y5), (0, .ref (ad .cl)), (1, .int a1)]) hx hb dX7_bestRank_63 rfl hl (by decide) rfl (fun ls hl => ?_)
              refine lv_iload hx hb dX7_bestRank_64 (lv_at hl 1 rfl) ?_
              refine lv_iconst (v := 1) hx hb dX7_bestRank_66 (by decide) ?_
              refine lv_isub hx hb dX7_bestRank_67 ?_
              refine lv_istore_n (lv' := [(3, .int ((t22.1) - 1)), (2, .int y4), (6, .int (t22.1)), (5, .ref (ad (.ln 1))), (4, .int y4), (0, .ref (ad .cl)), (1, .int a1)]) hx hb dX7_bestRank_68 rfl hl (by decide) rfl (fun ls hl => ?_)
              have ht := s1 hF
              subst ht
              exact join27 _ _ _ hP hD hS (lv_sub hl [2, 3, 4, 0, 1, 5, 6] rfl)
    exact loop12 FUEL _ _ _ _ hL9 _ _ _ hP hD hS (lv_sub hl [0, 1, 2, 3, 4] rfl)
set_option maxHeartbeats 4000000 in
set_option maxRecDepth 100000 in
theorem c_X7_blanksIn_y (l : Launch) (hst : l.stackTraces = false) (dC : Nat → ClassId) (dI : Nat → Nat → Nat) (cy : Nat → ClassId) (nb : Nat → Nat) (ad : CK → Nat) (ks : List CK) (g : CG) (hk : GA nb ad g ks) (u0 : RS) (a1 : Int32) (xc : Int32) (sz : Nat) (hF : C7_blanksIn g u0 a1 = some (.inl xc)) : vx_Met l yX7_blanksIn (wsg yX7_blanksIn cX7_blanksIn 2 (some .int)) ({ frames := 13, cells := 1, slots := 6, locals := 800 }) (va_Pc [.ref (ad .cl), .int a1] (fun U => U.heap.size = sz ∧ va_P (dC, dI) vwCl (WC cy ad ks g u0) U.heap ∧ va_K (dC, dI) vwCl (tyL cy) U ∧ va_D (fun _ => True) (WC cy ad ks g u0) ∧ GE nb (va_A (WC cy ad ks g u0) sz) U)) (va_Qi (fun (_ : Int32) (_ : Unit) => False) (fun _ _ => True) (va_A (WC cy ad ks g u0) sz)) (vx_X (fun (_ : Unit) => True) (fun E9 _ t9 => E9 = exn xc ∧ va_P (dC, dI) vwCl (WC cy ad ks g u0) t9.heap) (va_A (WC cy ad ks g u0) sz)) 1 6 (va_A (WC cy ad ks g u0) sz) := by
  refine vx_ofW (cc := cX7_blanksIn) (maxL := 2) (ret := (some .int)) pn_X7 rfl ?_
  intro p e s m args below meth c s₁ B hml hout hv
  obtain ⟨rfl, hsz, hP, hK, hD0, hE⟩ := hv
  have hx := B.exec
  have hb := B.bytes
  have hr := B.returns
  have hts0 := atoms_spec (ws := (wsg yX7_blanksIn cX7_blanksIn 2 (some .int))) B.pre
  have hts : ∀ w ∈ wsL_law, w.before _ s = true := fun w h => hts0 w (List.mem_cons_of_mem _ h)
  have hown : s.vm.findClass RX7 = some m.cls := by have h9 := findClass_of_methodNamed B.named; exact h9
  have hlocks := B.notSynchronized
  subst hsz
  have hD := hD0.self (sz := s.heap.size)
  generalize hAe : va_A (WC cy ad ks g u0) s.heap.size = A at hD hE ⊢
  have hA : ∀ q : Nat, s.heap.size ≤ q → A q := fun q h => by rw [← hAe]; exact Or.inr h
  have hS : va_S A s.heap s.heap [] := va_S.rf
  have hl := lv_entry ([.ref (ad .cl), .int a1]) (n := 2) (Nat.le_of_ble_eq_true rfl)
  rw [lg_entry_eq]
  generalize (lg_sl ([.ref (ad .cl), .int a1]) ++ List.replicate (2 - (lg_sl ([.ref (ad .cl), .int a1])).length) Slot.unset).toArray = ls at hl ⊢
  have hl : lv_has ls 2 [(0, .ref (ad .cl)), (1, .int a1)] := hl
  generalize hHe : s.heap = H at hP hS ⊢
  have hS : va_S A s.heap H [] := by rw [hHe]; exact hS
  refine my_Q (fun Qn hQ => ?_)
  simp only [C7_blanksIn] at hF
  refine lv_iload_n hx hb dX7_blanksIn_0 rfl (lv_at hl 1 rfl) ?_
  refine lv_iconst (v := 1) hx hb dX7_blanksIn_1 (by decide) ?_
  refine lv_sipush (v := 2000) hx hb dX7_blanksIn_2 (by decide) ?_
  obtain ⟨t1, e2, hF⟩ := ob hF
  rcases t1 with xz9 | t3
  · have hF : some (Sum.inl xz9) = some (.inl xc) := hF
    have hPc : va_P (dC, dI) vwCl ([] : va_W) H := fun k q h => by simp at h
    have hDc : va_D A ([] : va_W) := ⟨fun i j p q h => by simp at h, fun k q h => by simp at h⟩
    have hFc := my_free0 hS hA
    refine vx_callv (vx_runS (As := [.int a1, .int 1, .int 2000]) (rest := []) ⟨hx, hb, hml, hown, hts⟩ (c_X7_needRange_x l hst dC dI cy nb (a1) (1) (2000) xz9 H.size e2) (va_cwS 3 hts (gS mw_815 mw_816 mw_2 mw_817) rfl rfl rfl (by decide +kernel) ⟨Nat.le_of_ble_eq_true rfl, Nat.le_of_ble_eq_true rfl⟩) (my_preS hPc hK hDc hE hS hFc) rfl rfl hl.1 rfl (lv_room (Nat.le_of_ble_eq_true rfl)) dX7_blanksIn_5 ⟨Nat.le_of_ble_eq_true rfl, Nat.le_of_ble_eq_true rfl⟩) hS (fun q _ h => hFc q h) hFc (fun q _ h => hFc q h) (fun E9 ce9 q9 u9 t9 H1 locs1 ht9 hvm9 hp9 hB9 hz9 hk9 hS9 hc9 hv9 hcl9 => ?_) (fun u9 t9 H1 locs1 ht9 hvm9 hp9 _ _ _ _ => hp9.elim)
    have hZ := s4 hF
    rw [hQ]
    exact vx_out (fun x hx => (hout x hx).elim) hlocks hc9 hv9 hcl9 (fun t h1 h2 => ⟨(), trivial, ⟨hB9.trans (congrArg exn hZ), by rw [h1]; exact my_keep hP hk9⟩, hS9.F h1⟩) hS9.2.2 (Nat.le_of_ble_eq_true rfl) (Nat.le_of_ble_eq_true rfl)
  · dsimp only [tr] at hF
    have hPc : va_P (dC, dI) vwCl ([] : va_W) H := fun k q h => by simp at h
    have hDc : va_D A ([] : va_W) := ⟨fun i j p q h => by simp at h, fun k q h => by simp at h⟩
    have hFc := my_free0 hS hA
    refine va_callv (va_runS (As := [.int a1, .int 1, .int 2000]) (rest := []) ⟨hx, hb, hml, hown, hts⟩ (c_X7_needRange l dC dI cy nb (a1) (1) (2000) H.size e2) (va_cwS 3 hts (gS mw_815 mw_816 mw_2 mw_817) rfl rfl rfl (by decide +kernel) ⟨Nat.le_of_ble_eq_true rfl, Nat.le_of_ble_eq_true rfl⟩) (my_preS hPc hK hDc hE hS hFc) rfl rfl hl.1 rfl (lv_room (Nat.le_of_ble_eq_true rfl)) dX7_blanksIn_5 ⟨Nat.le_of_ble_eq_true rfl, Nat.le_of_ble_eq_true rfl⟩) hS (fun q _ h => hFc q h) hFc (fun u t H1 locs ht hvm hw hB hz1 hk1 hS => ?_)
    obtain ⟨hP1, hD1⟩ := hB
    rw [ht] at hP1
    have hP := my_keep hP hk1
    generalize H1 = H at hP hS ⊢
    clear hP1 hD1 hPc hDc hFc hk1 hz1 hvm ht
    refine lv_aload_n hx hb dX7_blanksIn_8 rfl (lv_at hl 0 rfl) ?_
    refine lv_iload_n hx hb dX7_blanksIn_9 rfl (lv_at hl 1 rfl) ?_
    obtain ⟨t4, e5, hF⟩ := ob hF
    have hPc := hP
    have hDc := hD
    have hFc := my_free hD hS hA
    obtain ⟨q8, h8⟩ := wc_at (cy := cy) (ad := ad) (ks := ks) (g := g) (u := u0) (κ := .cl) hk.1 True.intro
    refine va_callr (va_runV (As := [.int a1]) (rest := []) ⟨hx, hb, hml, hown, hts⟩ (c_X7_copyBehind l dC dI cy nb ad ks g hk u0 (a1) (t4) H.size e5) (cwV 1 hts (gV mw_1370 mw_1371 mw_1372 mw_2 mw_1373) rfl rfl rfl (by decide +kernel) ⟨Nat.le_of_ble_eq_true rfl, Nat.le_of_ble_eq_true rfl⟩) (my_preV hPc hK hDc hE hS hFc (va_recv (q := (RX7, TX7, 12)) hK hP (ci := 7) (q0 := q8) rfl h8)) rfl rfl hl.1 rfl (lv_room (Nat.le_of_ble_eq_true rfl)) dX7_blanksIn_10 ⟨Nat.le_of_ble_eq_true rfl, Nat.le_of_ble_eq_true rfl⟩) hS (fun q _ h => hFc q h) hFc (fun u ra t H1 locs ht hvm hw hB hz1 hk1 hS => ?_)
    clear h8
    obtain ⟨hra, hP1, hD1⟩ := hB
    rw [ht] at hP1
    have hP := hP1
    have hD := hD1.weaken (fun k q _ h => hFc q.1 h)
    generalize H1 = H at hP hS ⊢
    clear hP1 hD1 hPc hDc hFc hk1 hz1 hvm ht
    obtain rfl := hra.symm
    obtain ⟨q9, h9⟩ := wc_at (cy := cy) (ad := ad) (ks := ks) (g := g) (u := t4) (κ := (.ln 1)) hk.1 (Or.inl (by decide))
    refine va_get (D := (dC, dI)) (ci := 3) (v := .int (t4 (10 + 1) 5)) (C := RX3) (T := TX3) (N := 17) hx hb hts inlX3 hown hK hP q9 h9 rfl 5 (by decide) (hts _ mw_573) (fun _ h9 => h9) rfl dX7_blanksIn_13 ?_
    clear h9
    cases hF
set_option maxHeartbeats 4000000 in
set_option maxRecDepth 100000 in
theorem c_X7_needStation_y (l : Launch) (hst : l.stackTraces = false) (dC : Nat → ClassId) (dI : Nat → Nat → Nat) (cy : Nat → ClassId) (nb : Nat → Nat) (ad : CK → Nat) (ks : List CK) (g : CG) (hk : GA nb ad g ks) (u0 : RS) (a1 : Int32) (xc : Int32) (sz : Nat) (hF : C7_needStation g u0 a1 = some (.inl xc)) : vx_Met l yX7_needStation (wsg yX7_needStation cX7_needStation 2 none) ({ frames := 7, cells := 1, slots := 6, locals := 200 }) (va_Pc [.ref (ad .cl), .int a1] (fun U => U.heap.size = sz ∧ va_P (dC, dI) vwCl (WC cy ad ks g u0) U.heap ∧ va_K (dC, dI) vwCl (tyL cy) U ∧ va_D (fun _ => True) (WC cy ad ks g u0) ∧ GE nb (va_A (WC cy ad ks g u0) sz) U)) (va_Qv (fun (_ : Unit) => False) (fun _ _ => True) (va_A (WC cy ad ks g u0) sz)) (vx_X (fun (_ : Unit) => True) (fun E9 _ t9 => E9 = exn xc ∧ va_P (dC, dI) vwCl (WC cy ad ks g u0) t9.heap) (va_A (WC cy ad ks g u0) sz)) 1 6 (va_A (WC cy ad ks g u0) sz) := by
  refine vx_ofW (cc := cX7_needStation) (maxL := 2) (ret := none) pn_X7 rfl ?_
  intro p e s m args below meth c s₁ B hml hout hv
  obtain ⟨rfl, hsz, hP, hK, hD0, hE⟩ := hv
  have hx := B.exec
  have hb := B.bytes
  have hr := B.returns
  have hts0 := atoms_spec (ws := (wsg yX7_needStation cX7_needStation 2 none)) B.pre
  have hts : ∀ w ∈ wsL_law, w.before _ s = true := fun w h => hts0 w (List.mem_cons_of_mem _ h)
  have hown : s.vm.findClass RX7 = some m.cls := by have h9 := findClass_of_methodNamed B.named; exact h9
  have hlocks := B.notSynchronized
  subst hsz
  have hD := hD0.self (sz := s.heap.size)
  generalize hAe : va_A (WC cy ad ks g u0) s.heap.size = A at hD hE ⊢
  have hA : ∀ q : Nat, s.heap.size ≤ q → A q := fun q h => by rw [← hAe]; exact Or.inr h
  have hS : va_S A s.heap s.heap [] := va_S.rf
  have hl := lv_entry ([.ref (ad .cl), .int a1]) (n := 2) (Nat.le_of_ble_eq_true rfl)
  rw [lg_entry_eq]
  generalize (lg_sl ([.ref (ad .cl), .int a1]) ++ List.replicate (2 - (lg_sl ([.ref (ad .cl), .int a1])).length) Slot.unset).toArray = ls at hl ⊢
  have hl : lv_has ls 2 [(0, .ref (ad .cl)), (1, .int a1)] := hl
  generalize hHe : s.heap = H at hP hS ⊢
  have hS : va_S A s.heap H [] := by rw [hHe]; exact hS
  refine my_Q (fun Qn hQ => ?_)
  simp only [C7_needStation] at hF
  refine lv_iload_n hx hb dX7_needStation_0 rfl (lv_at hl 1 rfl) ?_
  refine lv_if_lt (tgt := 15) hx hb dX7_needStation_1 (by decide) (fun c1 => ?_) (fun c1 => ?_)
  · rw [if_pos c1] at hF
    have hZ := s4 hF
    subst hZ
    obtain ⟨sa, hsa⟩ := hE.t90
    rw [hQ]
    exact vx_throwS (A := A) (own := RX7) (cls := xI) (text := "no such station") (names := ["java/lang/RuntimeException", "java/lang/Exception"]) (ik := 88) (is := 90) (ic := 92) hx hb hst hown (by decide) (by decide) (hts _ mw_635) (hts _ mw_636) hsa (my_hat (fun w h => hts w (List.mem_append_right _ h)) my_atI hE.cI hE.dc) my_gI hE.zU hE.zN hS (by rw [hml]; exact hl.1) dX7_needStation_15 dX7_needStation_18 dX7_needStation_19 dX7_needStation_21 dX7_needStation_24 (fun x hx => (hout x hx).elim) (Nat.le_of_ble_eq_true rfl) (Nat.le_of_ble_eq_true rfl) (Nat.le_of_ble_eq_true rfl) (Nat.le_of_ble_eq_true rfl) hlocks (fun t _ h1 h2 => ⟨(), trivial, ⟨rfl, my_keep hP (fun q9 z9 _ => h2 q9 z9)⟩, my_F hS h1 h2⟩) hS.2.2 (Nat.le_of_ble_eq_true rfl) (Nat.le_of_ble_eq_true rfl)
  · rw [if_neg c1] at hF
    refine lv_iload_n hx hb dX7_needStation_4 rfl (lv_at hl 1 rfl) ?_
    refine lv_aload_n hx hb dX7_needStation_5 rfl (lv_at hl 0 rfl) ?_
    obtain ⟨q9, h9⟩ := wc_at (cy := cy) (ad := ad) (ks := ks) (g := g) (u := u0) (κ := .cl) hk.1 True.intro
    refine va_get (D := (dC, dI)) (ci := 7) (v := .ref (ad (.ln 0))) (C := RX7) (T := TX7) (N := 12) hx hb hts inlX7 hown hK hP q9 h9 rfl 0 (by decide) (hts _ mw_18) (fun _ h9 => h9) rfl dX7_needStation_6 ?_
    clear h9
    obtain ⟨q9, h9⟩ := wc_at (cy := cy) (ad := ad) (ks := ks) (g := g) (u := u0) (κ := (.ln 0)) hk.1 (Or.inl (by decide))
    refine va_get (D := (dC, dI)) (ci := 3) (v := .int (u0 (10 + 0) 7)) (C := RX3) (T := TX3) (N := 17) hx hb hts inlX3 hown hK hP q9 h9 rfl 7 (by decide) (hts _ mw_138) (fun _ h9 => h9) rfl dX7_needStation_9 ?_
    clear h9
    refine lv_icmp_lt (tgt := 25) hx hb dX7_needStation_12 (by decide) (fun c2 => ?_) (fun c2 => ?_)
    · rw [if_pos c2] at hF
      cases hF
    · rw [if_neg c2] at hF
      have hZ := s4 hF
      subst hZ
      obtain ⟨sa, hsa⟩ := hE.t90
      rw [hQ]
      exact vx_throwS (A := A) (own := RX7) (cls := xI) (text := "no such station") (names := ["java/lang/RuntimeException", "java/lang/Exception"]) (ik := 88) (is := 90) (ic := 92) hx hb hst hown (by decide) (by decide) (hts _ mw_635) (hts _ mw_636) hsa (my_hat (fun w h => hts w (List.mem_append_right _ h)) my_atI hE.cI hE.dc) my_gI hE.zU hE.zN hS (by rw [hml]; exact hl.1) dX7_needStation_15 dX7_needStation_18 dX7_needStation_19 dX7_needStation_21 dX7_needStation_24 (fun x hx => (hout x hx).elim) (Nat.le_of_ble_eq_true rfl) (Nat.le_of_ble_eq_true rfl) (Nat.le_of_ble_eq_true rfl) (Nat.le_of_ble_eq_true rfl) hlocks (fun t _ h1 h2 => ⟨(), trivial, ⟨rfl, my_keep hP (fun q9 z9 _ => h2 q9 z9)⟩, my_F hS h1 h2⟩) hS.2.2 (Nat.le_of_ble_eq_true rfl) (Nat.le_of_ble_eq_true rfl)
set_option maxHeartbeats 4000000 in
set_option maxRecDepth 100000 in
theorem c_X7_busyPart_y (l : Launch) (hst : l.stackTraces = false) (dC : Nat → ClassId) (dI : Nat → Nat → Nat) (cy : Nat → ClassId) (nb : Nat → Nat) (ad : CK → Nat) (ks : List CK) (g : CG) (hk : GA nb ad g ks) (u0 : RS) (a1 : Int32) (xc : Int32) (sz : Nat) (hF : C7_busyPart g u0 a1 = some (.inl xc)) : vx_Met l yX7_busyPart (wsg yX7_busyPart cX7_busyPart 3 (some .float)) ({ frames := 8, cells := 1, slots := 6, locals := 300 }) (va_Pc [.ref (ad .cl), .int a1] (fun U => U.heap.size = sz ∧ va_P (dC, dI) vwCl (WC cy ad ks g u0) U.heap ∧ va_K (dC, dI) vwCl (tyL cy) U ∧ va_D (fun _ => True) (WC cy ad ks g u0) ∧ GE nb (va_A (WC cy ad ks g u0) sz) U)) (va_Qf (fun (_ : UInt32) (_ : Unit) => False) (fun _ _ => True) (va_A (WC cy ad ks g u0) sz)) (vx_X (fun (_ : Unit) => True) (fun E9 _ t9 => E9 = exn xc ∧ va_P (dC, dI) vwCl (WC cy ad ks g u0) t9.heap) (va_A (WC cy ad ks g u0) sz)) 1 6 (va_A (WC cy ad ks g u0) sz) := by
  refine vx_ofW (cc := cX7_busyPart) (maxL := 3) (ret := (some .float)) pn_X7 rfl ?_
  intro p e s m args below meth c s₁ B hml hout hv
  obtain ⟨rfl, hsz, hP, hK, hD0, hE⟩ := hv
  have hx := B.exec
  have hb := B.bytes
  have hr := B.returns
  have hts0 := atoms_spec (ws := (wsg yX7_busyPart cX7_busyPart 3 (some .float))) B.pre
  have hts : ∀ w ∈ wsL_law, w.before _ s = true := fun w h => hts0 w (List.mem_cons_of_mem _ h)
  have hown : s.vm.findClass RX7 = some m.cls := by have h9 := findClass_of_methodNamed B.named; exact h9
  have hlocks := B.notSynchronized
  subst hsz
  have hD := hD0.self (sz := s.heap.size)
  generalize hAe : va_A (WC cy ad ks g u0) s.heap.size = A at hD hE ⊢
  have hA : ∀ q : Nat, s.heap.size ≤ q → A q := fun q h => by rw [← hAe]; exact Or.inr h
  have hS : va_S A s.heap s.heap [] := va_S.rf
  have hl := lv_entry ([.ref (ad .cl), .int a1]) (n := 3) (Nat.le_of_ble_eq_true rfl)
  rw [lg_entry_eq]
  generalize (lg_sl ([.ref (ad .cl), .int a1]) ++ List.replicate (3 - (lg_sl ([.ref (ad .cl), .int a1])).length) Slot.unset).toArray = ls at hl ⊢
  have hl : lv_has ls 3 [(0, .ref (ad .cl)), (1, .int a1)] := hl
  generalize hHe : s.heap = H at hP hS ⊢
  have hS : va_S A s.heap H [] := by rw [hHe]; exact hS
  refine my_Q (fun Qn hQ => ?_)
  simp only [C7_busyPart] at hF
  refine lv_aload_n hx hb dX7_busyPart_0 rfl (lv_at hl 0 rfl) ?_
  refine lv_iload_n hx hb dX7_busyPart_1 rfl (lv_at hl 1 rfl) ?_
  obtain ⟨t1, e2, hF⟩ := ob hF
  rcases t1 with xz9 | t3
  · have hF : some (Sum.inl xz9) = some (.inl xc) := hF
    have hPc := hP
    have hDc := hD
    have hFc := my_free hD hS hA
    obtain ⟨q8, h8⟩ := wc_at (cy := cy) (ad := ad) (ks := ks) (g := g) (u := u0) (κ := .cl) hk.1 True.intro
    refine vx_callv (vx_runV (As := [.int a1]) (rest := []) ⟨hx, hb, hml, hown, hts⟩ (c_X7_needStation_y l hst dC dI cy nb ad ks g hk u0 (a1) xz9 H.size e2) (cwV 1 hts (gV mw_631 mw_632 mw_633 mw_2 mw_634) rfl rfl rfl (by decide +kernel) ⟨Nat.le_of_ble_eq_true rfl, Nat.le_of_ble_eq_true rfl⟩) (my_preV hPc hK hDc hE hS hFc (va_recv (q := (RX7, TX7, 12)) hK hP (ci := 7) (q0 := q8) rfl h8)) rfl rfl hl.1 rfl (lv_room (Nat.le_of_ble_eq_true rfl)) dX7_busyPart_2 ⟨Nat.le_of_ble_eq_true rfl, Nat.le_of_ble_eq_true rfl⟩) hS (fun q _ h => hFc q h) hFc (fun q _ h => hFc q h) (fun E9 ce9 q9 u9 t9 H1 locs1 ht9 hvm9 hp9 hB9 hz9 hk9 hS9 hc9 hv9 hcl9 => ?_) (fun u9 t9 H1 locs1 ht9 hvm9 hp9 _ _ _ _ => hp9.elim)
    have hZ := s4 hF
    rw [hQ]
    exact vx_out (fun x hx => (hout x hx).elim) hlocks hc9 hv9 hcl9 (fun t h1 h2 => ⟨(), trivial, ⟨hB9.1.trans (congrArg exn hZ), by rw [h1, ← ht9]; exact hB9.2⟩, hS9.F h1⟩) hS9.2.2 (Nat.le_of_ble_eq_true rfl) (Nat.le_of_ble_eq_true rfl)
  · dsimp only [tr] at hF
    have hPc := hP
    have hDc := hD
    have hFc := my_free hD hS hA
    obtain ⟨q8, h8⟩ := wc_at (cy := cy) (ad := ad) (ks := ks) (g := g) (u := u0) (κ := .cl) hk.1 True.intro
    refine va_callv (va_runV (As := [.int a1]) (rest := []) ⟨hx, hb, hml, hown, hts⟩ (c_X7_needStation l dC dI cy nb ad ks g hk u0 (a1) H.size e2) (cwV 1 hts (gV mw_631 mw_632 mw_633 mw_2 mw_634) rfl rfl rfl (by decide +kernel) ⟨Nat.le_of_ble_eq_true rfl, Nat.le_of_ble_eq_true rfl⟩) (my_preV hPc hK hDc hE hS hFc (va_recv (q := (RX7, TX7, 12)) hK hP (ci := 7) (q0 := q8) rfl h8)) rfl rfl hl.1 rfl (lv_room (Nat.le_of_ble_eq_true rfl)) dX7_busyPart_2 ⟨Nat.le_of_ble_eq_true rfl, Nat.le_of_ble_eq_true rfl⟩) hS (fun q _ h => hFc q h) hFc (fun u t H1 locs ht hvm hw hB hz1 hk1 hS => ?_)
    clear h8
    obtain ⟨hP1, hD1⟩ := hB
    rw [ht] at hP1
    have hP := hP1
    have hD := hD1.weaken (fun k q _ h => hFc q.1 h)
    generalize H1 = H at hP hS ⊢
    clear hP1 hD1 hPc hDc hFc hk1 hz1 hvm ht
    refine lv_aload_n hx hb dX7_busyPart_5 rfl (lv_at hl 0 rfl) ?_
    obtain ⟨q9, h9⟩ := wc_at (cy := cy) (ad := ad) (ks := ks) (g := g) (u := u0) (κ := .cl) hk.1 True.intro
    refine va_get (D := (dC, dI)) (ci := 7) (v := .ref (ad (.ln 0))) (C := RX7) (T := TX7) (N := 12) hx hb hts inlX7 hown hK hP q9 h9 rfl 0 (by decide) (hts _ mw_18) (fun _ h9 => h9) rfl dX7_busyPart_6 ?_
    clear h9
    obtain ⟨q9, h9⟩ := wc_at (cy := cy) (ad := ad) (ks := ks) (g := g) (u := u0) (κ := (.ln 0)) hk.1 (Or.inl (by decide))
    refine va_get (D := (dC, dI)) (ci := 3) (v := .int (u0 (10 + 0) 6)) (C := RX3) (T := TX3) (N := 17) hx hb hts inlX3 hown hK hP q9 h9 rfl 6 (by decide) (hts _ mw_867) (fun _ h9 => h9) rfl dX7_busyPart_9 ?_
    clear h9
    refine lv_istore_n (lv' := [(2, .int (u0 (10 + 0) 6)), (0, .ref (ad .cl)), (1, .int a1)]) hx hb dX7_busyPart_12 rfl hl (by decide) rfl (fun ls hl => ?_)
    refine lv_iload_n hx hb dX7_busyPart_13 rfl (lv_at hl 0 rfl) ?_
    obtain ⟨t5, hJ6, hF⟩ := ob hF
    have join7 : ∀ (H : Heap) (locs : List Loc) (ls : Array Slot), va_P (dC, dI) vwCl (WC cy ad ks g u0) H → va_D A (WC cy ad ks g u0) → va_S A s.heap H locs → lv_has ls 3 [(2, .int (u0 (10 + 0) 6)), (0, .ref (ad .cl)), (1, .int a1)] → W p l e (headSpec (wsg yX7_busyPart cX7_busyPart 3 (some .float)) ({ frames := 8, cells := 1, slots := 6, locals := 300 })).room s m ([.ref (ad .cl), .int a1] : List Value).toArray below meth c H locs 0 0 Qn (F0 m 37 ls [.float t5]) := by
      intro H locs ls hP hD hS hl
      cases hF
    clear hF
    have hF := hJ6
    clear hJ6
    refine lv_if_ne (tgt := 21) hx hb dX7_busyPart_14 (by decide) (fun c4 => ?_) (fun c4 => ?_)
    · rw [if_neg c4] at hF
      refine lv_aload_n hx hb dX7_busyPart_21 rfl (lv_at hl 1 rfl) ?_
      obtain ⟨q9, h9⟩ := wc_at (cy := cy) (ad := ad) (ks := ks) (g := g) (u := u0) (κ := .cl) hk.1 True.intro
      refine va_get (D := (dC, dI)) (ci := 7) (v := .ref (ad (.ln 0))) (C := RX7) (T := TX7) (N := 12) hx hb hts inlX7 hown hK hP q9 h9 rfl 0 (by decide) (hts _ mw_18) (fun _ h9 => h9) rfl dX7_busyPart_22 ?_
      clear h9
      obtain ⟨q9, h9⟩ := wc_at (cy := cy) (ad := ad) (ks := ks) (g := g) (u := u0) (κ := (.ln 0)) hk.1 (Or.inl (by decide))
      refine va_get (D := (dC, dI)) (ci := 3) (v := .ref (ad (.ss 0))) (C := RX3) (T := TX3) (N := 17) hx hb hts inlX3 hown hK hP q9 h9 rfl 10 (by decide) (hts _ mw_617) (fun _ h9 => h9) rfl dX7_busyPart_25 ?_
      clear h9
      refine lv_iload_n hx hb dX7_busyPart_28 rfl (lv_at hl 2 rfl) ?_
      obtain ⟨n8, e9, hF⟩ := ob hF
      obtain ⟨q9, h9⟩ := wc_at (cy := cy) (ad := ad) (ks := ks) (g := g) (u := u0) (κ := (.ss 0)) hk.1 (Or.inl (by decide))
      refine va_aldq hx hb hK hP q9 6 h9 rfl (ix_in e9) dX7_busyPart_29 ?_
      refine my_top (y := .ref (ad (.st 0 n8))) (ixv (F := fun j => ad (.st 0 j)) e9) ?_
      clear h9
      obtain ⟨q9, h9⟩ := wc_at (cy := cy) (ad := ad) (ks := ks) (g := g) (u := u0) (κ := (.st 0 n8)) hk.1 ⟨(Or.inl (by decide)), (ix_lt e9)⟩
      refine va_get (D := (dC, dI)) (ci := 6) (v := .int (u0 (10 + 0) (17 + 16 * n8 + 12))) (C := RX6) (T := TX6) (N := 15) hx hb hts inlX6 hown hK hP q9 h9 rfl 14 (by decide) (hts _ mw_630) (fun _ h9 => h9) rfl dX7_busyPart_30 ?_
      clear h9
      refine lv_i2f hx hb dX7_busyPart_33 ?_
      refine lv_iload_n hx hb dX7_busyPart_34 rfl (lv_at hl 0 rfl) ?_
      refine lv_i2f hx hb dX7_busyPart_35 ?_
      obtain ⟨x10, e11, hF⟩ := ob hF
      refine lv_fdiv hx hb dX7_busyPart_36 (fd_n e11) ?_
      refine my_top (y := .float x10) (by rw [fd_e e11]) ?_
      have ht := s1 hF
      subst ht
      exact join7 _ _ _ hP hD hS (lv_sub hl [0, 1, 2] rfl)
    · rw [if_pos c4] at hF
      refine lv_fconst0 hx hb dX7_busyPart_17 ?_
      refine lv_goto (tgt := 37) hx hb dX7_busyPart_18 (by decide) ?_
      have ht := s1 hF
      subst ht
      exact join7 _ _ _ hP hD hS (lv_sub hl [0, 1, 2] rfl)
set_option maxHeartbeats 4000000 in
set_option maxRecDepth 100000 in
theorem c_X7_needCard_y (l : Launch) (hst : l.stackTraces = false) (dC : Nat → ClassId) (dI : Nat → Nat → Nat) (cy : Nat → ClassId) (nb : Nat → Nat) (ad : CK → Nat) (ks : List CK) (g : CG) (hk : GA nb ad g ks) (u0 : RS) (a1 : Int32) (xc : Int32) (sz : Nat) (hF : C7_needCard g u0 a1 = some (.inl xc)) : vx_Met l yX7_needCard (wsg yX7_needCard cX7_needCard 2 none) ({ frames := 7, cells := 1, slots := 6, locals := 200 }) (va_Pc [.ref (ad .cl), .int a1] (fun U => U.heap.size = sz ∧ va_P (dC, dI) vwCl (WC cy ad ks g u0) U.heap ∧ va_K (dC, dI) vwCl (tyL cy) U ∧ va_D (fun _ => True) (WC cy ad ks g u0) ∧ GE nb (va_A (WC cy ad ks g u0) sz) U)) (va_Qv (fun (_ : Unit) => False) (fun _ _ => True) (va_A (WC cy ad ks g u0) sz)) (vx_X (fun (_ : Unit) => True) (fun E9 _ t9 => E9 = exn xc ∧ va_P (dC, dI) vwCl (WC cy ad ks g u0) t9.heap) (va_A (WC cy ad ks g u0) sz)) 1 6 (va_A (WC cy ad ks g u0) sz) := by
  refine vx_ofW (cc := cX7_needCard) (maxL := 2) (ret := none) pn_X7 rfl ?_
  intro p e s m args below meth c s₁ B hml hout hv
  obtain ⟨rfl, hsz, hP, hK, hD0, hE⟩ := hv
  have hx := B.exec
  have hb := B.bytes
  have hr := B.returns
  have hts0 := atoms_spec (ws := (wsg yX7_needCard cX7_needCard 2 none)) B.pre
  have hts : ∀ w ∈ wsL_law, w.before _ s = true := fun w h => hts0 w (List.mem_cons_of_mem _ h)
  have hown : s.vm.findClass RX7 = some m.cls := by have h9 := findClass_of_methodNamed B.named; exact h9
  have hlocks := B.notSynchronized
  subst hsz
  have hD := hD0.self (sz := s.heap.size)
  generalize hAe : va_A (WC cy ad ks g u0) s.heap.size = A at hD hE ⊢
  have hA : ∀ q : Nat, s.heap.size ≤ q → A q := fun q h => by rw [← hAe]; exact Or.inr h
  have hS : va_S A s.heap s.heap [] := va_S.rf
  have hl := lv_entry ([.ref (ad .cl), .int a1]) (n := 2) (Nat.le_of_ble_eq_true rfl)
  rw [lg_entry_eq]
  generalize (lg_sl ([.ref (ad .cl), .int a1]) ++ List.replicate (2 - (lg_sl ([.ref (ad .cl), .int a1])).length) Slot.unset).toArray = ls at hl ⊢
  have hl : lv_has ls 2 [(0, .ref (ad .cl)), (1, .int a1)] := hl
  generalize hHe : s.heap = H at hP hS ⊢
  have hS : va_S A s.heap H [] := by rw [hHe]; exact hS
  refine my_Q (fun Qn hQ => ?_)
  simp only [C7_needCard] at hF
  refine lv_iload_n hx hb dX7_needCard_0 rfl (lv_at hl 1 rfl) ?_
  refine lv_if_lt (tgt := 15) hx hb dX7_needCard_1 (by decide) (fun c1 => ?_) (fun c1 => ?_)
  · rw [if_pos c1] at hF
    have hZ := s4 hF
    subst hZ
    obtain ⟨sa, hsa⟩ := hE.t98
    rw [hQ]
    exact vx_throwS (A := A) (own := RX7) (cls := xI) (text := "no such card") (names := ["java/lang/RuntimeException", "java/lang/Exception"]) (ik := 88) (is := 98) (ic := 92) hx hb hst hown (by decide) (by decide) (hts _ mw_635) (hts _ mw_636) hsa (my_hat (fun w h => hts w (List.mem_append_right _ h)) my_atI hE.cI hE.dc) my_gI hE.zU hE.zN hS (by rw [hml]; exact hl.1) dX7_needCard_15 dX7_needCard_18 dX7_needCard_19 dX7_needCard_21 dX7_needCard_24 (fun x hx => (hout x hx).elim) (Nat.le_of_ble_eq_true rfl) (Nat.le_of_ble_eq_true rfl) (Nat.le_of_ble_eq_true rfl) (Nat.le_of_ble_eq_true rfl) hlocks (fun t _ h1 h2 => ⟨(), trivial, ⟨rfl, my_keep hP (fun q9 z9 _ => h2 q9 z9)⟩, my_F hS h1 h2⟩) hS.2.2 (Nat.le_of_ble_eq_true rfl) (Nat.le_of_ble_eq_true rfl)
  · rw [if_neg c1] at hF
    refine lv_iload_n hx hb dX7_needCard_4 rfl (lv_at hl 1 rfl) ?_
    refine lv_aload_n hx hb dX7_needCard_5 rfl (lv_at hl 0 rfl) ?_
    obtain ⟨q9, h9⟩ := wc_at (cy := cy) (ad := ad) (ks := ks) (g := g) (u := u0) (κ := .cl) hk.1 True.intro
    refine va_get (D := (dC, dI)) (ci := 7) (v := .ref (ad (.ln 0))) (C := RX7) (T := TX7) (N := 12) hx hb hts inlX7 hown hK hP q9 h9 rfl 0 (by decide) (hts _ mw_18) (fun _ h9 => h9) rfl dX7_needCard_6 ?_
    clear h9
    obtain ⟨q9, h9⟩ := wc_at (cy := cy) (ad := ad) (ks := ks) (g := g) (u := u0) (κ := (.ln 0)) hk.1 (Or.inl (by decide))
    refine va_get (D := (dC, dI)) (ci := 3) (v := .int (u0 (10 + 0) 9)) (C := RX3) (T := TX3) (N := 17) hx hb hts inlX3 hown hK hP q9 h9 rfl 9 (by decide) (hts _ mw_572) (fun _ h9 => h9) rfl dX7_needCard_9 ?_
    clear h9
    refine lv_icmp_lt (tgt := 25) hx hb dX7_needCard_12 (by decide) (fun c2 => ?_) (fun c2 => ?_)
    · rw [if_pos c2] at hF
      cases hF
    · rw [if_neg c2] at hF
      have hZ := s4 hF
      subst hZ
      obtain ⟨sa, hsa⟩ := hE.t98
      rw [hQ]
      exact vx_throwS (A := A) (own := RX7) (cls := xI) (text := "no such card") (names := ["java/lang/RuntimeException", "java/lang/Exception"]) (ik := 88) (is := 98) (ic := 92) hx hb hst hown (by decide) (by decide) (hts _ mw_635) (hts _ mw_636) hsa (my_hat (fun w h => hts w (List.mem_append_right _ h)) my_atI hE.cI hE.dc) my_gI hE.zU hE.zN hS (by rw [hml]; exact hl.1) dX7_needCard_15 dX7_needCard_18 dX7_needCard_19 dX7_needCard_21 dX7_needCard_24 (fun x hx => (hout x hx).elim) (Nat.le_of_ble_eq_true rfl) (Nat.le_of_ble_eq_true rfl) (Nat.le_of_ble_eq_true rfl) (Nat.le_of_ble_eq_true rfl) hlocks (fun t _ h1 h2 => ⟨(), trivial, ⟨rfl, my_keep hP (fun q9 z9 _ => h2 q9 z9)⟩, my_F hS h1 h2⟩) hS.2.2 (Nat.le_of_ble_eq_true rfl) (Nat.le_of_ble_eq_true rfl)
set_option maxHeartbeats 4000000 in
set_option maxRecDepth 100000 in
theorem c_X7_card_y (l : Launch) (hst : l.stackTraces = false) (dC : Nat → ClassId) (dI : Nat → Nat → Nat) (cy : Nat → ClassId) (nb : Nat → Nat) (ad : CK → Nat) (ks : List CK) (g : CG) (hk : GA nb ad g ks) (u0 : RS) (a1 : Int32) (a2 : Int32) (xc : Int32) (sz : Nat) (hF : C7_card g u0 a1 a2 = some (.inl xc)) : vx_Met l yX7_card (wsg yX7_card cX7_card 4 (some .int)) ({ frames := 8, cells := 1, slots := 6, locals := 300 }) (va_Pc [.ref (ad .cl), .int a1, .int a2] (fun U => U.heap.size = sz ∧ va_P (dC, dI) vwCl (WC cy ad ks g u0) U.heap ∧ va_K (dC, dI) vwCl (tyL cy) U ∧ va_D (fun _ => True) (WC cy ad ks g u0) ∧ GE nb (va_A (WC cy ad ks g u0) sz) U)) (va_Qi (fun (_ : Int32) (_ : Unit) => False) (fun _ _ => True) (va_A (WC cy ad ks g u0) sz)) (vx_X (fun (_ : Unit) => True) (fun E9 _ t9 => E9 = exn xc ∧ va_P (dC, dI) vwCl (WC cy ad ks g u0) t9.heap) (va_A (WC cy ad ks g u0) sz)) 1 6 (va_A (WC cy ad ks g u0) sz) := by
  refine vx_ofW (cc := cX7_card) (maxL := 4) (ret := (some .int)) pn_X7 rfl ?_
  intro p e s m args below meth c s₁ B hml hout hv
  obtain ⟨rfl, hsz, hP, hK, hD0, hE⟩ := hv
  have hx := B.exec
  have hb := B.bytes
  have hr := B.returns
  have hts0 := atoms_spec (ws := (wsg yX7_card cX7_card 4 (some .int))) B.pre
  have hts : ∀ w ∈ wsL_law, w.before _ s = true := fun w h => hts0 w (List.mem_cons_of_mem _ h)
  have hown : s.vm.findClass RX7 = some m.cls := by have h9 := findClass_of_methodNamed B.named; exact h9
  have hlocks := B.notSynchronized
  subst hsz
  have hD := hD0.self (sz := s.heap.size)
  generalize hAe : va_A (WC cy ad ks g u0) s.heap.size = A at hD hE ⊢
  have hA : ∀ q : Nat, s.heap.size ≤ q → A q := fun q h => by rw [← hAe]; exact Or.inr h
  have hS : va_S A s.heap s.heap [] := va_S.rf
  have hl := lv_entry ([.ref (ad .cl), .int a1, .int a2]) (n := 4) (Nat.le_of_ble_eq_true rfl)
  rw [lg_entry_eq]
  generalize (lg_sl ([.ref (ad .cl), .int a1, .int a2]) ++ List.replicate (4 - (lg_sl ([.ref (ad .cl), .int a1, .int a2])).length) Slot.unset).toArray = ls at hl ⊢
  have hl : lv_has ls 4 [(0, .ref (ad .cl)), (1, .int a1), (2, .int a2)] := hl
  generalize hHe : s.heap = H at hP hS ⊢
  have hS : va_S A s.heap H [] := by rw [hHe]; exact hS
  refine my_Q (fun Qn hQ => ?_)
  simp only [C7_card] at hF
  refine lv_aload_n hx hb dX7_card_0 rfl (lv_at hl 0 rfl) ?_
  refine lv_iload_n hx hb dX7_card_1 rfl (lv_at hl 1 rfl) ?_
  obtain ⟨t1, e2, hF⟩ := ob hF
  rcases t1 with xz9 | t3
  · have hF : some (Sum.inl xz9) = some (.inl xc) := hF
    have hPc := hP
    have hDc := hD
    have hFc := my_free hD hS hA
    obtain ⟨q8, h8⟩ := wc_at (cy := cy) (ad := ad) (ks := ks) (g := g) (u := u0) (κ := .cl) hk.1 True.intro
    refine vx_callv (vx_runV (As := [.int a1]) (rest := []) ⟨hx, hb, hml, hown, hts⟩ (c_X7_needCard_y l hst dC dI cy nb ad ks g hk u0 (a1) xz9 H.size e2) (cwV 1 hts (gV mw_666 mw_667 mw_668 mw_2 mw_669) rfl rfl rfl (by decide +kernel) ⟨Nat.le_of_ble_eq_true rfl, Nat.le_of_ble_eq_true rfl⟩) (my_preV hPc hK hDc hE hS hFc (va_recv (q := (RX7, TX7, 12)) hK hP (ci := 7) (q0 := q8) rfl h8)) rfl rfl hl.1 rfl (lv_room (Nat.le_of_ble_eq_true rfl)) dX7_card_2 ⟨Nat.le_of_ble_eq_true rfl, Nat.le_of_ble_eq_true rfl⟩) hS (fun q _ h => hFc q h) hFc (fun q _ h => hFc q h) (fun E9 ce9 q9 u9 t9 H1 locs1 ht9 hvm9 hp9 hB9 hz9 hk9 hS9 hc9 hv9 hcl9 => ?_) (fun u9 t9 H1 locs1 ht9 hvm9 hp9 _ _ _ _ => hp9.elim)
    have hZ := s4 hF
    rw [hQ]
    exact vx_out (fun x hx => (hout x hx).elim) hlocks hc9 hv9 hcl9 (fun t h1 h2 => ⟨(), trivial, ⟨hB9.1.trans (congrArg exn hZ), by rw [h1, ← ht9]; exact hB9.2⟩, hS9.F h1⟩) hS9.2.2 (Nat.le_of_ble_eq_true rfl) (Nat.le_of_ble_eq_true rfl)
  · dsimp only [tr] at hF
    have hPc := hP
    have hDc := hD
    have hFc := my_free hD hS hA
    obtain ⟨q8, h8⟩ := wc_at (cy := cy) (ad := ad) (ks := ks) (g := g) (u := u0) (κ := .cl) hk.1 True.intro
    refine va_callv (va_runV (As := [.int a1]) (rest := []) ⟨hx, hb, hml, hown, hts⟩ (c_X7_needCard l dC dI cy nb ad ks g hk u0 (a1) H.size e2) (cwV 1 hts (gV mw_666 mw_667 mw_668 mw_2 mw_669) rfl rfl rfl (by decide +kernel) ⟨Nat.le_of_ble_eq_true rfl, Nat.le_of_ble_eq_true rfl⟩) (my_preV hPc hK hDc hE hS hFc (va_recv (q := (RX7, TX7, 12)) hK hP (ci := 7) (q0 := q8) rfl h8)) rfl rfl hl.1 rfl (lv_room (Nat.le_of_ble_eq_true rfl)) dX7_card_2 ⟨Nat.le_of_ble_eq_true rfl, Nat.le_of_ble_eq_true rfl⟩) hS (fun q _ h => hFc q h) hFc (fun u t H1 locs ht hvm hw hB hz1 hk1 hS => ?_)
    clear h8
    obtain ⟨hP1, hD1⟩ := hB
    rw [ht] at hP1
    have hP := hP1
    have hD := hD1.weaken (fun k q _ h => hFc q.1 h)
    generalize H1 = H at hP hS ⊢
    clear hP1 hD1 hPc hDc hFc hk1 hz1 hvm ht
    refine lv_aload_n hx hb dX7_card_5 rfl (lv_at hl 0 rfl) ?_
    obtain ⟨q9, h9⟩ := wc_at (cy := cy) (ad := ad) (ks := ks) (g := g) (u := u0) (κ := .cl) hk.1 True.intro
    refine va_get (D := (dC, dI)) (ci := 7) (v := .ref (ad (.ln 0))) (C := RX7) (T := TX7) (N := 12) hx hb hts inlX7 hown hK hP q9 h9 rfl 0 (by decide) (hts _ mw_18) (fun _ h9 => h9) rfl dX7_card_6 ?_
    clear h9
    obtain ⟨q9, h9⟩ := wc_at (cy := cy) (ad := ad) (ks := ks) (g := g) (u := u0) (κ := (.ln 0)) hk.1 (Or.inl (by decide))
    refine va_get (D := (dC, dI)) (ci := 3) (v := .ref (ad (.cs 0))) (C := RX3) (T := TX3) (N := 17) hx hb hts inlX3 hown hK hP q9 h9 rfl 12 (by decide) (hts _ mw_657) (fun _ h9 => h9) rfl dX7_card_9 ?_
    clear h9
    refine lv_iload_n hx hb dX7_card_12 rfl (lv_at hl 1 rfl) ?_
    obtain ⟨n4, e5, hF⟩ := ob hF
    obtain ⟨q9, h9⟩ := wc_at (cy := cy) (ad := ad) (ks := ks) (g := g) (u := u0) (κ := (.cs 0)) hk.1 (Or.inl (by decide))
    refine va_aldq hx hb hK hP q9 8 h9 rfl (ix_in e5) dX7_card_13 ?_
    refine my_top (y := .ref (ad (.cd 0 n4))) (ixv (F := fun j => ad (.cd 0 j)) e5) ?_
    clear h9
    refine lv_astore_n (lv' := [(3, .ref (ad (.cd 0 n4))), (0, .ref (ad .cl)), (1, .int a1), (2, .int a2)]) hx hb dX7_card_14 rfl hl (by decide) rfl (fun ls hl => ?_)
    refine lv_iload_n hx hb dX7_card_15 rfl (lv_at hl 3 rfl) ?_
    by_cases c6 : a2 = 0
    · rw [if_pos c6] at hF
      refine my_topi (y := 0) c6 ?_
      refine lv_tableIn (off := 48) (tgt := 64) hx hb dX7_card_16 (by decide) (by decide) (by decide) (by decide) ?_
      refine lv_aload_n hx hb dX7_card_64 rfl (lv_at hl 0 rfl) ?_
      obtain ⟨q9, h9⟩ := wc_at (cy := cy) (ad := ad) (ks := ks) (g := g) (u := u0) (κ := (.cd 0 n4)) hk.1 ⟨(Or.inl (by decide)), (ix_lt e5)⟩
      refine va_get (D := (dC, dI)) (ci := 2) (v := .int (u0 (10 + 0) (137 + 25 * n4 + 0))) (C := RX1) (T := TX1) (N := 9) hx hb hts inlX1 hown hK hP q9 h9 rfl 0 (by decide) (hts _ mw_658) (fun _ h9 => h9) rfl dX7_card_65 ?_
      clear h9
      cases hF
    · rw [if_neg c6] at hF
      by_cases c7 : a2 = 1
      · rw [if_pos c7] at hF
        refine my_topi (y := 1) c7 ?_
        refine lv_tableIn (off := 53) (tgt := 69) hx hb dX7_card_16 (by decide) (by decide) (by decide) (by decide) ?_
        refine lv_aload_n hx hb dX7_card_69 rfl (lv_at hl 0 rfl) ?_
        obtain ⟨q9, h9⟩ := wc_at (cy := cy) (ad := ad) (ks := ks) (g := g) (u := u0) (κ := (.cd 0 n4)) hk.1 ⟨(Or.inl (by decide)), (ix_lt e5)⟩
        refine va_get (D := (dC, dI)) (ci := 2) (v := .int (u0 (10 + 0) (137 + 25 * n4 + 1))) (C := RX1) (T := TX1) (N := 9) hx hb hts inlX1 hown hK hP q9 h9 rfl 1 (by decide) (hts _ mw_659) (fun _ h9 => h9) rfl dX7_card_70 ?_
        clear h9
        cases hF
      · rw [if_neg c7] at hF
        by_cases c8 : a2 = 2
        · rw [if_pos c8] at hF
          refine my_topi (y := 2) c8 ?_
          refine lv_tableIn (off := 58) (tgt := 74) hx hb dX7_card_16 (by decide) (by decide) (by decide) (by decide) ?_
          refine lv_aload_n hx hb dX7_card_74 rfl (lv_at hl 0 rfl) ?_
          obtain ⟨q9, h9⟩ := wc_at (cy := cy) (ad := ad) (ks := ks) (g := g) (u := u0) (κ := (.cd 0 n4)) hk.1 ⟨(Or.inl (by decide)), (ix_lt e5)⟩
          refine va_get (D := (dC, dI)) (ci := 2) (v := .ref (ad (.tx (u0 (10 + 0) (137 + 25 * n4 + 2)).toNatClampNeg))) (C := RX1) (T := TX1) (N := 9) hx hb hts inlX1 hown hK hP q9 h9 rfl 2 (by decide) (hts _ mw_660) (fun _ h9 => h9) rfl dX7_card_75 ?_
          clear h9
          obtain ⟨x9, e10, hF⟩ := ob hF
          obtain ⟨q9, h9⟩ := wc_at (cy := cy) (ad := ad) (ks := ks) (g := g) (u := u0) (κ := (.tx (u0 (10 + 0) (137 + 25 * n4 + 2)).toNatClampNeg)) hk.1 (tln_h e10)
          refine va_alen (v := x9) hx hb hK hP q9 0 h9 (ty := .byte) rfl (tln_l e10) dX7_card_78 ?_
          clear h9
          cases hF
        · rw [if_neg c8] at hF
          by_cases c11 : a2 = 3
          · rw [if_pos c11] at hF
            refine my_topi (y := 3) c11 ?_
            refine lv_tableIn (off := 64) (tgt := 80) hx hb dX7_card_16 (by decide) (by decide) (by decide) (by decide) ?_
            refine lv_aload_n hx hb dX7_card_80 rfl (lv_at hl 0 rfl) ?_
            obtain ⟨q9, h9⟩ := wc_at (cy := cy) (ad := ad) (ks := ks) (g := g) (u := u0) (κ := (.cd 0 n4)) hk.1 ⟨(Or.inl (by decide)), (ix_lt e5)⟩
            refine va_get (D := (dC, dI)) (ci := 2) (v := .int (u0 (10 + 0) (137 + 25 * n4 + 3))) (C := RX1) (T := TX1) (N := 9) hx hb hts inlX1 hown hK hP q9 h9 rfl 3 (by decide) (hts _ mw_661) (fun _ h9 => h9) rfl dX7_card_81 ?_
            clear h9
            cases hF
          · rw [if_neg c11] at hF
            by_cases c12 : a2 = 4
            · rw [if_pos c12] at hF
              refine my_topi (y := 4) c12 ?_
              refine lv_tableIn (off := 69) (tgt := 85) hx hb dX7_card_16 (by decide) (by decide) (by decide) (by decide) ?_
              refine lv_aload_n hx hb dX7_card_85 rfl (lv_at hl 0 rfl) ?_
              obtain ⟨q9, h9⟩ := wc_at (cy := cy) (ad := ad) (ks := ks) (g := g) (u := u0) (κ := (.cd 0 n4)) hk.1 ⟨(Or.inl (by decide)), (ix_lt e5)⟩
              refine va_get (D := (dC, dI)) (ci := 2) (v := .int (u0 (10 + 0) (137 + 25 * n4 + 4))) (C := RX1) (T := TX1) (N := 9) hx hb hts inlX1 hown hK hP q9 h9 rfl 4 (by decide) (hts _ mw_662) (fun _ h9 => h9) rfl dX7_card_86 ?_
              clear h9
              cases hF
            · rw [if_neg c12] at hF
              by_cases c13 : a2 = 5
              · rw [if_pos c13] at hF
                refine my_topi (y := 5) c13 ?_
                refine lv_tableIn (off := 74) (tgt := 90) hx hb dX7_card_16 (by decide) (by decide) (by decide) (by decide) ?_
                refine lv_aload_n hx hb dX7_card_90 rfl (lv_at hl 0 rfl) ?_
                obtain ⟨q9, h9⟩ := wc_at (cy := cy) (ad := ad) (ks := ks) (g := g) (u := u0) (κ := (.cd 0 n4)) hk.1 ⟨(Or.inl (by decide)), (ix_lt e5)⟩
                refine va_get (D := (dC, dI)) (ci := 2) (v := .int (u0 (10 + 0) (137 + 25 * n4 + 5))) (C := RX1) (T := TX1) (N := 9) hx hb hts inlX1 hown hK hP q9 h9 rfl 5 (by decide) (hts _ mw_663) (fun _ h9 => h9) rfl dX7_card_91 ?_
                clear h9
                cases hF
              · rw [if_neg c13] at hF
                by_cases c14 : a2 = 6
                · rw [if_pos c14] at hF
                  refine my_topi (y := 6) c14 ?_
                  refine lv_tableIn (off := 79) (tgt := 95) hx hb dX7_card_16 (by decide) (by decide) (by decide) (by decide) ?_
                  refine lv_aload_n hx hb dX7_card_95 rfl (lv_at hl 0 rfl) ?_
                  obtain ⟨q9, h9⟩ := wc_at (cy := cy) (ad := ad) (ks := ks) (g := g) (u := u0) (κ := (.cd 0 n4)) hk.1 ⟨(Or.inl (by decide)), (ix_lt e5)⟩
                  refine va_get (D := (dC, dI)) (ci := 2) (v := .int (u0 (10 + 0) (137 + 25 * n4 + 6))) (C := RX1) (T := TX1) (N := 9) hx hb hts inlX1 hown hK hP q9 h9 rfl 6 (by decide) (hts _ mw_664) (fun _ h9 => h9) rfl dX7_card_96 ?_
                  clear h9
                  cases hF
                · rw [if_neg c14] at hF
                  by_cases c15 : a2 = 7
                  · rw [if_pos c15] at hF
                    refine my_topi (y := 7) c15 ?_
                    refine lv_tableIn (off := 84) (tgt := 100) hx hb dX7_card_16 (by decide) (by decide) (by decide) (by decide) ?_
                    refine lv_aload_n hx hb dX7_card_100 rfl (lv_at hl 0 rfl) ?_
                    obtain ⟨q9, h9⟩ := wc_at (cy := cy) (ad := ad) (ks := ks) (g := g) (u := u0) (κ := (.cd 0 n4)) hk.1 ⟨(Or.inl (by decide)), (ix_lt e5)⟩
                    refine va_get (D := (dC, dI)) (ci := 2) (v := .int (u0 (10 + 0) (137 + 25 * n4 + 7))) (C := RX1) (T := TX1) (N := 9) hx hb hts inlX1 hown hK hP q9 h9 rfl 7 (by decide) (hts _ mw_665) (fun _ h9 => h9) rfl dX7_card_101 ?_
                    clear h9
                    cases hF
                  · rw [if_neg c15] at hF
                    refine lv_tableOut (tgt := 105) hx hb dX7_card_16 (sw_out (lo := 0) (hi := 7) (fun k h1 h2 => by rcases (show k = 0 ∨ k = 1 ∨ k = 2 ∨ k = 3 ∨ k = 4 ∨ k = 5 ∨ k = 6 ∨ k = 7 by omega) with rfl | rfl | rfl | rfl | rfl | rfl | rfl | rfl <;> intro q <;> first | exact c6 (q.trans (by decide)) | exact c7 (q.trans (by decide)) | exact c8 (q.trans (by decide)) | exact c11 (q.trans (by decide)) | exact c12 (q.trans (by decide)) | exact c13 (q.trans (by decide)) | exact c14 (q.trans (by decide)) | exact c15 (q.trans (by decide)))) (by decide) ?_
                    have hZ := s4 hF
                    subst hZ
                    obtain ⟨sa, hsa⟩ := hE.t116
                    rw [hQ]
                    exact vx_throwS (A := A) (own := RX7) (cls := xA) (text := "what is out of range") (names := ["java/lang/RuntimeException", "java/lang/Exception"]) (ik := 105) (is := 116) (ic := 109) hx hb hst hown (by decide) (by decide) (hts _ mw_569) (hts _ mw_570) hsa (my_hat (fun w h => hts w (List.mem_append_left _ (List.mem_append_right _ h))) my_atA hE.cA hE.dc) my_gA hE.zU hE.zN hS (by rw [hml]; exact hl.1) dX7_card_105 dX7_card_108 dX7_card_109 dX7_card_111 dX7_card_114 (fun x hx => (hout x hx).elim) (Nat.le_of_ble_eq_true rfl) (Nat.le_of_ble_eq_true rfl) (Nat.le_of_ble_eq_true rfl) (Nat.le_of_ble_eq_true rfl) hlocks (fun t _ h1 h2 => ⟨(), trivial, ⟨rfl, my_keep hP (fun q9 z9 _ => h2 q9 z9)⟩, my_F hS h1 h2⟩) hS.2.2 (Nat.le_of_ble_eq_true rfl) (Nat.le_of_ble_eq_true rfl)
set_option maxHeartbeats 4000000 in
set_option maxRecDepth 100000 in
theorem c_X7_cardOf_y (l : Launch) (hst : l.stackTraces = false) (dC : Nat → ClassId) (dI : Nat → Nat → Nat) (cy : Nat → ClassId) (nb : Nat → Nat) (ad : CK → Nat) (ks : List CK) (g : CG) (hk : GA nb ad g ks) (u0 : RS) (a1 : Int32) (a2 : Int32) (xc : Int32) (sz : Nat) (hF : C7_cardOf g u0 a1 a2 = some (.inl xc)) : vx_Met l yX7_cardOf (wsg yX7_cardOf cX7_cardOf 3 (some .int)) ({ frames := 8, cells := 1, slots := 6, locals := 300 }) (va_Pc [.ref (ad .cl), .int a1, .int a2] (fun U => U.heap.size = sz ∧ va_P (dC, dI) vwCl (WC cy ad ks g u0) U.heap ∧ va_K (dC, dI) vwCl (tyL cy) U ∧ va_D (fun _ => True) (WC cy ad ks g u0) ∧ GE nb (va_A (WC cy ad ks g u0) sz) U)) (va_Qi (fun (_ : Int32) (_ : Unit) => False) (fun _ _ => True) (va_A (WC cy ad ks g u0) sz)) (vx_X (fun (_ : Unit) => True) (fun E9 _ t9 => E9 = exn xc ∧ va_P (dC, dI) vwCl (WC cy ad ks g u0) t9.heap) (va_A (WC cy ad ks g u0) sz)) 1 6 (va_A (WC cy ad ks g u0) sz) := by
  refine vx_ofW (cc := cX7_cardOf) (maxL := 3) (ret := (some .int)) pn_X7 rfl ?_
  intro p e s m args below meth c s₁ B hml hout hv
  obtain ⟨rfl, hsz, hP, hK, hD0, hE⟩ := hv
  have hx := B.exec
  have hb := B.bytes
  have hr := B.returns
  have hts0 := atoms_spec (ws := (wsg yX7_cardOf cX7_cardOf 3 (some .int))) B.pre
  have hts : ∀ w ∈ wsL_law, w.before _ s = true := fun w h => hts0 w (List.mem_cons_of_mem _ h)
  have hown : s.vm.findClass RX7 = some m.cls := by have h9 := findClass_of_methodNamed B.named; exact h9
  have hlocks := B.notSynchronized
  subst hsz
  have hD := hD0.self (sz := s.heap.size)
  generalize hAe : va_A (WC cy ad ks g u0) s.heap.size = A at hD hE ⊢
  have hA : ∀ q : Nat, s.heap.size ≤ q → A q := fun q h => by rw [← hAe]; exact Or.inr h
  have hS : va_S A s.heap s.heap [] := va_S.rf
  have hl := lv_entry ([.ref (ad .cl), .int a1, .int a2]) (n := 3) (Nat.le_of_ble_eq_true rfl)
  rw [lg_entry_eq]
  generalize (lg_sl ([.ref (ad .cl), .int a1, .int a2]) ++ List.replicate (3 - (lg_sl ([.ref (ad .cl), .int a1, .int a2])).length) Slot.unset).toArray = ls at hl ⊢
  have hl : lv_has ls 3 [(0, .ref (ad .cl)), (1, .int a1), (2, .int a2)] := hl
  generalize hHe : s.heap = H at hP hS ⊢
  have hS : va_S A s.heap H [] := by rw [hHe]; exact hS
  refine my_Q (fun Qn hQ => ?_)
  simp only [C7_cardOf] at hF
  refine lv_aload_n hx hb dX7_cardOf_0 rfl (lv_at hl 0 rfl) ?_
  refine lv_iload_n hx hb dX7_cardOf_1 rfl (lv_at hl 1 rfl) ?_
  obtain ⟨t1, e2, hF⟩ := ob hF
  rcases t1 with xz9 | t3
  · have hF : some (Sum.inl xz9) = some (.inl xc) := hF
    have hPc := hP
    have hDc := hD
    have hFc := my_free hD hS hA
    obtain ⟨q8, h8⟩ := wc_at (cy := cy) (ad := ad) (ks := ks) (g := g) (u := u0) (κ := .cl) hk.1 True.intro
    refine vx_callv (vx_runV (As := [.int a1]) (rest := []) ⟨hx, hb, hml, hown, hts⟩ (c_X7_needLot_y l hst dC dI cy nb ad ks g hk u0 (a1) xz9 H.size e2) (cwV 1 hts (gV mw_704 mw_705 mw_706 mw_2 mw_707) rfl rfl rfl (by decide +kernel) ⟨Nat.le_of_ble_eq_true rfl, Nat.le_of_ble_eq_true rfl⟩) (my_preV hPc hK hDc hE hS hFc (va_recv (q := (RX7, TX7, 12)) hK hP (ci := 7) (q0 := q8) rfl h8)) rfl rfl hl.1 rfl (lv_room (Nat.le_of_ble_eq_true rfl)) dX7_cardOf_2 ⟨Nat.le_of_ble_eq_true rfl, Nat.le_of_ble_eq_true rfl⟩) hS (fun q _ h => hFc q h) hFc (fun q _ h => hFc q h) (fun E9 ce9 q9 u9 t9 H1 locs1 ht9 hvm9 hp9 hB9 hz9 hk9 hS9 hc9 hv9 hcl9 => ?_) (fun u9 t9 H1 locs1 ht9 hvm9 hp9 _ _ _ _ => hp9.elim)
    have hZ := s4 hF
    rw [hQ]
    exact vx_out (fun x hx => (hout x hx).elim) hlocks hc9 hv9 hcl9 (fun t h1 h2 => ⟨(), trivial, ⟨hB9.1.trans (congrArg exn hZ), by rw [h1, ← ht9]; exact hB9.2⟩, hS9.F h1⟩) hS9.2.2 (Nat.le_of_ble_eq_true rfl) (Nat.le_of_ble_eq_true rfl)
  · dsimp only [tr] at hF
    have hPc := hP
    have hDc := hD
    have hFc := my_free hD hS hA
    obtain ⟨q8, h8⟩ := wc_at (cy := cy) (ad := ad) (ks := ks) (g := g) (u := u0) (κ := .cl) hk.1 True.intro
    refine va_callv (va_runV (As := [.int a1]) (rest := []) ⟨hx, hb, hml, hown, hts⟩ (c_X7_needLot l dC dI cy nb ad ks g hk u0 (a1) H.size e2) (cwV 1 hts (gV mw_704 mw_705 mw_706 mw_2 mw_707) rfl rfl rfl (by decide +kernel) ⟨Nat.le_of_ble_eq_true rfl, Nat.le_of_ble_eq_true rfl⟩) (my_preV hPc hK hDc hE hS hFc (va_recv (q := (RX7, TX7, 12)) hK hP (ci := 7) (q0 := q8) rfl h8)) rfl rfl hl.1 rfl (lv_room (Nat.le_of_ble_eq_true rfl)) dX7_cardOf_2 ⟨Nat.le_of_ble_eq_true rfl, Nat.le_of_ble_eq_true rfl⟩) hS (fun q _ h => hFc q h) hFc (fun u t H1 locs ht hvm hw hB hz1 hk1 hS => ?_)
    clear h8
    obtain ⟨hP1, hD1⟩ := hB
    rw [ht] at hP1
    have hP := hP1
    have hD := hD1.weaken (fun k q _ h => hFc q.1 h)
    generalize H1 = H at hP hS ⊢
    clear hP1 hD1 hPc hDc hFc hk1 hz1 hvm ht
    refine lv_aload_n hx hb dX7_cardOf_5 rfl (lv_at hl 0 rfl) ?_
    obtain ⟨q9, h9⟩ := wc_at (cy := cy) (ad := ad) (ks := ks) (g := g) (u := u0) (κ := .cl) hk.1 True.intro
    refine va_get (D := (dC, dI)) (ci := 7) (v := .ref (ad (.ln 0))) (C := RX7) (T := TX7) (N := 12) hx hb hts inlX7 hown hK hP q9 h9 rfl 0 (by decide) (hts _ mw_18) (fun _ h9 => h9) rfl dX7_cardOf_6 ?_
    clear h9
    obtain ⟨q9, h9⟩ := wc_at (cy := cy) (ad := ad) (ks := ks) (g := g) (u := u0) (κ := (.ln 0)) hk.1 (Or.inl (by decide))
    refine va_get (D := (dC, dI)) (ci := 3) (v := .ref (ad (.ls 0))) (C := RX3) (T := TX3) (N := 17) hx hb hts inlX3 hown hK hP q9 h9 rfl 11 (by decide) (hts _ mw_697) (fun _ h9 => h9) rfl dX7_cardOf_9 ?_
    clear h9
    refine lv_iload_n hx hb dX7_cardOf_12 rfl (lv_at hl 1 rfl) ?_
    obtain ⟨n4, e5, hF⟩ := ob hF
    obtain ⟨q9, h9⟩ := wc_at (cy := cy) (ad := ad) (ks := ks) (g := g) (u := u0) (κ := (.ls 0)) hk.1 (Or.inl (by decide))
    refine va_aldq hx hb hK hP q9 7 h9 rfl (ix_in e5) dX7_cardOf_13 ?_
    refine my_top (y := .ref (ad (.lo 0 n4))) (ixv (F := fun j => ad (.lo 0 j)) e5) ?_
    clear h9
    refine lv_iload_n hx hb dX7_cardOf_14 rfl (lv_at hl 2 rfl) ?_
    obtain ⟨x6, e7, hF⟩ := ob hF
    have hPc := hP
    have hDc := hD
    have hFc := my_free hD hS hA
    obtain ⟨q8, h8⟩ := wc_at (cy := cy) (ad := ad) (ks := ks) (g := g) (u := u0) (κ := (.lo 0 n4)) hk.1 ⟨(Or.inl (by decide)), (ix_lt e5)⟩
    refine va_calli (va_runV (As := [.int a2]) (rest := []) ⟨hx, hb, hml, hown, hts⟩ (c_X4_cardAt l dC dI cy nb ad ks g hk u0 0 n4 (a2) (x6) H.size ⟨(Or.inl (by decide)), (ix_lt e5)⟩ e7) (cwV 1 hts (gV mw_748 mw_713 mw_714 mw_52 mw_715) rfl rfl rfl (by decide +kernel) ⟨Nat.le_of_ble_eq_true rfl, Nat.le_of_ble_eq_true rfl⟩) (my_preV hPc hK hDc hE hS hFc (va_recv (q := (RX4, TX4, 12)) hK hP (ci := 4) (q0 := q8) rfl h8)) rfl rfl hl.1 rfl (lv_room (Nat.le_of_ble_eq_true rfl)) dX7_cardOf_15 ⟨Nat.le_of_ble_eq_true rfl, Nat.le_of_ble_eq_true rfl⟩) hS (fun q _ h => hFc q h) hFc (fun r u t H1 locs ht hvm hw hB hz1 hk1 hS => ?_)
    clear h8
    obtain ⟨hP1, hD1⟩ := hB
    rw [ht] at hP1
    have hP := hP1
    have hD := hD1.weaken (fun k q _ h => hFc q.1 h)
    generalize H1 = H at hP hS ⊢
    clear hP1 hD1 hPc hDc hFc hk1 hz1 hvm ht
    obtain rfl := hw.symm
    cases hF
set_option maxHeartbeats 4000000 in
set_option maxRecDepth 100000 in
theorem c_X7_count_y (l : Launch) (hst : l.stackTraces = false) (dC : Nat → ClassId) (dI : Nat → Nat → Nat) (cy : Nat → ClassId) (nb : Nat → Nat) (ad : CK → Nat) (ks : List CK) (g : CG) (hk : GA nb ad g ks) (u0 : RS) (a1 : Int32) (xc : Int32) (sz : Nat) (hF : C7_count g u0 a1 = some (.inl xc)) : vx_Met l yX7_count (wsg yX7_count cX7_count 2 (some .int)) ({ frames := 7, cells := 1, slots := 6, locals := 200 }) (va_Pc [.ref (ad .cl), .int a1] (fun U => U.heap.size = sz ∧ va_P (dC, dI) vwCl (WC cy ad ks g u0) U.heap ∧ va_K (dC, dI) vwCl (tyL cy) U ∧ va_D (fun _ => True) (WC cy ad ks g u0) ∧ GE nb (va_A (WC cy ad ks g u0) sz) U)) (va_Qi (fun (_ : Int32) (_ : Unit) => False) (fun _ _ => True) (va_A (WC cy ad ks g u0) sz)) (vx_X (fun (_ : Unit) => True) (fun E9 _ t9 => E9 = exn xc ∧ va_P (dC, dI) vwCl (WC cy ad ks g u0) t9.heap) (va_A (WC cy ad ks g u0) sz)) 1 6 (va_A (WC cy ad ks g u0) sz) := by
  refine vx_ofW (cc := cX7_count) (maxL := 2) (ret := (some .int)) pn_X7 rfl ?_
  intro p e s m args below meth c s₁ B hml hout hv
  obtain ⟨rfl, hsz, hP, hK, hD0, hE⟩ := hv
  have hx := B.exec
  have hb := B.bytes
  have hr := B.returns
  have hts0 := atoms_spec (ws := (wsg yX7_count cX7_count 2 (some .int))) B.pre
  have hts : ∀ w ∈ wsL_law, w.before _ s = true := fun w h => hts0 w (List.mem_cons_of_mem _ h)
  have hown : s.vm.findClass RX7 = some m.cls := by have h9 := findClass_of_methodNamed B.named; exact h9
  have hlocks := B.notSynchronized
  subst hsz
  have hD := hD0.self (sz := s.heap.size)
  generalize hAe : va_A (WC cy ad ks g u0) s.heap.size = A at hD hE ⊢
  have hA : ∀ q : Nat, s.heap.size ≤ q → A q := fun q h => by rw [← hAe]; exact Or.inr h
  have hS : va_S A s.heap s.heap [] := va_S.rf
  have hl := lv_entry ([.ref (ad .cl), .int a1]) (n := 2) (Nat.le_of_ble_eq_true rfl)
  rw [lg_entry_eq]
  generalize (lg_sl ([.ref (ad .cl), .int a1]) ++ List.replicate (2 - (lg_sl ([.ref (ad .cl), .int a1])).length) Slot.unset).toArray = ls at hl ⊢
  have hl : lv_has ls 2 [(0, .ref (ad .cl)), (1, .int a1)] := hl
  generalize hHe : s.heap = H at hP hS ⊢
  have hS : va_S A s.heap H [] := by rw [hHe]; exact hS
  refine my_Q (fun Qn hQ => ?_)
  simp only [C7_count] at hF
  refine lv_iload_n hx hb dX7_count_0 rfl (lv_at hl 1 rfl) ?_
  by_cases c1 : a1 = 0
  · rw [if_pos c1] at hF
    refine my_topi (y := 0) c1 ?_
    refine lv_tableIn (off := 55) (tgt := 56) hx hb dX7_count_1 (by decide) (by decide) (by decide) (by decide) ?_
    refine lv_aload_n hx hb dX7_count_56 rfl (lv_at hl 0 rfl) ?_
    obtain ⟨q9, h9⟩ := wc_at (cy := cy) (ad := ad) (ks := ks) (g := g) (u := u0) (κ := .cl) hk.1 True.intro
    refine va_get (D := (dC, dI)) (ci := 7) (v := .ref (ad (.ln 0))) (C := RX7) (T := TX7) (N := 12) hx hb hts inlX7 hown hK hP q9 h9 rfl 0 (by decide) (hts _ mw_18) (fun _ h9 => h9) rfl dX7_count_57 ?_
    clear h9
    obtain ⟨q9, h9⟩ := wc_at (cy := cy) (ad := ad) (ks := ks) (g := g) (u := u0) (κ := (.ln 0)) hk.1 (Or.inl (by decide))
    refine va_get (D := (dC, dI)) (ci := 3) (v := .int (u0 (10 + 0) 7)) (C := RX3) (T := TX3) (N := 17) hx hb hts inlX3 hown hK hP q9 h9 rfl 7 (by decide) (hts _ mw_138) (fun _ h9 => h9) rfl dX7_count_60 ?_
    clear h9
    cases hF
  · rw [if_neg c1] at hF
    by_cases c2 : a1 = 1
    · rw [if_pos c2] at hF
      refine my_topi (y := 1) c2 ?_
      refine lv_tableIn (off := 63) (tgt := 64) hx hb dX7_count_1 (by decide) (by decide) (by decide) (by decide) ?_
      refine lv_aload_n hx hb dX7_count_64 rfl (lv_at hl 0 rfl) ?_
      obtain ⟨q9, h9⟩ := wc_at (cy := cy) (ad := ad) (ks := ks) (g := g) (u := u0) (κ := .cl) hk.1 True.intro
      refine va_get (D := (dC, dI)) (ci := 7) (v := .ref (ad (.ln 0))) (C := RX7) (T := TX7) (N := 12) hx hb hts inlX7 hown hK hP q9 h9 rfl 0 (by decide) (hts _ mw_18) (fun _ h9 => h9) rfl dX7_count_65 ?_
      clear h9
      obtain ⟨q9, h9⟩ := wc_at (cy := cy) (ad := ad) (ks := ks) (g := g) (u := u0) (κ := (.ln 0)) hk.1 (Or.inl (by decide))
      refine va_get (D := (dC, dI)) (ci := 3) (v := .int (u0 (10 + 0) 8)) (C := RX3) (T := TX3) (N := 17) hx hb hts inlX3 hown hK hP q9 h9 rfl 8 (by decide) (hts _ mw_571) (fun _ h9 => h9) rfl dX7_count_68 ?_
      clear h9
      cases hF
    · rw [if_neg c2] at hF
      by_cases c3 : a1 = 2
      · rw [if_pos c3] at hF
        refine my_topi (y := 2) c3 ?_
        refine lv_tableIn (off := 71) (tgt := 72) hx hb dX7_count_1 (by decide) (by decide) (by decide) (by decide) ?_
        refine lv_aload_n hx hb dX7_count_72 rfl (lv_at hl 0 rfl) ?_
        obtain ⟨q9, h9⟩ := wc_at (cy := cy) (ad := ad) (ks := ks) (g := g) (u := u0) (κ := .cl) hk.1 True.intro
        refine va_get (D := (dC, dI)) (ci := 7) (v := .ref (ad (.ln 0))) (C := RX7) (T := TX7) (N := 12) hx hb hts inlX7 hown hK hP q9 h9 rfl 0 (by decide) (hts _ mw_18) (fun _ h9 => h9) rfl dX7_count_73 ?_
        clear h9
        obtain ⟨q9, h9⟩ := wc_at (cy := cy) (ad := ad) (ks := ks) (g := g) (u := u0) (κ := (.ln 0)) hk.1 (Or.inl (by decide))
        refine va_get (D := (dC, dI)) (ci := 3) (v := .int (u0 (10 + 0) 9)) (C := RX3) (T := TX3) (N := 17) hx hb hts inlX3 hown hK hP q9 h9 rfl 9 (by decide) (hts _ mw_572) (fun _ h9 => h9) rfl dX7_count_76 ?_
        clear h9
        cases hF
      · rw [if_neg c3] at hF
        by_cases c4 : a1 = 3
        · rw [if_pos c4] at hF
          refine my_topi (y := 3) c4 ?_
          refine lv_tableIn (off := 79) (tgt := 80) hx hb dX7_count_1 (by decide) (by decide) (by decide) (by decide) ?_
          refine lv_aload_n hx hb dX7_count_80 rfl (lv_at hl 0 rfl) ?_
          obtain ⟨q9, h9⟩ := wc_at (cy := cy) (ad := ad) (ks := ks) (g := g) (u := u0) (κ := .cl) hk.1 True.intro
          refine va_get (D := (dC, dI)) (ci := 7) (v := .ref (ad (.ln 0))) (C := RX7) (T := TX7) (N := 12) hx hb hts inlX7 hown hK hP q9 h9 rfl 0 (by decide) (hts _ mw_18) (fun _ h9 => h9) rfl dX7_count_81 ?_
          clear h9
          obtain ⟨q9, h9⟩ := wc_at (cy := cy) (ad := ad) (ks := ks) (g := g) (u := u0) (κ := (.ln 0)) hk.1 (Or.inl (by decide))
          refine va_get (D := (dC, dI)) (ci := 3) (v := .int (u0 (10 + 0) 5)) (C := RX3) (T := TX3) (N := 17) hx hb hts inlX3 hown hK hP q9 h9 rfl 5 (by decide) (hts _ mw_573) (fun _ h9 => h9) rfl dX7_count_84 ?_
          clear h9
          cases hF
        · rw [if_neg c4] at hF
          by_cases c5 : a1 = 4
          · rw [if_pos c5] at hF
            refine my_topi (y := 4) c5 ?_
            refine lv_tableIn (off := 87) (tgt := 88) hx hb dX7_count_1 (by decide) (by decide) (by decide) (by decide) ?_
            refine lv_aload_n hx hb dX7_count_88 rfl (lv_at hl 0 rfl) ?_
            obtain ⟨q9, h9⟩ := wc_at (cy := cy) (ad := ad) (ks := ks) (g := g) (u := u0) (κ := .cl) hk.1 True.intro
            refine va_get (D := (dC, dI)) (ci := 7) (v := .ref (ad (.ln 0))) (C := RX7) (T := TX7) (N := 12) hx hb hts inlX7 hown hK hP q9 h9 rfl 0 (by decide) (hts _ mw_18) (fun _ h9 => h9) rfl dX7_count_89 ?_
            clear h9
            obtain ⟨q9, h9⟩ := wc_at (cy := cy) (ad := ad) (ks := ks) (g := g) (u := u0) (κ := (.ln 0)) hk.1 (Or.inl (by decide))
            refine va_get (D := (dC, dI)) (ci := 3) (v := .ref (ad (.is 0))) (C := RX3) (T := TX3) (N := 17) hx hb hts inlX3 hown hK hP q9 h9 rfl 13 (by decide) (hts _ mw_574) (fun _ h9 => h9) rfl dX7_count_92 ?_
            clear h9
            refine lv_iconst (v := 0) hx hb dX7_count_95 (by decide) ?_
            obtain ⟨q9, h9⟩ := wc_at (cy := cy) (ad := ad) (ks := ks) (g := g) (u := u0) (κ := (.is 0)) hk.1 (Or.inl (by decide))
            refine va_iald hx hb hK hP q9 1 h9 rfl (vp_in_nI (n := 0) (by decide) (by decide)) dX7_count_96 ?_
            refine my_topi (y := (u0 (400 + 0) 0)) (by rfl) ?_
            clear h9
            cases hF
          · rw [if_neg c5] at hF
            by_cases c6 : a1 = 5
            · rw [if_pos c6] at hF
              refine my_topi (y := 5) c6 ?_
              refine lv_tableIn (off := 97) (tgt := 98) hx hb dX7_count_1 (by decide) (by decide) (by decide) (by decide) ?_
              refine lv_aload_n hx hb dX7_count_98 rfl (lv_at hl 0 rfl) ?_
              obtain ⟨q9, h9⟩ := wc_at (cy := cy) (ad := ad) (ks := ks) (g := g) (u := u0) (κ := .cl) hk.1 True.intro
              refine va_get (D := (dC, dI)) (ci := 7) (v := .ref (ad (.ln 0))) (C := RX7) (T := TX7) (N := 12) hx hb hts inlX7 hown hK hP q9 h9 rfl 0 (by decide) (hts _ mw_18) (fun _ h9 => h9) rfl dX7_count_99 ?_
              clear h9
              obtain ⟨q9, h9⟩ := wc_at (cy := cy) (ad := ad) (ks := ks) (g := g) (u := u0) (κ := (.ln 0)) hk.1 (Or.inl (by decide))
              refine va_get (D := (dC, dI)) (ci := 3) (v := .ref (ad (.is 0))) (C := RX3) (T := TX3) (N := 17) hx hb hts inlX3 hown hK hP q9 h9 rfl 13 (by decide) (hts _ mw_574) (fun _ h9 => h9) rfl dX7_count_102 ?_
              clear h9
              refine lv_iconst (v := 1) hx hb dX7_count_105 (by decide) ?_
              obtain ⟨q9, h9⟩ := wc_at (cy := cy) (ad := ad) (ks := ks) (g := g) (u := u0) (κ := (.is 0)) hk.1 (Or.inl (by decide))
              refine va_iald hx hb hK hP q9 1 h9 rfl (vp_in_nI (n := 1) (by decide) (by decide)) dX7_count_106 ?_
              refine my_topi (y := (u0 (400 + 0) 1)) (by rfl) ?_
              clear h9
              cases hF
            · rw [if_neg c6] at hF
              by_cases c7 : a1 = 6
              · rw [if_pos c7] at hF
                refine my_topi (y := 6) c7 ?_
                refine lv_tableIn (off := 107) (tgt := 108) hx hb dX7_count_1 (by decide) (by decide) (by decide) (by decide) ?_
                refine lv_aload_n hx hb dX7_count_108 rfl (lv_at hl 0 rfl) ?_
                obtain ⟨q9, h9⟩ := wc_at (cy := cy) (ad := ad) (ks := ks) (g := g) (u := u0) (κ := .cl) hk.1 True.intro
                refine va_get (D := (dC, dI)) (ci := 7) (v := .ref (ad (.ln 0))) (C := RX7) (T := TX7) (N := 12) hx hb hts inlX7 hown hK hP q9 h9 rfl 0 (by decide) (hts _ mw_18) (fun _ h9 => h9) rfl dX7_count_109 ?_
                clear h9
                obtain ⟨q9, h9⟩ := wc_at (cy := cy) (ad := ad) (ks := ks) (g := g) (u := u0) (κ := (.ln 0)) hk.1 (Or.inl (by decide))
                refine va_get (D := (dC, dI)) (ci := 3) (v := .ref (ad (.is 0))) (C := RX3) (T := TX3) (N := 17) hx hb hts inlX3 hown hK hP q9 h9 rfl 13 (by decide) (hts _ mw_574) (fun _ h9 => h9) rfl dX7_count_112 ?_
                clear h9
                refine lv_iconst (v := 2) hx hb dX7_count_115 (by decide) ?_
                obtain ⟨q9, h9⟩ := wc_at (cy := cy) (ad := ad) (ks := ks) (g := g) (u := u0) (κ := (.is 0)) hk.1 (Or.inl (by decide))
                refine va_iald hx hb hK hP q9 1 h9 rfl (vp_in_nI (n := 2) (by decide) (by decide)) dX7_count_116 ?_
                refine my_topi (y := (u0 (400 + 0) 2)) (by rfl) ?_
                clear h9
                cases hF
              · rw [if_neg c7] at hF
                by_cases c8 : a1 = 7
                · rw [if_pos c8] at hF
                  refine my_topi (y := 7) c8 ?_
                  refine lv_tableIn (off := 117) (tgt := 118) hx hb dX7_count_1 (by decide) (by decide) (by decide) (by decide) ?_
                  refine lv_aload_n hx hb dX7_count_118 rfl (lv_at hl 0 rfl) ?_
                  obtain ⟨q9, h9⟩ := wc_at (cy := cy) (ad := ad) (ks := ks) (g := g) (u := u0) (κ := .cl) hk.1 True.intro
                  refine va_get (D := (dC, dI)) (ci := 7) (v := .ref (ad (.ln 0))) (C := RX7) (T := TX7) (N := 12) hx hb hts inlX7 hown hK hP q9 h9 rfl 0 (by decide) (hts _ mw_18) (fun _ h9 => h9) rfl dX7_count_119 ?_
                  clear h9
                  obtain ⟨q9, h9⟩ := wc_at (cy := cy) (ad := ad) (ks := ks) (g := g) (u := u0) (κ := (.ln 0)) hk.1 (Or.inl (by decide))
                  refine va_get (D := (dC, dI)) (ci := 3) (v := .ref (ad (.is 0))) (C := RX3) (T := TX3) (N := 17) hx hb hts inlX3 hown hK hP q9 h9 rfl 13 (by decide) (hts _ mw_574) (fun _ h9 => h9) rfl dX7_count_122 ?_
                  clear h9
                  refine lv_iconst (v := 3) hx hb dX7_count_125 (by decide) ?_
                  obtain ⟨q9, h9⟩ := wc_at (cy := cy) (ad := ad) (ks := ks) (g := g) (u := u0) (κ := (.is 0)) hk.1 (Or.inl (by decide))
                  refine va_iald hx hb hK hP q9 1 h9 rfl (vp_in_nI (n := 3) (by decide) (by decide)) dX7_count_126 ?_
                  refine my_topi (y := (u0 (400 + 0) 3)) (by rfl) ?_
                  clear h9
                  cases hF
                · rw [if_neg c8] at hF
                  by_cases c9 : a1 = 8
                  · rw [if_pos c9] at hF
                    refine my_topi (y := 8) c9 ?_
                    refine lv_tableIn (off := 127) (tgt := 128) hx hb dX7_count_1 (by decide) (by decide) (by decide) (by decide) ?_
                    refine lv_aload_n hx hb dX7_count_128 rfl (lv_at hl 0 rfl) ?_
                    obtain ⟨q9, h9⟩ := wc_at (cy := cy) (ad := ad) (ks := ks) (g := g) (u := u0) (κ := .cl) hk.1 True.intro
                    refine va_get (D := (dC, dI)) (ci := 7) (v := .ref (ad (.ln 0))) (C := RX7) (T := TX7) (N := 12) hx hb hts inlX7 hown hK hP q9 h9 rfl 0 (by decide) (hts _ mw_18) (fun _ h9 => h9) rfl dX7_count_129 ?_
                    clear h9
                    obtain ⟨q9, h9⟩ := wc_at (cy := cy) (ad := ad) (ks := ks) (g := g) (u := u0) (κ := (.ln 0)) hk.1 (Or.inl (by decide))
                    refine va_get (D := (dC, dI)) (ci := 3) (v := .ref (ad (.is 0))) (C := RX3) (T := TX3) (N := 17) hx hb hts inlX3 hown hK hP q9 h9 rfl 13 (by decide) (hts _ mw_574) (fun _ h9 => h9) rfl dX7_count_132 ?_
                    clear h9
                    refine lv_iconst (v := 4) hx hb dX7_count_135 (by decide) ?_
                    obtain ⟨q9, h9⟩ := wc_at (cy := cy) (ad := ad) (ks := ks) (g := g) (u := u0) (κ := (.is 0)) hk.1 (Or.inl (by decide))
                    refine va_iald hx hb hK hP q9 1 h9 rfl (vp_in_nI (n := 4) (by decide) (by decide)) dX7_count_136 ?_
                    refine my_topi (y := (u0 (400 + 0) 4)) (by rfl) ?_
                    clear h9
                    cases hF
                  · rw [if_neg c9] at hF
                    by_cases c10 : a1 = 9
                    · rw [if_pos c10] at hF
                      refine my_topi (y := 9) c10 ?_
                      refine lv_tableIn (off := 137) (tgt := 138) hx hb dX7_count_1 (by decide) (by decide) (by decide) (by decide) ?_
                      refine lv_aload_n hx hb dX7_count_138 rfl (lv_at hl 0 rfl) ?_
                      obtain ⟨q9, h9⟩ := wc_at (cy := cy) (ad := ad) (ks := ks) (g := g) (u := u0) (κ := .cl) hk.1 True.intro
                      refine va_get (D := (dC, dI)) (ci := 7) (v := .int (u0 0 4)) (C := RX7) (T := TX7) (N := 12) hx hb hts inlX7 hown hK hP q9 h9 rfl 11 (by decide) (hts _ mw_34) (fun _ h9 => h9) rfl dX7_count_139 ?_
                      clear h9
                      cases hF
                    · rw [if_neg c10] at hF
                      refine lv_tableOut (tgt := 143) hx hb dX7_count_1 (sw_out (lo := 0) (hi := 9) (fun k h1 h2 => by rcases (show k = 0 ∨ k = 1 ∨ k = 2 ∨ k = 3 ∨ k = 4 ∨ k = 5 ∨ k = 6 ∨ k = 7 ∨ k = 8 ∨ k = 9 by omega) with rfl | rfl | rfl | rfl | rfl | rfl | rfl | rfl | rfl | rfl <;> intro q <;> first | exact c1 (q.trans (by decide)) | exact c2 (q.trans (by decide)) | exact c3 (q.trans (by decide)) | exact c4 (q.trans (by decide)) | exact c5 (q.trans (by decide)) | exact c6 (q.trans (by decide)) | exact c7 (q.trans (by decide)) | exact c8 (q.trans (by decide)) | exact c9 (q.trans (by decide)) | exact c10 (q.trans (by decide)))) (by decide) ?_
                      have hZ := s4 hF
                      subst hZ
                      obtain ⟨sa, hsa⟩ := hE.t116
                      rw [hQ]
                      exact vx_throwS (A := A) (own := RX7) (cls := xA) (text := "what is out of range") (names := ["java/lang/RuntimeException", "java/lang/Exception"]) (ik := 105) (is := 116) (ic := 109) hx hb hst hown (by decide) (by decide) (hts _ mw_569) (hts _ mw_570) hsa (my_hat (fun w h => hts w (List.mem_append_left _ (List.mem_append_right _ h))) my_atA hE.cA hE.dc) my_gA hE.zU hE.zN hS (by rw [hml]; exact hl.1) dX7_count_143 dX7_count_146 dX7_count_147 dX7_count_149 dX7_count_152 (fun x hx => (hout x hx).elim) (Nat.le_of_ble_eq_true rfl) (Nat.le_of_ble_eq_true rfl) (Nat.le_of_ble_eq_true rfl) (Nat.le_of_ble_eq_true rfl) hlocks (fun t _ h1 h2 => ⟨(), trivial, ⟨rfl, my_keep hP (fun q9 z9 _ => h2 q9 z9)⟩, my_F hS h1 h2⟩) hS.2.2 (Nat.le_of_ble_eq_true rfl) (Nat.le_of_ble_eq_true rfl)
set_option maxHeartbeats 4000000 in
set_option maxRecDepth 100000 in
theorem c_X7_day_y (l : Launch) (hst : l.stackTraces = false) (dC : Nat → ClassId) (dI : Nat → Nat → Nat) (cy : Nat → ClassId) (nb : Nat → Nat) (ad : CK → Nat) (ks : List CK) (g : CG) (hk : GA nb ad g ks) (u0 : RS) (a1 : Int32) (a2 : Int32) (a3 : Int32) (xc : Int32) (sz : Nat) (hF : C7_day g u0 a1 a2 a3 = some (.inl xc)) : vx_Met l yX7_day (wsg yX7_day cX7_day 6 (some .int)) ({ frames := 8, cells := 1, slots := 6, locals := 300 }) (va_Pc [.ref (ad .cl), .int a1, .int a2, .int a3] (fun U => U.heap.size = sz ∧ va_P (dC, dI) vwCl (WC cy ad ks g u0) U.heap ∧ va_K (dC, dI) vwCl (tyL cy) U ∧ va_D (fun _ => True) (WC cy ad ks g u0) ∧ GE nb (va_A (WC cy ad ks g u0) sz) U)) (va_Qi (fun (_ : Int32) (_ : Unit) => False) (fun _ _ => True) (va_A (WC cy ad ks g u0) sz)) (vx_X (fun (_ : Unit) => True) (fun E9 _ t9 => E9 = exn xc ∧ va_P (dC, dI) vwCl (WC cy ad ks g u0) t9.heap) (va_A (WC cy ad ks g u0) sz)) 1 6 (va_A (WC cy ad ks g u0) sz) := by
  refine vx_ofW (cc := cX7_day) (maxL := 6) (ret := (some .int)) pn_X7 rfl ?_
  intro p e s m args below meth c s₁ B hml hout hv
  obtain ⟨rfl, hsz, hP, hK, hD0, hE⟩ := hv
  have hx := B.exec
  have hb := B.bytes
  have hr := B.returns
  have hts0 := atoms_spec (ws := (wsg yX7_day cX7_day 6 (some .int))) B.pre
  have hts : ∀ w ∈ wsL_law, w.before _ s = true := fun w h => hts0 w (List.mem_cons_of_mem _ h)
  have hown : s.vm.findClass RX7 = some m.cls := by have h9 := findClass_of_methodNamed B.named; exact h9
  have hlocks := B.notSynchronized
  subst hsz
  have hD := hD0.self (sz := s.heap.size)
  generalize hAe : va_A (WC cy ad ks g u0) s.heap.size = A at hD hE ⊢
  have hA : ∀ q : Nat, s.heap.size ≤ q → A q := fun q h => by rw [← hAe]; exact Or.inr h
  have hS : va_S A s.heap s.heap [] := va_S.rf
  have hl := lv_entry ([.ref (ad .cl), .int a1, .int a2, .int a3]) (n := 6) (Nat.le_of_ble_eq_true rfl)
  rw [lg_entry_eq]
  generalize (lg_sl ([.ref (ad .cl), .int a1, .int a2, .int a3]) ++ List.replicate (6 - (lg_sl ([.ref (ad .cl), .int a1, .int a2, .int a3])).length) Slot.unset).toArray = ls at hl ⊢
  have hl : lv_has ls 6 [(0, .ref (ad .cl)), (1, .int a1), (2, .int a2), (3, .int a3)] := hl
  generalize hHe : s.heap = H at hP hS ⊢
  have hS : va_S A s.heap H [] := by rw [hHe]; exact hS
  refine my_Q (fun Qn hQ => ?_)
  simp only [C7_day] at hF
  refine lv_aload_n hx hb dX7_day_0 rfl (lv_at hl 0 rfl) ?_
  refine lv_iload_n hx hb dX7_day_1 rfl (lv_at hl 2 rfl) ?_
  obtain ⟨t1, e2, hF⟩ := ob hF
  rcases t1 with xz9 | t3
  · have hF : some (Sum.inl xz9) = some (.inl xc) := hF
    have hPc := hP
    have hDc := hD
    have hFc := my_free hD hS hA
    obtain ⟨q8, h8⟩ := wc_at (cy := cy) (ad := ad) (ks := ks) (g := g) (u := u0) (κ := .cl) hk.1 True.intro
    refine vx_callv (vx_runV (As := [.int a2]) (rest := []) ⟨hx, hb, hml, hown, hts⟩ (c_X7_needLot_y l hst dC dI cy nb ad ks g hk u0 (a2) xz9 H.size e2) (cwV 1 hts (gV mw_704 mw_705 mw_706 mw_2 mw_707) rfl rfl rfl (by decide +kernel) ⟨Nat.le_of_ble_eq_true rfl, Nat.le_of_ble_eq_true rfl⟩) (my_preV hPc hK hDc hE hS hFc (va_recv (q := (RX7, TX7, 12)) hK hP (ci := 7) (q0 := q8) rfl h8)) rfl rfl hl.1 rfl (lv_room (Nat.le_of_ble_eq_true rfl)) dX7_day_2 ⟨Nat.le_of_ble_eq_true rfl, Nat.le_of_ble_eq_true rfl⟩) hS (fun q _ h => hFc q h) hFc (fun q _ h => hFc q h) (fun E9 ce9 q9 u9 t9 H1 locs1 ht9 hvm9 hp9 hB9 hz9 hk9 hS9 hc9 hv9 hcl9 => ?_) (fun u9 t9 H1 locs1 ht9 hvm9 hp9 _ _ _ _ => hp9.elim)
    have hZ := s4 hF
    rw [hQ]
    exact vx_out (fun x hx => (hout x hx).elim) hlocks hc9 hv9 hcl9 (fun t h1 h2 => ⟨(), trivial, ⟨hB9.1.trans (congrArg exn hZ), by rw [h1, ← ht9]; exact hB9.2⟩, hS9.F h1⟩) hS9.2.2 (Nat.le_of_ble_eq_true rfl) (Nat.le_of_ble_eq_true rfl)
  · dsimp only [tr] at hF
    have hPc := hP
    have hDc := hD
    have hFc := my_free hD hS hA
    obtain ⟨q8, h8⟩ := wc_at (cy := cy) (ad := ad) (ks := ks) (g := g) (u := u0) (κ := .cl) hk.1 True.intro
    refine va_callv (va_runV (As := [.int a2]) (rest := []) ⟨hx, hb, hml, hown, hts⟩ (c_X7_needLot l dC dI cy nb ad ks g hk u0 (a2) H.size e2) (cwV 1 hts (gV mw_704 mw_705 mw_706 mw_2 mw_707) rfl rfl rfl (by decide +kernel) ⟨Nat.le_of_ble_eq_true rfl, Nat.le_of_ble_eq_true rfl⟩) (my_preV hPc hK hDc hE hS hFc (va_recv (q := (RX7, TX7, 12)) hK hP (ci := 7) (q0 := q8) rfl h8)) rfl rfl hl.1 rfl (lv_room (Nat.le_of_ble_eq_true rfl)) dX7_day_2 ⟨Nat.le_of_ble_eq_true rfl, Nat.le_of_ble_eq_true rfl⟩) hS (fun q _ h => hFc q h) hFc (fun u t H1 locs ht hvm hw hB hz1 hk1 hS => ?_)
    clear h8
    obtain ⟨hP1, hD1⟩ := hB
    rw [ht] at hP1
    have hP := hP1
    have hD := hD1.weaken (fun k q _ h => hFc q.1 h)
    generalize H1 = H at hP hS ⊢
    clear hP1 hD1 hPc hDc hFc hk1 hz1 hvm ht
    refine lv_iload_n hx hb dX7_day_5 rfl (lv_at hl 1 rfl) ?_
    refine lv_if_lt (tgt := 18) hx hb dX7_day_6 (by decide) (fun c4 => ?_) (fun c4 => ?_)
    · rw [if_pos c4] at hF
      have hZ := s4 hF
      subst hZ
      obtain ⟨sa, hsa⟩ := hE.t266
      rw [hQ]
      exact vx_throwSW (A := A) (own := RX7) (cls := xA) (text := "index or what is out of range") (names := ["java/lang/RuntimeException", "java/lang/Exception"]) (ik := 105) (is := 266) (ic := 109) hx hb hst hown (by decide) (by decide) (hts _ mw_569) (hts _ mw_570) hsa (my_hat (fun w h => hts w (List.mem_append_left _ (List.mem_append_right _ h))) my_atA hE.cA hE.dc) my_gA hE.zU hE.zN hS (by rw [hml]; exact hl.1) dX7_day_18 dX7_day_21 dX7_day_22 dX7_day_25 dX7_day_28 (fun x hx => (hout x hx).elim) (Nat.le_of_ble_eq_true rfl) (Nat.le_of_ble_eq_true rfl) (Nat.le_of_ble_eq_true rfl) (Nat.le_of_ble_eq_true rfl) hlocks (fun t _ h1 h2 => ⟨(), trivial, ⟨rfl, my_keep hP (fun q9 z9 _ => h2 q9 z9)⟩, my_F hS h1 h2⟩) hS.2.2 (Nat.le_of_ble_eq_true rfl) (Nat.le_of_ble_eq_true rfl)
    · rw [if_neg c4] at hF
      refine lv_iload_n hx hb dX7_day_9 rfl (lv_at hl 3 rfl) ?_
      refine lv_if_lt (tgt := 18) hx hb dX7_day_10 (by decide) (fun c5 => ?_) (fun c5 => ?_)
      · rw [if_pos c5] at hF
        have hZ := s4 hF
        subst hZ
        obtain ⟨sa, hsa⟩ := hE.t266
        rw [hQ]
        exact vx_throwSW (A := A) (own := RX7) (cls := xA) (text := "index or what is out of range") (names := ["java/lang/RuntimeException", "java/lang/Exception"]) (ik := 105) (is := 266) (ic := 109) hx hb hst hown (by decide) (by decide) (hts _ mw_569) (hts _ mw_570) hsa (my_hat (fun w h => hts w (List.mem_append_left _ (List.mem_append_right _ h))) my_atA hE.cA hE.dc) my_gA hE.zU hE.zN hS (by rw [hml]; exact hl.1) dX7_day_18 dX7_day_21 dX7_day_22 dX7_day_25 dX7_day_28 (fun x hx => (hout x hx).elim) (Nat.le_of_ble_eq_true rfl) (Nat.le_of_ble_eq_true rfl) (Nat.le_of_ble_eq_true rfl) (Nat.le_of_ble_eq_true rfl) hlocks (fun t _ h1 h2 => ⟨(), trivial, ⟨rfl, my_keep hP (fun q9 z9 _ => h2 q9 z9)⟩, my_F hS h1 h2⟩) hS.2.2 (Nat.le_of_ble_eq_true rfl) (Nat.le_of_ble_eq_true rfl)
      · rw [if_neg c5] at hF
        refine lv_iload_n hx hb dX7_day_13 rfl (lv_at hl 3 rfl) ?_
        refine lv_iconst (v := 1) hx hb dX7_day_14 (by decide) ?_
        refine lv_icmp_le (tgt := 29) hx hb dX7_day_15 (by decide) (fun c6 => ?_) (fun c6 => ?_)
        · rw [if_pos c6] at hF
          refine lv_aload_n hx hb dX7_day_29 rfl (lv_at hl 0 rfl) ?_
          obtain ⟨q9, h9⟩ := wc_at (cy := cy) (ad := ad) (ks := ks) (g := g) (u := u0) (κ := .cl) hk.1 True.intro
          refine va_get (D := (dC, dI)) (ci := 7) (v := .ref (ad (.ln 0))) (C := RX7) (T := TX7) (N := 12) hx hb hts inlX7 hown hK hP q9 h9 rfl 0 (by decide) (hts _ mw_18) (fun _ h9 => h9) rfl dX7_day_30 ?_
          clear h9
          obtain ⟨x7, e8, hF⟩ := ob hF
          have hPc := hP
          have hDc := hD
          have hFc := my_free hD hS hA
          obtain ⟨q8, h8⟩ := wc_at (cy := cy) (ad := ad) (ks := ks) (g := g) (u := u0) (κ := (.ln 0)) hk.1 (Or.inl (by decide))
          refine va_calli (va_runV (As := []) (rest := []) ⟨hx, hb, hml, hown, hts⟩ (c_X3_daysOver l dC dI cy nb ad ks g hk u0 0 (x7) H.size (Or.inl (by decide)) e8) (cwV 0 hts (gV mw_881 mw_882 mw_883 mw_17 mw_884) rfl rfl rfl (by decide +kernel) ⟨Nat.le_of_ble_eq_true rfl, Nat.le_of_ble_eq_true rfl⟩) (my_preV hPc hK hDc hE hS hFc (va_recv (q := (RX3, TX3, 17)) hK hP (ci := 3) (q0 := q8) rfl h8)) rfl rfl hl.1 rfl (lv_room (Nat.le_of_ble_eq_true rfl)) dX7_day_33 ⟨Nat.le_of_ble_eq_true rfl, Nat.le_of_ble_eq_true rfl⟩) hS (fun q _ h => hFc q h) hFc (fun r u t H1 locs ht hvm hw hB hz1 hk1 hS => ?_)
          clear h8
          obtain ⟨hP1, hD1⟩ := hB
          rw [ht] at hP1
          have hP := hP1
          have hD := hD1.weaken (fun k q _ h => hFc q.1 h)
          generalize H1 = H at hP hS ⊢
          clear hP1 hD1 hPc hDc hFc hk1 hz1 hvm ht
          obtain rfl := hw.symm
          refine lv_istore (lv' := [(4, .int x7), (0, .ref (ad .cl)), (1, .int a1), (2, .int a2), (3, .int a3)]) hx hb dX7_day_36 hl (by decide) rfl (fun ls hl => ?_)
          refine lv_iload_n hx hb dX7_day_38 rfl (lv_at hl 2 rfl) ?_
          refine lv_bipush (v := 10) hx hb dX7_day_39 (by decide) ?_
          refine lv_icmp_ge (tgt := 50) hx hb dX7_day_41 (by decide) (fun c9 => ?_) (fun c9 => ?_)
          · rw [if_pos c9] at hF
            refine lv_iconst (v := (-1)) hx hb dX7_day_50 (by decide) ?_
            cases hF
          · rw [if_neg c9] at hF
            refine lv_iload_n hx hb dX7_day_44 rfl (lv_at hl 2 rfl) ?_
            refine lv_iload hx hb dX7_day_45 (lv_at hl 0 rfl) ?_
            refine lv_icmp_lt (tgt := 52) hx hb dX7_day_47 (by decide) (fun c10 => ?_) (fun c10 => ?_)
            · rw [if_pos c10] at hF
              refine lv_iload hx hb dX7_day_52 (lv_at hl 0 rfl) ?_
              refine lv_iconst (v := 1) hx hb dX7_day_54 (by decide) ?_
              refine lv_isub hx hb dX7_day_55 ?_
              refine lv_iload_n hx hb dX7_day_56 rfl (lv_at hl 2 rfl) ?_
              refine lv_isub hx hb dX7_day_57 ?_
              refine lv_bipush (v := 10) hx hb dX7_day_58 (by decide) ?_
              obtain ⟨x11, e12, hF⟩ := ob hF
              refine lv_irem hx hb dX7_day_60 (rm_ne e12) ?_
              refine my_topi (y := x11) (rm_eq e12) ?_
              refine lv_istore (lv' := [(5, .int x11), (4, .int x7), (0, .ref (ad .cl)), (1, .int a1), (2, .int a2), (3, .int a3)]) hx hb dX7_day_61 hl (by decide) rfl (fun ls hl => ?_)
              refine lv_iload_n hx hb dX7_day_63 rfl (lv_at hl 5 rfl) ?_
              obtain ⟨t14, hJ15, hF⟩ := ob hF
              have join16 : ∀ (H : Heap) (locs : List Loc) (ls : Array Slot), va_P (dC, dI) vwCl (WC cy ad ks g u0) H → va_D A (WC cy ad ks g u0) → va_S A s.heap H locs → lv_has ls 6 [(5, .int x11), (4, .int x7), (0, .ref (ad .cl)), (1, .int a1), (2, .int a2), (3, .int a3)] → W p l e (headSpec (wsg yX7_day cX7_day 6 (some .int)) ({ frames := 8, cells := 1, slots := 6, locals := 300 })).room s m ([.ref (ad .cl), .int a1, .int a2, .int a3] : List Value).toArray below meth c H locs 0 0 Qn (F0 m 100 ls [.int t14]) := by
                intro H locs ls hP hD hS hl
                cases hF
              clear hF
              have hF := hJ15
              clear hJ15
              refine lv_if_ne (tgt := 85) hx hb dX7_day_64 (by decide) (fun c13 => ?_) (fun c13 => ?_)
              · rw [if_neg c13] at hF
                refine lv_aload_n hx hb dX7_day_85 rfl (lv_at hl 2 rfl) ?_
                obtain ⟨q9, h9⟩ := wc_at (cy := cy) (ad := ad) (ks := ks) (g := g) (u := u0) (κ := .cl) hk.1 True.intro
                refine va_get (D := (dC, dI)) (ci := 7) (v := .ref (ad (.ln 0))) (C := RX7) (T := TX7) (N := 12) hx hb hts inlX7 hown hK hP q9 h9 rfl 0 (by decide) (hts _ mw_18) (fun _ h9 => h9) rfl dX7_day_86 ?_
                clear h9
                obtain ⟨q9, h9⟩ := wc_at (cy := cy) (ad := ad) (ks := ks) (g := g) (u := u0) (κ := (.ln 0)) hk.1 (Or.inl (by decide))
                refine va_get (D := (dC, dI)) (ci := 3) (v := .ref (ad (.ls 0))) (C := RX3) (T := TX3) (N := 17) hx hb hts inlX3 hown hK hP q9 h9 rfl 11 (by decide) (hts _ mw_697) (fun _ h9 => h9) rfl dX7_day_89 ?_
                clear h9
                refine lv_iload_n hx hb dX7_day_92 rfl (lv_at hl 4 rfl) ?_
                obtain ⟨n17, e18, hF⟩ := ob hF
                obtain ⟨q9, h9⟩ := wc_at (cy := cy) (ad := ad) (ks := ks) (g := g) (u := u0) (κ := (.ls 0)) hk.1 (Or.inl (by decide))
                refine va_aldq hx hb hK hP q9 7 h9 rfl (ix_in e18) dX7_day_93 ?_
                refine my_top (y := .ref (ad (.lo 0 n17))) (ixv (F := fun j => ad (.lo 0 j)) e18) ?_
                clear h9
                obtain ⟨q9, h9⟩ := wc_at (cy := cy) (ad := ad) (ks := ks) (g := g) (u := u0) (κ := (.lo 0 n17)) hk.1 ⟨(Or.inl (by decide)), (ix_lt e18)⟩
                refine va_get (D := (dC, dI)) (ci := 4) (v := .ref (ad (.df 0 n17))) (C := RX4) (T := TX4) (N := 12) hx hb hts inlX4 hown hK hP q9 h9 rfl 11 (by decide) (hts _ mw_880) (fun _ h9 => h9) rfl dX7_day_94 ?_
                clear h9
                refine lv_iload hx hb dX7_day_97 (lv_at hl 0 rfl) ?_
                obtain ⟨x19, e20, hF⟩ := ob hF
                obtain ⟨q9, h9⟩ := wc_at (cy := cy) (ad := ad) (ks := ks) (g := g) (u := u0) (κ := (.df 0 n17)) hk.1 ⟨(Or.inl (by decide)), (ix_lt e18)⟩
                refine va_iald hx hb hK hP q9 1 h9 rfl (rd_in e20) dX7_day_99 ?_
                refine my_topi (y := x19) (rd_eq e20) ?_
                clear h9
                have ht := s1 hF
                subst ht
                exact join16 _ _ _ hP hD hS (lv_sub hl [0, 1, 2, 3, 4, 5] rfl)
              · rw [if_pos c13] at hF
                refine lv_aload_n hx hb dX7_day_67 rfl (lv_at hl 2 rfl) ?_
                obtain ⟨q9, h9⟩ := wc_at (cy := cy) (ad := ad) (ks := ks) (g := g) (u := u0) (κ := .cl) hk.1 True.intro
                refine va_get (D := (dC, dI)) (ci := 7) (v := .ref (ad (.ln 0))) (C := RX7) (T := TX7) (N := 12) hx hb hts inlX7 hown hK hP q9 h9 rfl 0 (by decide) (hts _ mw_18) (fun _ h9 => h9) rfl dX7_day_68 ?_
                clear h9
                obtain ⟨q9, h9⟩ := wc_at (cy := cy) (ad := ad) (ks := ks) (g := g) (u := u0) (κ := (.ln 0)) hk.1 (Or.inl (by decide))
                refine va_get (D := (dC, dI)) (ci := 3) (v := .ref (ad (.ls 0))) (C := RX3) (T := TX3) (N := 17) hx hb hts inlX3 hown hK hP q9 h9 rfl 11 (by decide) (hts _ mw_697) (fun _ h9 => h9) rfl dX7_day_71 ?_
                clear h9
                refine lv_iload_n hx hb dX7_day_74 rfl (lv_at hl 4 rfl) ?_
                obtain ⟨n21, e22, hF⟩ := ob hF
                obtain ⟨q9, h9⟩ := wc_at (cy := cy) (ad := ad) (ks := ks) (g := g) (u := u0) (κ := (.ls 0)) hk.1 (Or.inl (by decide))
                refine va_aldq hx hb hK hP q9 7 h9 rfl (ix_in e22) dX7_day_75 ?_
                refine my_top (y := .ref (ad (.lo 0 n21))) (ixv (F := fun j => ad (.lo 0 j)) e22) ?_
                clear h9
                obtain ⟨q9, h9⟩ := wc_at (cy := cy) (ad := ad) (ks := ks) (g := g) (u := u0) (κ := (.lo 0 n21)) hk.1 ⟨(Or.inl (by decide)), (ix_lt e22)⟩
                refine va_get (D := (dC, dI)) (ci := 4) (v := .ref (ad (.dl 0 n21))) (C := RX4) (T := TX4) (N := 12) hx hb hts inlX4 hown hK hP q9 h9 rfl 10 (by decide) (hts _ mw_879) (fun _ h9 => h9) rfl dX7_day_76 ?_
                clear h9
                refine lv_iload hx hb dX7_day_79 (lv_at hl 0 rfl) ?_
                obtain ⟨x23, e24, hF⟩ := ob hF
                obtain ⟨q9, h9⟩ := wc_at (cy := cy) (ad := ad) (ks := ks) (g := g) (u := u0) (κ := (.dl 0 n21)) hk.1 ⟨(Or.inl (by decide)), (ix_lt e22)⟩
                refine va_iald hx hb hK hP q9 1 h9 rfl (rd_in e24) dX7_day_81 ?_
                refine my_topi (y := x23) (rd_eq e24) ?_
                clear h9
                refine lv_goto (tgt := 100) hx hb dX7_day_82 (by decide) ?_
                have ht := s1 hF
                subst ht
                exact join16 _ _ _ hP hD hS (lv_sub hl [0, 1, 2, 3, 4, 5] rfl)
            · rw [if_neg c10] at hF
              refine lv_iconst (v := (-1)) hx hb dX7_day_50 (by decide) ?_
              cases hF
        · rw [if_neg c6] at hF
          have hZ := s4 hF
          subst hZ
          obtain ⟨sa, hsa⟩ := hE.t266
          rw [hQ]
          exact vx_throwSW (A := A) (own := RX7) (cls := xA) (text := "index or what is out of range") (names := ["java/lang/RuntimeException", "java/lang/Exception"]) (ik := 105) (is := 266) (ic := 109) hx hb hst hown (by decide) (by decide) (hts _ mw_569) (hts _ mw_570) hsa (my_hat (fun w h => hts w (List.mem_append_left _ (List.mem_append_right _ h))) my_atA hE.cA hE.dc) my_gA hE.zU hE.zN hS (by rw [hml]; exact hl.1) dX7_day_18 dX7_day_21 dX7_day_22 dX7_day_25 dX7_day_28 (fun x hx => (hout x hx).elim) (Nat.le_of_ble_eq_true rfl) (Nat.le_of_ble_eq_true rfl) (Nat.le_of_ble_eq_true rfl) (Nat.le_of_ble_eq_true rfl) hlocks (fun t _ h1 h2 => ⟨(), trivial, ⟨rfl, my_keep hP (fun q9 z9 _ => h2 q9 z9)⟩, my_F hS h1 h2⟩) hS.2.2 (Nat.le_of_ble_eq_true rfl) (Nat.le_of_ble_eq_true rfl)
set_option maxHeartbeats 4000000 in
set_option maxRecDepth 100000 in
theorem c_X7_failIn_y (l : Launch) (hst : l.stackTraces = false) (dC : Nat → ClassId) (dI : Nat → Nat → Nat) (cy : Nat → ClassId) (nb : Nat → Nat) (ad : CK → Nat) (ks : List CK) (g : CG) (hk : GA nb ad g ks) (u0 : RS) (a1 : Int32) (xc : Int32) (sz : Nat) (hF : C7_failIn g u0 a1 = some (.inl xc)) : vx_Met l yX7_failIn (wsg yX7_failIn cX7_failIn 3 (some .int)) ({ frames := 13, cells := 1, slots := 6, locals := 800 }) (va_Pc [.ref (ad .cl), .int a1] (fun U => U.heap.size = sz ∧ va_P (dC, dI) vwCl (WC cy ad ks g u0) U.heap ∧ va_K (dC, dI) vwCl (tyL cy) U ∧ va_D (fun _ => True) (WC cy ad ks g u0) ∧ GE nb (va_A (WC cy ad ks g u0) sz) U)) (va_Qi (fun (_ : Int32) (_ : Unit) => False) (fun _ _ => True) (va_A (WC cy ad ks g u0) sz)) (vx_X (fun (_ : Unit) => True) (fun E9 _ t9 => E9 = exn xc ∧ va_P (dC, dI) vwCl (WC cy ad ks g u0) t9.heap) (va_A (WC cy ad ks g u0) sz)) 1 6 (va_A (WC cy ad ks g u0) sz) := by
  refine vx_ofW (cc := cX7_failIn) (maxL := 3) (ret := (some .int)) pn_X7 rfl ?_
  intro p e s m args below meth c s₁ B hml hout hv
  obtain ⟨rfl, hsz, hP, hK, hD0, hE⟩ := hv
  have hx := B.exec
  have hb := B.bytes
  have hr := B.returns
  have hts0 := atoms_spec (ws := (wsg yX7_failIn cX7_failIn 3 (some .int))) B.pre
  have hts : ∀ w ∈ wsL_law, w.before _ s = true := fun w h => hts0 w (List.mem_cons_of_mem _ h)
  have hown : s.vm.findClass RX7 = some m.cls := by have h9 := findClass_of_methodNamed B.named; exact h9
  have hlocks := B.notSynchronized
  subst hsz
  have hD := hD0.self (sz := s.heap.size)
  generalize hAe : va_A (WC cy ad ks g u0) s.heap.size = A at hD hE ⊢
  have hA : ∀ q : Nat, s.heap.size ≤ q → A q := fun q h => by rw [← hAe]; exact Or.inr h
  have hS : va_S A s.heap s.heap [] := va_S.rf
  have hl := lv_entry ([.ref (ad .cl), .int a1]) (n := 3) (Nat.le_of_ble_eq_true rfl)
  rw [lg_entry_eq]
  generalize (lg_sl ([.ref (ad .cl), .int a1]) ++ List.replicate (3 - (lg_sl ([.ref (ad .cl), .int a1])).length) Slot.unset).toArray = ls at hl ⊢
  have hl : lv_has ls 3 [(0, .ref (ad .cl)), (1, .int a1)] := hl
  generalize hHe : s.heap = H at hP hS ⊢
  have hS : va_S A s.heap H [] := by rw [hHe]; exact hS
  refine my_Q (fun Qn hQ => ?_)
  simp only [C7_failIn] at hF
  refine lv_aload_n hx hb dX7_failIn_0 rfl (lv_at hl 0 rfl) ?_
  refine lv_iload_n hx hb dX7_failIn_1 rfl (lv_at hl 1 rfl) ?_
  obtain ⟨t1, e2, hF⟩ := ob hF
  rcases t1 with xz9 | t3
  · have hF : some (Sum.inl xz9) = some (.inl xc) := hF
    have hPc := hP
    have hDc := hD
    have hFc := my_free hD hS hA
    obtain ⟨q8, h8⟩ := wc_at (cy := cy) (ad := ad) (ks := ks) (g := g) (u := u0) (κ := .cl) hk.1 True.intro
    refine vx_callv (vx_runV (As := [.int a1]) (rest := []) ⟨hx, hb, hml, hown, hts⟩ (c_X7_needStation_y l hst dC dI cy nb ad ks g hk u0 (a1) xz9 H.size e2) (cwV 1 hts (gV mw_631 mw_632 mw_633 mw_2 mw_634) rfl rfl rfl (by decide +kernel) ⟨Nat.le_of_ble_eq_true rfl, Nat.le_of_ble_eq_true rfl⟩) (my_preV hPc hK hDc hE hS hFc (va_recv (q := (RX7, TX7, 12)) hK hP (ci := 7) (q0 := q8) rfl h8)) rfl rfl hl.1 rfl (lv_room (Nat.le_of_ble_eq_true rfl)) dX7_failIn_2 ⟨Nat.le_of_ble_eq_true rfl, Nat.le_of_ble_eq_true rfl⟩) hS (fun q _ h => hFc q h) hFc (fun q _ h => hFc q h) (fun E9 ce9 q9 u9 t9 H1 locs1 ht9 hvm9 hp9 hB9 hz9 hk9 hS9 hc9 hv9 hcl9 => ?_) (fun u9 t9 H1 locs1 ht9 hvm9 hp9 _ _ _ _ => hp9.elim)
    have hZ := s4 hF
    rw [hQ]
    exact vx_out (fun x hx => (hout x hx).elim) hlocks hc9 hv9 hcl9 (fun t h1 h2 => ⟨(), trivial, ⟨hB9.1.trans (congrArg exn hZ), by rw [h1, ← ht9]; exact hB9.2⟩, hS9.F h1⟩) hS9.2.2 (Nat.le_of_ble_eq_true rfl) (Nat.le_of_ble_eq_true rfl)
  · dsimp only [tr] at hF
    have hPc := hP
    have hDc := hD
    have hFc := my_free hD hS hA
    obtain ⟨q8, h8⟩ := wc_at (cy := cy) (ad := ad) (ks := ks) (g := g) (u := u0) (κ := .cl) hk.1 True.intro
    refine va_callv (va_runV (As := [.int a1]) (rest := []) ⟨hx, hb, hml, hown, hts⟩ (c_X7_needStation l dC dI cy nb ad ks g hk u0 (a1) H.size e2) (cwV 1 hts (gV mw_631 mw_632 mw_633 mw_2 mw_634) rfl rfl rfl (by decide +kernel) ⟨Nat.le_of_ble_eq_true rfl, Nat.le_of_ble_eq_true rfl⟩) (my_preV hPc hK hDc hE hS hFc (va_recv (q := (RX7, TX7, 12)) hK hP (ci := 7) (q0 := q8) rfl h8)) rfl rfl hl.1 rfl (lv_room (Nat.le_of_ble_eq_true rfl)) dX7_failIn_2 ⟨Nat.le_of_ble_eq_true rfl, Nat.le_of_ble_eq_true rfl⟩) hS (fun q _ h => hFc q h) hFc (fun u t H1 locs ht hvm hw hB hz1 hk1 hS => ?_)
    clear h8
    obtain ⟨hP1, hD1⟩ := hB
    rw [ht] at hP1
    have hP := hP1
    have hD := hD1.weaken (fun k q _ h => hFc q.1 h)
    generalize H1 = H at hP hS ⊢
    clear hP1 hD1 hPc hDc hFc hk1 hz1 hvm ht
    refine lv_aload_n hx hb dX7_failIn_5 rfl (lv_at hl 0 rfl) ?_
    obtain ⟨t4, e5, hF⟩ := ob hF
    have hPc := hP
    have hDc := hD
    have hFc := my_free hD hS hA
    obtain ⟨q8, h8⟩ := wc_at (cy := cy) (ad := ad) (ks := ks) (g := g) (u := u0) (κ := .cl) hk.1 True.intro
    refine va_callr (va_runV (As := []) (rest := []) ⟨hx, hb, hml, hown, hts⟩ (c_X7_copyOfLine l dC dI cy nb ad ks g hk u0 (t4) H.size e5) (cwV 0 hts (gV mw_1298 mw_1299 mw_1300 mw_2 mw_1301) rfl rfl rfl (by decide +kernel) ⟨Nat.le_of_ble_eq_true rfl, Nat.le_of_ble_eq_true rfl⟩) (my_preV hPc hK hDc hE hS hFc (va_recv (q := (RX7, TX7, 12)) hK hP (ci := 7) (q0 := q8) rfl h8)) rfl rfl hl.1 rfl (lv_room (Nat.le_of_ble_eq_true rfl)) dX7_failIn_6 ⟨Nat.le_of_ble_eq_true rfl, Nat.le_of_ble_eq_true rfl⟩) hS (fun q _ h => hFc q h) hFc (fun u ra t H1 locs ht hvm hw hB hz1 hk1 hS => ?_)
    clear h8
    obtain ⟨hra, hP1, hD1⟩ := hB
    rw [ht] at hP1
    have hP := hP1
    have hD := hD1.weaken (fun k q _ h => hFc q.1 h)
    generalize H1 = H at hP hS ⊢
    clear hP1 hD1 hPc hDc hFc hk1 hz1 hvm ht
    obtain rfl := hra.symm
    refine lv_astore_n (lv' := [(2, .ref (ad (.ln 1))), (0, .ref (ad .cl)), (1, .int a1)]) hx hb dX7_failIn_9 rfl hl (by decide) rfl (fun ls hl => ?_)
    refine lv_aload_n hx hb dX7_failIn_10 rfl (lv_at hl 0 rfl) ?_
    obtain ⟨q9, h9⟩ := wc_at (cy := cy) (ad := ad) (ks := ks) (g := g) (u := t4) (κ := (.ln 1)) hk.1 (Or.inl (by decide))
    refine va_get (D := (dC, dI)) (ci := 3) (v := .ref (ad (.ss 1))) (C := RX3) (T := TX3) (N := 17) hx hb hts inlX3 hown hK hP q9 h9 rfl 10 (by decide) (hts _ mw_617) (fun _ h9 => h9) rfl dX7_failIn_11 ?_
    clear h9
    refine lv_iload_n hx hb dX7_failIn_14 rfl (lv_at hl 2 rfl) ?_
    obtain ⟨n6, e7, hF⟩ := ob hF
    obtain ⟨q9, h9⟩ := wc_at (cy := cy) (ad := ad) (ks := ks) (g := g) (u := t4) (κ := (.ss 1)) hk.1 (Or.inl (by decide))
    refine va_aldq hx hb hK hP q9 6 h9 rfl (ix_in e7) dX7_failIn_15 ?_
    refine my_top (y := .ref (ad (.st 1 n6))) (ixv (F := fun j => ad (.st 1 j)) e7) ?_
    clear h9
    refine lv_iconst (v := 0) hx hb dX7_failIn_16 (by decide) ?_
    obtain ⟨q9, h9, ez9⟩ := wc_set (cy := cy) (ad := ad) (ks := ks) (g := g) (u := t4) (κ := (.st 1 n6)) (r := (10 + 1)) (i := (17 + 16 * n6 + 5)) (v := (0)) hk.1 ⟨(Or.inl (by decide)), (ix_lt e7)⟩ (own_st (show 1 < 12 by decide) (ix_lt e7) (by decide)) (sf_st_7)
    refine va_put (D := (dC, dI)) (ci := 6) (v := .int 0) (ty := .int) (C := RX6) (T := TX6) (N := 15) hx hb hts inlX6 tyX6 tyX6_ok nmX6 hown hK hP hD hS q9 h9 rfl 7 (by decide) (hts _ mw_623) (fun _ h9 => h9) rfl (by decide +kernel) rfl rfl (Nat.le_of_ble_eq_true rfl) dX7_failIn_17 (fun H locs hP hD hS => ?_)
    obtain ⟨u8, e9, hF⟩ := ob hF
    have hP : va_P (dC, dI) vwCl (WC cy ad ks g u8) H := by rw [← pt_eq e9, ← ez9]; exact hP
    have hD : va_D A (WC cy ad ks g u8) := by rw [← pt_eq e9, ← ez9]; exact hD
    clear ez9 h9
    refine lv_aload_n hx hb dX7_failIn_20 rfl (lv_at hl 0 rfl) ?_
    refine va_gets (C := RX2) (n := "STATION_FAILED") (d := "LCardLine$Event;") (ref := "CardLine$Event") (v := .ref (nb (40 + 3))) hx hb (hE.evk 3 rfl).1 hS hown (hts _ mw_1389) (fun _ h9 => h9) dX7_failIn_21 ?_
    refine lv_iload_n hx hb dX7_failIn_24 rfl (lv_at hl 2 rfl) ?_
    refine lv_sipush (v := 2000) hx hb dX7_failIn_25 (by decide) ?_
    obtain ⟨t10, e11, hF⟩ := ob hF
    have hPc := hP
    have hDc := hD
    have hFc := my_free hD hS hA
    refine va_calli (va_runS (As := [.ref (ad (.ln 1)), .ref (nb (40 + 3)), .int a1, .int 2000]) (rest := []) ⟨hx, hb, hml, hown, hts⟩ (c_X7_ticksUntil_e3 l dC dI cy nb ad ks g hk u8 1 (a1) (2000) (t10.1) (t10.2) H.size (Or.inl (by decide)) e11) (va_cwS 4 hts (gS mw_1302 mw_1303 mw_2 mw_1304) rfl rfl rfl (by decide +kernel) ⟨Nat.le_of_ble_eq_true rfl, Nat.le_of_ble_eq_true rfl⟩) (my_preS hPc hK hDc hE hS hFc) rfl rfl hl.1 rfl (lv_room (Nat.le_of_ble_eq_true rfl)) dX7_failIn_28 ⟨Nat.le_of_ble_eq_true rfl, Nat.le_of_ble_eq_true rfl⟩) hS (fun q _ h => hFc q h) hFc (fun r u t H1 locs ht hvm hw hB hz1 hk1 hS => ?_)
    obtain ⟨hP1, hD1⟩ := hB
    rw [ht] at hP1
    have hP := hP1
    have hD := hD1.weaken (fun k q _ h => hFc q.1 h)
    generalize H1 = H at hP hS ⊢
    clear hP1 hD1 hPc hDc hFc hk1 hz1 hvm ht
    obtain rfl := hw.symm
    cases hF
set_option maxHeartbeats 4000000 in
set_option maxRecDepth 100000 in
theorem c_X7_giveUp_y (l : Launch) (hst : l.stackTraces = false) (dC : Nat → ClassId) (dI : Nat → Nat → Nat) (cy : Nat → ClassId) (nb : Nat → Nat) (ad : CK → Nat) (ks : List CK) (g : CG) (hk : GA nb ad g ks) (u0 : RS) (a1 : Int32) (xc : Int32) (sz : Nat) (hF : C7_giveUp g u0 a1 = some (.inl xc)) : vx_Met l yX7_giveUp (wsg yX7_giveUp cX7_giveUp 2 (some .int)) ({ frames := 11, cells := 67, slots := 831, locals := 600 }) (va_Pc [.ref (ad .cl), .int a1] (fun U => U.heap.size = sz ∧ va_P (dC, dI) vwCl (WC cy ad ks g u0) U.heap ∧ va_K (dC, dI) vwCl (tyL cy) U ∧ va_D (fun _ => True) (WC cy ad ks g u0) ∧ GE nb (va_A (WC cy ad ks g u0) sz) U)) (va_Qi (fun (_ : Int32) (_ : Unit) => False) (fun _ _ => True) (va_A (WC cy ad ks g u0) sz)) (vx_X (fun (_ : Unit) => True) (fun E9 _ t9 => E9 = exn xc ∧ va_P (dC, dI) vwCl (WC cy ad ks g u0) t9.heap) (va_A (WC cy ad ks g u0) sz)) 67 831 (va_A (WC cy ad ks g u0) sz) := by
  refine vx_ofW (cc := cX7_giveUp) (maxL := 2) (ret := (some .int)) pn_X7 rfl ?_
  intro p e s m args below meth c s₁ B hml hout hv
  obtain ⟨rfl, hsz, hP, hK, hD0, hE⟩ := hv
  have hx := B.exec
  have hb := B.bytes
  have hr := B.returns
  have hts0 := atoms_spec (ws := (wsg yX7_giveUp cX7_giveUp 2 (some .int))) B.pre
  have hts : ∀ w ∈ wsL_law, w.before _ s = true := fun w h => hts0 w (List.mem_cons_of_mem _ h)
  have hown : s.vm.findClass RX7 = some m.cls := by have h9 := findClass_of_methodNamed B.named; exact h9
  have hlocks := B.notSynchronized
  subst hsz
  have hD := hD0.self (sz := s.heap.size)
  generalize hAe : va_A (WC cy ad ks g u0) s.heap.size = A at hD hE ⊢
  have hA : ∀ q : Nat, s.heap.size ≤ q → A q := fun q h => by rw [← hAe]; exact Or.inr h
  have hS : va_S A s.heap s.heap [] := va_S.rf
  have hl := lv_entry ([.ref (ad .cl), .int a1]) (n := 2) (Nat.le_of_ble_eq_true rfl)
  rw [lg_entry_eq]
  generalize (lg_sl ([.ref (ad .cl), .int a1]) ++ List.replicate (2 - (lg_sl ([.ref (ad .cl), .int a1])).length) Slot.unset).toArray = ls at hl ⊢
  have hl : lv_has ls 2 [(0, .ref (ad .cl)), (1, .int a1)] := hl
  generalize hHe : s.heap = H at hP hS ⊢
  have hS : va_S A s.heap H [] := by rw [hHe]; exact hS
  refine my_Q (fun Qn hQ => ?_)
  simp only [C7_giveUp] at hF
  refine lv_aload_n hx hb dX7_giveUp_0 rfl (lv_at hl 0 rfl) ?_
  refine lv_iload_n hx hb dX7_giveUp_1 rfl (lv_at hl 1 rfl) ?_
  obtain ⟨t1, e2, hF⟩ := ob hF
  rcases t1 with xz9 | t3
  · have hF : some (Sum.inl xz9) = some (.inl xc) := hF
    have hPc := hP
    have hDc := hD
    have hFc := my_free hD hS hA
    obtain ⟨q8, h8⟩ := wc_at (cy := cy) (ad := ad) (ks := ks) (g := g) (u := u0) (κ := .cl) hk.1 True.intro
    refine vx_callv (vx_runV (As := [.int a1]) (rest := []) ⟨hx, hb, hml, hown, hts⟩ (c_X7_needCard_y l hst dC dI cy nb ad ks g hk u0 (a1) xz9 H.size e2) (cwV 1 hts (gV mw_666 mw_667 mw_668 mw_2 mw_669) rfl rfl rfl (by decide +kernel) ⟨Nat.le_of_ble_eq_true rfl, Nat.le_of_ble_eq_true rfl⟩) (my_preV hPc hK hDc hE hS hFc (va_recv (q := (RX7, TX7, 12)) hK hP (ci := 7) (q0 := q8) rfl h8)) rfl rfl hl.1 rfl (lv_room (Nat.le_of_ble_eq_true rfl)) dX7_giveUp_2 ⟨Nat.le_of_ble_eq_true rfl, Nat.le_of_ble_eq_true rfl⟩) hS (fun q _ h => hFc q h) hFc (fun q _ h => hFc q h) (fun E9 ce9 q9 u9 t9 H1 locs1 ht9 hvm9 hp9 hB9 hz9 hk9 hS9 hc9 hv9 hcl9 => ?_) (fun u9 t9 H1 locs1 ht9 hvm9 hp9 _ _ _ _ => hp9.elim)
    have hZ := s4 hF
    rw [hQ]
    exact vx_out (fun x hx => (hout x hx).elim) hlocks hc9 hv9 hcl9 (fun t h1 h2 => ⟨(), trivial, ⟨hB9.1.trans (congrArg exn hZ), by rw [h1, ← ht9]; exact hB9.2⟩, hS9.F h1⟩) hS9.2.2 (Nat.le_of_ble_eq_true rfl) (Nat.le_of_ble_eq_true rfl)
  · dsimp only [tr] at hF
    have hPc := hP
    have hDc := hD
    have hFc := my_free hD hS hA
    obtain ⟨q8, h8⟩ := wc_at (cy := cy) (ad := ad) (ks := ks) (g := g) (u := u0) (κ := .cl) hk.1 True.intro
    refine va_callv (va_runV (As := [.int a1]) (rest := []) ⟨hx, hb, hml, hown, hts⟩ (c_X7_needCard l dC dI cy nb ad ks g hk u0 (a1) H.size e2) (cwV 1 hts (gV mw_666 mw_667 mw_668 mw_2 mw_669) rfl rfl rfl (by decide +kernel) ⟨Nat.le_of_ble_eq_true rfl, Nat.le_of_ble_eq_true rfl⟩) (my_preV hPc hK hDc hE hS hFc (va_recv (q := (RX7, TX7, 12)) hK hP (ci := 7) (q0 := q8) rfl h8)) rfl rfl hl.1 rfl (lv_room (Nat.le_of_ble_eq_true rfl)) dX7_giveUp_2 ⟨Nat.le_of_ble_eq_true rfl, Nat.le_of_ble_eq_true rfl⟩) hS (fun q _ h => hFc q h) hFc (fun u t H1 locs ht hvm hw hB hz1 hk1 hS => ?_)
    clear h8
    obtain ⟨hP1, hD1⟩ := hB
    rw [ht] at hP1
    have hP := hP1
    have hD := hD1.weaken (fun k q _ h => hFc q.1 h)
    generalize H1 = H at hP hS ⊢
    clear hP1 hD1 hPc hDc hFc hk1 hz1 hvm ht
    refine lv_aload_n hx hb dX7_giveUp_5 rfl (lv_at hl 0 rfl) ?_
    refine lv_iload_n hx hb dX7_giveUp_6 rfl (lv_at hl 1 rfl) ?_
    obtain ⟨x4, e5, hF⟩ := ob hF
    have hPc := hP
    have hDc := hD
    have hFc := my_free hD hS hA
    obtain ⟨q8, h8⟩ := wc_at (cy := cy) (ad := ad) (ks := ks) (g := g) (u := u0) (κ := .cl) hk.1 True.intro
    refine va_calli (va_runV (As := [.int a1]) (rest := []) ⟨hx, hb, hml, hown, hts⟩ (c_X7_waits l dC dI cy nb ad ks g hk u0 (a1) (x4) H.size e5) (cwV 1 hts (gV mw_994 mw_995 mw_996 mw_2 mw_997) rfl rfl rfl (by decide +kernel) ⟨Nat.le_of_ble_eq_true rfl, Nat.le_of_ble_eq_true rfl⟩) (my_preV hPc hK hDc hE hS hFc (va_recv (q := (RX7, TX7, 12)) hK hP (ci := 7) (q0 := q8) rfl h8)) rfl rfl hl.1 rfl (lv_room (Nat.le_of_ble_eq_true rfl)) dX7_giveUp_7 ⟨Nat.le_of_ble_eq_true rfl, Nat.le_of_ble_eq_true rfl⟩) hS (fun q _ h => hFc q h) hFc (fun r u t H1 locs ht hvm hw hB hz1 hk1 hS => ?_)
    clear h8
    obtain ⟨hP1, hD1⟩ := hB
    rw [ht] at hP1
    have hP := hP1
    have hD := hD1.weaken (fun k q _ h => hFc q.1 h)
    generalize H1 = H at hP hS ⊢
    clear hP1 hD1 hPc hDc hFc hk1 hz1 hvm ht
    obtain rfl := hw.symm
    refine lv_if_ne (tgt := 16) hx hb dX7_giveUp_10 (by decide) (fun c6 => ?_) (fun c6 => ?_)
    · rw [if_neg c6] at hF
      refine lv_aload_n hx hb dX7_giveUp_16 rfl (lv_at hl 0 rfl) ?_
      obtain ⟨t7, e8, hF⟩ := ob hF
      have hPc := hP
      have hDc := hD
      have hFc := my_free hD hS hA
      obtain ⟨q8, h8⟩ := wc_at (cy := cy) (ad := ad) (ks := ks) (g := g) (u := u0) (κ := .cl) hk.1 True.intro
      refine va_callv (va_runV (As := []) (rest := []) ⟨hx, hb, hml, hown, hts⟩ (c_X7_remember l dC dI cy nb ad ks g hk u0 (t7.1) (t7.2) H.size e8) (cwV 0 hts (gV mw_973 mw_974 mw_975 mw_2 mw_976) rfl rfl rfl (by decide +kernel) ⟨Nat.le_of_ble_eq_true rfl, Nat.le_of_ble_eq_true rfl⟩) (my_preV hPc hK hDc hE hS hFc (va_recv (q := (RX7, TX7, 12)) hK hP (ci := 7) (q0 := q8) rfl h8)) rfl rfl hl.1 rfl (lv_room (Nat.le_of_ble_eq_true rfl)) dX7_giveUp_17 ⟨Nat.le_of_ble_eq_true rfl, Nat.le_of_ble_eq_true rfl⟩) hS (fun q _ h => hFc q h) hFc (fun u t H1 locs ht hvm hw hB hz1 hk1 hS => ?_)
      clear h8
      obtain ⟨ad9, ks10, hk11, ax12, hP1, hD1⟩ := hB
      rw [ht] at hP1
      have hP := hP1
      have hD := hD1.weaken (fun k q _ h => hFc q.1 h)
      generalize H1 = H at hP hS ⊢
      have hl : lv_has ls 2 [(0, .ref (ad9 .cl)), (1, .int a1)] := by rw [(ax12 .cl True.intro).2]; exact hl
      clear hP1 hD1 hPc hDc hFc hk1 hz1 hvm ht
      refine W.widen (k := 67) (n := 831) (by omega) (by omega) ?_
      refine lv_aload_n hx hb dX7_giveUp_20 rfl (lv_at hl 0 rfl) ?_
      obtain ⟨q9, h9⟩ := wc_at (cy := cy) (ad := ad9) (ks := ks10) (g := (t7.1)) (u := (t7.2)) (κ := .cl) hk11.1 True.intro
      refine va_get (D := (dC, dI)) (ci := 7) (v := .ref (ad9 (.ln 0))) (C := RX7) (T := TX7) (N := 12) hx hb hts inlX7 hown hK hP q9 h9 rfl 0 (by decide) (hts _ mw_18) (fun _ h9 => h9) rfl dX7_giveUp_21 ?_
      clear h9
      refine lv_iload_n hx hb dX7_giveUp_24 rfl (lv_at hl 1 rfl) ?_
      obtain ⟨u13, e14, hF⟩ := ob hF
      have hPc := hP
      have hDc := hD
      have hFc := my_free hD hS hA
      obtain ⟨q8, h8⟩ := wc_at (cy := cy) (ad := ad9) (ks := ks10) (g := (t7.1)) (u := (t7.2)) (κ := (.ln 0)) hk11.1 (Or.inl (by decide))
      refine va_callv (va_runV (As := [.int a1]) (rest := []) ⟨hx, hb, hml, hown, hts⟩ (c_X3_abandon l dC dI cy nb ad9 ks10 (t7.1) hk11 (t7.2) 0 (a1) (u13) H.size (Or.inl (by decide)) e14) (cwV 1 hts (gV mw_998 mw_999 mw_1000 mw_17 mw_1001) rfl rfl rfl (by decide +kernel) ⟨Nat.le_of_ble_eq_true rfl, Nat.le_of_ble_eq_true rfl⟩) (my_preV hPc hK hDc hE hS hFc (va_recv (q := (RX3, TX3, 17)) hK hP (ci := 3) (q0 := q8) rfl h8)) rfl rfl hl.1 rfl (lv_room (Nat.le_of_ble_eq_true rfl)) dX7_giveUp_25 ⟨Nat.le_of_ble_eq_true rfl, Nat.le_of_ble_eq_true rfl⟩) hS (fun q _ h => hFc q h) hFc (fun u t H1 locs ht hvm hw hB hz1 hk1 hS => ?_)
      clear h8
      obtain ⟨hP1, hD1⟩ := hB
      rw [ht] at hP1
      have hP := hP1
      have hD := hD1.weaken (fun k q _ h => hFc q.1 h)
      generalize H1 = H at hP hS ⊢
      clear hP1 hD1 hPc hDc hFc hk1 hz1 hvm ht
      refine lv_aload_n hx hb dX7_giveUp_28 rfl (lv_at hl 0 rfl) ?_
      obtain ⟨q9, h9⟩ := wc_at (cy := cy) (ad := ad9) (ks := ks10) (g := (t7.1)) (u := u13) (κ := .cl) hk11.1 True.intro
      refine va_get (D := (dC, dI)) (ci := 7) (v := .ref (ad9 (.ln 0))) (C := RX7) (T := TX7) (N := 12) hx hb hts inlX7 hown hK hP q9 h9 rfl 0 (by decide) (hts _ mw_18) (fun _ h9 => h9) rfl dX7_giveUp_29 ?_
      clear h9
      obtain ⟨q9, h9⟩ := wc_at (cy := cy) (ad := ad9) (ks := ks10) (g := (t7.1)) (u := u13) (κ := (.ln 0)) hk11.1 (Or.inl (by decide))
      refine va_get (D := (dC, dI)) (ci := 3) (v := .ref (ad9 (.is 0))) (C := RX3) (T := TX3) (N := 17) hx hb hts inlX3 hown hK hP q9 h9 rfl 13 (by decide) (hts _ mw_574) (fun _ h9 => h9) rfl dX7_giveUp_32 ?_
      clear h9
      refine lv_iconst (v := 0) hx hb dX7_giveUp_35 (by decide) ?_
      obtain ⟨q9, h9⟩ := wc_at (cy := cy) (ad := ad9) (ks := ks10) (g := (t7.1)) (u := u13) (κ := (.is 0)) hk11.1 (Or.inl (by decide))
      refine va_iald hx hb hK hP q9 1 h9 rfl (vp_in_nI (n := 0) (by decide) (by decide)) dX7_giveUp_36 ?_
      refine my_topi (y := (u13 (400 + 0) 0)) (by rfl) ?_
      clear h9
      cases hF
    · rw [if_pos c6] at hF
      refine lv_bipush (v := (-3)) hx hb dX7_giveUp_13 (by decide) ?_
      cases hF
set_option maxHeartbeats 4000000 in
set_option maxRecDepth 100000 in
theorem c_X7_leavesIn_y (l : Launch) (hst : l.stackTraces = false) (dC : Nat → ClassId) (dI : Nat → Nat → Nat) (cy : Nat → ClassId) (nb : Nat → Nat) (ad : CK → Nat) (ks : List CK) (g : CG) (hk : GA nb ad g ks) (u0 : RS) (a1 : Int32) (xc : Int32) (sz : Nat) (hF : C7_leavesIn g u0 a1 = some (.inl xc)) : vx_Met l yX7_leavesIn (wsg yX7_leavesIn cX7_leavesIn 2 (some .int)) ({ frames := 13, cells := 1, slots := 6, locals := 800 }) (va_Pc [.ref (ad .cl), .int a1] (fun U => U.heap.size = sz ∧ va_P (dC, dI) vwCl (WC cy ad ks g u0) U.heap ∧ va_K (dC, dI) vwCl (tyL cy) U ∧ va_D (fun _ => True) (WC cy ad ks g u0) ∧ GE nb (va_A (WC cy ad ks g u0) sz) U)) (va_Qi (fun (_ : Int32) (_ : Unit) => False) (fun _ _ => True) (va_A (WC cy ad ks g u0) sz)) (vx_X (fun (_ : Unit) => True) (fun E9 _ t9 => E9 = exn xc ∧ va_P (dC, dI) vwCl (WC cy ad ks g u0) t9.heap) (va_A (WC cy ad ks g u0) sz)) 1 6 (va_A (WC cy ad ks g u0) sz) := by
  refine vx_ofW (cc := cX7_leavesIn) (maxL := 2) (ret := (some .int)) pn_X7 rfl ?_
  intro p e s m args below meth c s₁ B hml hout hv
  obtain ⟨rfl, hsz, hP, hK, hD0, hE⟩ := hv
  have hx := B.exec
  have hb := B.bytes
  have hr := B.returns
  have hts0 := atoms_spec (ws := (wsg yX7_leavesIn cX7_leavesIn 2 (some .int))) B.pre
  have hts : ∀ w ∈ wsL_law, w.before _ s = true := fun w h => hts0 w (List.mem_cons_of_mem _ h)
  have hown : s.vm.findClass RX7 = some m.cls := by have h9 := findClass_of_methodNamed B.named; exact h9
  have hlocks := B.notSynchronized
  subst hsz
  have hD := hD0.self (sz := s.heap.size)
  generalize hAe : va_A (WC cy ad ks g u0) s.heap.size = A at hD hE ⊢
  have hA : ∀ q : Nat, s.heap.size ≤ q → A q := fun q h => by rw [← hAe]; exact Or.inr h
  have hS : va_S A s.heap s.heap [] := va_S.rf
  have hl := lv_entry ([.ref (ad .cl), .int a1]) (n := 2) (Nat.le_of_ble_eq_true rfl)
  rw [lg_entry_eq]
  generalize (lg_sl ([.ref (ad .cl), .int a1]) ++ List.replicate (2 - (lg_sl ([.ref (ad .cl), .int a1])).length) Slot.unset).toArray = ls at hl ⊢
  have hl : lv_has ls 2 [(0, .ref (ad .cl)), (1, .int a1)] := hl
  generalize hHe : s.heap = H at hP hS ⊢
  have hS : va_S A s.heap H [] := by rw [hHe]; exact hS
  refine my_Q (fun Qn hQ => ?_)
  simp only [C7_leavesIn] at hF
  refine lv_aload_n hx hb dX7_leavesIn_0 rfl (lv_at hl 0 rfl) ?_
  refine lv_iload_n hx hb dX7_leavesIn_1 rfl (lv_at hl 1 rfl) ?_
  obtain ⟨t1, e2, hF⟩ := ob hF
  rcases t1 with xz9 | t3
  · have hF : some (Sum.inl xz9) = some (.inl xc) := hF
    have hPc := hP
    have hDc := hD
    have hFc := my_free hD hS hA
    obtain ⟨q8, h8⟩ := wc_at (cy := cy) (ad := ad) (ks := ks) (g := g) (u := u0) (κ := .cl) hk.1 True.intro
    refine vx_callv (vx_runV (As := [.int a1]) (rest := []) ⟨hx, hb, hml, hown, hts⟩ (c_X7_needCard_y l hst dC dI cy nb ad ks g hk u0 (a1) xz9 H.size e2) (cwV 1 hts (gV mw_666 mw_667 mw_668 mw_2 mw_669) rfl rfl rfl (by decide +kernel) ⟨Nat.le_of_ble_eq_true rfl, Nat.le_of_ble_eq_true rfl⟩) (my_preV hPc hK hDc hE hS hFc (va_recv (q := (RX7, TX7, 12)) hK hP (ci := 7) (q0 := q8) rfl h8)) rfl rfl hl.1 rfl (lv_room (Nat.le_of_ble_eq_true rfl)) dX7_leavesIn_2 ⟨Nat.le_of_ble_eq_true rfl, Nat.le_of_ble_eq_true rfl⟩) hS (fun q _ h => hFc q h) hFc (fun q _ h => hFc q h) (fun E9 ce9 q9 u9 t9 H1 locs1 ht9 hvm9 hp9 hB9 hz9 hk9 hS9 hc9 hv9 hcl9 => ?_) (fun u9 t9 H1 locs1 ht9 hvm9 hp9 _ _ _ _ => hp9.elim)
    have hZ := s4 hF
    rw [hQ]
    exact vx_out (fun x hx => (hout x hx).elim) hlocks hc9 hv9 hcl9 (fun t h1 h2 => ⟨(), trivial, ⟨hB9.1.trans (congrArg exn hZ), by rw [h1, ← ht9]; exact hB9.2⟩, hS9.F h1⟩) hS9.2.2 (Nat.le_of_ble_eq_true rfl) (Nat.le_of_ble_eq_true rfl)
  · dsimp only [tr] at hF
    have hPc := hP
    have hDc := hD
    have hFc := my_free hD hS hA
    obtain ⟨q8, h8⟩ := wc_at (cy := cy) (ad := ad) (ks := ks) (g := g) (u := u0) (κ := .cl) hk.1 True.intro
    refine va_callv (va_runV (As := [.int a1]) (rest := []) ⟨hx, hb, hml, hown, hts⟩ (c_X7_needCard l dC dI cy nb ad ks g hk u0 (a1) H.size e2) (cwV 1 hts (gV mw_666 mw_667 mw_668 mw_2 mw_669) rfl rfl rfl (by decide +kernel) ⟨Nat.le_of_ble_eq_true rfl, Nat.le_of_ble_eq_true rfl⟩) (my_preV hPc hK hDc hE hS hFc (va_recv (q := (RX7, TX7, 12)) hK hP (ci := 7) (q0 := q8) rfl h8)) rfl rfl hl.1 rfl (lv_room (Nat.le_of_ble_eq_true rfl)) dX7_leavesIn_2 ⟨Nat.le_of_ble_eq_true rfl, Nat.le_of_ble_eq_true rfl⟩) hS (fun q _ h => hFc q h) hFc (fun u t H1 locs ht hvm hw hB hz1 hk1 hS => ?_)
    clear h8
    obtain ⟨hP1, hD1⟩ := hB
    rw [ht] at hP1
    have hP := hP1
    have hD := hD1.weaken (fun k q _ h => hFc q.1 h)
    generalize H1 = H at hP hS ⊢
    clear hP1 hD1 hPc hDc hFc hk1 hz1 hvm ht
    refine lv_aload_n hx hb dX7_leavesIn_5 rfl (lv_at hl 0 rfl) ?_
    obtain ⟨t4, e5, hF⟩ := ob hF
    have hPc := hP
    have hDc := hD
    have hFc := my_free hD hS hA
    obtain ⟨q8, h8⟩ := wc_at (cy := cy) (ad := ad) (ks := ks) (g := g) (u := u0) (κ := .cl) hk.1 True.intro
    refine va_callr (va_runV (As := []) (rest := []) ⟨hx, hb, hml, hown, hts⟩ (c_X7_copyOfLine l dC dI cy nb ad ks g hk u0 (t4) H.size e5) (cwV 0 hts (gV mw_1298 mw_1299 mw_1300 mw_2 mw_1301) rfl rfl rfl (by decide +kernel) ⟨Nat.le_of_ble_eq_true rfl, Nat.le_of_ble_eq_true rfl⟩) (my_preV hPc hK hDc hE hS hFc (va_recv (q := (RX7, TX7, 12)) hK hP (ci := 7) (q0 := q8) rfl h8)) rfl rfl hl.1 rfl (lv_room (Nat.le_of_ble_eq_true rfl)) dX7_leavesIn_6 ⟨Nat.le_of_ble_eq_true rfl, Nat.le_of_ble_eq_true rfl⟩) hS (fun q _ h => hFc q h) hFc (fun u ra t H1 locs ht hvm hw hB hz1 hk1 hS => ?_)
    clear h8
    obtain ⟨hra, hP1, hD1⟩ := hB
    rw [ht] at hP1
    have hP := hP1
    have hD := hD1.weaken (fun k q _ h => hFc q.1 h)
    generalize H1 = H at hP hS ⊢
    clear hP1 hD1 hPc hDc hFc hk1 hz1 hvm ht
    obtain rfl := hra.symm
    refine va_gets (C := RX2) (n := "CARD_LEFT") (d := "LCardLine$Event;") (ref := "CardLine$Event") (v := .ref (nb (40 + 0))) hx hb (hE.evk 0 rfl).1 hS hown (hts _ mw_1297) (fun _ h9 => h9) dX7_leavesIn_9 ?_
    refine lv_iload_n hx hb dX7_leavesIn_12 rfl (lv_at hl 1 rfl) ?_
    refine lv_sipush (v := 2000) hx hb dX7_leavesIn_13 (by decide) ?_
    obtain ⟨t6, e7, hF⟩ := ob hF
    have hPc := hP
    have hDc := hD
    have hFc := my_free hD hS hA
    refine va_calli (va_runS (As := [.ref (ad (.ln 1)), .ref (nb (40 + 0)), .int a1, .int 2000]) (rest := []) ⟨hx, hb, hml, hown, hts⟩ (c_X7_ticksUntil_e0 l dC dI cy nb ad ks g hk t4 1 (a1) (2000) (t6.1) (t6.2) H.size (Or.inl (by decide)) e7) (va_cwS 4 hts (gS mw_1302 mw_1303 mw_2 mw_1304) rfl rfl rfl (by decide +kernel) ⟨Nat.le_of_ble_eq_true rfl, Nat.le_of_ble_eq_true rfl⟩) (my_preS hPc hK hDc hE hS hFc) rfl rfl hl.1 rfl (lv_room (Nat.le_of_ble_eq_true rfl)) dX7_leavesIn_16 ⟨Nat.le_of_ble_eq_true rfl, Nat.le_of_ble_eq_true rfl⟩) hS (fun q _ h => hFc q h) hFc (fun r u t H1 locs ht hvm hw hB hz1 hk1 hS => ?_)
    obtain ⟨hP1, hD1⟩ := hB
    rw [ht] at hP1
    have hP := hP1
    have hD := hD1.weaken (fun k q _ h => hFc q.1 h)
    generalize H1 = H at hP hS ⊢
    clear hP1 hD1 hPc hDc hFc hk1 hz1 hvm ht
    obtain rfl := hw.symm
    cases hF
set_option maxHeartbeats 4000000 in
set_option maxRecDepth 100000 in
theorem c_X7_leftIn_y (l : Launch) (hst : l.stackTraces = false) (dC : Nat → ClassId) (dI : Nat → Nat → Nat) (cy : Nat → ClassId) (nb : Nat → Nat) (ad : CK → Nat) (ks : List CK) (g : CG) (hk : GA nb ad g ks) (u0 : RS) (a1 : Int32) (xc : Int32) (sz : Nat) (hF : C7_leftIn g u0 a1 = some (.inl xc)) : vx_Met l yX7_leftIn (wsg yX7_leftIn cX7_leftIn 2 (some .int)) ({ frames := 13, cells := 1, slots := 6, locals := 800 }) (va_Pc [.ref (ad .cl), .int a1] (fun U => U.heap.size = sz ∧ va_P (dC, dI) vwCl (WC cy ad ks g u0) U.heap ∧ va_K (dC, dI) vwCl (tyL cy) U ∧ va_D (fun _ => True) (WC cy ad ks g u0) ∧ GE nb (va_A (WC cy ad ks g u0) sz) U)) (va_Qi (fun (_ : Int32) (_ : Unit) => False) (fun _ _ => True) (va_A (WC cy ad ks g u0) sz)) (vx_X (fun (_ : Unit) => True) (fun E9 _ t9 => E9 = exn xc ∧ va_P (dC, dI) vwCl (WC cy ad ks g u0) t9.heap) (va_A (WC cy ad ks g u0) sz)) 1 6 (va_A (WC cy ad ks g u0) sz) := by
  refine vx_ofW (cc := cX7_leftIn) (maxL := 2) (ret := (some .int)) pn_X7 rfl ?_
  intro p e s m args below meth c s₁ B hml hout hv
  obtain ⟨rfl, hsz, hP, hK, hD0, hE⟩ := hv
  have hx := B.exec
  have hb := B.bytes
  have hr := B.returns
  have hts0 := atoms_spec (ws := (wsg yX7_leftIn cX7_leftIn 2 (some .int))) B.pre
  have hts : ∀ w ∈ wsL_law, w.before _ s = true := fun w h => hts0 w (List.mem_cons_of_mem _ h)
  have hown : s.vm.findClass RX7 = some m.cls := by have h9 := findClass_of_methodNamed B.named; exact h9
  have hlocks := B.notSynchronized
  subst hsz
  have hD := hD0.self (sz := s.heap.size)
  generalize hAe : va_A (WC cy ad ks g u0) s.heap.size = A at hD hE ⊢
  have hA : ∀ q : Nat, s.heap.size ≤ q → A q := fun q h => by rw [← hAe]; exact Or.inr h
  have hS : va_S A s.heap s.heap [] := va_S.rf
  have hl := lv_entry ([.ref (ad .cl), .int a1]) (n := 2) (Nat.le_of_ble_eq_true rfl)
  rw [lg_entry_eq]
  generalize (lg_sl ([.ref (ad .cl), .int a1]) ++ List.replicate (2 - (lg_sl ([.ref (ad .cl), .int a1])).length) Slot.unset).toArray = ls at hl ⊢
  have hl : lv_has ls 2 [(0, .ref (ad .cl)), (1, .int a1)] := hl
  generalize hHe : s.heap = H at hP hS ⊢
  have hS : va_S A s.heap H [] := by rw [hHe]; exact hS
  refine my_Q (fun Qn hQ => ?_)
  simp only [C7_leftIn] at hF
  refine lv_iload_n hx hb dX7_leftIn_0 rfl (lv_at hl 1 rfl) ?_
  refine lv_iconst (v := 1) hx hb dX7_leftIn_1 (by decide) ?_
  refine lv_sipush (v := 2000) hx hb dX7_leftIn_2 (by decide) ?_
  obtain ⟨t1, e2, hF⟩ := ob hF
  rcases t1 with xz9 | t3
  · have hF : some (Sum.inl xz9) = some (.inl xc) := hF
    have hPc : va_P (dC, dI) vwCl ([] : va_W) H := fun k q h => by simp at h
    have hDc : va_D A ([] : va_W) := ⟨fun i j p q h => by simp at h, fun k q h => by simp at h⟩
    have hFc := my_free0 hS hA
    refine vx_callv (vx_runS (As := [.int a1, .int 1, .int 2000]) (rest := []) ⟨hx, hb, hml, hown, hts⟩ (c_X7_needRange_x l hst dC dI cy nb (a1) (1) (2000) xz9 H.size e2) (va_cwS 3 hts (gS mw_815 mw_816 mw_2 mw_817) rfl rfl rfl (by decide +kernel) ⟨Nat.le_of_ble_eq_true rfl, Nat.le_of_ble_eq_true rfl⟩) (my_preS hPc hK hDc hE hS hFc) rfl rfl hl.1 rfl (lv_room (Nat.le_of_ble_eq_true rfl)) dX7_leftIn_5 ⟨Nat.le_of_ble_eq_true rfl, Nat.le_of_ble_eq_true rfl⟩) hS (fun q _ h => hFc q h) hFc (fun q _ h => hFc q h) (fun E9 ce9 q9 u9 t9 H1 locs1 ht9 hvm9 hp9 hB9 hz9 hk9 hS9 hc9 hv9 hcl9 => ?_) (fun u9 t9 H1 locs1 ht9 hvm9 hp9 _ _ _ _ => hp9.elim)
    have hZ := s4 hF
    rw [hQ]
    exact vx_out (fun x hx => (hout x hx).elim) hlocks hc9 hv9 hcl9 (fun t h1 h2 => ⟨(), trivial, ⟨hB9.trans (congrArg exn hZ), by rw [h1]; exact my_keep hP hk9⟩, hS9.F h1⟩) hS9.2.2 (Nat.le_of_ble_eq_true rfl) (Nat.le_of_ble_eq_true rfl)
  · dsimp only [tr] at hF
    have hPc : va_P (dC, dI) vwCl ([] : va_W) H := fun k q h => by simp at h
    have hDc : va_D A ([] : va_W) := ⟨fun i j p q h => by simp at h, fun k q h => by simp at h⟩
    have hFc := my_free0 hS hA
    refine va_callv (va_runS (As := [.int a1, .int 1, .int 2000]) (rest := []) ⟨hx, hb, hml, hown, hts⟩ (c_X7_needRange l dC dI cy nb (a1) (1) (2000) H.size e2) (va_cwS 3 hts (gS mw_815 mw_816 mw_2 mw_817) rfl rfl rfl (by decide +kernel) ⟨Nat.le_of_ble_eq_true rfl, Nat.le_of_ble_eq_true rfl⟩) (my_preS hPc hK hDc hE hS hFc) rfl rfl hl.1 rfl (lv_room (Nat.le_of_ble_eq_true rfl)) dX7_leftIn_5 ⟨Nat.le_of_ble_eq_true rfl, Nat.le_of_ble_eq_true rfl⟩) hS (fun q _ h => hFc q h) hFc (fun u t H1 locs ht hvm hw hB hz1 hk1 hS => ?_)
    obtain ⟨hP1, hD1⟩ := hB
    rw [ht] at hP1
    have hP := my_keep hP hk1
    generalize H1 = H at hP hS ⊢
    clear hP1 hD1 hPc hDc hFc hk1 hz1 hvm ht
    refine lv_aload_n hx hb dX7_leftIn_8 rfl (lv_at hl 0 rfl) ?_
    refine lv_iload_n hx hb dX7_leftIn_9 rfl (lv_at hl 1 rfl) ?_
    obtain ⟨t4, e5, hF⟩ := ob hF
    have hPc := hP
    have hDc := hD
    have hFc := my_free hD hS hA
    obtain ⟨q8, h8⟩ := wc_at (cy := cy) (ad := ad) (ks := ks) (g := g) (u := u0) (κ := .cl) hk.1 True.intro
    refine va_callr (va_runV (As := [.int a1]) (rest := []) ⟨hx, hb, hml, hown, hts⟩ (c_X7_copyBehind l dC dI cy nb ad ks g hk u0 (a1) (t4) H.size e5) (cwV 1 hts (gV mw_1370 mw_1371 mw_1372 mw_2 mw_1373) rfl rfl rfl (by decide +kernel) ⟨Nat.le_of_ble_eq_true rfl, Nat.le_of_ble_eq_true rfl⟩) (my_preV hPc hK hDc hE hS hFc (va_recv (q := (RX7, TX7, 12)) hK hP (ci := 7) (q0 := q8) rfl h8)) rfl rfl hl.1 rfl (lv_room (Nat.le_of_ble_eq_true rfl)) dX7_leftIn_10 ⟨Nat.le_of_ble_eq_true rfl, Nat.le_of_ble_eq_true rfl⟩) hS (fun q _ h => hFc q h) hFc (fun u ra t H1 locs ht hvm hw hB hz1 hk1 hS => ?_)
    clear h8
    obtain ⟨hra, hP1, hD1⟩ := hB
    rw [ht] at hP1
    have hP := hP1
    have hD := hD1.weaken (fun k q _ h => hFc q.1 h)
    generalize H1 = H at hP hS ⊢
    clear hP1 hD1 hPc hDc hFc hk1 hz1 hvm ht
    obtain rfl := hra.symm
    obtain ⟨q9, h9⟩ := wc_at (cy := cy) (ad := ad) (ks := ks) (g := g) (u := t4) (κ := (.ln 1)) hk.1 (Or.inl (by decide))
    refine va_get (D := (dC, dI)) (ci := 3) (v := .ref (ad (.is 1))) (C := RX3) (T := TX3) (N := 17) hx hb hts inlX3 hown hK hP q9 h9 rfl 13 (by decide) (hts _ mw_574) (fun _ h9 => h9) rfl dX7_leftIn_13 ?_
    clear h9
    refine lv_iconst (v := 3) hx hb dX7_leftIn_16 (by decide) ?_
    obtain ⟨q9, h9⟩ := wc_at (cy := cy) (ad := ad) (ks := ks) (g := g) (u := t4) (κ := (.is 1)) hk.1 (Or.inl (by decide))
    refine va_iald hx hb hK hP q9 1 h9 rfl (vp_in_nI (n := 3) (by decide) (by decide)) dX7_leftIn_17 ?_
    refine my_topi (y := (t4 (400 + 1) 3)) (by rfl) ?_
    clear h9
    cases hF
set_option maxHeartbeats 4000000 in
set_option maxRecDepth 100000 in
theorem c_X7_letter_y (l : Launch) (hst : l.stackTraces = false) (dC : Nat → ClassId) (dI : Nat → Nat → Nat) (cy : Nat → ClassId) (nb : Nat → Nat) (ad : CK → Nat) (ks : List CK) (g : CG) (hk : GA nb ad g ks) (u0 : RS) (a1 : Int32) (a2 : Int32) (xc : Int32) (sz : Nat) (hF : C7_letter g u0 a1 a2 = some (.inl xc)) : vx_Met l yX7_letter (wsg yX7_letter cX7_letter 4 (some .int)) ({ frames := 8, cells := 1, slots := 6, locals := 300 }) (va_Pc [.ref (ad .cl), .int a1, .int a2] (fun U => U.heap.size = sz ∧ va_P (dC, dI) vwCl (WC cy ad ks g u0) U.heap ∧ va_K (dC, dI) vwCl (tyL cy) U ∧ va_D (fun _ => True) (WC cy ad ks g u0) ∧ GE nb (va_A (WC cy ad ks g u0) sz) U)) (va_Qi (fun (_ : Int32) (_ : Unit) => False) (fun _ _ => True) (va_A (WC cy ad ks g u0) sz)) (vx_X (fun (_ : Unit) => True) (fun E9 _ t9 => E9 = exn xc ∧ va_P (dC, dI) vwCl (WC cy ad ks g u0) t9.heap) (va_A (WC cy ad ks g u0) sz)) 1 6 (va_A (WC cy ad ks g u0) sz) := by
  refine vx_ofW (cc := cX7_letter) (maxL := 4) (ret := (some .int)) pn_X7 rfl ?_
  intro p e s m args below meth c s₁ B hml hout hv
  obtain ⟨rfl, hsz, hP, hK, hD0, hE⟩ := hv
  have hx := B.exec
  have hb := B.bytes
  have hr := B.returns
  have hts0 := atoms_spec (ws := (wsg yX7_letter cX7_letter 4 (some .int))) B.pre
  have hts : ∀ w ∈ wsL_law, w.before _ s = true := fun w h => hts0 w (List.mem_cons_of_mem _ h)
  have hown : s.vm.findClass RX7 = some m.cls := by have h9 := findClass_of_methodNamed B.named; exact h9
  have hlocks := B.notSynchronized
  subst hsz
  have hD := hD0.self (sz := s.heap.size)
  generalize hAe : va_A (WC cy ad ks g u0) s.heap.size = A at hD hE ⊢
  have hA : ∀ q : Nat, s.heap.size ≤ q → A q := fun q h => by rw [← hAe]; exact Or.inr h
  have hS : va_S A s.heap s.heap [] := va_S.rf
  have hl := lv_entry ([.ref (ad .cl), .int a1, .int a2]) (n := 4) (Nat.le_of_ble_eq_true rfl)
  rw [lg_entry_eq]
  generalize (lg_sl ([.ref (ad .cl), .int a1, .int a2]) ++ List.replicate (4 - (lg_sl ([.ref (ad .cl), .int a1, .int a2])).length) Slot.unset).toArray = ls at hl ⊢
  have hl : lv_has ls 4 [(0, .ref (ad .cl)), (1, .int a1), (2, .int a2)] := hl
  generalize hHe : s.heap = H at hP hS ⊢
  have hS : va_S A s.heap H [] := by rw [hHe]; exact hS
  refine my_Q (fun Qn hQ => ?_)
  simp only [C7_letter] at hF
  refine lv_aload_n hx hb dX7_letter_0 rfl (lv_at hl 0 rfl) ?_
  refine lv_iload_n hx hb dX7_letter_1 rfl (lv_at hl 1 rfl) ?_
  obtain ⟨t1, e2, hF⟩ := ob hF
  rcases t1 with xz9 | t3
  · have hF : some (Sum.inl xz9) = some (.inl xc) := hF
    have hPc := hP
    have hDc := hD
    have hFc := my_free hD hS hA
    obtain ⟨q8, h8⟩ := wc_at (cy := cy) (ad := ad) (ks := ks) (g := g) (u := u0) (κ := .cl) hk.1 True.intro
    refine vx_callv (vx_runV (As := [.int a1]) (rest := []) ⟨hx, hb, hml, hown, hts⟩ (c_X7_needCard_y l hst dC dI cy nb ad ks g hk u0 (a1) xz9 H.size e2) (cwV 1 hts (gV mw_666 mw_667 mw_668 mw_2 mw_669) rfl rfl rfl (by decide +kernel) ⟨Nat.le_of_ble_eq_true rfl, Nat.le_of_ble_eq_true rfl⟩) (my_preV hPc hK hDc hE hS hFc (va_recv (q := (RX7, TX7, 12)) hK hP (ci := 7) (q0 := q8) rfl h8)) rfl rfl hl.1 rfl (lv_room (Nat.le_of_ble_eq_true rfl)) dX7_letter_2 ⟨Nat.le_of_ble_eq_true rfl, Nat.le_of_ble_eq_true rfl⟩) hS (fun q _ h => hFc q h) hFc (fun q _ h => hFc q h) (fun E9 ce9 q9 u9 t9 H1 locs1 ht9 hvm9 hp9 hB9 hz9 hk9 hS9 hc9 hv9 hcl9 => ?_) (fun u9 t9 H1 locs1 ht9 hvm9 hp9 _ _ _ _ => hp9.elim)
    have hZ := s4 hF
    rw [hQ]
    exact vx_out (fun x hx => (hout x hx).elim) hlocks hc9 hv9 hcl9 (fun t h1 h2 => ⟨(), trivial, ⟨hB9.1.trans (congrArg exn hZ), by rw [h1, ← ht9]; exact hB9.2⟩, hS9.F h1⟩) hS9.2.2 (Nat.le_of_ble_eq_true rfl) (Nat.le_of_ble_eq_true rfl)
  · dsimp only [tr] at hF
    have hPc := hP
    have hDc := hD
    have hFc := my_free hD hS hA
    obtain ⟨q8, h8⟩ := wc_at (cy := cy) (ad := ad) (ks := ks) (g := g) (u := u0) (κ := .cl) hk.1 True.intro
    refine va_callv (va_runV (As := [.int a1]) (rest := []) ⟨hx, hb, hml, hown, hts⟩ (c_X7_needCard l dC dI cy nb ad ks g hk u0 (a1) H.size e2) (cwV 1 hts (gV mw_666 mw_667 mw_668 mw_2 mw_669) rfl rfl rfl (by decide +kernel) ⟨Nat.le_of_ble_eq_true rfl, Nat.le_of_ble_eq_true rfl⟩) (my_preV hPc hK hDc hE hS hFc (va_recv (q := (RX7, TX7, 12)) hK hP (ci := 7) (q0 := q8) rfl h8)) rfl rfl hl.1 rfl (lv_room (Nat.le_of_ble_eq_true rfl)) dX7_letter_2 ⟨Nat.le_of_ble_eq_true rfl, Nat.le_of_ble_eq_true rfl⟩) hS (fun q _ h => hFc q h) hFc (fun u t H1 locs ht hvm hw hB hz1 hk1 hS => ?_)
    clear h8
    obtain ⟨hP1, hD1⟩ := hB
    rw [ht] at hP1
    have hP := hP1
    have hD := hD1.weaken (fun k q _ h => hFc q.1 h)
    generalize H1 = H at hP hS ⊢
    clear hP1 hD1 hPc hDc hFc hk1 hz1 hvm ht
    refine lv_aload_n hx hb dX7_letter_5 rfl (lv_at hl 0 rfl) ?_
    obtain ⟨q9, h9⟩ := wc_at (cy := cy) (ad := ad) (ks := ks) (g := g) (u := u0) (κ := .cl) hk.1 True.intro
    refine va_get (D := (dC, dI)) (ci := 7) (v := .ref (ad (.ln 0))) (C := RX7) (T := TX7) (N := 12) hx hb hts inlX7 hown hK hP q9 h9 rfl 0 (by decide) (hts _ mw_18) (fun _ h9 => h9) rfl dX7_letter_6 ?_
    clear h9
    obtain ⟨q9, h9⟩ := wc_at (cy := cy) (ad := ad) (ks := ks) (g := g) (u := u0) (κ := (.ln 0)) hk.1 (Or.inl (by decide))
    refine va_get (D := (dC, dI)) (ci := 3) (v := .ref (ad (.cs 0))) (C := RX3) (T := TX3) (N := 17) hx hb hts inlX3 hown hK hP q9 h9 rfl 12 (by decide) (hts _ mw_657) (fun _ h9 => h9) rfl dX7_letter_9 ?_
    clear h9
    refine lv_iload_n hx hb dX7_letter_12 rfl (lv_at hl 1 rfl) ?_
    obtain ⟨n4, e5, hF⟩ := ob hF
    obtain ⟨q9, h9⟩ := wc_at (cy := cy) (ad := ad) (ks := ks) (g := g) (u := u0) (κ := (.cs 0)) hk.1 (Or.inl (by decide))
    refine va_aldq hx hb hK hP q9 8 h9 rfl (ix_in e5) dX7_letter_13 ?_
    refine my_top (y := .ref (ad (.cd 0 n4))) (ixv (F := fun j => ad (.cd 0 j)) e5) ?_
    clear h9
    obtain ⟨q9, h9⟩ := wc_at (cy := cy) (ad := ad) (ks := ks) (g := g) (u := u0) (κ := (.cd 0 n4)) hk.1 ⟨(Or.inl (by decide)), (ix_lt e5)⟩
    refine va_get (D := (dC, dI)) (ci := 2) (v := .ref (ad (.tx (u0 (10 + 0) (137 + 25 * n4 + 2)).toNatClampNeg))) (C := RX1) (T := TX1) (N := 9) hx hb hts inlX1 hown hK hP q9 h9 rfl 2 (by decide) (hts _ mw_660) (fun _ h9 => h9) rfl dX7_letter_14 ?_
    clear h9
    refine lv_astore_n (lv' := [(3, .ref (ad (.tx (u0 (10 + 0) (137 + 25 * n4 + 2)).toNatClampNeg))), (0, .ref (ad .cl)), (1, .int a1), (2, .int a2)]) hx hb dX7_letter_17 rfl hl (by decide) rfl (fun ls hl => ?_)
    refine lv_iload_n hx hb dX7_letter_18 rfl (lv_at hl 3 rfl) ?_
    obtain ⟨t7, hJ8, hF⟩ := ob hF
    have join9 : ∀ (H : Heap) (locs : List Loc) (ls : Array Slot), va_P (dC, dI) vwCl (WC cy ad ks g u0) H → va_D A (WC cy ad ks g u0) → va_S A s.heap H locs → lv_has ls 4 [(3, .ref (ad (.tx (u0 (10 + 0) (137 + 25 * n4 + 2)).toNatClampNeg))), (0, .ref (ad .cl)), (1, .int a1), (2, .int a2)] → W p l e (headSpec (wsg yX7_letter cX7_letter 4 (some .int)) ({ frames := 8, cells := 1, slots := 6, locals := 300 })).room s m ([.ref (ad .cl), .int a1, .int a2] : List Value).toArray below meth c H locs 0 0 Qn (F0 m 35 ls [.int t7]) := by
      intro H locs ls hP hD hS hl
      cases hF
    clear hF
    have hF := hJ8
    clear hJ8
    refine lv_if_lt (tgt := 34) hx hb dX7_letter_19 (by decide) (fun c6 => ?_) (fun c6 => ?_)
    · rw [if_pos c6] at hF
      refine lv_iconst (v := (-1)) hx hb dX7_letter_34 (by decide) ?_
      have ht := s1 hF
      subst ht
      exact join9 _ _ _ hP hD hS (lv_sub hl [0, 1, 2, 3] rfl)
    · rw [if_neg c6] at hF
      refine lv_iload_n hx hb dX7_letter_22 rfl (lv_at hl 3 rfl) ?_
      refine lv_aload_n hx hb dX7_letter_23 rfl (lv_at hl 0 rfl) ?_
      obtain ⟨x10, e11, hF⟩ := ob hF
      obtain ⟨q9, h9⟩ := wc_at (cy := cy) (ad := ad) (ks := ks) (g := g) (u := u0) (κ := (.tx (u0 (10 + 0) (137 + 25 * n4 + 2)).toNatClampNeg)) hk.1 (tln_h e11)
      refine va_alen (v := x10) hx hb hK hP q9 0 h9 (ty := .byte) rfl (tln_l e11) dX7_letter_24 ?_
      clear h9
      refine lv_icmp_ge (tgt := 34) hx hb dX7_letter_25 (by decide) (fun c12 => ?_) (fun c12 => ?_)
      · rw [if_pos c12] at hF
        refine lv_iconst (v := (-1)) hx hb dX7_letter_34 (by decide) ?_
        have ht := s1 hF
        subst ht
        exact join9 _ _ _ hP hD hS (lv_sub hl [0, 1, 2, 3] rfl)
      · rw [if_neg c12] at hF
        refine lv_aload_n hx hb dX7_letter_28 rfl (lv_at hl 0 rfl) ?_
        refine lv_iload_n hx hb dX7_letter_29 rfl (lv_at hl 3 rfl) ?_
        obtain ⟨x13, e14, hF⟩ := ob hF
        obtain ⟨q9, h9⟩ := wc_at (cy := cy) (ad := ad) (ks := ks) (g := g) (u := u0) (κ := (.tx (u0 (10 + 0) (137 + 25 * n4 + 2)).toNatClampNeg)) hk.1 (tbt_h e14)
        refine va_bald hx hb hK hP q9 0 h9 rfl (tbt_in e14) dX7_letter_30 ?_
        refine my_topi (y := x13) (tbt_eq e14) ?_
        clear h9
        refine lv_goto (tgt := 35) hx hb dX7_letter_31 (by decide) ?_
        have ht := s1 hF
        subst ht
        exact join9 _ _ _ hP hD hS (lv_sub hl [0, 1, 2, 3] rfl)
set_option maxHeartbeats 4000000 in
set_option maxRecDepth 100000 in
theorem c_X7_lot_y (l : Launch) (hst : l.stackTraces = false) (dC : Nat → ClassId) (dI : Nat → Nat → Nat) (cy : Nat → ClassId) (nb : Nat → Nat) (ad : CK → Nat) (ks : List CK) (g : CG) (hk : GA nb ad g ks) (u0 : RS) (a1 : Int32) (a2 : Int32) (xc : Int32) (sz : Nat) (hF : C7_lot g u0 a1 a2 = some (.inl xc)) : vx_Met l yX7_lot (wsg yX7_lot cX7_lot 4 (some .int)) ({ frames := 9, cells := 1, slots := 6, locals := 400 }) (va_Pc [.ref (ad .cl), .int a1, .int a2] (fun U => U.heap.size = sz ∧ va_P (dC, dI) vwCl (WC cy ad ks g u0) U.heap ∧ va_K (dC, dI) vwCl (tyL cy) U ∧ va_D (fun _ => True) (WC cy ad ks g u0) ∧ GE nb (va_A (WC cy ad ks g u0) sz) U)) (va_Qi (fun (_ : Int32) (_ : Unit) => False) (fun _ _ => True) (va_A (WC cy ad ks g u0) sz)) (vx_X (fun (_ : Unit) => True) (fun E9 _ t9 => E9 = exn xc ∧ va_P (dC, dI) vwCl (WC cy ad ks g u0) t9.heap) (va_A (WC cy ad ks g u0) sz)) 1 6 (va_A (WC cy ad ks g u0) sz) := by
  refine vx_ofW (cc := cX7_lot) (maxL := 4) (ret := (some .int)) pn_X7 rfl ?_
  intro p e s m args below meth c s₁ B hml hout hv
  obtain ⟨rfl, hsz, hP, hK, hD0, hE⟩ := hv
  have hx := B.exec
  have hb := B.bytes
  have hr := B.returns
  have hts0 := atoms_spec (ws := (wsg yX7_lot cX7_lot 4 (some .int))) B.pre
  have hts : ∀ w ∈ wsL_law, w.before _ s = true := fun w h => hts0 w (List.mem_cons_of_mem _ h)
  have hown : s.vm.findClass RX7 = some m.cls := by have h9 := findClass_of_methodNamed B.named; exact h9
  have hlocks := B.notSynchronized
  subst hsz
  have hD := hD0.self (sz := s.heap.size)
  generalize hAe : va_A (WC cy ad ks g u0) s.heap.size = A at hD hE ⊢
  have hA : ∀ q : Nat, s.heap.size ≤ q → A q := fun q h => by rw [← hAe]; exact Or.inr h
  have hS : va_S A s.heap s.heap [] := va_S.rf
  have hl := lv_entry ([.ref (ad .cl), .int a1, .int a2]) (n := 4) (Nat.le_of_ble_eq_true rfl)
  rw [lg_entry_eq]
  generalize (lg_sl ([.ref (ad .cl), .int a1, .int a2]) ++ List.replicate (4 - (lg_sl ([.ref (ad .cl), .int a1, .int a2])).length) Slot.unset).toArray = ls at hl ⊢
  have hl : lv_has ls 4 [(0, .ref (ad .cl)), (1, .int a1), (2, .int a2)] := hl
  generalize hHe : s.heap = H at hP hS ⊢
  have hS : va_S A s.heap H [] := by rw [hHe]; exact hS
  refine my_Q (fun Qn hQ => ?_)
  simp only [C7_lot] at hF
  refine lv_aload_n hx hb dX7_lot_0 rfl (lv_at hl 0 rfl) ?_
  refine lv_iload_n hx hb dX7_lot_1 rfl (lv_at hl 1 rfl) ?_
  obtain ⟨t1, e2, hF⟩ := ob hF
  rcases t1 with xz9 | t3
  · have hF : some (Sum.inl xz9) = some (.inl xc) := hF
    have hPc := hP
    have hDc := hD
    have hFc := my_free hD hS hA
    obtain ⟨q8, h8⟩ := wc_at (cy := cy) (ad := ad) (ks := ks) (g := g) (u := u0) (κ := .cl) hk.1 True.intro
    refine vx_callv (vx_runV (As := [.int a1]) (rest := []) ⟨hx, hb, hml, hown, hts⟩ (c_X7_needLot_y l hst dC dI cy nb ad ks g hk u0 (a1) xz9 H.size e2) (cwV 1 hts (gV mw_704 mw_705 mw_706 mw_2 mw_707) rfl rfl rfl (by decide +kernel) ⟨Nat.le_of_ble_eq_true rfl, Nat.le_of_ble_eq_true rfl⟩) (my_preV hPc hK hDc hE hS hFc (va_recv (q := (RX7, TX7, 12)) hK hP (ci := 7) (q0 := q8) rfl h8)) rfl rfl hl.1 rfl (lv_room (Nat.le_of_ble_eq_true rfl)) dX7_lot_2 ⟨Nat.le_of_ble_eq_true rfl, Nat.le_of_ble_eq_true rfl⟩) hS (fun q _ h => hFc q h) hFc (fun q _ h => hFc q h) (fun E9 ce9 q9 u9 t9 H1 locs1 ht9 hvm9 hp9 hB9 hz9 hk9 hS9 hc9 hv9 hcl9 => ?_) (fun u9 t9 H1 locs1 ht9 hvm9 hp9 _ _ _ _ => hp9.elim)
    have hZ := s4 hF
    rw [hQ]
    exact vx_out (fun x hx => (hout x hx).elim) hlocks hc9 hv9 hcl9 (fun t h1 h2 => ⟨(), trivial, ⟨hB9.1.trans (congrArg exn hZ), by rw [h1, ← ht9]; exact hB9.2⟩, hS9.F h1⟩) hS9.2.2 (Nat.le_of_ble_eq_true rfl) (Nat.le_of_ble_eq_true rfl)
  · dsimp only [tr] at hF
    have hPc := hP
    have hDc := hD
    have hFc := my_free hD hS hA
    obtain ⟨q8, h8⟩ := wc_at (cy := cy) (ad := ad) (ks := ks) (g := g) (u := u0) (κ := .cl) hk.1 True.intro
    refine va_callv (va_runV (As := [.int a1]) (rest := []) ⟨hx, hb, hml, hown, hts⟩ (c_X7_needLot l dC dI cy nb ad ks g hk u0 (a1) H.size e2) (cwV 1 hts (gV mw_704 mw_705 mw_706 mw_2 mw_707) rfl rfl rfl (by decide +kernel) ⟨Nat.le_of_ble_eq_true rfl, Nat.le_of_ble_eq_true rfl⟩) (my_preV hPc hK hDc hE hS hFc (va_recv (q := (RX7, TX7, 12)) hK hP (ci := 7) (q0 := q8) rfl h8)) rfl rfl hl.1 rfl (lv_room (Nat.le_of_ble_eq_true rfl)) dX7_lot_2 ⟨Nat.le_of_ble_eq_true rfl, Nat.le_of_ble_eq_true rfl⟩) hS (fun q _ h => hFc q h) hFc (fun u t H1 locs ht hvm hw hB hz1 hk1 hS => ?_)
    clear h8
    obtain ⟨hP1, hD1⟩ := hB
    rw [ht] at hP1
    have hP := hP1
    have hD := hD1.weaken (fun k q _ h => hFc q.1 h)
    generalize H1 = H at hP hS ⊢
    clear hP1 hD1 hPc hDc hFc hk1 hz1 hvm ht
    refine lv_aload_n hx hb dX7_lot_5 rfl (lv_at hl 0 rfl) ?_
    obtain ⟨q9, h9⟩ := wc_at (cy := cy) (ad := ad) (ks := ks) (g := g) (u := u0) (κ := .cl) hk.1 True.intro
    refine va_get (D := (dC, dI)) (ci := 7) (v := .ref (ad (.ln 0))) (C := RX7) (T := TX7) (N := 12) hx hb hts inlX7 hown hK hP q9 h9 rfl 0 (by decide) (hts _ mw_18) (fun _ h9 => h9) rfl dX7_lot_6 ?_
    clear h9
    obtain ⟨q9, h9⟩ := wc_at (cy := cy) (ad := ad) (ks := ks) (g := g) (u := u0) (κ := (.ln 0)) hk.1 (Or.inl (by decide))
    refine va_get (D := (dC, dI)) (ci := 3) (v := .ref (ad (.ls 0))) (C := RX3) (T := TX3) (N := 17) hx hb hts inlX3 hown hK hP q9 h9 rfl 11 (by decide) (hts _ mw_697) (fun _ h9 => h9) rfl dX7_lot_9 ?_
    clear h9
    refine lv_iload_n hx hb dX7_lot_12 rfl (lv_at hl 1 rfl) ?_
    obtain ⟨n4, e5, hF⟩ := ob hF
    obtain ⟨q9, h9⟩ := wc_at (cy := cy) (ad := ad) (ks := ks) (g := g) (u := u0) (κ := (.ls 0)) hk.1 (Or.inl (by decide))
    refine va_aldq hx hb hK hP q9 7 h9 rfl (ix_in e5) dX7_lot_13 ?_
    refine my_top (y := .ref (ad (.lo 0 n4))) (ixv (F := fun j => ad (.lo 0 j)) e5) ?_
    clear h9
    refine lv_astore_n (lv' := [(3, .ref (ad (.lo 0 n4))), (0, .ref (ad .cl)), (1, .int a1), (2, .int a2)]) hx hb dX7_lot_14 rfl hl (by decide) rfl (fun ls hl => ?_)
    refine lv_iload_n hx hb dX7_lot_15 rfl (lv_at hl 3 rfl) ?_
    by_cases c6 : a2 = 0
    · rw [if_pos c6] at hF
      refine my_topi (y := 0) c6 ?_
      refine lv_tableIn (off := 44) (tgt := 60) hx hb dX7_lot_16 (by decide) (by decide) (by decide) (by decide) ?_
      refine lv_aload_n hx hb dX7_lot_60 rfl (lv_at hl 0 rfl) ?_
      obtain ⟨q9, h9⟩ := wc_at (cy := cy) (ad := ad) (ks := ks) (g := g) (u := u0) (κ := (.lo 0 n4)) hk.1 ⟨(Or.inl (by decide)), (ix_lt e5)⟩
      refine va_get (D := (dC, dI)) (ci := 4) (v := .int (u0 (10 + 0) (113 + 4 * n4 + 0))) (C := RX4) (T := TX4) (N := 12) hx hb hts inlX4 hown hK hP q9 h9 rfl 0 (by decide) (hts _ mw_698) (fun _ h9 => h9) rfl dX7_lot_61 ?_
      clear h9
      cases hF
    · rw [if_neg c6] at hF
      by_cases c7 : a2 = 1
      · rw [if_pos c7] at hF
        refine my_topi (y := 1) c7 ?_
        refine lv_tableIn (off := 49) (tgt := 65) hx hb dX7_lot_16 (by decide) (by decide) (by decide) (by decide) ?_
        refine lv_aload_n hx hb dX7_lot_65 rfl (lv_at hl 0 rfl) ?_
        obtain ⟨q9, h9⟩ := wc_at (cy := cy) (ad := ad) (ks := ks) (g := g) (u := u0) (κ := (.lo 0 n4)) hk.1 ⟨(Or.inl (by decide)), (ix_lt e5)⟩
        refine va_get (D := (dC, dI)) (ci := 4) (v := .int (u0 (10 + 0) (113 + 4 * n4 + 1))) (C := RX4) (T := TX4) (N := 12) hx hb hts inlX4 hown hK hP q9 h9 rfl 1 (by decide) (hts _ mw_699) (fun _ h9 => h9) rfl dX7_lot_66 ?_
        clear h9
        cases hF
      · rw [if_neg c7] at hF
        by_cases c8 : a2 = 2
        · rw [if_pos c8] at hF
          refine my_topi (y := 2) c8 ?_
          refine lv_tableIn (off := 54) (tgt := 70) hx hb dX7_lot_16 (by decide) (by decide) (by decide) (by decide) ?_
          refine lv_aload_n hx hb dX7_lot_70 rfl (lv_at hl 0 rfl) ?_
          obtain ⟨q9, h9⟩ := wc_at (cy := cy) (ad := ad) (ks := ks) (g := g) (u := u0) (κ := (.lo 0 n4)) hk.1 ⟨(Or.inl (by decide)), (ix_lt e5)⟩
          refine va_get (D := (dC, dI)) (ci := 4) (v := .int (u0 (10 + 0) (1100 + 8 * n4 + 1))) (C := RX4) (T := TX4) (N := 12) hx hb hts inlX4 hown hK hP q9 h9 rfl 4 (by decide) (hts _ mw_700) (fun _ h9 => h9) rfl dX7_lot_71 ?_
          clear h9
          cases hF
        · rw [if_neg c8] at hF
          by_cases c9 : a2 = 3
          · rw [if_pos c9] at hF
            refine my_topi (y := 3) c9 ?_
            refine lv_tableIn (off := 59) (tgt := 75) hx hb dX7_lot_16 (by decide) (by decide) (by decide) (by decide) ?_
            refine lv_aload_n hx hb dX7_lot_75 rfl (lv_at hl 0 rfl) ?_
            obtain ⟨q9, h9⟩ := wc_at (cy := cy) (ad := ad) (ks := ks) (g := g) (u := u0) (κ := (.lo 0 n4)) hk.1 ⟨(Or.inl (by decide)), (ix_lt e5)⟩
            refine va_get (D := (dC, dI)) (ci := 4) (v := .int (u0 (10 + 0) (1100 + 8 * n4 + 2))) (C := RX4) (T := TX4) (N := 12) hx hb hts inlX4 hown hK hP q9 h9 rfl 5 (by decide) (hts _ mw_701) (fun _ h9 => h9) rfl dX7_lot_76 ?_
            clear h9
            cases hF
          · rw [if_neg c9] at hF
            by_cases c10 : a2 = 4
            · rw [if_pos c10] at hF
              refine my_topi (y := 4) c10 ?_
              refine lv_tableIn (off := 64) (tgt := 80) hx hb dX7_lot_16 (by decide) (by decide) (by decide) (by decide) ?_
              refine lv_aload_n hx hb dX7_lot_80 rfl (lv_at hl 0 rfl) ?_
              obtain ⟨q9, h9⟩ := wc_at (cy := cy) (ad := ad) (ks := ks) (g := g) (u := u0) (κ := (.lo 0 n4)) hk.1 ⟨(Or.inl (by decide)), (ix_lt e5)⟩
              refine va_get (D := (dC, dI)) (ci := 4) (v := .int (u0 (10 + 0) (1100 + 8 * n4 + 3))) (C := RX4) (T := TX4) (N := 12) hx hb hts inlX4 hown hK hP q9 h9 rfl 6 (by decide) (hts _ mw_702) (fun _ h9 => h9) rfl dX7_lot_81 ?_
              clear h9
              cases hF
            · rw [if_neg c10] at hF
              by_cases c11 : a2 = 5
              · rw [if_pos c11] at hF
                refine my_topi (y := 5) c11 ?_
                refine lv_tableIn (off := 69) (tgt := 85) hx hb dX7_lot_16 (by decide) (by decide) (by decide) (by decide) ?_
                refine lv_aload_n hx hb dX7_lot_85 rfl (lv_at hl 0 rfl) ?_
                obtain ⟨q9, h9⟩ := wc_at (cy := cy) (ad := ad) (ks := ks) (g := g) (u := u0) (κ := (.lo 0 n4)) hk.1 ⟨(Or.inl (by decide)), (ix_lt e5)⟩
                refine va_get (D := (dC, dI)) (ci := 4) (v := .int (u0 (10 + 0) (1100 + 8 * n4 + 4))) (C := RX4) (T := TX4) (N := 12) hx hb hts inlX4 hown hK hP q9 h9 rfl 7 (by decide) (hts _ mw_703) (fun _ h9 => h9) rfl dX7_lot_86 ?_
                clear h9
                cases hF
              · rw [if_neg c11] at hF
                by_cases c12 : a2 = 6
                · rw [if_pos c12] at hF
                  refine my_topi (y := 6) c12 ?_
                  refine lv_tableIn (off := 74) (tgt := 90) hx hb dX7_lot_16 (by decide) (by decide) (by decide) (by decide) ?_
                  refine lv_aload_n hx hb dX7_lot_90 rfl (lv_at hl 0 rfl) ?_
                  obtain ⟨x13, e14, hF⟩ := ob hF
                  have hPc := hP
                  have hDc := hD
                  have hFc := my_free hD hS hA
                  obtain ⟨q8, h8⟩ := wc_at (cy := cy) (ad := ad) (ks := ks) (g := g) (u := u0) (κ := (.lo 0 n4)) hk.1 ⟨(Or.inl (by decide)), (ix_lt e5)⟩
                  refine va_calli (va_runV (As := []) (rest := []) ⟨hx, hb, hml, hown, hts⟩ (c_X4_nextCard l dC dI cy nb ad ks g hk u0 0 n4 (x13) H.size ⟨(Or.inl (by decide)), (ix_lt e5)⟩ e14) (cwV 0 hts (gV mw_708 mw_709 mw_710 mw_52 mw_711) rfl rfl rfl (by decide +kernel) ⟨Nat.le_of_ble_eq_true rfl, Nat.le_of_ble_eq_true rfl⟩) (my_preV hPc hK hDc hE hS hFc (va_recv (q := (RX4, TX4, 12)) hK hP (ci := 4) (q0 := q8) rfl h8)) rfl rfl hl.1 rfl (lv_room (Nat.le_of_ble_eq_true rfl)) dX7_lot_91 ⟨Nat.le_of_ble_eq_true rfl, Nat.le_of_ble_eq_true rfl⟩) hS (fun q _ h => hFc q h) hFc (fun r u t H1 locs ht hvm hw hB hz1 hk1 hS => ?_)
                  clear h8
                  obtain ⟨hP1, hD1⟩ := hB
                  rw [ht] at hP1
                  have hP := hP1
                  have hD := hD1.weaken (fun k q _ h => hFc q.1 h)
                  generalize H1 = H at hP hS ⊢
                  clear hP1 hD1 hPc hDc hFc hk1 hz1 hvm ht
                  obtain rfl := hw.symm
                  cases hF
                · rw [if_neg c12] at hF
                  refine lv_tableOut (tgt := 95) hx hb dX7_lot_16 (sw_out (lo := 0) (hi := 6) (fun k h1 h2 => by rcases (show k = 0 ∨ k = 1 ∨ k = 2 ∨ k = 3 ∨ k = 4 ∨ k = 5 ∨ k = 6 by omega) with rfl | rfl | rfl | rfl | rfl | rfl | rfl <;> intro q <;> first | exact c6 (q.trans (by decide)) | exact c7 (q.trans (by decide)) | exact c8 (q.trans (by decide)) | exact c9 (q.trans (by decide)) | exact c10 (q.trans (by decide)) | exact c11 (q.trans (by decide)) | exact c12 (q.trans (by decide)))) (by decide) ?_
                  have hZ := s4 hF
                  subst hZ
                  obtain ⟨sa, hsa⟩ := hE.t116
                  rw [hQ]
                  exact vx_throwS (A := A) (own := RX7) (cls := xA) (text := "what is out of range") (names := ["java/lang/RuntimeException", "java/lang/Exception"]) (ik := 105) (is := 116) (ic := 109) hx hb hst hown (by decide) (by decide) (hts _ mw_569) (hts _ mw_570) hsa (my_hat (fun w h => hts w (List.mem_append_left _ (List.mem_append_right _ h))) my_atA hE.cA hE.dc) my_gA hE.zU hE.zN hS (by rw [hml]; exact hl.1) dX7_lot_95 dX7_lot_98 dX7_lot_99 dX7_lot_101 dX7_lot_104 (fun x hx => (hout x hx).elim) (Nat.le_of_ble_eq_true rfl) (Nat.le_of_ble_eq_true rfl) (Nat.le_of_ble_eq_true rfl) (Nat.le_of_ble_eq_true rfl) hlocks (fun t _ h1 h2 => ⟨(), trivial, ⟨rfl, my_keep hP (fun q9 z9 _ => h2 q9 z9)⟩, my_F hS h1 h2⟩) hS.2.2 (Nat.le_of_ble_eq_true rfl) (Nat.le_of_ble_eq_true rfl)
set_option maxHeartbeats 4000000 in
set_option maxRecDepth 100000 in
theorem c_X7_lotIn_y (l : Launch) (hst : l.stackTraces = false) (dC : Nat → ClassId) (dI : Nat → Nat → Nat) (cy : Nat → ClassId) (nb : Nat → Nat) (ad : CK → Nat) (ks : List CK) (g : CG) (hk : GA nb ad g ks) (u0 : RS) (a1 : Int32) (xc : Int32) (sz : Nat) (hF : C7_lotIn g u0 a1 = some (.inl xc)) : vx_Met l yX7_lotIn (wsg yX7_lotIn cX7_lotIn 2 (some .int)) ({ frames := 13, cells := 1, slots := 6, locals := 800 }) (va_Pc [.ref (ad .cl), .int a1] (fun U => U.heap.size = sz ∧ va_P (dC, dI) vwCl (WC cy ad ks g u0) U.heap ∧ va_K (dC, dI) vwCl (tyL cy) U ∧ va_D (fun _ => True) (WC cy ad ks g u0) ∧ GE nb (va_A (WC cy ad ks g u0) sz) U)) (va_Qi (fun (_ : Int32) (_ : Unit) => False) (fun _ _ => True) (va_A (WC cy ad ks g u0) sz)) (vx_X (fun (_ : Unit) => True) (fun E9 _ t9 => E9 = exn xc ∧ va_P (dC, dI) vwCl (WC cy ad ks g u0) t9.heap) (va_A (WC cy ad ks g u0) sz)) 1 6 (va_A (WC cy ad ks g u0) sz) := by
  refine vx_ofW (cc := cX7_lotIn) (maxL := 2) (ret := (some .int)) pn_X7 rfl ?_
  intro p e s m args below meth c s₁ B hml hout hv
  obtain ⟨rfl, hsz, hP, hK, hD0, hE⟩ := hv
  have hx := B.exec
  have hb := B.bytes
  have hr := B.returns
  have hts0 := atoms_spec (ws := (wsg yX7_lotIn cX7_lotIn 2 (some .int))) B.pre
  have hts : ∀ w ∈ wsL_law, w.before _ s = true := fun w h => hts0 w (List.mem_cons_of_mem _ h)
  have hown : s.vm.findClass RX7 = some m.cls := by have h9 := findClass_of_methodNamed B.named; exact h9
  have hlocks := B.notSynchronized
  subst hsz
  have hD := hD0.self (sz := s.heap.size)
  generalize hAe : va_A (WC cy ad ks g u0) s.heap.size = A at hD hE ⊢
  have hA : ∀ q : Nat, s.heap.size ≤ q → A q := fun q h => by rw [← hAe]; exact Or.inr h
  have hS : va_S A s.heap s.heap [] := va_S.rf
  have hl := lv_entry ([.ref (ad .cl), .int a1]) (n := 2) (Nat.le_of_ble_eq_true rfl)
  rw [lg_entry_eq]
  generalize (lg_sl ([.ref (ad .cl), .int a1]) ++ List.replicate (2 - (lg_sl ([.ref (ad .cl), .int a1])).length) Slot.unset).toArray = ls at hl ⊢
  have hl : lv_has ls 2 [(0, .ref (ad .cl)), (1, .int a1)] := hl
  generalize hHe : s.heap = H at hP hS ⊢
  have hS : va_S A s.heap H [] := by rw [hHe]; exact hS
  refine my_Q (fun Qn hQ => ?_)
  simp only [C7_lotIn] at hF
  refine lv_aload_n hx hb dX7_lotIn_0 rfl (lv_at hl 0 rfl) ?_
  refine lv_iload_n hx hb dX7_lotIn_1 rfl (lv_at hl 1 rfl) ?_
  obtain ⟨t1, e2, hF⟩ := ob hF
  rcases t1 with xz9 | t3
  · have hF : some (Sum.inl xz9) = some (.inl xc) := hF
    have hPc := hP
    have hDc := hD
    have hFc := my_free hD hS hA
    obtain ⟨q8, h8⟩ := wc_at (cy := cy) (ad := ad) (ks := ks) (g := g) (u := u0) (κ := .cl) hk.1 True.intro
    refine vx_callv (vx_runV (As := [.int a1]) (rest := []) ⟨hx, hb, hml, hown, hts⟩ (c_X7_needLot_y l hst dC dI cy nb ad ks g hk u0 (a1) xz9 H.size e2) (cwV 1 hts (gV mw_704 mw_705 mw_706 mw_2 mw_707) rfl rfl rfl (by decide +kernel) ⟨Nat.le_of_ble_eq_true rfl, Nat.le_of_ble_eq_true rfl⟩) (my_preV hPc hK hDc hE hS hFc (va_recv (q := (RX7, TX7, 12)) hK hP (ci := 7) (q0 := q8) rfl h8)) rfl rfl hl.1 rfl (lv_room (Nat.le_of_ble_eq_true rfl)) dX7_lotIn_2 ⟨Nat.le_of_ble_eq_true rfl, Nat.le_of_ble_eq_true rfl⟩) hS (fun q _ h => hFc q h) hFc (fun q _ h => hFc q h) (fun E9 ce9 q9 u9 t9 H1 locs1 ht9 hvm9 hp9 hB9 hz9 hk9 hS9 hc9 hv9 hcl9 => ?_) (fun u9 t9 H1 locs1 ht9 hvm9 hp9 _ _ _ _ => hp9.elim)
    have hZ := s4 hF
    rw [hQ]
    exact vx_out (fun x hx => (hout x hx).elim) hlocks hc9 hv9 hcl9 (fun t h1 h2 => ⟨(), trivial, ⟨hB9.1.trans (congrArg exn hZ), by rw [h1, ← ht9]; exact hB9.2⟩, hS9.F h1⟩) hS9.2.2 (Nat.le_of_ble_eq_true rfl) (Nat.le_of_ble_eq_true rfl)
  · dsimp only [tr] at hF
    have hPc := hP
    have hDc := hD
    have hFc := my_free hD hS hA
    obtain ⟨q8, h8⟩ := wc_at (cy := cy) (ad := ad) (ks := ks) (g := g) (u := u0) (κ := .cl) hk.1 True.intro
    refine va_callv (va_runV (As := [.int a1]) (rest := []) ⟨hx, hb, hml, hown, hts⟩ (c_X7_needLot l dC dI cy nb ad ks g hk u0 (a1) H.size e2) (cwV 1 hts (gV mw_704 mw_705 mw_706 mw_2 mw_707) rfl rfl rfl (by decide +kernel) ⟨Nat.le_of_ble_eq_true rfl, Nat.le_of_ble_eq_true rfl⟩) (my_preV hPc hK hDc hE hS hFc (va_recv (q := (RX7, TX7, 12)) hK hP (ci := 7) (q0 := q8) rfl h8)) rfl rfl hl.1 rfl (lv_room (Nat.le_of_ble_eq_true rfl)) dX7_lotIn_2 ⟨Nat.le_of_ble_eq_true rfl, Nat.le_of_ble_eq_true rfl⟩) hS (fun q _ h => hFc q h) hFc (fun u t H1 locs ht hvm hw hB hz1 hk1 hS => ?_)
    clear h8
    obtain ⟨hP1, hD1⟩ := hB
    rw [ht] at hP1
    have hP := hP1
    have hD := hD1.weaken (fun k q _ h => hFc q.1 h)
    generalize H1 = H at hP hS ⊢
    clear hP1 hD1 hPc hDc hFc hk1 hz1 hvm ht
    refine lv_aload_n hx hb dX7_lotIn_5 rfl (lv_at hl 0 rfl) ?_
    obtain ⟨t4, e5, hF⟩ := ob hF
    have hPc := hP
    have hDc := hD
    have hFc := my_free hD hS hA
    obtain ⟨q8, h8⟩ := wc_at (cy := cy) (ad := ad) (ks := ks) (g := g) (u := u0) (κ := .cl) hk.1 True.intro
    refine va_callr (va_runV (As := []) (rest := []) ⟨hx, hb, hml, hown, hts⟩ (c_X7_copyOfLine l dC dI cy nb ad ks g hk u0 (t4) H.size e5) (cwV 0 hts (gV mw_1298 mw_1299 mw_1300 mw_2 mw_1301) rfl rfl rfl (by decide +kernel) ⟨Nat.le_of_ble_eq_true rfl, Nat.le_of_ble_eq_true rfl⟩) (my_preV hPc hK hDc hE hS hFc (va_recv (q := (RX7, TX7, 12)) hK hP (ci := 7) (q0 := q8) rfl h8)) rfl rfl hl.1 rfl (lv_room (Nat.le_of_ble_eq_true rfl)) dX7_lotIn_6 ⟨Nat.le_of_ble_eq_true rfl, Nat.le_of_ble_eq_true rfl⟩) hS (fun q _ h => hFc q h) hFc (fun u ra t H1 locs ht hvm hw hB hz1 hk1 hS => ?_)
    clear h8
    obtain ⟨hra, hP1, hD1⟩ := hB
    rw [ht] at hP1
    have hP := hP1
    have hD := hD1.weaken (fun k q _ h => hFc q.1 h)
    generalize H1 = H at hP hS ⊢
    clear hP1 hD1 hPc hDc hFc hk1 hz1 hvm ht
    obtain rfl := hra.symm
    refine va_gets (C := RX2) (n := "LOT_FINISHED") (d := "LCardLine$Event;") (ref := "CardLine$Event") (v := .ref (nb (40 + 1))) hx hb (hE.evk 1 rfl).1 hS hown (hts _ mw_1349) (fun _ h9 => h9) dX7_lotIn_9 ?_
    refine lv_iload_n hx hb dX7_lotIn_12 rfl (lv_at hl 1 rfl) ?_
    refine lv_sipush (v := 2000) hx hb dX7_lotIn_13 (by decide) ?_
    obtain ⟨t6, e7, hF⟩ := ob hF
    have hPc := hP
    have hDc := hD
    have hFc := my_free hD hS hA
    refine va_calli (va_runS (As := [.ref (ad (.ln 1)), .ref (nb (40 + 1)), .int a1, .int 2000]) (rest := []) ⟨hx, hb, hml, hown, hts⟩ (c_X7_ticksUntil_e1 l dC dI cy nb ad ks g hk t4 1 (a1) (2000) (t6.1) (t6.2) H.size (Or.inl (by decide)) e7) (va_cwS 4 hts (gS mw_1302 mw_1303 mw_2 mw_1304) rfl rfl rfl (by decide +kernel) ⟨Nat.le_of_ble_eq_true rfl, Nat.le_of_ble_eq_true rfl⟩) (my_preS hPc hK hDc hE hS hFc) rfl rfl hl.1 rfl (lv_room (Nat.le_of_ble_eq_true rfl)) dX7_lotIn_16 ⟨Nat.le_of_ble_eq_true rfl, Nat.le_of_ble_eq_true rfl⟩) hS (fun q _ h => hFc q h) hFc (fun r u t H1 locs ht hvm hw hB hz1 hk1 hS => ?_)
    obtain ⟨hP1, hD1⟩ := hB
    rw [ht] at hP1
    have hP := hP1
    have hD := hD1.weaken (fun k q _ h => hFc q.1 h)
    generalize H1 = H at hP hS ⊢
    clear hP1 hD1 hPc hDc hFc hk1 hz1 hvm ht
    obtain rfl := hw.symm
    cases hF
set_option maxHeartbeats 4000000 in
set_option maxRecDepth 100000 in
theorem c_X7_order_y (l : Launch) (hst : l.stackTraces = false) (dC : Nat → ClassId) (dI : Nat → Nat → Nat) (cy : Nat → ClassId) (nb : Nat → Nat) (ad : CK → Nat) (ks : List CK) (g : CG) (hk : GA nb ad g ks) (u0 : RS) (a1 : Int32) (xc : Int32) (sz : Nat) (hF : C7_order g u0 a1 = some (.inl xc)) : vx_Met l yX7_order (wsg yX7_order cX7_order 2 (some .int)) ({ frames := 11, cells := 68, slots := 847, locals := 600 }) (va_Pc [.ref (ad .cl), .int a1] (fun U => U.heap.size = sz ∧ va_P (dC, dI) vwCl (WC cy ad ks g u0) U.heap ∧ va_K (dC, dI) vwCl (tyL cy) U ∧ va_D (fun _ => True) (WC cy ad ks g u0) ∧ GE nb (va_A (WC cy ad ks g u0) sz) U)) (va_Qi (fun (_ : Int32) (_ : Unit) => False) (fun _ _ => True) (va_A (WC cy ad ks g u0) sz)) (vx_X (fun (_ : Unit) => True) (fun E9 _ t9 => E9 = exn xc ∧ va_P (dC, dI) vwCl (WC cy ad ks g u0) t9.heap) (va_A (WC cy ad ks g u0) sz)) 68 847 (va_A (WC cy ad ks g u0) sz) := by
  refine vx_ofW (cc := cX7_order) (maxL := 2) (ret := (some .int)) pn_X7 rfl ?_
  intro p e s m args below meth c s₁ B hml hout hv
  obtain ⟨rfl, hsz, hP, hK, hD0, hE⟩ := hv
  have hx := B.exec
  have hb := B.bytes
  have hr := B.returns
  have hts0 := atoms_spec (ws := (wsg yX7_order cX7_order 2 (some .int))) B.pre
  have hts : ∀ w ∈ wsL_law, w.before _ s = true := fun w h => hts0 w (List.mem_cons_of_mem _ h)
  have hown : s.vm.findClass RX7 = some m.cls := by have h9 := findClass_of_methodNamed B.named; exact h9
  have hlocks := B.notSynchronized
  subst hsz
  have hD := hD0.self (sz := s.heap.size)
  generalize hAe : va_A (WC cy ad ks g u0) s.heap.size = A at hD hE ⊢
  have hA : ∀ q : Nat, s.heap.size ≤ q → A q := fun q h => by rw [← hAe]; exact Or.inr h
  have hS : va_S A s.heap s.heap [] := va_S.rf
  have hl := lv_entry ([.ref (ad .cl), .int a1]) (n := 2) (Nat.le_of_ble_eq_true rfl)
  rw [lg_entry_eq]
  generalize (lg_sl ([.ref (ad .cl), .int a1]) ++ List.replicate (2 - (lg_sl ([.ref (ad .cl), .int a1])).length) Slot.unset).toArray = ls at hl ⊢
  have hl : lv_has ls 2 [(0, .ref (ad .cl)), (1, .int a1)] := hl
  generalize hHe : s.heap = H at hP hS ⊢
  have hS : va_S A s.heap H [] := by rw [hHe]; exact hS
  refine my_Q (fun Qn hQ => ?_)
  simp only [C7_order] at hF
  refine lv_aload_n hx hb dX7_order_0 rfl (lv_at hl 0 rfl) ?_
  refine lv_iload_n hx hb dX7_order_1 rfl (lv_at hl 1 rfl) ?_
  obtain ⟨t1, e2, hF⟩ := ob hF
  rcases t1 with xz9 | t3
  · have hF : some (Sum.inl xz9) = some (.inl xc) := hF
    have hPc := hP
    have hDc := hD
    have hFc := my_free hD hS hA
    obtain ⟨q8, h8⟩ := wc_at (cy := cy) (ad := ad) (ks := ks) (g := g) (u := u0) (κ := .cl) hk.1 True.intro
    refine vx_callv (vx_runV (As := [.int a1]) (rest := []) ⟨hx, hb, hml, hown, hts⟩ (c_X7_needLot_y l hst dC dI cy nb ad ks g hk u0 (a1) xz9 H.size e2) (cwV 1 hts (gV mw_704 mw_705 mw_706 mw_2 mw_707) rfl rfl rfl (by decide +kernel) ⟨Nat.le_of_ble_eq_true rfl, Nat.le_of_ble_eq_true rfl⟩) (my_preV hPc hK hDc hE hS hFc (va_recv (q := (RX7, TX7, 12)) hK hP (ci := 7) (q0 := q8) rfl h8)) rfl rfl hl.1 rfl (lv_room (Nat.le_of_ble_eq_true rfl)) dX7_order_2 ⟨Nat.le_of_ble_eq_true rfl, Nat.le_of_ble_eq_true rfl⟩) hS (fun q _ h => hFc q h) hFc (fun q _ h => hFc q h) (fun E9 ce9 q9 u9 t9 H1 locs1 ht9 hvm9 hp9 hB9 hz9 hk9 hS9 hc9 hv9 hcl9 => ?_) (fun u9 t9 H1 locs1 ht9 hvm9 hp9 _ _ _ _ => hp9.elim)
    have hZ := s4 hF
    rw [hQ]
    exact vx_out (fun x hx => (hout x hx).elim) hlocks hc9 hv9 hcl9 (fun t h1 h2 => ⟨(), trivial, ⟨hB9.1.trans (congrArg exn hZ), by rw [h1, ← ht9]; exact hB9.2⟩, hS9.F h1⟩) hS9.2.2 (Nat.le_of_ble_eq_true rfl) (Nat.le_of_ble_eq_true rfl)
  · dsimp only [tr] at hF
    have hPc := hP
    have hDc := hD
    have hFc := my_free hD hS hA
    obtain ⟨q8, h8⟩ := wc_at (cy := cy) (ad := ad) (ks := ks) (g := g) (u := u0) (κ := .cl) hk.1 True.intro
    refine va_callv (va_runV (As := [.int a1]) (rest := []) ⟨hx, hb, hml, hown, hts⟩ (c_X7_needLot l dC dI cy nb ad ks g hk u0 (a1) H.size e2) (cwV 1 hts (gV mw_704 mw_705 mw_706 mw_2 mw_707) rfl rfl rfl (by decide +kernel) ⟨Nat.le_of_ble_eq_true rfl, Nat.le_of_ble_eq_true rfl⟩) (my_preV hPc hK hDc hE hS hFc (va_recv (q := (RX7, TX7, 12)) hK hP (ci := 7) (q0 := q8) rfl h8)) rfl rfl hl.1 rfl (lv_room (Nat.le_of_ble_eq_true rfl)) dX7_order_2 ⟨Nat.le_of_ble_eq_true rfl, Nat.le_of_ble_eq_true rfl⟩) hS (fun q _ h => hFc q h) hFc (fun u t H1 locs ht hvm hw hB hz1 hk1 hS => ?_)
    clear h8
    obtain ⟨hP1, hD1⟩ := hB
    rw [ht] at hP1
    have hP := hP1
    have hD := hD1.weaken (fun k q _ h => hFc q.1 h)
    generalize H1 = H at hP hS ⊢
    clear hP1 hD1 hPc hDc hFc hk1 hz1 hvm ht
    refine lv_aload_n hx hb dX7_order_5 rfl (lv_at hl 0 rfl) ?_
    obtain ⟨q9, h9⟩ := wc_at (cy := cy) (ad := ad) (ks := ks) (g := g) (u := u0) (κ := .cl) hk.1 True.intro
    refine va_get (D := (dC, dI)) (ci := 7) (v := .ref (ad .rd)) (C := RX7) (T := TX7) (N := 12) hx hb hts inlX7 hown hK hP q9 h9 rfl 2 (by decide) (hts _ mw_23) (fun _ h9 => h9) rfl dX7_order_6 ?_
    clear h9
    refine lv_aload_n hx hb dX7_order_9 rfl (lv_at hl 0 rfl) ?_
    obtain ⟨q9, h9⟩ := wc_at (cy := cy) (ad := ad) (ks := ks) (g := g) (u := u0) (κ := .cl) hk.1 True.intro
    refine va_get (D := (dC, dI)) (ci := 7) (v := .ref (ad (.ln 0))) (C := RX7) (T := TX7) (N := 12) hx hb hts inlX7 hown hK hP q9 h9 rfl 0 (by decide) (hts _ mw_18) (fun _ h9 => h9) rfl dX7_order_10 ?_
    clear h9
    obtain ⟨q9, h9⟩ := wc_at (cy := cy) (ad := ad) (ks := ks) (g := g) (u := u0) (κ := (.ln 0)) hk.1 (Or.inl (by decide))
    refine va_get (D := (dC, dI)) (ci := 3) (v := .int (u0 (10 + 0) 9)) (C := RX3) (T := TX3) (N := 17) hx hb hts inlX3 hown hK hP q9 h9 rfl 9 (by decide) (hts _ mw_572) (fun _ h9 => h9) rfl dX7_order_13 ?_
    clear h9
    obtain ⟨u4, e5, hF⟩ := ob hF
    have hPc := hP
    have hDc := hD
    have hFc := my_free hD hS hA
    obtain ⟨q8, h8⟩ := wc_at (cy := cy) (ad := ad) (ks := ks) (g := g) (u := u0) (κ := .rd) hk.1 True.intro
    refine va_callv (va_runV (As := [.int (u0 (10 + 0) 9)]) (rest := []) ⟨hx, hb, hml, hown, hts⟩ (c_X5_readOrder l dC dI cy nb ad ks g hk u0 ((u0 (10 + 0) 9)) (u4) H.size e5) (cwV 1 hts (gV mw_969 mw_970 mw_971 mw_22 mw_972) rfl rfl rfl (by decide +kernel) ⟨Nat.le_of_ble_eq_true rfl, Nat.le_of_ble_eq_true rfl⟩) (my_preV hPc hK hDc hE hS hFc (va_recv (q := (RX5, TX5, 11)) hK hP (ci := 5) (q0 := q8) rfl h8)) rfl rfl hl.1 rfl (lv_room (Nat.le_of_ble_eq_true rfl)) dX7_order_16 ⟨Nat.le_of_ble_eq_true rfl, Nat.le_of_ble_eq_true rfl⟩) hS (fun q _ h => hFc q h) hFc (fun u t H1 locs ht hvm hw hB hz1 hk1 hS => ?_)
    clear h8
    obtain ⟨hP1, hD1⟩ := hB
    rw [ht] at hP1
    have hP := hP1
    have hD := hD1.weaken (fun k q _ h => hFc q.1 h)
    generalize H1 = H at hP hS ⊢
    clear hP1 hD1 hPc hDc hFc hk1 hz1 hvm ht
    refine lv_aload_n hx hb dX7_order_19 rfl (lv_at hl 0 rfl) ?_
    obtain ⟨u6, e7, hF⟩ := ob hF
    have hPc := hP
    have hDc := hD
    have hFc := my_free hD hS hA
    obtain ⟨q8, h8⟩ := wc_at (cy := cy) (ad := ad) (ks := ks) (g := g) (u := u4) (κ := .cl) hk.1 True.intro
    refine va_callv (va_runV (As := []) (rest := []) ⟨hx, hb, hml, hown, hts⟩ (c_X7_keepResult l dC dI cy nb ad ks g hk u4 (u6) H.size e7) (cwV 0 hts (gV mw_386 mw_387 mw_388 mw_2 mw_389) rfl rfl rfl (by decide +kernel) ⟨Nat.le_of_ble_eq_true rfl, Nat.le_of_ble_eq_true rfl⟩) (my_preV hPc hK hDc hE hS hFc (va_recv (q := (RX7, TX7, 12)) hK hP (ci := 7) (q0 := q8) rfl h8)) rfl rfl hl.1 rfl (lv_room (Nat.le_of_ble_eq_true rfl)) dX7_order_20 ⟨Nat.le_of_ble_eq_true rfl, Nat.le_of_ble_eq_true rfl⟩) hS (fun q _ h => hFc q h) hFc (fun u t H1 locs ht hvm hw hB hz1 hk1 hS => ?_)
    clear h8
    obtain ⟨hP1, hD1⟩ := hB
    rw [ht] at hP1
    have hP := hP1
    have hD := hD1.weaken (fun k q _ h => hFc q.1 h)
    generalize H1 = H at hP hS ⊢
    clear hP1 hD1 hPc hDc hFc hk1 hz1 hvm ht
    refine lv_aload_n hx hb dX7_order_23 rfl (lv_at hl 0 rfl) ?_
    obtain ⟨q9, h9⟩ := wc_at (cy := cy) (ad := ad) (ks := ks) (g := g) (u := u6) (κ := .cl) hk.1 True.intro
    refine va_get (D := (dC, dI)) (ci := 7) (v := .int (u6 0 1)) (C := RX7) (T := TX7) (N := 12) hx hb hts inlX7 hown hK hP q9 h9 rfl 8 (by decide) (hts _ mw_31) (fun _ h9 => h9) rfl dX7_order_24 ?_
    clear h9
    refine lv_if_eq (tgt := 41) hx hb dX7_order_27 (by decide) (fun c8 => ?_) (fun c8 => ?_)
    · rw [if_pos c8] at hF
      refine lv_aload_n hx hb dX7_order_41 rfl (lv_at hl 0 rfl) ?_
      obtain ⟨t9, e10, hF⟩ := ob hF
      have hPc := hP
      have hDc := hD
      have hFc := my_free hD hS hA
      obtain ⟨q8, h8⟩ := wc_at (cy := cy) (ad := ad) (ks := ks) (g := g) (u := u6) (κ := .cl) hk.1 True.intro
      refine va_callv (va_runV (As := []) (rest := []) ⟨hx, hb, hml, hown, hts⟩ (c_X7_remember l dC dI cy nb ad ks g hk u6 (t9.1) (t9.2) H.size e10) (cwV 0 hts (gV mw_973 mw_974 mw_975 mw_2 mw_976) rfl rfl rfl (by decide +kernel) ⟨Nat.le_of_ble_eq_true rfl, Nat.le_of_ble_eq_true rfl⟩) (my_preV hPc hK hDc hE hS hFc (va_recv (q := (RX7, TX7, 12)) hK hP (ci := 7) (q0 := q8) rfl h8)) rfl rfl hl.1 rfl (lv_room (Nat.le_of_ble_eq_true rfl)) dX7_order_42 ⟨Nat.le_of_ble_eq_true rfl, Nat.le_of_ble_eq_true rfl⟩) hS (fun q _ h => hFc q h) hFc (fun u t H1 locs ht hvm hw hB hz1 hk1 hS => ?_)
      clear h8
      obtain ⟨ad11, ks12, hk13, ax14, hP1, hD1⟩ := hB
      rw [ht] at hP1
      have hP := hP1
      have hD := hD1.weaken (fun k q _ h => hFc q.1 h)
      generalize H1 = H at hP hS ⊢
      have hl : lv_has ls 2 [(0, .ref (ad11 .cl)), (1, .int a1)] := by rw [(ax14 .cl True.intro).2]; exact hl
      clear hP1 hD1 hPc hDc hFc hk1 hz1 hvm ht
      refine W.widen (k := 67) (n := 831) (by omega) (by omega) ?_
      refine lv_aload_n hx hb dX7_order_45 rfl (lv_at hl 0 rfl) ?_
      obtain ⟨q9, h9⟩ := wc_at (cy := cy) (ad := ad11) (ks := ks12) (g := (t9.1)) (u := (t9.2)) (κ := .cl) hk13.1 True.intro
      refine va_get (D := (dC, dI)) (ci := 7) (v := .ref (ad11 (.ln 0))) (C := RX7) (T := TX7) (N := 12) hx hb hts inlX7 hown hK hP q9 h9 rfl 0 (by decide) (hts _ mw_18) (fun _ h9 => h9) rfl dX7_order_46 ?_
      clear h9
      refine lv_iload_n hx hb dX7_order_49 rfl (lv_at hl 1 rfl) ?_
      refine lv_aload_n hx hb dX7_order_50 rfl (lv_at hl 0 rfl) ?_
      obtain ⟨q9, h9⟩ := wc_at (cy := cy) (ad := ad11) (ks := ks12) (g := (t9.1)) (u := (t9.2)) (κ := .cl) hk13.1 True.intro
      refine va_get (D := (dC, dI)) (ci := 7) (v := .ref (ad11 .rd)) (C := RX7) (T := TX7) (N := 12) hx hb hts inlX7 hown hK hP q9 h9 rfl 2 (by decide) (hts _ mw_23) (fun _ h9 => h9) rfl dX7_order_51 ?_
      clear h9
      obtain ⟨t15, e16, hF⟩ := ob hF
      have hPc := hP
      have hDc := hD
      have hFc := my_free hD hS hA
      obtain ⟨q8, h8⟩ := wc_at (cy := cy) (ad := ad11) (ks := ks12) (g := (t9.1)) (u := (t9.2)) (κ := .rd) hk13.1 True.intro
      refine va_callr (va_runV (As := []) (rest := [.int a1, .ref (ad11 (.ln 0))]) ⟨hx, hb, hml, hown, hts⟩ (c_X5_textRead l dC dI cy nb ad11 ks12 (t9.1) hk13 (t9.2) (t15.1) (t15.2.1) (t15.2.2) H.size e16) (cwV 0 hts (gV mw_977 mw_306 mw_307 mw_22 mw_308) rfl rfl rfl (by decide +kernel) ⟨Nat.le_of_ble_eq_true rfl, Nat.le_of_ble_eq_true rfl⟩) (my_preV hPc hK hDc hE hS hFc (va_recv (q := (RX5, TX5, 11)) hK hP (ci := 5) (q0 := q8) rfl h8)) rfl rfl hl.1 rfl (lv_room (Nat.le_of_ble_eq_true rfl)) dX7_order_54 ⟨Nat.le_of_ble_eq_true rfl, Nat.le_of_ble_eq_true rfl⟩) hS (fun q _ h => hFc q h) hFc (fun u ra t H1 locs ht hvm hw hB hz1 hk1 hS => ?_)
      clear h8
      obtain ⟨ad17, ks18, hra, hk19, ax20, hP1, hD1⟩ := hB
      rw [ht] at hP1
      have hP := hP1
      have hD := hD1.weaken (fun k q _ h => hFc q.1 h)
      generalize H1 = H at hP hS ⊢
      have hl : lv_has ls 2 [(0, .ref (ad17 .cl)), (1, .int a1)] := by rw [(ax20 .cl True.intro).2]; exact hl
      refine W.eq (g2 := F0 m _ ls [.ref ra, .int a1, .ref (ad17 (.ln 0))]) (by rw [(ax20 (.ln 0) (Or.inl (by decide))).2]) ?_
      clear hP1 hD1 hPc hDc hFc hk1 hz1 hvm ht
      obtain rfl := hra.symm
      refine W.widen (k := 68) (n := 847) (by omega) (by omega) ?_
      obtain ⟨u21, e22, hF⟩ := ob hF
      have hPc := hP
      have hDc := hD
      have hFc := my_free hD hS hA
      obtain ⟨q8, h8⟩ := wc_at (cy := cy) (ad := ad17) (ks := ks18) (g := (t15.2.1)) (u := (t15.2.2)) (κ := (.ln 0)) hk19.1 (Or.inl (by decide))
      refine va_callv (va_runV (As := [.int a1, .ref (ad17 (.tx (t15.1).toNatClampNeg))]) (rest := []) ⟨hx, hb, hml, hown, hts⟩ (c_X3_addCard l dC dI cy nb ad17 ks18 (t15.2.1) hk19 (t15.2.2) 0 (a1) t15.1 (u21) H.size (Or.inl (by decide)) e22) (cwV 2 hts (gV mw_978 mw_321 mw_322 mw_17 mw_323) rfl rfl rfl (by decide +kernel) ⟨Nat.le_of_ble_eq_true rfl, Nat.le_of_ble_eq_true rfl⟩) (my_preV hPc hK hDc hE hS hFc (va_recv (q := (RX3, TX3, 17)) hK hP (ci := 3) (q0 := q8) rfl h8)) rfl rfl hl.1 rfl (lv_room (Nat.le_of_ble_eq_true rfl)) dX7_order_57 ⟨Nat.le_of_ble_eq_true rfl, Nat.le_of_ble_eq_true rfl⟩) hS (fun q _ h => hFc q h) hFc (fun u t H1 locs ht hvm hw hB hz1 hk1 hS => ?_)
      clear h8
      obtain ⟨hP1, hD1⟩ := hB
      rw [ht] at hP1
      have hP := hP1
      have hD := hD1.weaken (fun k q _ h => hFc q.1 h)
      generalize H1 = H at hP hS ⊢
      clear hP1 hD1 hPc hDc hFc hk1 hz1 hvm ht
      refine lv_aload_n hx hb dX7_order_60 rfl (lv_at hl 0 rfl) ?_
      obtain ⟨q9, h9⟩ := wc_at (cy := cy) (ad := ad17) (ks := ks18) (g := (t15.2.1)) (u := u21) (κ := .cl) hk19.1 True.intro
      refine va_get (D := (dC, dI)) (ci := 7) (v := .ref (ad17 (.ln 0))) (C := RX7) (T := TX7) (N := 12) hx hb hts inlX7 hown hK hP q9 h9 rfl 0 (by decide) (hts _ mw_18) (fun _ h9 => h9) rfl dX7_order_61 ?_
      clear h9
      obtain ⟨q9, h9⟩ := wc_at (cy := cy) (ad := ad17) (ks := ks18) (g := (t15.2.1)) (u := u21) (κ := (.ln 0)) hk19.1 (Or.inl (by decide))
      refine va_get (D := (dC, dI)) (ci := 3) (v := .int (u21 (10 + 0) 9)) (C := RX3) (T := TX3) (N := 17) hx hb hts inlX3 hown hK hP q9 h9 rfl 9 (by decide) (hts _ mw_572) (fun _ h9 => h9) rfl dX7_order_64 ?_
      clear h9
      refine lv_iconst (v := 1) hx hb dX7_order_67 (by decide) ?_
      refine lv_isub hx hb dX7_order_68 ?_
      cases hF
    · rw [if_neg c8] at hF
      refine lv_bipush (v := (-100)) hx hb dX7_order_30 (by decide) ?_
      refine lv_aload_n hx hb dX7_order_32 rfl (lv_at hl 0 rfl) ?_
      obtain ⟨q9, h9⟩ := wc_at (cy := cy) (ad := ad) (ks := ks) (g := g) (u := u6) (κ := .cl) hk.1 True.intro
      refine va_get (D := (dC, dI)) (ci := 7) (v := .ref (ad .rd)) (C := RX7) (T := TX7) (N := 12) hx hb hts inlX7 hown hK hP q9 h9 rfl 2 (by decide) (hts _ mw_23) (fun _ h9 => h9) rfl dX7_order_33 ?_
      clear h9
      obtain ⟨q9, h9⟩ := wc_at (cy := cy) (ad := ad) (ks := ks) (g := g) (u := u6) (κ := .rd) hk.1 True.intro
      refine va_get (D := (dC, dI)) (ci := 5) (v := .int (u6 0 8)) (C := RX5) (T := TX5) (N := 11) hx hb hts inlX5 hown hK hP q9 h9 rfl 4 (by decide) (hts _ mw_137) (fun _ h9 => h9) rfl dX7_order_36 ?_
      clear h9
      refine lv_isub hx hb dX7_order_39 ?_
      cases hF
set_option maxHeartbeats 4000000 in
set_option maxRecDepth 100000 in
theorem c_X7_refill_y (l : Launch) (hst : l.stackTraces = false) (dC : Nat → ClassId) (dI : Nat → Nat → Nat) (cy : Nat → ClassId) (nb : Nat → Nat) (ad : CK → Nat) (ks : List CK) (g : CG) (hk : GA nb ad g ks) (u0 : RS) (a1 : Int32) (xc : Int32) (sz : Nat) (hF : C7_refill g u0 a1 = some (.inl xc)) : vx_Met l yX7_refill (wsg yX7_refill cX7_refill 2 (some .int)) ({ frames := 11, cells := 67, slots := 831, locals := 600 }) (va_Pc [.ref (ad .cl), .int a1] (fun U => U.heap.size = sz ∧ va_P (dC, dI) vwCl (WC cy ad ks g u0) U.heap ∧ va_K (dC, dI) vwCl (tyL cy) U ∧ va_D (fun _ => True) (WC cy ad ks g u0) ∧ GE nb (va_A (WC cy ad ks g u0) sz) U)) (va_Qi (fun (_ : Int32) (_ : Unit) => False) (fun _ _ => True) (va_A (WC cy ad ks g u0) sz)) (vx_X (fun (_ : Unit) => True) (fun E9 _ t9 => E9 = exn xc ∧ va_P (dC, dI) vwCl (WC cy ad ks g u0) t9.heap) (va_A (WC cy ad ks g u0) sz)) 67 831 (va_A (WC cy ad ks g u0) sz) := by
  refine vx_ofW (cc := cX7_refill) (maxL := 2) (ret := (some .int)) pn_X7 rfl ?_
  intro p e s m args below meth c s₁ B hml hout hv
  obtain ⟨rfl, hsz, hP, hK, hD0, hE⟩ := hv
  have hx := B.exec
  have hb := B.bytes
  have hr := B.returns
  have hts0 := atoms_spec (ws := (wsg yX7_refill cX7_refill 2 (some .int))) B.pre
  have hts : ∀ w ∈ wsL_law, w.before _ s = true := fun w h => hts0 w (List.mem_cons_of_mem _ h)
  have hown : s.vm.findClass RX7 = some m.cls := by have h9 := findClass_of_methodNamed B.named; exact h9
  have hlocks := B.notSynchronized
  subst hsz
  have hD := hD0.self (sz := s.heap.size)
  generalize hAe : va_A (WC cy ad ks g u0) s.heap.size = A at hD hE ⊢
  have hA : ∀ q : Nat, s.heap.size ≤ q → A q := fun q h => by rw [← hAe]; exact Or.inr h
  have hS : va_S A s.heap s.heap [] := va_S.rf
  have hl := lv_entry ([.ref (ad .cl), .int a1]) (n := 2) (Nat.le_of_ble_eq_true rfl)
  rw [lg_entry_eq]
  generalize (lg_sl ([.ref (ad .cl), .int a1]) ++ List.replicate (2 - (lg_sl ([.ref (ad .cl), .int a1])).length) Slot.unset).toArray = ls at hl ⊢
  have hl : lv_has ls 2 [(0, .ref (ad .cl)), (1, .int a1)] := hl
  generalize hHe : s.heap = H at hP hS ⊢
  have hS : va_S A s.heap H [] := by rw [hHe]; exact hS
  refine my_Q (fun Qn hQ => ?_)
  simp only [C7_refill] at hF
  refine lv_iload_n hx hb dX7_refill_0 rfl (lv_at hl 1 rfl) ?_
  refine lv_iconst (v := 1) hx hb dX7_refill_1 (by decide) ?_
  refine lv_sipush (v := 999) hx hb dX7_refill_2 (by decide) ?_
  obtain ⟨t1, e2, hF⟩ := ob hF
  rcases t1 with xz9 | t3
  · have hF : some (Sum.inl xz9) = some (.inl xc) := hF
    have hPc : va_P (dC, dI) vwCl ([] : va_W) H := fun k q h => by simp at h
    have hDc : va_D A ([] : va_W) := ⟨fun i j p q h => by simp at h, fun k q h => by simp at h⟩
    have hFc := my_free0 hS hA
    refine vx_callv (vx_runS (As := [.int a1, .int 1, .int 999]) (rest := []) ⟨hx, hb, hml, hown, hts⟩ (c_X7_needRange_x l hst dC dI cy nb (a1) (1) (999) xz9 H.size e2) (va_cwS 3 hts (gS mw_815 mw_816 mw_2 mw_817) rfl rfl rfl (by decide +kernel) ⟨Nat.le_of_ble_eq_true rfl, Nat.le_of_ble_eq_true rfl⟩) (my_preS hPc hK hDc hE hS hFc) rfl rfl hl.1 rfl (lv_room (Nat.le_of_ble_eq_true rfl)) dX7_refill_5 ⟨Nat.le_of_ble_eq_true rfl, Nat.le_of_ble_eq_true rfl⟩) hS (fun q _ h => hFc q h) hFc (fun q _ h => hFc q h) (fun E9 ce9 q9 u9 t9 H1 locs1 ht9 hvm9 hp9 hB9 hz9 hk9 hS9 hc9 hv9 hcl9 => ?_) (fun u9 t9 H1 locs1 ht9 hvm9 hp9 _ _ _ _ => hp9.elim)
    have hZ := s4 hF
    rw [hQ]
    exact vx_out (fun x hx => (hout x hx).elim) hlocks hc9 hv9 hcl9 (fun t h1 h2 => ⟨(), trivial, ⟨hB9.trans (congrArg exn hZ), by rw [h1]; exact my_keep hP hk9⟩, hS9.F h1⟩) hS9.2.2 (Nat.le_of_ble_eq_true rfl) (Nat.le_of_ble_eq_true rfl)
  · dsimp only [tr] at hF
    have hPc : va_P (dC, dI) vwCl ([] : va_W) H := fun k q h => by simp at h
    have hDc : va_D A ([] : va_W) := ⟨fun i j p q h => by simp at h, fun k q h => by simp at h⟩
    have hFc := my_free0 hS hA
    refine va_callv (va_runS (As := [.int a1, .int 1, .int 999]) (rest := []) ⟨hx, hb, hml, hown, hts⟩ (c_X7_needRange l dC dI cy nb (a1) (1) (999) H.size e2) (va_cwS 3 hts (gS mw_815 mw_816 mw_2 mw_817) rfl rfl rfl (by decide +kernel) ⟨Nat.le_of_ble_eq_true rfl, Nat.le_of_ble_eq_true rfl⟩) (my_preS hPc hK hDc hE hS hFc) rfl rfl hl.1 rfl (lv_room (Nat.le_of_ble_eq_true rfl)) dX7_refill_5 ⟨Nat.le_of_ble_eq_true rfl, Nat.le_of_ble_eq_true rfl⟩) hS (fun q _ h => hFc q h) hFc (fun u t H1 locs ht hvm hw hB hz1 hk1 hS => ?_)
    obtain ⟨hP1, hD1⟩ := hB
    rw [ht] at hP1
    have hP := my_keep hP hk1
    generalize H1 = H at hP hS ⊢
    clear hP1 hD1 hPc hDc hFc hk1 hz1 hvm ht
    refine lv_aload_n hx hb dX7_refill_8 rfl (lv_at hl 0 rfl) ?_
    obtain ⟨q9, h9⟩ := wc_at (cy := cy) (ad := ad) (ks := ks) (g := g) (u := u0) (κ := .cl) hk.1 True.intro
    refine va_get (D := (dC, dI)) (ci := 7) (v := .ref (ad (.ln 0))) (C := RX7) (T := TX7) (N := 12) hx hb hts inlX7 hown hK hP q9 h9 rfl 0 (by decide) (hts _ mw_18) (fun _ h9 => h9) rfl dX7_refill_9 ?_
    clear h9
    obtain ⟨q9, h9⟩ := wc_at (cy := cy) (ad := ad) (ks := ks) (g := g) (u := u0) (κ := (.ln 0)) hk.1 (Or.inl (by decide))
    refine va_get (D := (dC, dI)) (ci := 3) (v := .int (u0 (10 + 0) 5)) (C := RX3) (T := TX3) (N := 17) hx hb hts inlX3 hown hK hP q9 h9 rfl 5 (by decide) (hts _ mw_573) (fun _ h9 => h9) rfl dX7_refill_12 ?_
    clear h9
    refine lv_iload_n hx hb dX7_refill_15 rfl (lv_at hl 1 rfl) ?_
    refine lv_iadd hx hb dX7_refill_16 ?_
    refine lv_sipush (v := 9999) hx hb dX7_refill_17 (by decide) ?_
    refine lv_icmp_le (tgt := 26) hx hb dX7_refill_20 (by decide) (fun c4 => ?_) (fun c4 => ?_)
    · rw [if_pos c4] at hF
      refine lv_aload_n hx hb dX7_refill_26 rfl (lv_at hl 0 rfl) ?_
      obtain ⟨t5, e6, hF⟩ := ob hF
      have hPc := hP
      have hDc := hD
      have hFc := my_free hD hS hA
      obtain ⟨q8, h8⟩ := wc_at (cy := cy) (ad := ad) (ks := ks) (g := g) (u := u0) (κ := .cl) hk.1 True.intro
      refine va_callv (va_runV (As := []) (rest := []) ⟨hx, hb, hml, hown, hts⟩ (c_X7_remember l dC dI cy nb ad ks g hk u0 (t5.1) (t5.2) H.size e6) (cwV 0 hts (gV mw_973 mw_974 mw_975 mw_2 mw_976) rfl rfl rfl (by decide +kernel) ⟨Nat.le_of_ble_eq_true rfl, Nat.le_of_ble_eq_true rfl⟩) (my_preV hPc hK hDc hE hS hFc (va_recv (q := (RX7, TX7, 12)) hK hP (ci := 7) (q0 := q8) rfl h8)) rfl rfl hl.1 rfl (lv_room (Nat.le_of_ble_eq_true rfl)) dX7_refill_27 ⟨Nat.le_of_ble_eq_true rfl, Nat.le_of_ble_eq_true rfl⟩) hS (fun q _ h => hFc q h) hFc (fun u t H1 locs ht hvm hw hB hz1 hk1 hS => ?_)
      clear h8
      obtain ⟨ad7, ks8, hk9, ax10, hP1, hD1⟩ := hB
      rw [ht] at hP1
      have hP := hP1
      have hD := hD1.weaken (fun k q _ h => hFc q.1 h)
      generalize H1 = H at hP hS ⊢
      have hl : lv_has ls 2 [(0, .ref (ad7 .cl)), (1, .int a1)] := by rw [(ax10 .cl True.intro).2]; exact hl
      clear hP1 hD1 hPc hDc hFc hk1 hz1 hvm ht
      refine W.widen (k := 67) (n := 831) (by omega) (by omega) ?_
      refine lv_aload_n hx hb dX7_refill_30 rfl (lv_at hl 0 rfl) ?_
      obtain ⟨q9, h9⟩ := wc_at (cy := cy) (ad := ad7) (ks := ks8) (g := (t5.1)) (u := (t5.2)) (κ := .cl) hk9.1 True.intro
      refine va_get (D := (dC, dI)) (ci := 7) (v := .ref (ad7 (.ln 0))) (C := RX7) (T := TX7) (N := 12) hx hb hts inlX7 hown hK hP q9 h9 rfl 0 (by decide) (hts _ mw_18) (fun _ h9 => h9) rfl dX7_refill_31 ?_
      clear h9
      refine lv_dup hx hb dX7_refill_34 rfl ?_
      obtain ⟨q9, h9⟩ := wc_at (cy := cy) (ad := ad7) (ks := ks8) (g := (t5.1)) (u := (t5.2)) (κ := (.ln 0)) hk9.1 (Or.inl (by decide))
      refine va_get (D := (dC, dI)) (ci := 3) (v := .int ((t5.2) (10 + 0) 5)) (C := RX3) (T := TX3) (N := 17) hx hb hts inlX3 hown hK hP q9 h9 rfl 5 (by decide) (hts _ mw_573) (fun _ h9 => h9) rfl dX7_refill_35 ?_
      clear h9
      refine lv_iload_n hx hb dX7_refill_38 rfl (lv_at hl 1 rfl) ?_
      refine lv_iadd hx hb dX7_refill_39 ?_
      obtain ⟨q9, h9, ez9⟩ := wc_set (cy := cy) (ad := ad7) (ks := ks8) (g := (t5.1)) (u := (t5.2)) (κ := (.ln 0)) (r := (10 + 0)) (i := 5) (v := (((t5.2) (10 + 0) 5) + a1)) hk9.1 (Or.inl (by decide)) (own_ln (show 0 < 12 by decide) (by decide)) (sf_ln_5)
      refine va_put (D := (dC, dI)) (ci := 3) (v := .int (((t5.2) (10 + 0) 5) + a1)) (ty := .int) (C := RX3) (T := TX3) (N := 17) hx hb hts inlX3 tyX3 tyX3_ok nmX3 hown hK hP hD hS q9 h9 rfl 5 (by decide) (hts _ mw_573) (fun _ h9 => h9) rfl (by decide +kernel) rfl rfl (Nat.le_of_ble_eq_true rfl) dX7_refill_40 (fun H locs hP hD hS => ?_)
      obtain ⟨u11, e12, hF⟩ := ob hF
      have hP : va_P (dC, dI) vwCl (WC cy ad7 ks8 (t5.1) u11) H := by rw [← pt_eq e12, ← ez9]; exact hP
      have hD : va_D A (WC cy ad7 ks8 (t5.1) u11) := by rw [← pt_eq e12, ← ez9]; exact hD
      clear ez9 h9
      refine lv_aload_n hx hb dX7_refill_43 rfl (lv_at hl 0 rfl) ?_
      obtain ⟨q9, h9⟩ := wc_at (cy := cy) (ad := ad7) (ks := ks8) (g := (t5.1)) (u := u11) (κ := .cl) hk9.1 True.intro
      refine va_get (D := (dC, dI)) (ci := 7) (v := .ref (ad7 (.ln 0))) (C := RX7) (T := TX7) (N := 12) hx hb hts inlX7 hown hK hP q9 h9 rfl 0 (by decide) (hts _ mw_18) (fun _ h9 => h9) rfl dX7_refill_44 ?_
      clear h9
      refine lv_dup hx hb dX7_refill_47 rfl ?_
      obtain ⟨q9, h9⟩ := wc_at (cy := cy) (ad := ad7) (ks := ks8) (g := (t5.1)) (u := u11) (κ := (.ln 0)) hk9.1 (Or.inl (by decide))
      refine va_get (D := (dC, dI)) (ci := 3) (v := .int (u11 (10 + 0) 4)) (C := RX3) (T := TX3) (N := 17) hx hb hts inlX3 hown hK hP q9 h9 rfl 4 (by decide) (hts _ mw_603) (fun _ h9 => h9) rfl dX7_refill_48 ?_
      clear h9
      refine lv_iload_n hx hb dX7_refill_51 rfl (lv_at hl 1 rfl) ?_
      refine lv_iadd hx hb dX7_refill_52 ?_
      obtain ⟨q9, h9, ez9⟩ := wc_set (cy := cy) (ad := ad7) (ks := ks8) (g := (t5.1)) (u := u11) (κ := (.ln 0)) (r := (10 + 0)) (i := 4) (v := ((u11 (10 + 0) 4) + a1)) hk9.1 (Or.inl (by decide)) (own_ln (show 0 < 12 by decide) (by decide)) (sf_ln_4)
      refine va_put (D := (dC, dI)) (ci := 3) (v := .int ((u11 (10 + 0) 4) + a1)) (ty := .int) (C := RX3) (T := TX3) (N := 17) hx hb hts inlX3 tyX3 tyX3_ok nmX3 hown hK hP hD hS q9 h9 rfl 4 (by decide) (hts _ mw_603) (fun _ h9 => h9) rfl (by decide +kernel) rfl rfl (Nat.le_of_ble_eq_true rfl) dX7_refill_53 (fun H locs hP hD hS => ?_)
      obtain ⟨u13, e14, hF⟩ := ob hF
      have hP : va_P (dC, dI) vwCl (WC cy ad7 ks8 (t5.1) u13) H := by rw [← pt_eq e14, ← ez9]; exact hP
      have hD : va_D A (WC cy ad7 ks8 (t5.1) u13) := by rw [← pt_eq e14, ← ez9]; exact hD
      clear ez9 h9
      refine lv_aload_n hx hb dX7_refill_56 rfl (lv_at hl 0 rfl) ?_
      obtain ⟨q9, h9⟩ := wc_at (cy := cy) (ad := ad7) (ks := ks8) (g := (t5.1)) (u := u13) (κ := .cl) hk9.1 True.intro
      refine va_get (D := (dC, dI)) (ci := 7) (v := .ref (ad7 (.ln 0))) (C := RX7) (T := TX7) (N := 12) hx hb hts inlX7 hown hK hP q9 h9 rfl 0 (by decide) (hts _ mw_18) (fun _ h9 => h9) rfl dX7_refill_57 ?_
      clear h9
      obtain ⟨q9, h9⟩ := wc_at (cy := cy) (ad := ad7) (ks := ks8) (g := (t5.1)) (u := u13) (κ := (.ln 0)) hk9.1 (Or.inl (by decide))
      refine va_get (D := (dC, dI)) (ci := 3) (v := .int (u13 (10 + 0) 5)) (C := RX3) (T := TX3) (N := 17) hx hb hts inlX3 hown hK hP q9 h9 rfl 5 (by decide) (hts _ mw_573) (fun _ h9 => h9) rfl dX7_refill_60 ?_
      clear h9
      cases hF
    · rw [if_neg c4] at hF
      refine lv_bipush (v := (-2)) hx hb dX7_refill_23 (by decide) ?_
      cases hF
