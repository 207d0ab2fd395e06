noncomputable def C6_hasReadyCard (g : CG) (u0 : RS) (L : Nat) (i : Nat) : Option (Int32) := (if (u0 (10 + L) (17 + 16 * i + 2)) = (-1) then (some (0 : Int32)) else (if (u0 (10 + L) (17 + 16 * i + 3)) = 0 then (some (1 : Int32)) else (some (0 : Int32))) : Option (Int32)).bind fun t2 => (nz t2).bind fun x5 => some x5
set_option maxHeartbeats 4000000 in
set_option maxRecDepth 100000 in
theorem c_X6_hasReadyCard (l : Launch) (dC : Nat → ClassId) (dI : Nat → Nat → Nat) (cy : Nat → ClassId) (nb : Nat → Nat) (ad : CK → Nat) (ks : List CK) (g : CG) (hk : GA nb ad g ks) (u0 : RS) (L : Nat) (i : Nat) (ro : Int32) (sz : Nat) (h_L_i : has g (.st L i)) (hF : C6_hasReadyCard g u0 L i = some ro) : Met l yX6_hasReadyCard (wsg yX6_hasReadyCard cX6_hasReadyCard 1 (some .boolean)) ({ frames := 7, cells := 0, slots := 0, locals := 200 }) (va_Pc [.ref (ad (.st L i))] (fun U => U.heap.size = sz ∧ va_P (dC, dI) vwCl (WC cy ad ks g u0) U.heap ∧ va_K (dC, dI) vwCl (tyL cy) U ∧ va_D (fun _ => True) (WC cy ad ks g u0) ∧ GE nb (va_A (WC cy ad ks g u0) sz) U)) (va_Qi (fun (r : Int32) (_ : Unit) => r = ro) (fun _ t => va_P (dC, dI) vwCl (WC cy ad ks g u0) t.heap ∧ va_D (va_A (WC cy ad ks g u0) sz) (WC cy ad ks g u0)) (va_A (WC cy ad ks g u0) sz)) 0 0 (va_A (WC cy ad ks g u0) sz) := by
  refine Met.ofW (cc := cX6_hasReadyCard) (maxL := 1) (ret := (some .boolean)) pn_X6 rfl ?_
  intro p e s m args below meth c s₁ B hml hv
  obtain ⟨rfl, hsz, hP, hK, hD0, hE⟩ := hv
  have hx := B.exec
  have hb := B.bytes
  have hr := B.returns
  have hts0 := atoms_spec (ws := (wsg yX6_hasReadyCard cX6_hasReadyCard 1 (some .boolean))) B.pre
  have hts : ∀ w ∈ wsL_law, w.before _ s = true := fun w h => hts0 w (List.mem_cons_of_mem _ h)
  have hown : s.vm.findClass RX6 = some m.cls := by have h9 := findClass_of_methodNamed B.named; exact h9
  have hlocks := B.notSynchronized
  subst hsz
  have hD := hD0.self (sz := s.heap.size)
  generalize hAe : va_A (WC cy ad ks g u0) s.heap.size = A at hD hE ⊢
  have hA : ∀ q : Nat, s.heap.size ≤ q → A q := fun q h => by rw [← hAe]; exact Or.inr h
  have hS : va_S A s.heap s.heap [] := va_S.rf
  have hl := lv_entry ([.ref (ad (.st L i))]) (n := 1) (Nat.le_of_ble_eq_true rfl)
  rw [lg_entry_eq]
  generalize (lg_sl ([.ref (ad (.st L i))]) ++ List.replicate (1 - (lg_sl ([.ref (ad (.st L i))])).length) Slot.unset).toArray = ls at hl ⊢
  have hl : lv_has ls 1 [(0, .ref (ad (.st L i)))] := hl
  generalize hHe : s.heap = H at hP hS ⊢
  have hS : va_S A s.heap H [] := by rw [hHe]; exact hS
  refine my_Q (fun Qn hQ => ?_)
  simp only [C6_hasReadyCard] at hF
  refine lv_aload_n hx hb dX6_hasReadyCard_0 rfl (lv_at hl 0 rfl) ?_
  obtain ⟨q9, h9⟩ := wc_at (cy := cy) (ad := ad) (ks := ks) (g := g) (u := u0) (κ := (.st L i)) hk.1 ⟨h_L_i.1, h_L_i.2⟩
  refine va_get (D := (dC, dI)) (ci := 6) (v := .int (u0 (10 + L) (17 + 16 * i + 2))) (C := RX6) (T := TX6) (N := 15) hx hb hts inlX6 hown hK hP q9 h9 rfl 3 (by decide) (hts _ mw_370) (fun _ h9 => h9) rfl dX6_hasReadyCard_1 ?_
  clear h9
  refine lv_iconst (v := (-1)) hx hb dX6_hasReadyCard_4 (by decide) ?_
  obtain ⟨t2, hJ3, hF⟩ := ob hF
  have join4 : ∀ (H : Heap) (locs : List Loc) (ls : Array Slot), va_P (dC, dI) vwCl (WC cy ad ks g u0) H → va_D A (WC cy ad ks g u0) → va_S A s.heap H locs → lv_has ls 1 [(0, .ref (ad (.st L i)))] → W p l e (headSpec (wsg yX6_hasReadyCard cX6_hasReadyCard 1 (some .boolean)) ({ frames := 7, cells := 0, slots := 0, locals := 200 })).room s m ([.ref (ad (.st L i))] : List Value).toArray below meth c H locs 0 0 Qn (F0 m 20 ls [.int t2]) := by
    intro H locs ls hP hD hS hl
    obtain ⟨x5, e6, hF⟩ := ob hF
    refine my_topi (y := x5) (nz_e e6) ?_
    have hZ := s1 hF
    have zro : x5 = ro := hZ
    have hP9 : va_P (dC, dI) vwCl (WC cy ad ks g u0) H := by exact hP
    have hD9 : va_D A (WC cy ad ks g u0) := by exact hD
    rw [hQ]
    exact W.zret (v := x5) hx hb hr (nz_n e6) (fun t ht hW => ⟨⟨x5, (), rfl, zro, by rw [ht]; exact hP9, hD9⟩, hS.F ht⟩) hS.2.2 dX6_hasReadyCard_20
  clear hF
  have hF := hJ3
  clear hJ3
  refine lv_icmp_eq (tgt := 19) hx hb dX6_hasReadyCard_5 (by decide) (fun c1 => ?_) (fun c1 => ?_)
  · rw [if_pos c1] at hF
    refine lv_iconst (v := 0) hx hb dX6_hasReadyCard_19 (by decide) ?_
    have ht := s1 hF
    subst ht
    exact join4 _ _ _ hP hD hS (lv_sub hl [0] rfl)
  · rw [if_neg c1] at hF
    refine lv_aload_n hx hb dX6_hasReadyCard_8 rfl (lv_at hl 0 rfl) ?_
    obtain ⟨q9, h9⟩ := wc_at (cy := cy) (ad := ad) (ks := ks) (g := g) (u := u0) (κ := (.st L i)) hk.1 ⟨h_L_i.1, h_L_i.2⟩
    refine va_get (D := (dC, dI)) (ci := 6) (v := .int (u0 (10 + L) (17 + 16 * i + 3))) (C := RX6) (T := TX6) (N := 15) hx hb hts inlX6 hown hK hP q9 h9 rfl 4 (by decide) (hts _ mw_371) (fun _ h9 => h9) rfl dX6_hasReadyCard_9 ?_
    clear h9
    refine lv_if_ne (tgt := 19) hx hb dX6_hasReadyCard_12 (by decide) (fun c7 => ?_) (fun c7 => ?_)
    · rw [if_neg c7] at hF
      refine lv_iconst (v := 0) hx hb dX6_hasReadyCard_19 (by decide) ?_
      have ht := s1 hF
      subst ht
      exact join4 _ _ _ hP hD hS (lv_sub hl [0] rfl)
    · rw [if_pos c7] at hF
      refine lv_iconst (v := 1) hx hb dX6_hasReadyCard_15 (by decide) ?_
      refine lv_goto (tgt := 20) hx hb dX6_hasReadyCard_16 (by decide) ?_
      have ht := s1 hF
      subst ht
      exact join4 _ _ _ hP hD hS (lv_sub hl [0] rfl)
noncomputable def C3_countReadyCards_L2 (L : Nat) (g : CG) : Nat → Int32 → RS → Option (Int32 × RS)
  | 0, _, _ => none
  | m8 + 1, y1, u2 => if (u2 (10 + L) 7) ≤ y1 then (some ((y1, u2))) else ((ix 6 y1).bind fun n10 => (C6_hasReadyCard g u2 L n10).bind fun x12 => (if x12 = 0 then (some u2) else ((wso u2 (10 + L) 12 5 4 ((u2 (10 + L) (12 + 4)) + 1)).bind fun u18 => some u18) : Option (RS)).bind fun t15 => C3_countReadyCards_L2 L g m8 ((y1 + 1)) t15)
noncomputable def C3_countReadyCards (g : CG) (u0 : RS) (L : Nat) : Option (RS) := (C3_countReadyCards_L2 L g FUEL (0 : Int32) u0).bind fun t3 => some (t3.2)
set_option maxHeartbeats 4000000 in
set_option maxRecDepth 100000 in
theorem c_X3_countReadyCards (l : Launch) (dC : Nat → ClassId) (dI : Nat → Nat → Nat) (cy : Nat → ClassId) (nb : Nat → Nat) (ad : CK → Nat) (ks : List CK) (g : CG) (hk : GA nb ad g ks) (u0 : RS) (L : Nat) (uz : RS) (sz : Nat) (h_L : has g (.ln L)) (hF : C3_countReadyCards g u0 L = some uz) : Met l yX3_countReadyCards (wsg yX3_countReadyCards cX3_countReadyCards 2 none) ({ frames := 8, cells := 0, slots := 0, locals := 300 }) (va_Pc [.ref (ad (.ln L))] (fun U => U.heap.size = sz ∧ va_P (dC, dI) vwCl (WC cy ad ks g u0) U.heap ∧ va_K (dC, dI) vwCl (tyL cy) U ∧ va_D (fun _ => True) (WC cy ad ks g u0) ∧ GE nb (va_A (WC cy ad ks g u0) sz) U)) (va_Qv (fun (_ : Unit) => True) (fun _ t => va_P (dC, dI) vwCl (WC cy ad ks g uz) t.heap ∧ va_D (va_A (WC cy ad ks g u0) sz) (WC cy ad ks g uz)) (va_A (WC cy ad ks g u0) sz)) 0 0 (va_A (WC cy ad ks g u0) sz) := by
  refine Met.ofW (cc := cX3_countReadyCards) (maxL := 2) (ret := none) pn_X3 rfl ?_
  intro p e s m args below meth c s₁ B hml hv
  obtain ⟨rfl, hsz, hP, hK, hD0, hE⟩ := hv
  have hx := B.exec
  have hb := B.bytes
  have hr := B.returns
  have hts0 := atoms_spec (ws := (wsg yX3_countReadyCards cX3_countReadyCards 2 none)) B.pre
  have hts : ∀ w ∈ wsL_law, w.before _ s = true := fun w h => hts0 w (List.mem_cons_of_mem _ h)
  have hown : s.vm.findClass RX3 = some m.cls := by have h9 := findClass_of_methodNamed B.named; exact h9
  have hlocks := B.notSynchronized
  subst hsz
  have hD := hD0.self (sz := s.heap.size)
  generalize hAe : va_A (WC cy ad ks g u0) s.heap.size = A at hD hE ⊢
  have hA : ∀ q : Nat, s.heap.size ≤ q → A q := fun q h => by rw [← hAe]; exact Or.inr h
  have hS : va_S A s.heap s.heap [] := va_S.rf
  have hl := lv_entry ([.ref (ad (.ln L))]) (n := 2) (Nat.le_of_ble_eq_true rfl)
  rw [lg_entry_eq]
  generalize (lg_sl ([.ref (ad (.ln L))]) ++ List.replicate (2 - (lg_sl ([.ref (ad (.ln L))])).length) Slot.unset).toArray = ls at hl ⊢
  have hl : lv_has ls 2 [(0, .ref (ad (.ln L)))] := hl
  generalize hHe : s.heap = H at hP hS ⊢
  have hS : va_S A s.heap H [] := by rw [hHe]; exact hS
  refine my_Q (fun Qn hQ => ?_)
  simp only [C3_countReadyCards] at hF
  refine lv_iconst (v := 0) hx hb dX3_countReadyCards_0 (by decide) ?_
  refine lv_istore_n (lv' := [(1, .int 0), (0, .ref (ad (.ln L)))]) hx hb dX3_countReadyCards_1 rfl hl (by decide) rfl (fun ls hl => ?_)
  obtain ⟨t3, hL4, hF⟩ := ob hF
  have kx5 : ∀ (H : Heap) (locs : List Loc) (ls : Array Slot), va_P (dC, dI) vwCl (WC cy ad ks g (t3.2)) H → va_D A (WC cy ad ks g (t3.2)) → va_S A s.heap H locs → lv_has ls 2 [(1, .int (t3.1)), (0, .ref (ad (.ln L)))] → W p l e (headSpec (wsg yX3_countReadyCards cX3_countReadyCards 2 none) ({ frames := 8, cells := 0, slots := 0, locals := 300 })).room s m ([.ref (ad (.ln L))] : List Value).toArray below meth c H locs 0 0 Qn (F0 m 38 ls []) := by
    intro H locs ls hP hD hS hl
    have hZ := s1 hF
    have zuz : (t3.2) = uz := hZ
    have hP9 : va_P (dC, dI) vwCl (WC cy ad ks g uz) H := by rw [← zuz]; exact hP
    have hD9 : va_D A (WC cy ad ks g uz) := by rw [← zuz]; exact hD
    rw [hQ]
    exact W.vret hx hb hr (fun t ht hW => ⟨⟨(), rfl, trivial, by rw [ht]; exact hP9, hD9⟩, hS.F ht⟩) hS.2.2 dX3_countReadyCards_38
  clear hF
  have loop7 : ∀ (m8 : Nat) (y1 : Int32) (u2 : RS), C3_countReadyCards_L2 L g m8 y1 u2 = some t3 → ∀ (H : Heap) (locs : List Loc) (ls : Array Slot), va_P (dC, dI) vwCl (WC cy ad ks g u2) H → va_D A (WC cy ad ks g u2) → va_S A s.heap H locs → lv_has ls 2 [(1, .int y1), (0, .ref (ad (.ln L)))] → W p l e (headSpec (wsg yX3_countReadyCards cX3_countReadyCards 2 none) ({ frames := 8, cells := 0, slots := 0, locals := 300 })).room s m ([.ref (ad (.ln L))] : List Value).toArray below meth c H locs 0 0 Qn (F0 m 2 ls []) := by
    intro m8
    induction m8 with
    | zero => intro y1 u2 hF; cases hF
    | succ m8 ih =>
      intro y1 u2 hF H locs ls hP hD hS hl
      simp only [C3_countReadyCards_L2] at hF
      refine lv_iload_n hx hb dX3_countReadyCards_2 rfl (lv_at hl 0 rfl) ?_
      refine lv_aload_n hx hb dX3_countReadyCards_3 rfl (lv_at hl 1 rfl) ?_
      obtain ⟨q9, h9⟩ := wc_at (cy := cy) (ad := ad) (ks := ks) (g := g) (u := u2) (κ := (.ln L)) hk.1 h_L
      refine va_get (D := (dC, dI)) (ci := 3) (v := .int (u2 (10 + L) 7)) (C := RX3) (T := TX3) (N := 17) hx hb hts inlX3 hown hK hP q9 h9 rfl 7 (by decide) (hts _ mw_86) (fun _ h9 => h9) rfl dX3_countReadyCards_4 ?_
      clear h9
      refine lv_icmp_ge (tgt := 38) hx hb dX3_countReadyCards_7 (by decide) (fun c9 => ?_) (fun c9 => ?_)
      · rw [if_pos c9] at hF
        have ht := s1 hF
        subst ht
        exact kx5 _ _ _ hP hD hS (lv_sub hl [0, 1] rfl)
      · rw [if_neg c9] at hF
        refine lv_aload_n hx hb dX3_countReadyCards_10 rfl (lv_at hl 1 rfl) ?_
        obtain ⟨q9, h9⟩ := wc_at (cy := cy) (ad := ad) (ks := ks) (g := g) (u := u2) (κ := (.ln L)) hk.1 h_L
        refine va_get (D := (dC, dI)) (ci := 3) (v := .ref (ad (.ss L))) (C := RX3) (T := TX3) (N := 17) hx hb hts inlX3 hown hK hP q9 h9 rfl 10 (by decide) (hts _ mw_41) (fun _ h9 => h9) rfl dX3_countReadyCards_11 ?_
        clear h9
        refine lv_iload_n hx hb dX3_countReadyCards_14 rfl (lv_at hl 0 rfl) ?_
        obtain ⟨n10, e11, hF⟩ := ob hF
        obtain ⟨q9, h9⟩ := wc_at (cy := cy) (ad := ad) (ks := ks) (g := g) (u := u2) (κ := (.ss L)) hk.1 h_L
        refine va_aldq hx hb hK hP q9 6 h9 rfl (ix_in e11) dX3_countReadyCards_15 ?_
        refine my_top (y := .ref (ad (.st L n10))) (ixv (F := fun j => ad (.st L j)) e11) ?_
        clear h9
        obtain ⟨x12, e13, hF⟩ := ob hF
        have hPc := hP
        have hDc := hD
        have hFc := my_free hD hS hA
        obtain ⟨q8, h8⟩ := wc_at (cy := cy) (ad := ad) (ks := ks) (g := g) (u := u2) (κ := (.st L n10)) hk.1 ⟨h_L, (ix_lt e11)⟩
        refine va_calli (va_runV (As := []) (rest := []) ⟨hx, hb, hml, hown, hts⟩ (c_X6_hasReadyCard l dC dI cy nb ad ks g hk u2 L n10 (x12) H.size ⟨h_L, (ix_lt e11)⟩ e13) (cwV 0 hts (gV mw_1166 mw_1167 mw_1168 mw_50 mw_1169) rfl rfl rfl (by decide +kernel) ⟨Nat.le_of_ble_eq_true rfl, Nat.le_of_ble_eq_true rfl⟩) (my_preV hPc hK hDc hE hS hFc (va_recv (q := (RX6, TX6, 15)) hK hP (ci := 6) (q0 := q8) rfl h8)) rfl rfl hl.1 rfl (lv_room (Nat.le_of_ble_eq_true rfl)) dX3_countReadyCards_16 ⟨Nat.le_of_ble_eq_true rfl, Nat.le_of_ble_eq_true rfl⟩) hS (fun q _ h => hFc q h) hFc (fun r u t H1 locs ht hvm hw hB hz1 hk1 hS => ?_)
        clear h8
        obtain ⟨hP1, hD1⟩ := hB
        rw [ht] at hP1
        have hP := hP1
        have hD := hD1.weaken (fun k q _ h => hFc q.1 h)
        generalize H1 = H at hP hS ⊢
        clear hP1 hD1 hPc hDc hFc hk1 hz1 hvm ht
        obtain rfl := hw.symm
        obtain ⟨t15, hJ16, hF⟩ := ob hF
        have join17 : ∀ (H : Heap) (locs : List Loc) (ls : Array Slot), va_P (dC, dI) vwCl (WC cy ad ks g t15) H → va_D A (WC cy ad ks g t15) → va_S A s.heap H locs → lv_has ls 2 [(1, .int y1), (0, .ref (ad (.ln L)))] → W p l e (headSpec (wsg yX3_countReadyCards cX3_countReadyCards 2 none) ({ frames := 8, cells := 0, slots := 0, locals := 300 })).room s m ([.ref (ad (.ln L))] : List Value).toArray below meth c H locs 0 0 Qn (F0 m 32 ls []) := by
          intro H locs ls hP hD hS hl
          refine lv_iinc (v := (y1 + 1)) (lv' := [(1, .int (y1 + 1)), (0, .ref (ad (.ln L)))]) hx hb dX3_countReadyCards_32 hl (k := 0) rfl (by rfl) (by decide) rfl (fun ls hl => ?_)
          refine lv_goto (tgt := 2) hx hb dX3_countReadyCards_35 (by decide) ?_
          exact ih _ _ hF _ _ _ hP hD hS (lv_sub hl [0, 1] rfl)
        clear hF
        have hF := hJ16
        clear hJ16
        refine lv_if_eq (tgt := 32) hx hb dX3_countReadyCards_19 (by decide) (fun c14 => ?_) (fun c14 => ?_)
        · rw [if_pos c14] at hF
          have ht := s1 hF
          subst ht
          exact join17 _ _ _ hP hD hS (lv_sub hl [0, 1] rfl)
        · rw [if_neg c14] at hF
          refine lv_aload_n hx hb dX3_countReadyCards_22 rfl (lv_at hl 1 rfl) ?_
          obtain ⟨q9, h9⟩ := wc_at (cy := cy) (ad := ad) (ks := ks) (g := g) (u := u2) (κ := (.ln L)) hk.1 h_L
          refine va_get (D := (dC, dI)) (ci := 3) (v := .ref (ad (.tt L))) (C := RX3) (T := TX3) (N := 17) hx hb hts inlX3 hown hK hP q9 h9 rfl 15 (by decide) (hts _ mw_48) (fun _ h9 => h9) rfl dX3_countReadyCards_23 ?_
          clear h9
          refine lv_iconst (v := 4) hx hb dX3_countReadyCards_26 (by decide) ?_
          refine lv_dup2_11 hx hb dX3_countReadyCards_27 rfl rfl ?_
          obtain ⟨q9, h9⟩ := wc_at (cy := cy) (ad := ad) (ks := ks) (g := g) (u := u2) (κ := (.tt L)) hk.1 h_L
          refine va_iald hx hb hK hP q9 1 h9 rfl (vp_in_nI (n := 4) (by decide) (by decide)) dX3_countReadyCards_28 ?_
          refine my_topi (y := (u2 (10 + L) (12 + 4))) (by rfl) ?_
          clear h9
          refine lv_iconst (v := 1) hx hb dX3_countReadyCards_29 (by decide) ?_
          refine lv_iadd hx hb dX3_countReadyCards_30 ?_
          obtain ⟨u18, e19, hF⟩ := ob hF
          obtain ⟨q9, h9, ez9⟩ := wc_set (cy := cy) (ad := ad) (ks := ks) (g := g) (u := u2) (κ := (.tt L)) (r := (10 + L)) (i := (12 + (4 : Int32).toNatClampNeg)) (v := ((u2 (10 + L) (12 + 4)) + 1)) hk.1 h_L (own_tt (inl_lt h_L) (vp_in_lt (wso_in e19))) (sf_tt (vp_in_lt (wso_in e19)))
          refine va_iast hx hb hK hP hD hS q9 1 h9 rfl (wso_in e19) dX3_countReadyCards_31 (fun H locs hP hD hS => ?_)
          have hP : va_P (dC, dI) vwCl (WC cy ad ks g u18) H := by rw [← wso_eq e19, ← ez9]; exact hP
          have hD : va_D A (WC cy ad ks g u18) := by rw [← wso_eq e19, ← ez9]; exact hD
          clear ez9 h9
          have ht := s1 hF
          subst ht
          exact join17 _ _ _ hP hD hS (lv_sub hl [0, 1] rfl)
  exact loop7 FUEL _ _ hL4 _ _ _ hP hD hS (lv_sub hl [0, 1] rfl)
noncomputable def C3_daysOver (g : CG) (u0 : RS) (L : Nat) : Option (Int32) := (if (u0 (10 + L) 0) ≤ 0 then (some (0 : Int32)) else ((dv (u0 (10 + L) 6) (u0 (10 + L) 0)).bind fun x5 => some x5) : Option (Int32)).bind fun t2 => some t2
set_option maxHeartbeats 4000000 in
set_option maxRecDepth 100000 in
theorem c_X3_daysOver (l : Launch) (dC : Nat → ClassId) (dI : Nat → Nat → Nat) (cy : Nat → ClassId) (nb : Nat → Nat) (ad : CK → Nat) (ks : List CK) (g : CG) (hk : GA nb ad g ks) (u0 : RS) (L : Nat) (ro : Int32) (sz : Nat) (h_L : has g (.ln L)) (hF : C3_daysOver g u0 L = some ro) : Met l yX3_daysOver (wsg yX3_daysOver cX3_daysOver 1 (some .int)) ({ frames := 7, cells := 0, slots := 0, locals := 200 }) (va_Pc [.ref (ad (.ln L))] (fun U => U.heap.size = sz ∧ va_P (dC, dI) vwCl (WC cy ad ks g u0) U.heap ∧ va_K (dC, dI) vwCl (tyL cy) U ∧ va_D (fun _ => True) (WC cy ad ks g u0) ∧ GE nb (va_A (WC cy ad ks g u0) sz) U)) (va_Qi (fun (r : Int32) (_ : Unit) => r = ro) (fun _ t => va_P (dC, dI) vwCl (WC cy ad ks g u0) t.heap ∧ va_D (va_A (WC cy ad ks g u0) sz) (WC cy ad ks g u0)) (va_A (WC cy ad ks g u0) sz)) 0 0 (va_A (WC cy ad ks g u0) sz) := by
  refine Met.ofW (cc := cX3_daysOver) (maxL := 1) (ret := (some .int)) pn_X3 rfl ?_
  intro p e s m args below meth c s₁ B hml hv
  obtain ⟨rfl, hsz, hP, hK, hD0, hE⟩ := hv
  have hx := B.exec
  have hb := B.bytes
  have hr := B.returns
  have hts0 := atoms_spec (ws := (wsg yX3_daysOver cX3_daysOver 1 (some .int))) B.pre
  have hts : ∀ w ∈ wsL_law, w.before _ s = true := fun w h => hts0 w (List.mem_cons_of_mem _ h)
  have hown : s.vm.findClass RX3 = some m.cls := by have h9 := findClass_of_methodNamed B.named; exact h9
  have hlocks := B.notSynchronized
  subst hsz
  have hD := hD0.self (sz := s.heap.size)
  generalize hAe : va_A (WC cy ad ks g u0) s.heap.size = A at hD hE ⊢
  have hA : ∀ q : Nat, s.heap.size ≤ q → A q := fun q h => by rw [← hAe]; exact Or.inr h
  have hS : va_S A s.heap s.heap [] := va_S.rf
  have hl := lv_entry ([.ref (ad (.ln L))]) (n := 1) (Nat.le_of_ble_eq_true rfl)
  rw [lg_entry_eq]
  generalize (lg_sl ([.ref (ad (.ln L))]) ++ List.replicate (1 - (lg_sl ([.ref (ad (.ln L))])).length) Slot.unset).toArray = ls at hl ⊢
  have hl : lv_has ls 1 [(0, .ref (ad (.ln L)))] := hl
  generalize hHe : s.heap = H at hP hS ⊢
  have hS : va_S A s.heap H [] := by rw [hHe]; exact hS
  refine my_Q (fun Qn hQ => ?_)
  simp only [C3_daysOver] at hF
  refine lv_aload_n hx hb dX3_daysOver_0 rfl (lv_at hl 0 rfl) ?_
  obtain ⟨q9, h9⟩ := wc_at (cy := cy) (ad := ad) (ks := ks) (g := g) (u := u0) (κ := (.ln L)) hk.1 h_L
  refine va_get (D := (dC, dI)) (ci := 3) (v := .int (u0 (10 + L) 0)) (C := RX3) (T := TX3) (N := 17) hx hb hts inlX3 hown hK hP q9 h9 rfl 0 (by decide) (hts _ mw_39) (fun _ h9 => h9) rfl dX3_daysOver_1 ?_
  clear h9
  obtain ⟨t2, hJ3, hF⟩ := ob hF
  have join4 : ∀ (H : Heap) (locs : List Loc) (ls : Array Slot), va_P (dC, dI) vwCl (WC cy ad ks g u0) H → va_D A (WC cy ad ks g u0) → va_S A s.heap H locs → lv_has ls 1 [(0, .ref (ad (.ln L)))] → W p l e (headSpec (wsg yX3_daysOver cX3_daysOver 1 (some .int)) ({ frames := 7, cells := 0, slots := 0, locals := 200 })).room s m ([.ref (ad (.ln L))] : List Value).toArray below meth c H locs 0 0 Qn (F0 m 20 ls [.int t2]) := by
    intro H locs ls hP hD hS hl
    have hZ := s1 hF
    have zro : t2 = ro := hZ
    have hP9 : va_P (dC, dI) vwCl (WC cy ad ks g u0) H := by exact hP
    have hD9 : va_D A (WC cy ad ks g u0) := by exact hD
    rw [hQ]
    exact W.iret (v := t2) hx hb hr (fun t ht hW => ⟨⟨t2, (), rfl, zro, by rw [ht]; exact hP9, hD9⟩, hS.F ht⟩) hS.2.2 dX3_daysOver_20
  clear hF
  have hF := hJ3
  clear hJ3
  refine lv_if_le (tgt := 19) hx hb dX3_daysOver_4 (by decide) (fun c1 => ?_) (fun c1 => ?_)
  · rw [if_pos c1] at hF
    refine lv_iconst (v := 0) hx hb dX3_daysOver_19 (by decide) ?_
    have ht := s1 hF
    subst ht
    exact join4 _ _ _ hP hD hS (lv_sub hl [0] rfl)
  · rw [if_neg c1] at hF
    refine lv_aload_n hx hb dX3_daysOver_7 rfl (lv_at hl 0 rfl) ?_
    obtain ⟨q9, h9⟩ := wc_at (cy := cy) (ad := ad) (ks := ks) (g := g) (u := u0) (κ := (.ln L)) hk.1 h_L
    refine va_get (D := (dC, dI)) (ci := 3) (v := .int (u0 (10 + L) 6)) (C := RX3) (T := TX3) (N := 17) hx hb hts inlX3 hown hK hP q9 h9 rfl 6 (by decide) (hts _ mw_85) (fun _ h9 => h9) rfl dX3_daysOver_8 ?_
    clear h9
    refine lv_aload_n hx hb dX3_daysOver_11 rfl (lv_at hl 0 rfl) ?_
    obtain ⟨q9, h9⟩ := wc_at (cy := cy) (ad := ad) (ks := ks) (g := g) (u := u0) (κ := (.ln L)) hk.1 h_L
    refine va_get (D := (dC, dI)) (ci := 3) (v := .int (u0 (10 + L) 0)) (C := RX3) (T := TX3) (N := 17) hx hb hts inlX3 hown hK hP q9 h9 rfl 0 (by decide) (hts _ mw_39) (fun _ h9 => h9) rfl dX3_daysOver_12 ?_
    clear h9
    obtain ⟨x5, e6, hF⟩ := ob hF
    refine lv_idiv hx hb dX3_daysOver_15 (dv_ne e6) ?_
    refine my_topi (y := x5) (dv_eq e6) ?_
    refine lv_goto (tgt := 20) hx hb dX3_daysOver_16 (by decide) ?_
    have ht := s1 hF
    subst ht
    exact join4 _ _ _ hP hD hS (lv_sub hl [0] rfl)
noncomputable def C3_emptyTray_L31 (y1 : Int32) (L : Nat) (g : CG) : Nat → Int32 → Int32 → RS → Option (Int32 × Int32 × RS)
  | 0, _, _, _ => none
  | m23 + 1, y15, y16, u17 => if 30 ≤ y15 then (some ((y15, y16, u17))) else (if y16 = (-1) then (some ((y15, y16, u17))) else ((ix 30 y16).bind fun n26 => if (u17 (10 + L) (137 + 25 * n26 + 3)) = 2 then ((C3_leave g u17 L (y16)).bind fun u29 => (pt u29 (10 + L) 1060 (1)).bind fun u31 => (ix 6 y1).bind fun n33 => (C4_nextCard g u31 L n33).bind fun x35 => C3_emptyTray_L31 y1 L g m23 ((y15 + 1)) (x35) u31) else (some ((y15, y16, u17)))))
noncomputable def C3_emptyTray_L2 (L : Nat) (g : CG) : Nat → Int32 → RS → Option (Int32 × RS)
  | 0, _, _ => none
  | m8 + 1, y1, u2 => if (u2 (10 + L) 8) ≤ y1 then (some ((y1, u2))) else (if (u2 (400 + L) 2) ≤ 0 then (some ((y1, u2))) else ((ix 6 y1).bind fun n11 => (C4_nextCard g u2 L n11).bind fun x13 => (C3_emptyTray_L31 y1 L g FUEL (0 : Int32) (x13) u2).bind fun t18 => C3_emptyTray_L2 L g m8 ((y1 + 1)) (t18.2.2)))
noncomputable def C3_emptyTray (g : CG) (u0 : RS) (L : Nat) : Option (RS) := (C3_emptyTray_L2 L g FUEL (0 : Int32) u0).bind fun t3 => some (t3.2)
set_option maxHeartbeats 4000000 in
set_option maxRecDepth 100000 in
theorem c_X3_emptyTray (l : Launch) (dC : Nat → ClassId) (dI : Nat → Nat → Nat) (cy : Nat → ClassId) (nb : Nat → Nat) (ad : CK → Nat) (ks : List CK) (g : CG) (hk : GA nb ad g ks) (u0 : RS) (L : Nat) (uz : RS) (sz : Nat) (h_L : has g (.ln L)) (hF : C3_emptyTray g u0 L = some uz) : Met l yX3_emptyTray (wsg yX3_emptyTray cX3_emptyTray 4 none) ({ frames := 10, cells := 0, slots := 0, locals := 500 }) (va_Pc [.ref (ad (.ln L))] (fun U => U.heap.size = sz ∧ va_P (dC, dI) vwCl (WC cy ad ks g u0) U.heap ∧ va_K (dC, dI) vwCl (tyL cy) U ∧ va_D (fun _ => True) (WC cy ad ks g u0) ∧ GE nb (va_A (WC cy ad ks g u0) sz) U)) (va_Qv (fun (_ : Unit) => True) (fun _ t => va_P (dC, dI) vwCl (WC cy ad ks g uz) t.heap ∧ va_D (va_A (WC cy ad ks g u0) sz) (WC cy ad ks g uz)) (va_A (WC cy ad ks g u0) sz)) 0 0 (va_A (WC cy ad ks g u0) sz) := by
  refine Met.ofW (cc := cX3_emptyTray) (maxL := 4) (ret := none) pn_X3 rfl ?_
  intro p e s m args below meth c s₁ B hml hv
  obtain ⟨rfl, hsz, hP, hK, hD0, hE⟩ := hv
  have hx := B.exec
  have hb := B.bytes
  have hr := B.returns
  have hts0 := atoms_spec (ws := (wsg yX3_emptyTray cX3_emptyTray 4 none)) B.pre
  have hts : ∀ w ∈ wsL_law, w.before _ s = true := fun w h => hts0 w (List.mem_cons_of_mem _ h)
  have hown : s.vm.findClass RX3 = some m.cls := by have h9 := findClass_of_methodNamed B.named; exact h9
  have hlocks := B.notSynchronized
  subst hsz
  have hD := hD0.self (sz := s.heap.size)
  generalize hAe : va_A (WC cy ad ks g u0) s.heap.size = A at hD hE ⊢
  have hA : ∀ q : Nat, s.heap.size ≤ q → A q := fun q h => by rw [← hAe]; exact Or.inr h
  have hS : va_S A s.heap s.heap [] := va_S.rf
  have hl := lv_entry ([.ref (ad (.ln L))]) (n := 4) (Nat.le_of_ble_eq_true rfl)
  rw [lg_entry_eq]
  generalize (lg_sl ([.ref (ad (.ln L))]) ++ List.replicate (4 - (lg_sl ([.ref (ad (.ln L))])).length) Slot.unset).toArray = ls at hl ⊢
  have hl : lv_has ls 4 [(0, .ref (ad (.ln L)))] := hl
  generalize hHe : s.heap = H at hP hS ⊢
  have hS : va_S A s.heap H [] := by rw [hHe]; exact hS
  refine my_Q (fun Qn hQ => ?_)
  simp only [C3_emptyTray] at hF
  refine lv_iconst (v := 0) hx hb dX3_emptyTray_0 (by decide) ?_
  refine lv_istore_n (lv' := [(1, .int 0), (0, .ref (ad (.ln L)))]) hx hb dX3_emptyTray_1 rfl hl (by decide) rfl (fun ls hl => ?_)
  obtain ⟨t3, hL4, hF⟩ := ob hF
  have kx5 : ∀ (H : Heap) (locs : List Loc) (ls : Array Slot), va_P (dC, dI) vwCl (WC cy ad ks g (t3.2)) H → va_D A (WC cy ad ks g (t3.2)) → va_S A s.heap H locs → lv_has ls 4 [(1, .int (t3.1)), (0, .ref (ad (.ln L)))] → W p l e (headSpec (wsg yX3_emptyTray cX3_emptyTray 4 none) ({ frames := 10, cells := 0, slots := 0, locals := 500 })).room s m ([.ref (ad (.ln L))] : List Value).toArray below meth c H locs 0 0 Qn (F0 m 87 ls []) := by
    intro H locs ls hP hD hS hl
    have hZ := s1 hF
    have zuz : (t3.2) = uz := hZ
    have hP9 : va_P (dC, dI) vwCl (WC cy ad ks g uz) H := by rw [← zuz]; exact hP
    have hD9 : va_D A (WC cy ad ks g uz) := by rw [← zuz]; exact hD
    rw [hQ]
    exact W.vret hx hb hr (fun t ht hW => ⟨⟨(), rfl, trivial, by rw [ht]; exact hP9, hD9⟩, hS.F ht⟩) hS.2.2 dX3_emptyTray_87
  clear hF
  have loop7 : ∀ (m8 : Nat) (y1 : Int32) (u2 : RS), C3_emptyTray_L2 L g m8 y1 u2 = some t3 → ∀ (H : Heap) (locs : List Loc) (ls : Array Slot), va_P (dC, dI) vwCl (WC cy ad ks g u2) H → va_D A (WC cy ad ks g u2) → va_S A s.heap H locs → lv_has ls 4 [(1, .int y1), (0, .ref (ad (.ln L)))] → W p l e (headSpec (wsg yX3_emptyTray cX3_emptyTray 4 none) ({ frames := 10, cells := 0, slots := 0, locals := 500 })).room s m ([.ref (ad (.ln L))] : List Value).toArray below meth c H locs 0 0 Qn (F0 m 2 ls []) := by
    intro m8
    induction m8 with
    | zero => intro y1 u2 hF; cases hF
    | succ m8 ih =>
      intro y1 u2 hF H locs ls hP hD hS hl
      simp only [C3_emptyTray_L2] at hF
      refine lv_iload_n hx hb dX3_emptyTray_2 rfl (lv_at hl 0 rfl) ?_
      refine lv_aload_n hx hb dX3_emptyTray_3 rfl (lv_at hl 1 rfl) ?_
      obtain ⟨q9, h9⟩ := wc_at (cy := cy) (ad := ad) (ks := ks) (g := g) (u := u2) (κ := (.ln L)) hk.1 h_L
      refine va_get (D := (dC, dI)) (ci := 3) (v := .int (u2 (10 + L) 8)) (C := RX3) (T := TX3) (N := 17) hx hb hts inlX3 hown hK hP q9 h9 rfl 8 (by decide) (hts _ mw_87) (fun _ h9 => h9) rfl dX3_emptyTray_4 ?_
      clear h9
      refine lv_icmp_ge (tgt := 87) hx hb dX3_emptyTray_7 (by decide) (fun c9 => ?_) (fun c9 => ?_)
      · rw [if_pos c9] at hF
        have ht := s1 hF
        subst ht
        exact kx5 _ _ _ hP hD hS (lv_sub hl [0, 1] rfl)
      · rw [if_neg c9] at hF
        refine lv_aload_n hx hb dX3_emptyTray_10 rfl (lv_at hl 1 rfl) ?_
        obtain ⟨q9, h9⟩ := wc_at (cy := cy) (ad := ad) (ks := ks) (g := g) (u := u2) (κ := (.ln L)) hk.1 h_L
        refine va_get (D := (dC, dI)) (ci := 3) (v := .ref (ad (.is L))) (C := RX3) (T := TX3) (N := 17) hx hb hts inlX3 hown hK hP q9 h9 rfl 13 (by decide) (hts _ mw_46) (fun _ h9 => h9) rfl dX3_emptyTray_11 ?_
        clear h9
        refine lv_iconst (v := 2) hx hb dX3_emptyTray_14 (by decide) ?_
        obtain ⟨q9, h9⟩ := wc_at (cy := cy) (ad := ad) (ks := ks) (g := g) (u := u2) (κ := (.is L)) hk.1 h_L
        refine va_iald hx hb hK hP q9 1 h9 rfl (vp_in_nI (n := 2) (by decide) (by decide)) dX3_emptyTray_15 ?_
        refine my_topi (y := (u2 (400 + L) 2)) (by rfl) ?_
        clear h9
        refine lv_if_le (tgt := 87) hx hb dX3_emptyTray_16 (by decide) (fun c10 => ?_) (fun c10 => ?_)
        · rw [if_pos c10] at hF
          have ht := s1 hF
          subst ht
          exact kx5 _ _ _ hP hD hS (lv_sub hl [0, 1] rfl)
        · rw [if_neg c10] at hF
          refine lv_aload_n hx hb dX3_emptyTray_19 rfl (lv_at hl 1 rfl) ?_
          obtain ⟨q9, h9⟩ := wc_at (cy := cy) (ad := ad) (ks := ks) (g := g) (u := u2) (κ := (.ln L)) hk.1 h_L
          refine va_get (D := (dC, dI)) (ci := 3) (v := .ref (ad (.ls L))) (C := RX3) (T := TX3) (N := 17) hx hb hts inlX3 hown hK hP q9 h9 rfl 11 (by decide) (hts _ mw_43) (fun _ h9 => h9) rfl dX3_emptyTray_20 ?_
          clear h9
          refine lv_iload_n hx hb dX3_emptyTray_23 rfl (lv_at hl 0 rfl) ?_
          obtain ⟨n11, e12, hF⟩ := ob hF
          obtain ⟨q9, h9⟩ := wc_at (cy := cy) (ad := ad) (ks := ks) (g := g) (u := u2) (κ := (.ls L)) hk.1 h_L
          refine va_aldq hx hb hK hP q9 7 h9 rfl (ix_in e12) dX3_emptyTray_24 ?_
          refine my_top (y := .ref (ad (.lo L n11))) (ixv (F := fun j => ad (.lo L j)) e12) ?_
          clear h9
          obtain ⟨x13, e14, hF⟩ := ob hF
          have hPc := hP
          have hDc := hD
          have hFc := my_free hD hS hA
          obtain ⟨q8, h8⟩ := wc_at (cy := cy) (ad := ad) (ks := ks) (g := g) (u := u2) (κ := (.lo L n11)) hk.1 ⟨h_L, (ix_lt e12)⟩
          refine va_calli (va_runV (As := []) (rest := []) ⟨hx, hb, hml, hown, hts⟩ (c_X4_nextCard l dC dI cy nb ad ks g hk u2 L n11 (x13) H.size ⟨h_L, (ix_lt e12)⟩ e14) (cwV 0 hts (gV mw_1179 mw_709 mw_710 mw_52 mw_711) rfl rfl rfl (by decide +kernel) ⟨Nat.le_of_ble_eq_true rfl, Nat.le_of_ble_eq_true rfl⟩) (my_preV hPc hK hDc hE hS hFc (va_recv (q := (RX4, TX4, 12)) hK hP (ci := 4) (q0 := q8) rfl h8)) rfl rfl hl.1 rfl (lv_room (Nat.le_of_ble_eq_true rfl)) dX3_emptyTray_25 ⟨Nat.le_of_ble_eq_true rfl, Nat.le_of_ble_eq_true rfl⟩) hS (fun q _ h => hFc q h) hFc (fun r u t H1 locs ht hvm hw hB hz1 hk1 hS => ?_)
          clear h8
          obtain ⟨hP1, hD1⟩ := hB
          rw [ht] at hP1
          have hP := hP1
          have hD := hD1.weaken (fun k q _ h => hFc q.1 h)
          generalize H1 = H at hP hS ⊢
          clear hP1 hD1 hPc hDc hFc hk1 hz1 hvm ht
          obtain rfl := hw.symm
          refine lv_istore_n (lv' := [(2, .int x13), (1, .int y1), (0, .ref (ad (.ln L)))]) hx hb dX3_emptyTray_28 rfl hl (by decide) rfl (fun ls hl => ?_)
          refine lv_iconst (v := 0) hx hb dX3_emptyTray_29 (by decide) ?_
          refine lv_istore_n (lv' := [(3, .int 0), (2, .int x13), (1, .int y1), (0, .ref (ad (.ln L)))]) hx hb dX3_emptyTray_30 rfl hl (by decide) rfl (fun ls hl => ?_)
          obtain ⟨t18, hL19, hF⟩ := ob hF
          have kx20 : ∀ (H : Heap) (locs : List Loc) (ls : Array Slot), va_P (dC, dI) vwCl (WC cy ad ks g (t18.2.2)) H → va_D A (WC cy ad ks g (t18.2.2)) → va_S A s.heap H locs → lv_has ls 4 [(3, .int (t18.1)), (2, .int (t18.2.1)), (1, .int y1), (0, .ref (ad (.ln L)))] → W p l e (headSpec (wsg yX3_emptyTray cX3_emptyTray 4 none) ({ frames := 10, cells := 0, slots := 0, locals := 500 })).room s m ([.ref (ad (.ln L))] : List Value).toArray below meth c H locs 0 0 Qn (F0 m 81 ls []) := by
            intro H locs ls hP hD hS hl
            refine lv_iinc (v := (y1 + 1)) (lv' := [(1, .int (y1 + 1)), (3, .int (t18.1)), (2, .int (t18.2.1)), (0, .ref (ad (.ln L)))]) hx hb dX3_emptyTray_81 hl (k := 2) rfl (by rfl) (by decide) rfl (fun ls hl => ?_)
            refine lv_goto (tgt := 2) hx hb dX3_emptyTray_84 (by decide) ?_
            exact ih _ _ hF _ _ _ hP hD hS (lv_sub hl [0, 3] rfl)
          clear hF
          have loop22 : ∀ (m23 : Nat) (y15 : Int32) (y16 : Int32) (u17 : RS), C3_emptyTray_L31 y1 L g m23 y15 y16 u17 = some t18 → ∀ (H : Heap) (locs : List Loc) (ls : Array Slot), va_P (dC, dI) vwCl (WC cy ad ks g u17) H → va_D A (WC cy ad ks g u17) → va_S A s.heap H locs → lv_has ls 4 [(3, .int y15), (2, .int y16), (1, .int y1), (0, .ref (ad (.ln L)))] → W p l e (headSpec (wsg yX3_emptyTray cX3_emptyTray 4 none) ({ frames := 10, cells := 0, slots := 0, locals := 500 })).room s m ([.ref (ad (.ln L))] : List Value).toArray below meth c H locs 0 0 Qn (F0 m 31 ls []) := by
            intro m23
            induction m23 with
            | zero => intro y15 y16 u17 hF; cases hF
            | succ m23 ih =>
              intro y15 y16 u17 hF H locs ls hP hD hS hl
              simp only [C3_emptyTray_L31] at hF
              refine lv_iload_n hx hb dX3_emptyTray_31 rfl (lv_at hl 0 rfl) ?_
              refine lv_bipush (v := 30) hx hb dX3_emptyTray_32 (by decide) ?_
              refine lv_icmp_ge (tgt := 81) hx hb dX3_emptyTray_34 (by decide) (fun c24 => ?_) (fun c24 => ?_)
              · rw [if_pos c24] at hF
                have ht := s1 hF
                subst ht
                exact kx20 _ _ _ hP hD hS (lv_sub hl [0, 1, 2, 3] rfl)
              · rw [if_neg c24] at hF
                refine lv_iload_n hx hb dX3_emptyTray_37 rfl (lv_at hl 1 rfl) ?_
                refine lv_iconst (v := (-1)) hx hb dX3_emptyTray_38 (by decide) ?_
                refine lv_icmp_eq (tgt := 81) hx hb dX3_emptyTray_39 (by decide) (fun c25 => ?_) (fun c25 => ?_)
                · rw [if_pos c25] at hF
                  have ht := s1 hF
                  subst ht
                  exact kx20 _ _ _ hP hD hS (lv_sub hl [0, 1, 2, 3] rfl)
                · rw [if_neg c25] at hF
                  refine lv_aload_n hx hb dX3_emptyTray_42 rfl (lv_at hl 3 rfl) ?_
                  obtain ⟨q9, h9⟩ := wc_at (cy := cy) (ad := ad) (ks := ks) (g := g) (u := u17) (κ := (.ln L)) hk.1 h_L
                  refine va_get (D := (dC, dI)) (ci := 3) (v := .ref (ad (.cs L))) (C := RX3) (T := TX3) (N := 17) hx hb hts inlX3 hown hK hP q9 h9 rfl 12 (by decide) (hts _ mw_45) (fun _ h9 => h9) rfl dX3_emptyTray_43 ?_
                  clear h9
                  refine lv_iload_n hx hb dX3_emptyTray_46 rfl (lv_at hl 1 rfl) ?_
                  obtain ⟨n26, e27, hF⟩ := ob hF
                  obtain ⟨q9, h9⟩ := wc_at (cy := cy) (ad := ad) (ks := ks) (g := g) (u := u17) (κ := (.cs L)) hk.1 h_L
                  refine va_aldq hx hb hK hP q9 8 h9 rfl (ix_in e27) dX3_emptyTray_47 ?_
                  refine my_top (y := .ref (ad (.cd L n26))) (ixv (F := fun j => ad (.cd L j)) e27) ?_
                  clear h9
                  obtain ⟨q9, h9⟩ := wc_at (cy := cy) (ad := ad) (ks := ks) (g := g) (u := u17) (κ := (.cd L n26)) hk.1 ⟨h_L, (ix_lt e27)⟩
                  refine va_get (D := (dC, dI)) (ci := 2) (v := .int (u17 (10 + L) (137 + 25 * n26 + 3))) (C := RX1) (T := TX1) (N := 9) hx hb hts inlX1 hown hK hP q9 h9 rfl 3 (by decide) (hts _ mw_782) (fun _ h9 => h9) rfl dX3_emptyTray_48 ?_
                  clear h9
                  refine lv_iconst (v := 2) hx hb dX3_emptyTray_51 (by decide) ?_
                  refine lv_icmp_ne (tgt := 81) hx hb dX3_emptyTray_52 (by decide) (fun c28 => ?_) (fun c28 => ?_)
                  · rw [if_neg c28] at hF
                    have ht := s1 hF
                    subst ht
                    exact kx20 _ _ _ hP hD hS (lv_sub hl [0, 1, 2, 3] rfl)
                  · rw [if_pos c28] at hF
                    refine lv_aload_n hx hb dX3_emptyTray_55 rfl (lv_at hl 3 rfl) ?_
                    refine lv_iload_n hx hb dX3_emptyTray_56 rfl (lv_at hl 1 rfl) ?_
                    obtain ⟨u29, e30, hF⟩ := ob hF
                    have hPc := hP
                    have hDc := hD
                    have hFc := my_free hD hS hA
                    obtain ⟨q8, h8⟩ := wc_at (cy := cy) (ad := ad) (ks := ks) (g := g) (u := u17) (κ := (.ln L)) hk.1 h_L
                    refine va_callv (va_runV (As := [.int y16]) (rest := []) ⟨hx, hb, hml, hown, hts⟩ (c_X3_leave l dC dI cy nb ad ks g hk u17 L (y16) (u29) H.size h_L e30) (cwV 1 hts (gV mw_1180 mw_1181 mw_1182 mw_17 mw_1183) rfl rfl rfl (by decide +kernel) ⟨Nat.le_of_ble_eq_true rfl, Nat.le_of_ble_eq_true rfl⟩) (my_preV hPc hK hDc hE hS hFc (va_recv (q := (RX3, TX3, 17)) hK hP (ci := 3) (q0 := q8) rfl h8)) rfl rfl hl.1 rfl (lv_room (Nat.le_of_ble_eq_true rfl)) dX3_emptyTray_57 ⟨Nat.le_of_ble_eq_true rfl, Nat.le_of_ble_eq_true rfl⟩) hS (fun q _ h => hFc q h) hFc (fun u t H1 locs ht hvm hw hB hz1 hk1 hS => ?_)
                    clear h8
                    obtain ⟨hP1, hD1⟩ := hB
                    rw [ht] at hP1
                    have hP := hP1
                    have hD := hD1.weaken (fun k q _ h => hFc q.1 h)
                    generalize H1 = H at hP hS ⊢
                    clear hP1 hD1 hPc hDc hFc hk1 hz1 hvm ht
                    refine lv_aload_n hx hb dX3_emptyTray_60 rfl (lv_at hl 3 rfl) ?_
                    refine lv_iconst (v := 1) hx hb dX3_emptyTray_61 (by decide) ?_
                    obtain ⟨q9, h9, ez9⟩ := wc_set (cy := cy) (ad := ad) (ks := ks) (g := g) (u := u29) (κ := (.ln L)) (r := (10 + L)) (i := 1060) (v := (1)) hk.1 h_L (own_mv (inl_lt h_L)) (sf_ln_16)
                    refine va_put (D := (dC, dI)) (ci := 3) (v := .int 1) (ty := .boolean) (C := RX3) (T := TX3) (N := 17) hx hb hts inlX3 tyX3 tyX3_ok nmX3 hown hK hP hD hS q9 h9 rfl 16 (by decide) (hts _ mw_1141) (fun _ h9 => h9) rfl (by decide +kernel) rfl rfl (Nat.le_of_ble_eq_true rfl) dX3_emptyTray_62 (fun H locs hP hD hS => ?_)
                    obtain ⟨u31, e32, hF⟩ := ob hF
                    have hP : va_P (dC, dI) vwCl (WC cy ad ks g u31) H := by rw [← pt_eq e32, ← ez9]; exact hP
                    have hD : va_D A (WC cy ad ks g u31) := by rw [← pt_eq e32, ← ez9]; exact hD
                    clear ez9 h9
                    refine lv_aload_n hx hb dX3_emptyTray_65 rfl (lv_at hl 3 rfl) ?_
                    obtain ⟨q9, h9⟩ := wc_at (cy := cy) (ad := ad) (ks := ks) (g := g) (u := u31) (κ := (.ln L)) hk.1 h_L
                    refine va_get (D := (dC, dI)) (ci := 3) (v := .ref (ad (.ls L))) (C := RX3) (T := TX3) (N := 17) hx hb hts inlX3 hown hK hP q9 h9 rfl 11 (by decide) (hts _ mw_43) (fun _ h9 => h9) rfl dX3_emptyTray_66 ?_
                    clear h9
                    refine lv_iload_n hx hb dX3_emptyTray_69 rfl (lv_at hl 2 rfl) ?_
                    obtain ⟨n33, e34, hF⟩ := ob hF
                    obtain ⟨q9, h9⟩ := wc_at (cy := cy) (ad := ad) (ks := ks) (g := g) (u := u31) (κ := (.ls L)) hk.1 h_L
                    refine va_aldq hx hb hK hP q9 7 h9 rfl (ix_in e34) dX3_emptyTray_70 ?_
                    refine my_top (y := .ref (ad (.lo L n33))) (ixv (F := fun j => ad (.lo L j)) e34) ?_
                    clear h9
                    obtain ⟨x35, e36, hF⟩ := ob hF
                    have hPc := hP
                    have hDc := hD
                    have hFc := my_free hD hS hA
                    obtain ⟨q8, h8⟩ := wc_at (cy := cy) (ad := ad) (ks := ks) (g := g) (u := u31) (κ := (.lo L n33)) hk.1 ⟨h_L, (ix_lt e34)⟩
                    refine va_calli (va_runV (As := []) (rest := []) ⟨hx, hb, hml, hown, hts⟩ (c_X4_nextCard l dC dI cy nb ad ks g hk u31 L n33 (x35) H.size ⟨h_L, (ix_lt e34)⟩ e36) (cwV 0 hts (gV mw_1179 mw_709 mw_710 mw_52 mw_711) rfl rfl rfl (by decide +kernel) ⟨Nat.le_of_ble_eq_true rfl, Nat.le_of_ble_eq_true rfl⟩) (my_preV hPc hK hDc hE hS hFc (va_recv (q := (RX4, TX4, 12)) hK hP (ci := 4) (q0 := q8) rfl h8)) rfl rfl hl.1 rfl (lv_room (Nat.le_of_ble_eq_true rfl)) dX3_emptyTray_71 ⟨Nat.le_of_ble_eq_true rfl, Nat.le_of_ble_eq_true rfl⟩) hS (fun q _ h => hFc q h) hFc (fun r u t H1 locs ht hvm hw hB hz1 hk1 hS => ?_)
                    clear h8
                    obtain ⟨hP1, hD1⟩ := hB
                    rw [ht] at hP1
                    have hP := hP1
                    have hD := hD1.weaken (fun k q _ h => hFc q.1 h)
                    generalize H1 = H at hP hS ⊢
                    clear hP1 hD1 hPc hDc hFc hk1 hz1 hvm ht
                    obtain rfl := hw.symm
                    refine lv_istore_n (lv' := [(2, .int x35), (3, .int y15), (1, .int y1), (0, .ref (ad (.ln L)))]) hx hb dX3_emptyTray_74 rfl hl (by decide) rfl (fun ls hl => ?_)
                    refine lv_iinc (v := (y15 + 1)) (lv' := [(3, .int (y15 + 1)), (2, .int x35), (1, .int y1), (0, .ref (ad (.ln L)))]) hx hb dX3_emptyTray_75 hl (k := 1) rfl (by rfl) (by decide) rfl (fun ls hl => ?_)
                    refine lv_goto (tgt := 31) hx hb dX3_emptyTray_78 (by decide) ?_
                    exact ih _ _ _ hF _ _ _ hP hD hS (lv_sub hl [0, 1, 2, 3] rfl)
          exact loop22 FUEL _ _ _ hL19 _ _ _ hP hD hS (lv_sub hl [0, 1, 2, 3] rfl)
  exact loop7 FUEL _ _ hL4 _ _ _ hP hD hS (lv_sub hl [0, 1] rfl)
noncomputable def C7_stepsOf_L7 (a1 : Int32) (a2 : Int32) (g : CG) (u0 : RS) : Nat → Int32 → Int32 → Int32 → Option (Int32 × Int32 × Int32)
  | 0, _, _, _ => none
  | m9 + 1, y1, y2, y3 => (tln g u0 (a1)).bind fun x10 => if x10 ≤ y1 then (some ((y1, y2, y3))) else ((tbt g u0 (a1) y1).bind fun x13 => (if y2 ≤ x13 then ((tbt g u0 (a1) y1).bind fun x25 => some (x25 - y2)) else ((tbt g u0 (a1) y1).bind fun x27 => some (y2 - x27)) : Option (Int32)).bind fun t16 => (if t16 ≤ (26 - t16) then (some t16) else (some (26 - t16)) : Option (Int32)).bind fun t20 => (tbt g u0 (a1) y1).bind fun x23 => C7_stepsOf_L7 a1 a2 g u0 m9 ((y1 + 1)) (x23) ((y3 + t20)))
noncomputable def C7_stepsOf (g : CG) (u0 : RS) (a1 : Int32) (a2 : Int32) : Option (Int32) := (C7_stepsOf_L7 a1 a2 g u0 FUEL (0 : Int32) (a2) (0 : Int32)).bind fun t4 => some (t4.2.2)
set_option maxHeartbeats 4000000 in
set_option maxRecDepth 100000 in
theorem c_X7_stepsOf (l : Launch) (dC : Nat → ClassId) (dI : Nat → Nat → Nat) (cy : Nat → ClassId) (nb : Nat → Nat) (ad : CK → Nat) (ks : List CK) (g : CG) (hk : GA nb ad g ks) (u0 : RS) (a1 : Int32) (a2 : Int32) (ro : Int32) (sz : Nat) (hF : C7_stepsOf g u0 a1 a2 = some ro) : Met l yX7_stepsOf (wsg yX7_stepsOf cX7_stepsOf 6 (some .int)) ({ frames := 7, cells := 0, slots := 0, locals := 200 }) (va_Pc [.ref (ad (.tx (a1).toNatClampNeg)), .int a2] (fun U => U.heap.size = sz ∧ va_P (dC, dI) vwCl (WC cy ad ks g u0) U.heap ∧ va_K (dC, dI) vwCl (tyL cy) U ∧ va_D (fun _ => True) (WC cy ad ks g u0) ∧ GE nb (va_A (WC cy ad ks g u0) sz) U)) (va_Qi (fun (r : Int32) (_ : Unit) => r = ro) (fun _ t => va_P (dC, dI) vwCl (WC cy ad ks g u0) t.heap ∧ va_D (va_A (WC cy ad ks g u0) sz) (WC cy ad ks g u0)) (va_A (WC cy ad ks g u0) sz)) 0 0 (va_A (WC cy ad ks g u0) sz) := by
  refine Met.ofW (cc := cX7_stepsOf) (maxL := 6) (ret := (some .int)) pn_X7 rfl ?_
  intro p e s m args below meth c s₁ B hml hv
  obtain ⟨rfl, hsz, hP, hK, hD0, hE⟩ := hv
  have hx := B.exec
  have hb := B.bytes
  have hr := B.returns
  have hts0 := atoms_spec (ws := (wsg yX7_stepsOf cX7_stepsOf 6 (some .int))) B.pre
  have hts : ∀ w ∈ wsL_law, w.before _ s = true := fun w h => hts0 w (List.mem_cons_of_mem _ h)
  have hown : s.vm.findClass RX7 = some m.cls := by have h9 := findClass_of_methodNamed B.named; exact h9
  have hlocks := B.notSynchronized
  subst hsz
  have hD := hD0.self (sz := s.heap.size)
  generalize hAe : va_A (WC cy ad ks g u0) s.heap.size = A at hD hE ⊢
  have hA : ∀ q : Nat, s.heap.size ≤ q → A q := fun q h => by rw [← hAe]; exact Or.inr h
  have hS : va_S A s.heap s.heap [] := va_S.rf
  have hl := lv_entry ([.ref (ad (.tx (a1).toNatClampNeg)), .int a2]) (n := 6) (Nat.le_of_ble_eq_true rfl)
  rw [lg_entry_eq]
  generalize (lg_sl ([.ref (ad (.tx (a1).toNatClampNeg)), .int a2]) ++ List.replicate (6 - (lg_sl ([.ref (ad (.tx (a1).toNatClampNeg)), .int a2])).length) Slot.unset).toArray = ls at hl ⊢
  have hl : lv_has ls 6 [(0, .ref (ad (.tx (a1).toNatClampNeg))), (1, .int a2)] := hl
  generalize hHe : s.heap = H at hP hS ⊢
  have hS : va_S A s.heap H [] := by rw [hHe]; exact hS
  refine my_Q (fun Qn hQ => ?_)
  simp only [C7_stepsOf] at hF
  refine lv_iconst (v := 0) hx hb dX7_stepsOf_0 (by decide) ?_
  refine lv_istore_n (lv' := [(2, .int 0), (0, .ref (ad (.tx (a1).toNatClampNeg))), (1, .int a2)]) hx hb dX7_stepsOf_1 rfl hl (by decide) rfl (fun ls hl => ?_)
  refine lv_iload_n hx hb dX7_stepsOf_2 rfl (lv_at hl 2 rfl) ?_
  refine lv_istore_n (lv' := [(3, .int a2), (2, .int 0), (0, .ref (ad (.tx (a1).toNatClampNeg))), (1, .int a2)]) hx hb dX7_stepsOf_3 rfl hl (by decide) rfl (fun ls hl => ?_)
  refine lv_iconst (v := 0) hx hb dX7_stepsOf_4 (by decide) ?_
  refine lv_istore (lv' := [(4, .int 0), (3, .int a2), (2, .int 0), (0, .ref (ad (.tx (a1).toNatClampNeg))), (1, .int a2)]) hx hb dX7_stepsOf_5 hl (by decide) rfl (fun ls hl => ?_)
  obtain ⟨t4, hL5, hF⟩ := ob hF
  have kx6 : ∀ (H : Heap) (locs : List Loc) (ls : Array Slot), va_P (dC, dI) vwCl (WC cy ad ks g u0) H → va_D A (WC cy ad ks g u0) → va_S A s.heap H locs → lv_has ls 6 [(4, .int (t4.1)), (3, .int (t4.2.1)), (2, .int (t4.2.2)), (0, .ref (ad (.tx (a1).toNatClampNeg))), (1, .int a2)] → W p l e (headSpec (wsg yX7_stepsOf cX7_stepsOf 6 (some .int)) ({ frames := 7, cells := 0, slots := 0, locals := 200 })).room s m ([.ref (ad (.tx (a1).toNatClampNeg)), .int a2] : List Value).toArray below meth c H locs 0 0 Qn (F0 m 73 ls []) := by
    intro H locs ls hP hD hS hl
    refine lv_iload_n hx hb dX7_stepsOf_73 rfl (lv_at hl 2 rfl) ?_
    have hZ := s1 hF
    have zro : (t4.2.2) = ro := hZ
    have hP9 : va_P (dC, dI) vwCl (WC cy ad ks g u0) H := by exact hP
    have hD9 : va_D A (WC cy ad ks g u0) := by exact hD
    rw [hQ]
    exact W.iret (v := (t4.2.2)) hx hb hr (fun t ht hW => ⟨⟨(t4.2.2), (), rfl, zro, by rw [ht]; exact hP9, hD9⟩, hS.F ht⟩) hS.2.2 dX7_stepsOf_74
  clear hF
  have loop8 : ∀ (m9 : Nat) (y1 : Int32) (y2 : Int32) (y3 : Int32), C7_stepsOf_L7 a1 a2 g u0 m9 y1 y2 y3 = some t4 → ∀ (H : Heap) (locs : List Loc) (ls : Array Slot), va_P (dC, dI) vwCl (WC cy ad ks g u0) H → va_D A (WC cy ad ks g u0) → va_S A s.heap H locs → lv_has ls 6 [(4, .int y1), (3, .int y2), (2, .int y3), (0, .ref (ad (.tx (a1).toNatClampNeg))), (1, .int a2)] → W p l e (headSpec (wsg yX7_stepsOf cX7_stepsOf 6 (some .int)) ({ frames := 7, cells := 0, slots := 0, locals := 200 })).room s m ([.ref (ad (.tx (a1).toNatClampNeg)), .int a2] : List Value).toArray below meth c H locs 0 0 Qn (F0 m 7 ls []) := by
    intro m9
    induction m9 with
    | zero => intro y1 y2 y3 hF; cases hF
    | succ m9 ih =>
      intro y1 y2 y3 hF H locs ls hP hD hS hl
      simp only [C7_stepsOf_L7] at hF
      refine lv_iload hx hb dX7_stepsOf_7 (lv_at hl 0 rfl) ?_
      refine lv_aload_n hx hb dX7_stepsOf_9 rfl (lv_at hl 3 rfl) ?_
      obtain ⟨x10, e11, hF⟩ := ob hF
      obtain ⟨q9, h9⟩ := wc_at (cy := cy) (ad := ad) (ks := ks) (g := g) (u := u0) (κ := (.tx (a1).toNatClampNeg)) hk.1 (tln_h e11)
      refine va_alen (v := x10) hx hb hK hP q9 0 h9 (ty := .byte) rfl (tln_l e11) dX7_stepsOf_10 ?_
      clear h9
      refine lv_icmp_ge (tgt := 73) hx hb dX7_stepsOf_11 (by decide) (fun c12 => ?_) (fun c12 => ?_)
      · rw [if_pos c12] at hF
        have ht := s1 hF
        subst ht
        exact kx6 _ _ _ hP hD hS (lv_sub hl [0, 1, 2, 3, 4] rfl)
      · rw [if_neg c12] at hF
        refine lv_aload_n hx hb dX7_stepsOf_14 rfl (lv_at hl 3 rfl) ?_
        refine lv_iload hx hb dX7_stepsOf_15 (lv_at hl 0 rfl) ?_
        obtain ⟨x13, e14, hF⟩ := ob hF
        obtain ⟨q9, h9⟩ := wc_at (cy := cy) (ad := ad) (ks := ks) (g := g) (u := u0) (κ := (.tx (a1).toNatClampNeg)) hk.1 (tbt_h e14)
        refine va_bald hx hb hK hP q9 0 h9 rfl (tbt_in e14) dX7_stepsOf_17 ?_
        refine my_topi (y := x13) (tbt_eq e14) ?_
        clear h9
        refine lv_iload_n hx hb dX7_stepsOf_18 rfl (lv_at hl 1 rfl) ?_
        obtain ⟨t16, hJ17, hF⟩ := ob hF
        have join18 : ∀ (H : Heap) (locs : List Loc) (ls : Array Slot), va_P (dC, dI) vwCl (WC cy ad ks g u0) H → va_D A (WC cy ad ks g u0) → va_S A s.heap H locs → lv_has ls 6 [(4, .int y1), (3, .int y2), (2, .int y3), (0, .ref (ad (.tx (a1).toNatClampNeg))), (1, .int a2)] → W p l e (headSpec (wsg yX7_stepsOf cX7_stepsOf 6 (some .int)) ({ frames := 7, cells := 0, slots := 0, locals := 200 })).room s m ([.ref (ad (.tx (a1).toNatClampNeg)), .int a2] : List Value).toArray below meth c H locs 0 0 Qn (F0 m 37 ls [.int t16]) := by
          intro H locs ls hP hD hS hl
          refine lv_istore (lv' := [(5, .int t16), (4, .int y1), (3, .int y2), (2, .int y3), (0, .ref (ad (.tx (a1).toNatClampNeg))), (1, .int a2)]) hx hb dX7_stepsOf_37 hl (by decide) rfl (fun ls hl => ?_)
          refine lv_iload_n hx hb dX7_stepsOf_39 rfl (lv_at hl 3 rfl) ?_
          refine lv_iload hx hb dX7_stepsOf_40 (lv_at hl 0 rfl) ?_
          refine lv_bipush (v := 26) hx hb dX7_stepsOf_42 (by decide) ?_
          refine lv_iload hx hb dX7_stepsOf_44 (lv_at hl 0 rfl) ?_
          refine lv_isub hx hb dX7_stepsOf_46 ?_
          obtain ⟨t20, hJ21, hF⟩ := ob hF
          have join22 : ∀ (H : Heap) (locs : List Loc) (ls : Array Slot), va_P (dC, dI) vwCl (WC cy ad ks g u0) H → va_D A (WC cy ad ks g u0) → va_S A s.heap H locs → lv_has ls 6 [(5, .int t16), (4, .int y1), (3, .int y2), (2, .int y3), (0, .ref (ad (.tx (a1).toNatClampNeg))), (1, .int a2)] → W p l e (headSpec (wsg yX7_stepsOf cX7_stepsOf 6 (some .int)) ({ frames := 7, cells := 0, slots := 0, locals := 200 })).room s m ([.ref (ad (.tx (a1).toNatClampNeg)), .int a2] : List Value).toArray below meth c H locs 0 0 Qn (F0 m 60 ls [.int t20, .int y3]) := by
            intro H locs ls hP hD hS hl
            refine lv_iadd hx hb dX7_stepsOf_60 ?_
            refine lv_istore_n (lv' := [(2, .int (y3 + t20)), (5, .int t16), (4, .int y1), (3, .int y2), (0, .ref (ad (.tx (a1).toNatClampNeg))), (1, .int a2)]) hx hb dX7_stepsOf_61 rfl hl (by decide) rfl (fun ls hl => ?_)
            refine lv_aload_n hx hb dX7_stepsOf_62 rfl (lv_at hl 4 rfl) ?_
            refine lv_iload hx hb dX7_stepsOf_63 (lv_at hl 2 rfl) ?_
            obtain ⟨x23, e24, hF⟩ := ob hF
            obtain ⟨q9, h9⟩ := wc_at (cy := cy) (ad := ad) (ks := ks) (g := g) (u := u0) (κ := (.tx (a1).toNatClampNeg)) hk.1 (tbt_h e24)
            refine va_bald hx hb hK hP q9 0 h9 rfl (tbt_in e24) dX7_stepsOf_65 ?_
            refine my_topi (y := x23) (tbt_eq e24) ?_
            clear h9
            refine lv_istore_n (lv' := [(3, .int x23), (2, .int (y3 + t20)), (5, .int t16), (4, .int y1), (0, .ref (ad (.tx (a1).toNatClampNeg))), (1, .int a2)]) hx hb dX7_stepsOf_66 rfl hl (by decide) rfl (fun ls hl => ?_)
            refine lv_iinc (v := (y1 + 1)) (lv' := [(4, .int (y1 + 1)), (3, .int x23), (2, .int (y3 + t20)), (5, .int t16), (0, .ref (ad (.tx (a1).toNatClampNeg))), (1, .int a2)]) hx hb dX7_stepsOf_67 hl (k := 3) rfl (by rfl) (by decide) rfl (fun ls hl => ?_)
            refine lv_goto (tgt := 7) hx hb dX7_stepsOf_70 (by decide) ?_
            exact ih _ _ _ hF _ _ _ hP hD hS (lv_sub hl [0, 1, 2, 4, 5] rfl)
          clear hF
          have hF := hJ21
          clear hJ21
          refine lv_icmp_le (tgt := 58) hx hb dX7_stepsOf_47 (by decide) (fun c19 => ?_) (fun c19 => ?_)
          · rw [if_pos c19] at hF
            refine lv_iload hx hb dX7_stepsOf_58 (lv_at hl 0 rfl) ?_
            have ht := s1 hF
            subst ht
            exact join22 _ _ _ hP hD hS (lv_sub hl [0, 1, 2, 3, 4, 5] rfl)
          · rw [if_neg c19] at hF
            refine lv_bipush (v := 26) hx hb dX7_stepsOf_50 (by decide) ?_
            refine lv_iload hx hb dX7_stepsOf_52 (lv_at hl 0 rfl) ?_
            refine lv_isub hx hb dX7_stepsOf_54 ?_
            refine lv_goto (tgt := 60) hx hb dX7_stepsOf_55 (by decide) ?_
            have ht := s1 hF
            subst ht
            exact join22 _ _ _ hP hD hS (lv_sub hl [0, 1, 2, 3, 4, 5] rfl)
        clear hF
        have hF := hJ17
        clear hJ17
        refine lv_icmp_ge (tgt := 31) hx hb dX7_stepsOf_19 (by decide) (fun c15 => ?_) (fun c15 => ?_)
        · rw [if_pos c15] at hF
          refine lv_aload_n hx hb dX7_stepsOf_31 rfl (lv_at hl 3 rfl) ?_
          refine lv_iload hx hb dX7_stepsOf_32 (lv_at hl 0 rfl) ?_
          obtain ⟨x25, e26, hF⟩ := ob hF
          obtain ⟨q9, h9⟩ := wc_at (cy := cy) (ad := ad) (ks := ks) (g := g) (u := u0) (κ := (.tx (a1).toNatClampNeg)) hk.1 (tbt_h e26)
          refine va_bald hx hb hK hP q9 0 h9 rfl (tbt_in e26) dX7_stepsOf_34 ?_
          refine my_topi (y := x25) (tbt_eq e26) ?_
          clear h9
          refine lv_iload_n hx hb dX7_stepsOf_35 rfl (lv_at hl 1 rfl) ?_
          refine lv_isub hx hb dX7_stepsOf_36 ?_
          have ht := s1 hF
          subst ht
          exact join18 _ _ _ hP hD hS (lv_sub hl [0, 1, 2, 3, 4] rfl)
        · rw [if_neg c15] at hF
          refine lv_iload_n hx hb dX7_stepsOf_22 rfl (lv_at hl 1 rfl) ?_
          refine lv_aload_n hx hb dX7_stepsOf_23 rfl (lv_at hl 3 rfl) ?_
          refine lv_iload hx hb dX7_stepsOf_24 (lv_at hl 0 rfl) ?_
          obtain ⟨x27, e28, hF⟩ := ob hF
          obtain ⟨q9, h9⟩ := wc_at (cy := cy) (ad := ad) (ks := ks) (g := g) (u := u0) (κ := (.tx (a1).toNatClampNeg)) hk.1 (tbt_h e28)
          refine va_bald hx hb hK hP q9 0 h9 rfl (tbt_in e28) dX7_stepsOf_26 ?_
          refine my_topi (y := x27) (tbt_eq e28) ?_
          clear h9
          refine lv_isub hx hb dX7_stepsOf_27 ?_
          refine lv_goto (tgt := 37) hx hb dX7_stepsOf_28 (by decide) ?_
          have ht := s1 hF
          subst ht
          exact join18 _ _ _ hP hD hS (lv_sub hl [0, 1, 2, 3, 4] rfl)
  exact loop8 FUEL _ _ _ hL5 _ _ _ hP hD hS (lv_sub hl [0, 1, 2, 3, 4] rfl)
noncomputable def C6_turnsOf (g : CG) (u0 : RS) (L : Nat) (i : Nat) (a1 : Int32) : Option (Int32) := (if (u0 (10 + L) (17 + 16 * i + 0)) = 3 then ((C7_stepsOf g u0 a1 ((u0 (10 + L) (17 + 16 * i + 8)))).bind fun x5 => some x5) else (some (0 : Int32)) : Option (Int32)).bind fun t2 => some t2
set_option maxHeartbeats 4000000 in
set_option maxRecDepth 100000 in
theorem c_X6_turnsOf (l : Launch) (dC : Nat → ClassId) (dI : Nat → Nat → Nat) (cy : Nat → ClassId) (nb : Nat → Nat) (ad : CK → Nat) (ks : List CK) (g : CG) (hk : GA nb ad g ks) (u0 : RS) (L : Nat) (i : Nat) (a1 : Int32) (ro : Int32) (sz : Nat) (h_L_i : has g (.st L i)) (hF : C6_turnsOf g u0 L i a1 = some ro) : Met l yX6_turnsOf (wsg yX6_turnsOf cX6_turnsOf 2 (some .int)) ({ frames := 8, cells := 0, slots := 0, locals := 300 }) (va_Pc [.ref (ad (.st L i)), .ref (ad (.tx (a1).toNatClampNeg))] (fun U => U.heap.size = sz ∧ va_P (dC, dI) vwCl (WC cy ad ks g u0) U.heap ∧ va_K (dC, dI) vwCl (tyL cy) U ∧ va_D (fun _ => True) (WC cy ad ks g u0) ∧ GE nb (va_A (WC cy ad ks g u0) sz) U)) (va_Qi (fun (r : Int32) (_ : Unit) => r = ro) (fun _ t => va_P (dC, dI) vwCl (WC cy ad ks g u0) t.heap ∧ va_D (va_A (WC cy ad ks g u0) sz) (WC cy ad ks g u0)) (va_A (WC cy ad ks g u0) sz)) 0 0 (va_A (WC cy ad ks g u0) sz) := by
  refine Met.ofW (cc := cX6_turnsOf) (maxL := 2) (ret := (some .int)) pn_X6 rfl ?_
  intro p e s m args below meth c s₁ B hml hv
  obtain ⟨rfl, hsz, hP, hK, hD0, hE⟩ := hv
  have hx := B.exec
  have hb := B.bytes
  have hr := B.returns
  have hts0 := atoms_spec (ws := (wsg yX6_turnsOf cX6_turnsOf 2 (some .int))) B.pre
  have hts : ∀ w ∈ wsL_law, w.before _ s = true := fun w h => hts0 w (List.mem_cons_of_mem _ h)
  have hown : s.vm.findClass RX6 = some m.cls := by have h9 := findClass_of_methodNamed B.named; exact h9
  have hlocks := B.notSynchronized
  subst hsz
  have hD := hD0.self (sz := s.heap.size)
  generalize hAe : va_A (WC cy ad ks g u0) s.heap.size = A at hD hE ⊢
  have hA : ∀ q : Nat, s.heap.size ≤ q → A q := fun q h => by rw [← hAe]; exact Or.inr h
  have hS : va_S A s.heap s.heap [] := va_S.rf
  have hl := lv_entry ([.ref (ad (.st L i)), .ref (ad (.tx (a1).toNatClampNeg))]) (n := 2) (Nat.le_of_ble_eq_true rfl)
  rw [lg_entry_eq]
  generalize (lg_sl ([.ref (ad (.st L i)), .ref (ad (.tx (a1).toNatClampNeg))]) ++ List.replicate (2 - (lg_sl ([.ref (ad (.st L i)), .ref (ad (.tx (a1).toNatClampNeg))])).length) Slot.unset).toArray = ls at hl ⊢
  have hl : lv_has ls 2 [(0, .ref (ad (.st L i))), (1, .ref (ad (.tx (a1).toNatClampNeg)))] := hl
  generalize hHe : s.heap = H at hP hS ⊢
  have hS : va_S A s.heap H [] := by rw [hHe]; exact hS
  refine my_Q (fun Qn hQ => ?_)
  simp only [C6_turnsOf] at hF
  refine lv_aload_n hx hb dX6_turnsOf_0 rfl (lv_at hl 0 rfl) ?_
  obtain ⟨q9, h9⟩ := wc_at (cy := cy) (ad := ad) (ks := ks) (g := g) (u := u0) (κ := (.st L i)) hk.1 ⟨h_L_i.1, h_L_i.2⟩
  refine va_get (D := (dC, dI)) (ci := 6) (v := .int (u0 (10 + L) (17 + 16 * i + 0))) (C := RX6) (T := TX6) (N := 15) hx hb hts inlX6 hown hK hP q9 h9 rfl 0 (by decide) (hts _ mw_368) (fun _ h9 => h9) rfl dX6_turnsOf_1 ?_
  clear h9
  refine lv_iconst (v := 3) hx hb dX6_turnsOf_4 (by decide) ?_
  obtain ⟨t2, hJ3, hF⟩ := ob hF
  have join4 : ∀ (H : Heap) (locs : List Loc) (ls : Array Slot), va_P (dC, dI) vwCl (WC cy ad ks g u0) H → va_D A (WC cy ad ks g u0) → va_S A s.heap H locs → lv_has ls 2 [(0, .ref (ad (.st L i))), (1, .ref (ad (.tx (a1).toNatClampNeg)))] → W p l e (headSpec (wsg yX6_turnsOf cX6_turnsOf 2 (some .int)) ({ frames := 8, cells := 0, slots := 0, locals := 300 })).room s m ([.ref (ad (.st L i)), .ref (ad (.tx (a1).toNatClampNeg))] : List Value).toArray below meth c H locs 0 0 Qn (F0 m 20 ls [.int t2]) := by
    intro H locs ls hP hD hS hl
    have hZ := s1 hF
    have zro : t2 = ro := hZ
    have hP9 : va_P (dC, dI) vwCl (WC cy ad ks g u0) H := by exact hP
    have hD9 : va_D A (WC cy ad ks g u0) := by exact hD
    rw [hQ]
    exact W.iret (v := t2) hx hb hr (fun t ht hW => ⟨⟨t2, (), rfl, zro, by rw [ht]; exact hP9, hD9⟩, hS.F ht⟩) hS.2.2 dX6_turnsOf_20
  clear hF
  have hF := hJ3
  clear hJ3
  refine lv_icmp_ne (tgt := 19) hx hb dX6_turnsOf_5 (by decide) (fun c1 => ?_) (fun c1 => ?_)
  · rw [if_neg c1] at hF
    refine lv_iconst (v := 0) hx hb dX6_turnsOf_19 (by decide) ?_
    have ht := s1 hF
    subst ht
    exact join4 _ _ _ hP hD hS (lv_sub hl [0, 1] rfl)
  · rw [if_pos c1] at hF
    refine lv_aload_n hx hb dX6_turnsOf_8 rfl (lv_at hl 1 rfl) ?_
    refine lv_aload_n hx hb dX6_turnsOf_9 rfl (lv_at hl 0 rfl) ?_
    obtain ⟨q9, h9⟩ := wc_at (cy := cy) (ad := ad) (ks := ks) (g := g) (u := u0) (κ := (.st L i)) hk.1 ⟨h_L_i.1, h_L_i.2⟩
    refine va_get (D := (dC, dI)) (ci := 6) (v := .int (u0 (10 + L) (17 + 16 * i + 8))) (C := RX6) (T := TX6) (N := 15) hx hb hts inlX6 hown hK hP q9 h9 rfl 10 (by decide) (hts _ mw_377) (fun _ h9 => h9) rfl dX6_turnsOf_10 ?_
    clear h9
    obtain ⟨x5, e6, hF⟩ := ob hF
    have hPc := hP
    have hDc := hD
    have hFc := my_free hD hS hA
    refine va_calli (va_runSN (As := [.ref (ad (.tx (a1).toNatClampNeg)), .int (u0 (10 + L) (17 + 16 * i + 8))]) (rest := []) ⟨hx, hb, hml, hown, hts⟩ (c_X7_stepsOf l dC dI cy nb ad ks g hk u0 a1 ((u0 (10 + L) (17 + 16 * i + 8))) (x5) H.size e6) ⟨va_cnB 2 hts (gI mw_820) rfl rfl rfl (hE.n62) (hts _ mw_2) (by decide +kernel) ⟨Nat.le_of_ble_eq_true rfl, Nat.le_of_ble_eq_true rfl⟩, (hts _ mw_819), trivial⟩ (my_preS hPc hK hDc hE hS hFc) rfl rfl hl.1 rfl (lv_room (Nat.le_of_ble_eq_true rfl)) dX6_turnsOf_13 ⟨Nat.le_of_ble_eq_true rfl, Nat.le_of_ble_eq_true rfl⟩) hS (fun q _ h => hFc q h) hFc (fun r u t H1 locs ht hvm hw hB hz1 hk1 hS => ?_)
    obtain ⟨hP1, hD1⟩ := hB
    rw [ht] at hP1
    have hP := hP1
    have hD := hD1.weaken (fun k q _ h => hFc q.1 h)
    generalize H1 = H at hP hS ⊢
    clear hP1 hD1 hPc hDc hFc hk1 hz1 hvm ht
    obtain rfl := hw.symm
    refine lv_goto (tgt := 20) hx hb dX6_turnsOf_16 (by decide) ?_
    have ht := s1 hF
    subst ht
    exact join4 _ _ _ hP hD hS (lv_sub hl [0, 1] rfl)
noncomputable def C6_ticksWith (g : CG) (u0 : RS) (L : Nat) (i : Nat) (a1 : Int32) (a2 : Int32) : Option (Int32) := if (u0 (10 + L) (17 + 16 * i + 0)) = 3 then (if 1 ≤ (u0 (10 + L) (17 + 16 * i + 1)) then ((tln g u0 (a1)).bind fun x3 => (dv ((a2 + (u0 (10 + L) (17 + 16 * i + 1))) - 1) (u0 (10 + L) (17 + 16 * i + 1))).bind fun x5 => some (x3 + x5)) else (some (u0 (10 + L) (17 + 16 * i + 1)))) else (some (u0 (10 + L) (17 + 16 * i + 1)))
set_option maxHeartbeats 4000000 in
set_option maxRecDepth 100000 in
theorem c_X6_ticksWith (l : Launch) (dC : Nat → ClassId) (dI : Nat → Nat → Nat) (cy : Nat → ClassId) (nb : Nat → Nat) (ad : CK → Nat) (ks : List CK) (g : CG) (hk : GA nb ad g ks) (u0 : RS) (L : Nat) (i : Nat) (a1 : Int32) (a2 : Int32) (ro : Int32) (sz : Nat) (h_L_i : has g (.st L i)) (hF : C6_ticksWith g u0 L i a1 a2 = some ro) : Met l yX6_ticksWith (wsg yX6_ticksWith cX6_ticksWith 3 (some .int)) ({ frames := 7, cells := 0, slots := 0, locals := 200 }) (va_Pc [.ref (ad (.st L i)), .ref (ad (.tx (a1).toNatClampNeg)), .int a2] (fun U => U.heap.size = sz ∧ va_P (dC, dI) vwCl (WC cy ad ks g u0) U.heap ∧ va_K (dC, dI) vwCl (tyL cy) U ∧ va_D (fun _ => True) (WC cy ad ks g u0) ∧ GE nb (va_A (WC cy ad ks g u0) sz) U)) (va_Qi (fun (r : Int32) (_ : Unit) => r = ro) (fun _ t => va_P (dC, dI) vwCl (WC cy ad ks g u0) t.heap ∧ va_D (va_A (WC cy ad ks g u0) sz) (WC cy ad ks g u0)) (va_A (WC cy ad ks g u0) sz)) 0 0 (va_A (WC cy ad ks g u0) sz) := by
  refine Met.ofW (cc := cX6_ticksWith) (maxL := 3) (ret := (some .int)) pn_X6 rfl ?_
  intro p e s m args below meth c s₁ B hml hv
  obtain ⟨rfl, hsz, hP, hK, hD0, hE⟩ := hv
  have hx := B.exec
  have hb := B.bytes
  have hr := B.returns
  have hts0 := atoms_spec (ws := (wsg yX6_ticksWith cX6_ticksWith 3 (some .int))) B.pre
  have hts : ∀ w ∈ wsL_law, w.before _ s = true := fun w h => hts0 w (List.mem_cons_of_mem _ h)
  have hown : s.vm.findClass RX6 = some m.cls := by have h9 := findClass_of_methodNamed B.named; exact h9
  have hlocks := B.notSynchronized
  subst hsz
  have hD := hD0.self (sz := s.heap.size)
  generalize hAe : va_A (WC cy ad ks g u0) s.heap.size = A at hD hE ⊢
  have hA : ∀ q : Nat, s.heap.size ≤ q → A q := fun q h => by rw [← hAe]; exact Or.inr h
  have hS : va_S A s.heap s.heap [] := va_S.rf
  have hl := lv_entry ([.ref (ad (.st L i)), .ref (ad (.tx (a1).toNatClampNeg)), .int a2]) (n := 3) (Nat.le_of_ble_eq_true rfl)
  rw [lg_entry_eq]
  generalize (lg_sl ([.ref (ad (.st L i)), .ref (ad (.tx (a1).toNatClampNeg)), .int a2]) ++ List.replicate (3 - (lg_sl ([.ref (ad (.st L i)), .ref (ad (.tx (a1).toNatClampNeg)), .int a2])).length) Slot.unset).toArray = ls at hl ⊢
  have hl : lv_has ls 3 [(0, .ref (ad (.st L i))), (1, .ref (ad (.tx (a1).toNatClampNeg))), (2, .int a2)] := hl
  generalize hHe : s.heap = H at hP hS ⊢
  have hS : va_S A s.heap H [] := by rw [hHe]; exact hS
  refine my_Q (fun Qn hQ => ?_)
  simp only [C6_ticksWith] at hF
  refine lv_aload_n hx hb dX6_ticksWith_0 rfl (lv_at hl 0 rfl) ?_
  obtain ⟨q9, h9⟩ := wc_at (cy := cy) (ad := ad) (ks := ks) (g := g) (u := u0) (κ := (.st L i)) hk.1 ⟨h_L_i.1, h_L_i.2⟩
  refine va_get (D := (dC, dI)) (ci := 6) (v := .int (u0 (10 + L) (17 + 16 * i + 0))) (C := RX6) (T := TX6) (N := 15) hx hb hts inlX6 hown hK hP q9 h9 rfl 0 (by decide) (hts _ mw_368) (fun _ h9 => h9) rfl dX6_ticksWith_1 ?_
  clear h9
  refine lv_iconst (v := 3) hx hb dX6_ticksWith_4 (by decide) ?_
  refine lv_icmp_ne (tgt := 16) hx hb dX6_ticksWith_5 (by decide) (fun c1 => ?_) (fun c1 => ?_)
  · rw [if_neg c1] at hF
    refine lv_aload_n hx hb dX6_ticksWith_16 rfl (lv_at hl 0 rfl) ?_
    obtain ⟨q9, h9⟩ := wc_at (cy := cy) (ad := ad) (ks := ks) (g := g) (u := u0) (κ := (.st L i)) hk.1 ⟨h_L_i.1, h_L_i.2⟩
    refine va_get (D := (dC, dI)) (ci := 6) (v := .int (u0 (10 + L) (17 + 16 * i + 1))) (C := RX6) (T := TX6) (N := 15) hx hb hts inlX6 hown hK hP q9 h9 rfl 1 (by decide) (hts _ mw_369) (fun _ h9 => h9) rfl dX6_ticksWith_17 ?_
    clear h9
    have hZ := s1 hF
    have zro : (u0 (10 + L) (17 + 16 * i + 1)) = ro := hZ
    have hP9 : va_P (dC, dI) vwCl (WC cy ad ks g u0) H := by exact hP
    have hD9 : va_D A (WC cy ad ks g u0) := by exact hD
    rw [hQ]
    exact W.iret (v := (u0 (10 + L) (17 + 16 * i + 1))) hx hb hr (fun t ht hW => ⟨⟨(u0 (10 + L) (17 + 16 * i + 1)), (), rfl, zro, by rw [ht]; exact hP9, hD9⟩, hS.F ht⟩) hS.2.2 dX6_ticksWith_20
  · rw [if_pos c1] at hF
    refine lv_aload_n hx hb dX6_ticksWith_8 rfl (lv_at hl 0 rfl) ?_
    obtain ⟨q9, h9⟩ := wc_at (cy := cy) (ad := ad) (ks := ks) (g := g) (u := u0) (κ := (.st L i)) hk.1 ⟨h_L_i.1, h_L_i.2⟩
    refine va_get (D := (dC, dI)) (ci := 6) (v := .int (u0 (10 + L) (17 + 16 * i + 1))) (C := RX6) (T := TX6) (N := 15) hx hb hts inlX6 hown hK hP q9 h9 rfl 1 (by decide) (hts _ mw_369) (fun _ h9 => h9) rfl dX6_ticksWith_9 ?_
    clear h9
    refine lv_iconst (v := 1) hx hb dX6_ticksWith_12 (by decide) ?_
    refine lv_icmp_ge (tgt := 21) hx hb dX6_ticksWith_13 (by decide) (fun c2 => ?_) (fun c2 => ?_)
    · rw [if_pos c2] at hF
      refine lv_aload_n hx hb dX6_ticksWith_21 rfl (lv_at hl 1 rfl) ?_
      obtain ⟨x3, e4, hF⟩ := ob hF
      obtain ⟨q9, h9⟩ := wc_at (cy := cy) (ad := ad) (ks := ks) (g := g) (u := u0) (κ := (.tx (a1).toNatClampNeg)) hk.1 (tln_h e4)
      refine va_alen (v := x3) hx hb hK hP q9 0 h9 (ty := .byte) rfl (tln_l e4) dX6_ticksWith_22 ?_
      clear h9
      refine lv_iload_n hx hb dX6_ticksWith_23 rfl (lv_at hl 2 rfl) ?_
      refine lv_aload_n hx hb dX6_ticksWith_24 rfl (lv_at hl 0 rfl) ?_
      obtain ⟨q9, h9⟩ := wc_at (cy := cy) (ad := ad) (ks := ks) (g := g) (u := u0) (κ := (.st L i)) hk.1 ⟨h_L_i.1, h_L_i.2⟩
      refine va_get (D := (dC, dI)) (ci := 6) (v := .int (u0 (10 + L) (17 + 16 * i + 1))) (C := RX6) (T := TX6) (N := 15) hx hb hts inlX6 hown hK hP q9 h9 rfl 1 (by decide) (hts _ mw_369) (fun _ h9 => h9) rfl dX6_ticksWith_25 ?_
      clear h9
      refine lv_iadd hx hb dX6_ticksWith_28 ?_
      refine lv_iconst (v := 1) hx hb dX6_ticksWith_29 (by decide) ?_
      refine lv_isub hx hb dX6_ticksWith_30 ?_
      refine lv_aload_n hx hb dX6_ticksWith_31 rfl (lv_at hl 0 rfl) ?_
      obtain ⟨q9, h9⟩ := wc_at (cy := cy) (ad := ad) (ks := ks) (g := g) (u := u0) (κ := (.st L i)) hk.1 ⟨h_L_i.1, h_L_i.2⟩
      refine va_get (D := (dC, dI)) (ci := 6) (v := .int (u0 (10 + L) (17 + 16 * i + 1))) (C := RX6) (T := TX6) (N := 15) hx hb hts inlX6 hown hK hP q9 h9 rfl 1 (by decide) (hts _ mw_369) (fun _ h9 => h9) rfl dX6_ticksWith_32 ?_
      clear h9
      obtain ⟨x5, e6, hF⟩ := ob hF
      refine lv_idiv hx hb dX6_ticksWith_35 (dv_ne e6) ?_
      refine my_topi (y := x5) (dv_eq e6) ?_
      refine lv_iadd hx hb dX6_ticksWith_36 ?_
      have hZ := s1 hF
      have zro : (x3 + x5) = ro := hZ
      have hP9 : va_P (dC, dI) vwCl (WC cy ad ks g u0) H := by exact hP
      have hD9 : va_D A (WC cy ad ks g u0) := by exact hD
      rw [hQ]
      exact W.iret (v := (x3 + x5)) hx hb hr (fun t ht hW => ⟨⟨(x3 + x5), (), rfl, zro, by rw [ht]; exact hP9, hD9⟩, hS.F ht⟩) hS.2.2 dX6_ticksWith_37
    · rw [if_neg c2] at hF
      refine lv_aload_n hx hb dX6_ticksWith_16 rfl (lv_at hl 0 rfl) ?_
      obtain ⟨q9, h9⟩ := wc_at (cy := cy) (ad := ad) (ks := ks) (g := g) (u := u0) (κ := (.st L i)) hk.1 ⟨h_L_i.1, h_L_i.2⟩
      refine va_get (D := (dC, dI)) (ci := 6) (v := .int (u0 (10 + L) (17 + 16 * i + 1))) (C := RX6) (T := TX6) (N := 15) hx hb hts inlX6 hown hK hP q9 h9 rfl 1 (by decide) (hts _ mw_369) (fun _ h9 => h9) rfl dX6_ticksWith_17 ?_
      clear h9
      have hZ := s1 hF
      have zro : (u0 (10 + L) (17 + 16 * i + 1)) = ro := hZ
      have hP9 : va_P (dC, dI) vwCl (WC cy ad ks g u0) H := by exact hP
      have hD9 : va_D A (WC cy ad ks g u0) := by exact hD
      rw [hQ]
      exact W.iret (v := (u0 (10 + L) (17 + 16 * i + 1))) hx hb hr (fun t ht hW => ⟨⟨(u0 (10 + L) (17 + 16 * i + 1)), (), rfl, zro, by rw [ht]; exact hP9, hD9⟩, hS.F ht⟩) hS.2.2 dX6_ticksWith_20
noncomputable def C6_takeIn (g : CG) (u0 : RS) (L : Nat) (i : Nat) (a1 : Int32) (a2 : Int32) (a3 : Int32) : Option (RS) := (C6_ticksWith g u0 L i a2 (a3)).bind fun x1 => (pt u0 (10 + L) (17 + 16 * i + 3) x1).bind fun u3 => (if (u3 (10 + L) (17 + 16 * i + 0)) = 3 then ((tln g u3 (a2)).bind fun x11 => if x11 ≤ 0 then (some u3) else ((tln g u3 (a2)).bind fun x14 => (tbt g u3 (a2) (x14 - 1)).bind fun x16 => (pt u3 (10 + L) (17 + 16 * i + 8) x16).bind fun u18 => some u18)) else (some u3) : Option (RS)).bind fun t6 => (pt t6 (10 + L) (17 + 16 * i + 2) a1).bind fun u9 => some u9
set_option maxHeartbeats 4000000 in
set_option maxRecDepth 100000 in
theorem c_X6_takeIn (l : Launch) (dC : Nat → ClassId) (dI : Nat → Nat → Nat) (cy : Nat → ClassId) (nb : Nat → Nat) (ad : CK → Nat) (ks : List CK) (g : CG) (hk : GA nb ad g ks) (u0 : RS) (L : Nat) (i : Nat) (a1 : Int32) (a2 : Int32) (a3 : Int32) (uz : RS) (sz : Nat) (h_L_i : has g (.st L i)) (hF : C6_takeIn g u0 L i a1 a2 a3 = some uz) : Met l yX6_takeIn (wsg yX6_takeIn cX6_takeIn 4 none) ({ frames := 8, cells := 0, slots := 0, locals := 300 }) (va_Pc [.ref (ad (.st L i)), .int a1, .ref (ad (.tx (a2).toNatClampNeg)), .int a3] (fun U => U.heap.size = sz ∧ va_P (dC, dI) vwCl (WC cy ad ks g u0) U.heap ∧ va_K (dC, dI) vwCl (tyL cy) U ∧ va_D (fun _ => True) (WC cy ad ks g u0) ∧ GE nb (va_A (WC cy ad ks g u0) sz) U)) (va_Qv (fun (_ : Unit) => True) (fun _ t => va_P (dC, dI) vwCl (WC cy ad ks g uz) t.heap ∧ va_D (va_A (WC cy ad ks g u0) sz) (WC cy ad ks g uz)) (va_A (WC cy ad ks g u0) sz)) 0 0 (va_A (WC cy ad ks g u0) sz) := by
  refine Met.ofW (cc := cX6_takeIn) (maxL := 4) (ret := none) pn_X6 rfl ?_
  intro p e s m args below meth c s₁ B hml hv
  obtain ⟨rfl, hsz, hP, hK, hD0, hE⟩ := hv
  have hx := B.exec
  have hb := B.bytes
  have hr := B.returns
  have hts0 := atoms_spec (ws := (wsg yX6_takeIn cX6_takeIn 4 none)) B.pre
  have hts : ∀ w ∈ wsL_law, w.before _ s = true := fun w h => hts0 w (List.mem_cons_of_mem _ h)
  have hown : s.vm.findClass RX6 = some m.cls := by have h9 := findClass_of_methodNamed B.named; exact h9
  have hlocks := B.notSynchronized
  subst hsz
  have hD := hD0.self (sz := s.heap.size)
  generalize hAe : va_A (WC cy ad ks g u0) s.heap.size = A at hD hE ⊢
  have hA : ∀ q : Nat, s.heap.size ≤ q → A q := fun q h => by rw [← hAe]; exact Or.inr h
  have hS : va_S A s.heap s.heap [] := va_S.rf
  have hl := lv_entry ([.ref (ad (.st L i)), .int a1, .ref (ad (.tx (a2).toNatClampNeg)), .int a3]) (n := 4) (Nat.le_of_ble_eq_true rfl)
  rw [lg_entry_eq]
  generalize (lg_sl ([.ref (ad (.st L i)), .int a1, .ref (ad (.tx (a2).toNatClampNeg)), .int a3]) ++ List.replicate (4 - (lg_sl ([.ref (ad (.st L i)), .int a1, .ref (ad (.tx (a2).toNatClampNeg)), .int a3])).length) Slot.unset).toArray = ls at hl ⊢
  have hl : lv_has ls 4 [(0, .ref (ad (.st L i))), (1, .int a1), (2, .ref (ad (.tx (a2).toNatClampNeg))), (3, .int a3)] := hl
  generalize hHe : s.heap = H at hP hS ⊢
  have hS : va_S A s.heap H [] := by rw [hHe]; exact hS
  refine my_Q (fun Qn hQ => ?_)
  simp only [C6_takeIn] at hF
  refine lv_aload_n hx hb dX6_takeIn_0 rfl (lv_at hl 0 rfl) ?_
  refine lv_aload_n hx hb dX6_takeIn_1 rfl (lv_at hl 0 rfl) ?_
  refine lv_aload_n hx hb dX6_takeIn_2 rfl (lv_at hl 2 rfl) ?_
  refine lv_iload_n hx hb dX6_takeIn_3 rfl (lv_at hl 3 rfl) ?_
  obtain ⟨x1, e2, hF⟩ := ob hF
  have hPc := hP
  have hDc := hD
  have hFc := my_free hD hS hA
  obtain ⟨q8, h8⟩ := wc_at (cy := cy) (ad := ad) (ks := ks) (g := g) (u := u0) (κ := (.st L i)) hk.1 ⟨h_L_i.1, h_L_i.2⟩
  refine va_calli (va_runV (As := [.ref (ad (.tx (a2).toNatClampNeg)), .int a3]) (rest := [.ref (ad (.st L i))]) ⟨hx, hb, hml, hown, hts⟩ (c_X6_ticksWith l dC dI cy nb ad ks g hk u0 L i a2 (a3) (x1) H.size ⟨h_L_i.1, h_L_i.2⟩ e2) (cwV 2 hts (gV mw_851 mw_852 mw_853 mw_50 mw_854) rfl rfl rfl (by decide +kernel) ⟨Nat.le_of_ble_eq_true rfl, Nat.le_of_ble_eq_true rfl⟩) (my_preV hPc hK hDc hE hS hFc (va_recv (q := (RX6, TX6, 15)) hK hP (ci := 6) (q0 := q8) rfl h8)) rfl rfl hl.1 rfl (lv_room (Nat.le_of_ble_eq_true rfl)) dX6_takeIn_4 ⟨Nat.le_of_ble_eq_true rfl, Nat.le_of_ble_eq_true rfl⟩) hS (fun q _ h => hFc q h) hFc (fun r u t H1 locs ht hvm hw hB hz1 hk1 hS => ?_)
  clear h8
  obtain ⟨hP1, hD1⟩ := hB
  rw [ht] at hP1
  have hP := hP1
  have hD := hD1.weaken (fun k q _ h => hFc q.1 h)
  generalize H1 = H at hP hS ⊢
  clear hP1 hD1 hPc hDc hFc hk1 hz1 hvm ht
  obtain rfl := hw.symm
  obtain ⟨q9, h9, ez9⟩ := wc_set (cy := cy) (ad := ad) (ks := ks) (g := g) (u := u0) (κ := (.st L i)) (r := (10 + L)) (i := (17 + 16 * i + 3)) (v := x1) hk.1 ⟨h_L_i.1, h_L_i.2⟩ (own_st (inl_lt h_L_i.1) h_L_i.2 (by decide)) (sf_st_4)
  refine va_put (D := (dC, dI)) (ci := 6) (v := .int x1) (ty := .int) (C := RX6) (T := TX6) (N := 15) hx hb hts inlX6 tyX6 tyX6_ok nmX6 hown hK hP hD hS q9 h9 rfl 4 (by decide) (hts _ mw_371) (fun _ h9 => h9) rfl (by decide +kernel) rfl rfl (Nat.le_of_ble_eq_true rfl) dX6_takeIn_7 (fun H locs hP hD hS => ?_)
  obtain ⟨u3, e4, hF⟩ := ob hF
  have hP : va_P (dC, dI) vwCl (WC cy ad ks g u3) H := by rw [← pt_eq e4, ← ez9]; exact hP
  have hD : va_D A (WC cy ad ks g u3) := by rw [← pt_eq e4, ← ez9]; exact hD
  clear ez9 h9
  refine lv_aload_n hx hb dX6_takeIn_10 rfl (lv_at hl 0 rfl) ?_
  obtain ⟨q9, h9⟩ := wc_at (cy := cy) (ad := ad) (ks := ks) (g := g) (u := u3) (κ := (.st L i)) hk.1 ⟨h_L_i.1, h_L_i.2⟩
  refine va_get (D := (dC, dI)) (ci := 6) (v := .int (u3 (10 + L) (17 + 16 * i + 0))) (C := RX6) (T := TX6) (N := 15) hx hb hts inlX6 hown hK hP q9 h9 rfl 0 (by decide) (hts _ mw_368) (fun _ h9 => h9) rfl dX6_takeIn_11 ?_
  clear h9
  refine lv_iconst (v := 3) hx hb dX6_takeIn_14 (by decide) ?_
  obtain ⟨t6, hJ7, hF⟩ := ob hF
  have join8 : ∀ (H : Heap) (locs : List Loc) (ls : Array Slot), va_P (dC, dI) vwCl (WC cy ad ks g t6) H → va_D A (WC cy ad ks g t6) → va_S A s.heap H locs → lv_has ls 4 [(0, .ref (ad (.st L i))), (1, .int a1), (2, .ref (ad (.tx (a2).toNatClampNeg))), (3, .int a3)] → W p l e (headSpec (wsg yX6_takeIn cX6_takeIn 4 none) ({ frames := 8, cells := 0, slots := 0, locals := 300 })).room s m ([.ref (ad (.st L i)), .int a1, .ref (ad (.tx (a2).toNatClampNeg)), .int a3] : List Value).toArray below meth c H locs 0 0 Qn (F0 m 33 ls []) := by
    intro H locs ls hP hD hS hl
    refine lv_aload_n hx hb dX6_takeIn_33 rfl (lv_at hl 0 rfl) ?_
    refine lv_iload_n hx hb dX6_takeIn_34 rfl (lv_at hl 1 rfl) ?_
    obtain ⟨q9, h9, ez9⟩ := wc_set (cy := cy) (ad := ad) (ks := ks) (g := g) (u := t6) (κ := (.st L i)) (r := (10 + L)) (i := (17 + 16 * i + 2)) (v := a1) hk.1 ⟨h_L_i.1, h_L_i.2⟩ (own_st (inl_lt h_L_i.1) h_L_i.2 (by decide)) (sf_st_3)
    refine va_put (D := (dC, dI)) (ci := 6) (v := .int a1) (ty := .int) (C := RX6) (T := TX6) (N := 15) hx hb hts inlX6 tyX6 tyX6_ok nmX6 hown hK hP hD hS q9 h9 rfl 3 (by decide) (hts _ mw_370) (fun _ h9 => h9) rfl (by decide +kernel) rfl rfl (Nat.le_of_ble_eq_true rfl) dX6_takeIn_35 (fun H locs hP hD hS => ?_)
    obtain ⟨u9, e10, hF⟩ := ob hF
    have hP : va_P (dC, dI) vwCl (WC cy ad ks g u9) H := by rw [← pt_eq e10, ← ez9]; exact hP
    have hD : va_D A (WC cy ad ks g u9) := by rw [← pt_eq e10, ← ez9]; exact hD
    clear ez9 h9
    have hZ := s1 hF
    have zuz : u9 = uz := hZ
    have hP9 : va_P (dC, dI) vwCl (WC cy ad ks g uz) H := by rw [← zuz]; exact hP
    have hD9 : va_D A (WC cy ad ks g uz) := by rw [← zuz]; exact hD
    rw [hQ]
    exact W.vret hx hb hr (fun t ht hW => ⟨⟨(), rfl, trivial, by rw [ht]; exact hP9, hD9⟩, hS.F ht⟩) hS.2.2 dX6_takeIn_38
  clear hF
  have hF := hJ7
  clear hJ7
  refine lv_icmp_ne (tgt := 33) hx hb dX6_takeIn_15 (by decide) (fun c5 => ?_) (fun c5 => ?_)
  · rw [if_neg c5] at hF
    have ht := s1 hF
    subst ht
    exact join8 _ _ _ hP hD hS (lv_sub hl [0, 1, 2, 3] rfl)
  · rw [if_pos c5] at hF
    refine lv_aload_n hx hb dX6_takeIn_18 rfl (lv_at hl 2 rfl) ?_
    obtain ⟨x11, e12, hF⟩ := ob hF
    obtain ⟨q9, h9⟩ := wc_at (cy := cy) (ad := ad) (ks := ks) (g := g) (u := u3) (κ := (.tx (a2).toNatClampNeg)) hk.1 (tln_h e12)
    refine va_alen (v := x11) hx hb hK hP q9 0 h9 (ty := .byte) rfl (tln_l e12) dX6_takeIn_19 ?_
    clear h9
    refine lv_if_le (tgt := 33) hx hb dX6_takeIn_20 (by decide) (fun c13 => ?_) (fun c13 => ?_)
    · rw [if_pos c13] at hF
      have ht := s1 hF
      subst ht
      exact join8 _ _ _ hP hD hS (lv_sub hl [0, 1, 2, 3] rfl)
    · rw [if_neg c13] at hF
      refine lv_aload_n hx hb dX6_takeIn_23 rfl (lv_at hl 0 rfl) ?_
      refine lv_aload_n hx hb dX6_takeIn_24 rfl (lv_at hl 2 rfl) ?_
      refine lv_aload_n hx hb dX6_takeIn_25 rfl (lv_at hl 2 rfl) ?_
      obtain ⟨x14, e15, hF⟩ := ob hF
      obtain ⟨q9, h9⟩ := wc_at (cy := cy) (ad := ad) (ks := ks) (g := g) (u := u3) (κ := (.tx (a2).toNatClampNeg)) hk.1 (tln_h e15)
      refine va_alen (v := x14) hx hb hK hP q9 0 h9 (ty := .byte) rfl (tln_l e15) dX6_takeIn_26 ?_
      clear h9
      refine lv_iconst (v := 1) hx hb dX6_takeIn_27 (by decide) ?_
      refine lv_isub hx hb dX6_takeIn_28 ?_
      obtain ⟨x16, e17, hF⟩ := ob hF
      obtain ⟨q9, h9⟩ := wc_at (cy := cy) (ad := ad) (ks := ks) (g := g) (u := u3) (κ := (.tx (a2).toNatClampNeg)) hk.1 (tbt_h e17)
      refine va_bald hx hb hK hP q9 0 h9 rfl (tbt_in e17) dX6_takeIn_29 ?_
      refine my_topi (y := x16) (tbt_eq e17) ?_
      clear h9
      obtain ⟨q9, h9, ez9⟩ := wc_set (cy := cy) (ad := ad) (ks := ks) (g := g) (u := u3) (κ := (.st L i)) (r := (10 + L)) (i := (17 + 16 * i + 8)) (v := x16) hk.1 ⟨h_L_i.1, h_L_i.2⟩ (own_st (inl_lt h_L_i.1) h_L_i.2 (by decide)) (sf_st_10)
      refine va_put (D := (dC, dI)) (ci := 6) (v := .int x16) (ty := .int) (C := RX6) (T := TX6) (N := 15) hx hb hts inlX6 tyX6 tyX6_ok nmX6 hown hK hP hD hS q9 h9 rfl 10 (by decide) (hts _ mw_377) (fun _ h9 => h9) rfl (by decide +kernel) rfl rfl (Nat.le_of_ble_eq_true rfl) dX6_takeIn_30 (fun H locs hP hD hS => ?_)
      obtain ⟨u18, e19, hF⟩ := ob hF
      have hP : va_P (dC, dI) vwCl (WC cy ad ks g u18) H := by rw [← pt_eq e19, ← ez9]; exact hP
      have hD : va_D A (WC cy ad ks g u18) := by rw [← pt_eq e19, ← ez9]; exact hD
      clear ez9 h9
      have ht := s1 hF
      subst ht
      exact join8 _ _ _ hP hD hS (lv_sub hl [0, 1, 2, 3] rfl)
noncomputable def C3_enter (g : CG) (u0 : RS) (L : Nat) (a1 : Int32) (a2 : Int32) : Option (RS) := (ix 30 a1).bind fun n1 => (ix 6 a2).bind fun n3 => (C6_turnsOf g u0 L n3 (u0 (10 + L) (137 + 25 * n1 + 2))).bind fun x5 => (wso u0 (10 + L) 12 5 3 ((u0 (10 + L) (12 + 3)) + x5)).bind fun u7 => (C6_takeIn g u7 L n3 (a1) (u7 (10 + L) (137 + 25 * n1 + 2)) (x5)).bind fun u9 => (C3_changeState g u9 L n1 (1)).bind fun u11 => (pt u11 (10 + L) (137 + 25 * n1 + 4) a2).bind fun u13 => some u13
set_option maxHeartbeats 4000000 in
set_option maxRecDepth 100000 in
theorem c_X3_enter (l : Launch) (dC : Nat → ClassId) (dI : Nat → Nat → Nat) (cy : Nat → ClassId) (nb : Nat → Nat) (ad : CK → Nat) (ks : List CK) (g : CG) (hk : GA nb ad g ks) (u0 : RS) (L : Nat) (a1 : Int32) (a2 : Int32) (uz : RS) (sz : Nat) (h_L : has g (.ln L)) (hF : C3_enter g u0 L a1 a2 = some uz) : Met l yX3_enter (wsg yX3_enter cX3_enter 6 none) ({ frames := 9, cells := 0, slots := 0, locals := 400 }) (va_Pc [.ref (ad (.ln L)), .int a1, .int a2] (fun U => U.heap.size = sz ∧ va_P (dC, dI) vwCl (WC cy ad ks g u0) U.heap ∧ va_K (dC, dI) vwCl (tyL cy) U ∧ va_D (fun _ => True) (WC cy ad ks g u0) ∧ GE nb (va_A (WC cy ad ks g u0) sz) U)) (va_Qv (fun (_ : Unit) => True) (fun _ t => va_P (dC, dI) vwCl (WC cy ad ks g uz) t.heap ∧ va_D (va_A (WC cy ad ks g u0) sz) (WC cy ad ks g uz)) (va_A (WC cy ad ks g u0) sz)) 0 0 (va_A (WC cy ad ks g u0) sz) := by
  refine Met.ofW (cc := cX3_enter) (maxL := 6) (ret := none) pn_X3 rfl ?_
  intro p e s m args below meth c s₁ B hml hv
  obtain ⟨rfl, hsz, hP, hK, hD0, hE⟩ := hv
  have hx := B.exec
  have hb := B.bytes
  have hr := B.returns
  have hts0 := atoms_spec (ws := (wsg yX3_enter cX3_enter 6 none)) B.pre
  have hts : ∀ w ∈ wsL_law, w.before _ s = true := fun w h => hts0 w (List.mem_cons_of_mem _ h)
  have hown : s.vm.findClass RX3 = some m.cls := by have h9 := findClass_of_methodNamed B.named; exact h9
  have hlocks := B.notSynchronized
  subst hsz
  have hD := hD0.self (sz := s.heap.size)
  generalize hAe : va_A (WC cy ad ks g u0) s.heap.size = A at hD hE ⊢
  have hA : ∀ q : Nat, s.heap.size ≤ q → A q := fun q h => by rw [← hAe]; exact Or.inr h
  have hS : va_S A s.heap s.heap [] := va_S.rf
  have hl := lv_entry ([.ref (ad (.ln L)), .int a1, .int a2]) (n := 6) (Nat.le_of_ble_eq_true rfl)
  rw [lg_entry_eq]
  generalize (lg_sl ([.ref (ad (.ln L)), .int a1, .int a2]) ++ List.replicate (6 - (lg_sl ([.ref (ad (.ln L)), .int a1, .int a2])).length) Slot.unset).toArray = ls at hl ⊢
  have hl : lv_has ls 6 [(0, .ref (ad (.ln L))), (1, .int a1), (2, .int a2)] := hl
  generalize hHe : s.heap = H at hP hS ⊢
  have hS : va_S A s.heap H [] := by rw [hHe]; exact hS
  refine my_Q (fun Qn hQ => ?_)
  simp only [C3_enter] at hF
  refine lv_aload_n hx hb dX3_enter_0 rfl (lv_at hl 0 rfl) ?_
  obtain ⟨q9, h9⟩ := wc_at (cy := cy) (ad := ad) (ks := ks) (g := g) (u := u0) (κ := (.ln L)) hk.1 h_L
  refine va_get (D := (dC, dI)) (ci := 3) (v := .ref (ad (.cs L))) (C := RX3) (T := TX3) (N := 17) hx hb hts inlX3 hown hK hP q9 h9 rfl 12 (by decide) (hts _ mw_45) (fun _ h9 => h9) rfl dX3_enter_1 ?_
  clear h9
  refine lv_iload_n hx hb dX3_enter_4 rfl (lv_at hl 1 rfl) ?_
  obtain ⟨n1, e2, hF⟩ := ob hF
  obtain ⟨q9, h9⟩ := wc_at (cy := cy) (ad := ad) (ks := ks) (g := g) (u := u0) (κ := (.cs L)) hk.1 h_L
  refine va_aldq hx hb hK hP q9 8 h9 rfl (ix_in e2) dX3_enter_5 ?_
  refine my_top (y := .ref (ad (.cd L n1))) (ixv (F := fun j => ad (.cd L j)) e2) ?_
  clear h9
  refine lv_astore_n (lv' := [(3, .ref (ad (.cd L n1))), (0, .ref (ad (.ln L))), (1, .int a1), (2, .int a2)]) hx hb dX3_enter_6 rfl hl (by decide) rfl (fun ls hl => ?_)
  refine lv_aload_n hx hb dX3_enter_7 rfl (lv_at hl 1 rfl) ?_
  obtain ⟨q9, h9⟩ := wc_at (cy := cy) (ad := ad) (ks := ks) (g := g) (u := u0) (κ := (.ln L)) hk.1 h_L
  refine va_get (D := (dC, dI)) (ci := 3) (v := .ref (ad (.ss L))) (C := RX3) (T := TX3) (N := 17) hx hb hts inlX3 hown hK hP q9 h9 rfl 10 (by decide) (hts _ mw_41) (fun _ h9 => h9) rfl dX3_enter_8 ?_
  clear h9
  refine lv_iload_n hx hb dX3_enter_11 rfl (lv_at hl 3 rfl) ?_
  obtain ⟨n3, e4, hF⟩ := ob hF
  obtain ⟨q9, h9⟩ := wc_at (cy := cy) (ad := ad) (ks := ks) (g := g) (u := u0) (κ := (.ss L)) hk.1 h_L
  refine va_aldq hx hb hK hP q9 6 h9 rfl (ix_in e4) dX3_enter_12 ?_
  refine my_top (y := .ref (ad (.st L n3))) (ixv (F := fun j => ad (.st L j)) e4) ?_
  clear h9
  refine lv_astore (lv' := [(4, .ref (ad (.st L n3))), (3, .ref (ad (.cd L n1))), (0, .ref (ad (.ln L))), (1, .int a1), (2, .int a2)]) hx hb dX3_enter_13 hl (by decide) rfl (fun ls hl => ?_)
  refine lv_aload hx hb dX3_enter_15 (lv_at hl 0 rfl) ?_
  refine lv_aload_n hx hb dX3_enter_17 rfl (lv_at hl 1 rfl) ?_
  obtain ⟨q9, h9⟩ := wc_at (cy := cy) (ad := ad) (ks := ks) (g := g) (u := u0) (κ := (.cd L n1)) hk.1 ⟨h_L, (ix_lt e2)⟩
  refine va_get (D := (dC, dI)) (ci := 2) (v := .ref (ad (.tx (u0 (10 + L) (137 + 25 * n1 + 2)).toNatClampNeg))) (C := RX1) (T := TX1) (N := 9) hx hb hts inlX1 hown hK hP q9 h9 rfl 2 (by decide) (hts _ mw_949) (fun _ h9 => h9) rfl dX3_enter_18 ?_
  clear h9
  obtain ⟨x5, e6, hF⟩ := ob hF
  have hPc := hP
  have hDc := hD
  have hFc := my_free hD hS hA
  obtain ⟨q8, h8⟩ := wc_at (cy := cy) (ad := ad) (ks := ks) (g := g) (u := u0) (κ := (.st L n3)) hk.1 ⟨h_L, (ix_lt e4)⟩
  refine va_calli (va_runV (As := [.ref (ad (.tx (u0 (10 + L) (137 + 25 * n1 + 2)).toNatClampNeg))]) (rest := []) ⟨hx, hb, hml, hown, hts⟩ (c_X6_turnsOf l dC dI cy nb ad ks g hk u0 L n3 (u0 (10 + L) (137 + 25 * n1 + 2)) (x5) H.size ⟨h_L, (ix_lt e4)⟩ e6) (cwV 1 hts (gV mw_1195 mw_848 mw_849 mw_50 mw_850) rfl rfl rfl (by decide +kernel) ⟨Nat.le_of_ble_eq_true rfl, Nat.le_of_ble_eq_true rfl⟩) (my_preV hPc hK hDc hE hS hFc (va_recv (q := (RX6, TX6, 15)) hK hP (ci := 6) (q0 := q8) rfl h8)) rfl rfl hl.1 rfl (lv_room (Nat.le_of_ble_eq_true rfl)) dX3_enter_21 ⟨Nat.le_of_ble_eq_true rfl, Nat.le_of_ble_eq_true rfl⟩) hS (fun q _ h => hFc q h) hFc (fun r u t H1 locs ht hvm hw hB hz1 hk1 hS => ?_)
  clear h8
  obtain ⟨hP1, hD1⟩ := hB
  rw [ht] at hP1
  have hP := hP1
  have hD := hD1.weaken (fun k q _ h => hFc q.1 h)
  generalize H1 = H at hP hS ⊢
  clear hP1 hD1 hPc hDc hFc hk1 hz1 hvm ht
  obtain rfl := hw.symm
  refine lv_istore (lv' := [(5, .int x5), (4, .ref (ad (.st L n3))), (3, .ref (ad (.cd L n1))), (0, .ref (ad (.ln L))), (1, .int a1), (2, .int a2)]) hx hb dX3_enter_24 hl (by decide) rfl (fun ls hl => ?_)
  refine lv_aload_n hx hb dX3_enter_26 rfl (lv_at hl 3 rfl) ?_
  obtain ⟨q9, h9⟩ := wc_at (cy := cy) (ad := ad) (ks := ks) (g := g) (u := u0) (κ := (.ln L)) hk.1 h_L
  refine va_get (D := (dC, dI)) (ci := 3) (v := .ref (ad (.tt L))) (C := RX3) (T := TX3) (N := 17) hx hb hts inlX3 hown hK hP q9 h9 rfl 15 (by decide) (hts _ mw_48) (fun _ h9 => h9) rfl dX3_enter_27 ?_
  clear h9
  refine lv_iconst (v := 3) hx hb dX3_enter_30 (by decide) ?_
  refine lv_dup2_11 hx hb dX3_enter_31 rfl rfl ?_
  obtain ⟨q9, h9⟩ := wc_at (cy := cy) (ad := ad) (ks := ks) (g := g) (u := u0) (κ := (.tt L)) hk.1 h_L
  refine va_iald hx hb hK hP q9 1 h9 rfl (vp_in_nI (n := 3) (by decide) (by decide)) dX3_enter_32 ?_
  refine my_topi (y := (u0 (10 + L) (12 + 3))) (by rfl) ?_
  clear h9
  refine lv_iload hx hb dX3_enter_33 (lv_at hl 0 rfl) ?_
  refine lv_iadd hx hb dX3_enter_35 ?_
  obtain ⟨u7, e8, hF⟩ := ob hF
  obtain ⟨q9, h9, ez9⟩ := wc_set (cy := cy) (ad := ad) (ks := ks) (g := g) (u := u0) (κ := (.tt L)) (r := (10 + L)) (i := (12 + (3 : Int32).toNatClampNeg)) (v := ((u0 (10 + L) (12 + 3)) + x5)) hk.1 h_L (own_tt (inl_lt h_L) (vp_in_lt (wso_in e8))) (sf_tt (vp_in_lt (wso_in e8)))
  refine va_iast hx hb hK hP hD hS q9 1 h9 rfl (wso_in e8) dX3_enter_36 (fun H locs hP hD hS => ?_)
  have hP : va_P (dC, dI) vwCl (WC cy ad ks g u7) H := by rw [← wso_eq e8, ← ez9]; exact hP
  have hD : va_D A (WC cy ad ks g u7) := by rw [← wso_eq e8, ← ez9]; exact hD
  clear ez9 h9
  refine lv_aload hx hb dX3_enter_37 (lv_at hl 1 rfl) ?_
  refine lv_iload_n hx hb dX3_enter_39 rfl (lv_at hl 4 rfl) ?_
  refine lv_aload_n hx hb dX3_enter_40 rfl (lv_at hl 2 rfl) ?_
  obtain ⟨q9, h9⟩ := wc_at (cy := cy) (ad := ad) (ks := ks) (g := g) (u := u7) (κ := (.cd L n1)) hk.1 ⟨h_L, (ix_lt e2)⟩
  refine va_get (D := (dC, dI)) (ci := 2) (v := .ref (ad (.tx (u7 (10 + L) (137 + 25 * n1 + 2)).toNatClampNeg))) (C := RX1) (T := TX1) (N := 9) hx hb hts inlX1 hown hK hP q9 h9 rfl 2 (by decide) (hts _ mw_949) (fun _ h9 => h9) rfl dX3_enter_41 ?_
  clear h9
  refine lv_iload hx hb dX3_enter_44 (lv_at hl 0 rfl) ?_
  obtain ⟨u9, e10, hF⟩ := ob hF
  have hPc := hP
  have hDc := hD
  have hFc := my_free hD hS hA
  obtain ⟨q8, h8⟩ := wc_at (cy := cy) (ad := ad) (ks := ks) (g := g) (u := u7) (κ := (.st L n3)) hk.1 ⟨h_L, (ix_lt e4)⟩
  refine va_callv (va_runV (As := [.int a1, .ref (ad (.tx (u7 (10 + L) (137 + 25 * n1 + 2)).toNatClampNeg)), .int x5]) (rest := []) ⟨hx, hb, hml, hown, hts⟩ (c_X6_takeIn l dC dI cy nb ad ks g hk u7 L n3 (a1) (u7 (10 + L) (137 + 25 * n1 + 2)) (x5) (u9) H.size ⟨h_L, (ix_lt e4)⟩ e10) (cwV 3 hts (gV mw_1196 mw_1197 mw_1198 mw_50 mw_1199) rfl rfl rfl (by decide +kernel) ⟨Nat.le_of_ble_eq_true rfl, Nat.le_of_ble_eq_true rfl⟩) (my_preV hPc hK hDc hE hS hFc (va_recv (q := (RX6, TX6, 15)) hK hP (ci := 6) (q0 := q8) rfl h8)) rfl rfl hl.1 rfl (lv_room (Nat.le_of_ble_eq_true rfl)) dX3_enter_46 ⟨Nat.le_of_ble_eq_true rfl, Nat.le_of_ble_eq_true rfl⟩) hS (fun q _ h => hFc q h) hFc (fun u t H1 locs ht hvm hw hB hz1 hk1 hS => ?_)
  clear h8
  obtain ⟨hP1, hD1⟩ := hB
  rw [ht] at hP1
  have hP := hP1
  have hD := hD1.weaken (fun k q _ h => hFc q.1 h)
  generalize H1 = H at hP hS ⊢
  clear hP1 hD1 hPc hDc hFc hk1 hz1 hvm ht
  refine lv_aload_n hx hb dX3_enter_49 rfl (lv_at hl 3 rfl) ?_
  refine lv_aload_n hx hb dX3_enter_50 rfl (lv_at hl 2 rfl) ?_
  refine lv_iconst (v := 1) hx hb dX3_enter_51 (by decide) ?_
  obtain ⟨u11, e12, hF⟩ := ob hF
  have hPc := hP
  have hDc := hD
  have hFc := my_free hD hS hA
  obtain ⟨q8, h8⟩ := wc_at (cy := cy) (ad := ad) (ks := ks) (g := g) (u := u9) (κ := (.ln L)) hk.1 h_L
  refine va_callv (va_runV (As := [.ref (ad (.cd L n1)), .int 1]) (rest := []) ⟨hx, hb, hml, hown, hts⟩ (c_X3_changeState l dC dI cy nb ad ks g hk u9 L n1 (1) (u11) H.size h_L ⟨h_L, (ix_lt e2)⟩ e12) (cwV 2 hts (gV mw_1003 mw_1004 mw_1005 mw_17 mw_1006) rfl rfl rfl (by decide +kernel) ⟨Nat.le_of_ble_eq_true rfl, Nat.le_of_ble_eq_true rfl⟩) (my_preV hPc hK hDc hE hS hFc (va_recv (q := (RX3, TX3, 17)) hK hP (ci := 3) (q0 := q8) rfl h8)) rfl rfl hl.1 rfl (lv_room (Nat.le_of_ble_eq_true rfl)) dX3_enter_52 ⟨Nat.le_of_ble_eq_true rfl, Nat.le_of_ble_eq_true rfl⟩) hS (fun q _ h => hFc q h) hFc (fun u t H1 locs ht hvm hw hB hz1 hk1 hS => ?_)
  clear h8
  obtain ⟨hP1, hD1⟩ := hB
  rw [ht] at hP1
  have hP := hP1
  have hD := hD1.weaken (fun k q _ h => hFc q.1 h)
  generalize H1 = H at hP hS ⊢
  clear hP1 hD1 hPc hDc hFc hk1 hz1 hvm ht
  refine lv_aload_n hx hb dX3_enter_55 rfl (lv_at hl 2 rfl) ?_
  refine lv_iload_n hx hb dX3_enter_56 rfl (lv_at hl 5 rfl) ?_
  obtain ⟨q9, h9, ez9⟩ := wc_set (cy := cy) (ad := ad) (ks := ks) (g := g) (u := u11) (κ := (.cd L n1)) (r := (10 + L)) (i := (137 + 25 * n1 + 4)) (v := a2) hk.1 ⟨h_L, (ix_lt e2)⟩ (own_cd (inl_lt h_L) (ix_lt e2) (by decide)) (sf_cd_4)
  refine va_put (D := (dC, dI)) (ci := 2) (v := .int a2) (ty := .int) (C := RX1) (T := TX1) (N := 9) hx hb hts inlX1 tyX1 tyX1_ok nmX1 hown hK hP hD hS q9 h9 rfl 4 (by decide) (hts _ mw_1007) (fun _ h9 => h9) rfl (by decide +kernel) rfl rfl (Nat.le_of_ble_eq_true rfl) dX3_enter_57 (fun H locs hP hD hS => ?_)
  obtain ⟨u13, e14, hF⟩ := ob hF
  have hP : va_P (dC, dI) vwCl (WC cy ad ks g u13) H := by rw [← pt_eq e14, ← ez9]; exact hP
  have hD : va_D A (WC cy ad ks g u13) := by rw [← pt_eq e14, ← ez9]; exact hD
  clear ez9 h9
  have hZ := s1 hF
  have zuz : u13 = uz := hZ
  have hP9 : va_P (dC, dI) vwCl (WC cy ad ks g uz) H := by rw [← zuz]; exact hP
  have hD9 : va_D A (WC cy ad ks g uz) := by rw [← zuz]; exact hD
  rw [hQ]
  exact W.vret hx hb hr (fun t ht hW => ⟨⟨(), rfl, trivial, by rw [ht]; exact hP9, hD9⟩, hS.F ht⟩) hS.2.2 dX3_enter_60
noncomputable def C6_letFail (g : CG) (u0 : RS) (L : Nat) (i : Nat) : Option (RS) := (pt u0 (10 + L) (17 + 16 * i + 2) (-1)).bind fun u1 => (pt u1 (10 + L) (17 + 16 * i + 5) ((u1 (10 + L) (17 + 16 * i + 5)) + 1)).bind fun u3 => some u3
set_option maxHeartbeats 4000000 in
set_option maxRecDepth 100000 in
theorem c_X6_letFail (l : Launch) (dC : Nat → ClassId) (dI : Nat → Nat → Nat) (cy : Nat → ClassId) (nb : Nat → Nat) (ad : CK → Nat) (ks : List CK) (g : CG) (hk : GA nb ad g ks) (u0 : RS) (L : Nat) (i : Nat) (uz : RS) (sz : Nat) (h_L_i : has g (.st L i)) (hF : C6_letFail g u0 L i = some uz) : Met l yX6_letFail (wsg yX6_letFail cX6_letFail 1 none) ({ frames := 7, cells := 0, slots := 0, locals := 200 }) (va_Pc [.ref (ad (.st L i))] (fun U => U.heap.size = sz ∧ va_P (dC, dI) vwCl (WC cy ad ks g u0) U.heap ∧ va_K (dC, dI) vwCl (tyL cy) U ∧ va_D (fun _ => True) (WC cy ad ks g u0) ∧ GE nb (va_A (WC cy ad ks g u0) sz) U)) (va_Qv (fun (_ : Unit) => True) (fun _ t => va_P (dC, dI) vwCl (WC cy ad ks g uz) t.heap ∧ va_D (va_A (WC cy ad ks g u0) sz) (WC cy ad ks g uz)) (va_A (WC cy ad ks g u0) sz)) 0 0 (va_A (WC cy ad ks g u0) sz) := by
  refine Met.ofW (cc := cX6_letFail) (maxL := 1) (ret := none) pn_X6 rfl ?_
  intro p e s m args below meth c s₁ B hml hv
  obtain ⟨rfl, hsz, hP, hK, hD0, hE⟩ := hv
  have hx := B.exec
  have hb := B.bytes
  have hr := B.returns
  have hts0 := atoms_spec (ws := (wsg yX6_letFail cX6_letFail 1 none)) B.pre
  have hts : ∀ w ∈ wsL_law, w.before _ s = true := fun w h => hts0 w (List.mem_cons_of_mem _ h)
  have hown : s.vm.findClass RX6 = some m.cls := by have h9 := findClass_of_methodNamed B.named; exact h9
  have hlocks := B.notSynchronized
  subst hsz
  have hD := hD0.self (sz := s.heap.size)
  generalize hAe : va_A (WC cy ad ks g u0) s.heap.size = A at hD hE ⊢
  have hA : ∀ q : Nat, s.heap.size ≤ q → A q := fun q h => by rw [← hAe]; exact Or.inr h
  have hS : va_S A s.heap s.heap [] := va_S.rf
  have hl := lv_entry ([.ref (ad (.st L i))]) (n := 1) (Nat.le_of_ble_eq_true rfl)
  rw [lg_entry_eq]
  generalize (lg_sl ([.ref (ad (.st L i))]) ++ List.replicate (1 - (lg_sl ([.ref (ad (.st L i))])).length) Slot.unset).toArray = ls at hl ⊢
  have hl : lv_has ls 1 [(0, .ref (ad (.st L i)))] := hl
  generalize hHe : s.heap = H at hP hS ⊢
  have hS : va_S A s.heap H [] := by rw [hHe]; exact hS
  refine my_Q (fun Qn hQ => ?_)
  simp only [C6_letFail] at hF
  refine lv_aload_n hx hb dX6_letFail_0 rfl (lv_at hl 0 rfl) ?_
  refine lv_iconst (v := (-1)) hx hb dX6_letFail_1 (by decide) ?_
  obtain ⟨q9, h9, ez9⟩ := wc_set (cy := cy) (ad := ad) (ks := ks) (g := g) (u := u0) (κ := (.st L i)) (r := (10 + L)) (i := (17 + 16 * i + 2)) (v := (-1)) hk.1 ⟨h_L_i.1, h_L_i.2⟩ (own_st (inl_lt h_L_i.1) h_L_i.2 (by decide)) (sf_st_3)
  refine va_put (D := (dC, dI)) (ci := 6) (v := .int (-1)) (ty := .int) (C := RX6) (T := TX6) (N := 15) hx hb hts inlX6 tyX6 tyX6_ok nmX6 hown hK hP hD hS q9 h9 rfl 3 (by decide) (hts _ mw_370) (fun _ h9 => h9) rfl (by decide +kernel) rfl rfl (Nat.le_of_ble_eq_true rfl) dX6_letFail_2 (fun H locs hP hD hS => ?_)
  obtain ⟨u1, e2, hF⟩ := ob hF
  have hP : va_P (dC, dI) vwCl (WC cy ad ks g u1) H := by rw [← pt_eq e2, ← ez9]; exact hP
  have hD : va_D A (WC cy ad ks g u1) := by rw [← pt_eq e2, ← ez9]; exact hD
  clear ez9 h9
  refine lv_aload_n hx hb dX6_letFail_5 rfl (lv_at hl 0 rfl) ?_
  refine lv_dup hx hb dX6_letFail_6 rfl ?_
  obtain ⟨q9, h9⟩ := wc_at (cy := cy) (ad := ad) (ks := ks) (g := g) (u := u1) (κ := (.st L i)) hk.1 ⟨h_L_i.1, h_L_i.2⟩
  refine va_get (D := (dC, dI)) (ci := 6) (v := .int (u1 (10 + L) (17 + 16 * i + 5))) (C := RX6) (T := TX6) (N := 15) hx hb hts inlX6 hown hK hP q9 h9 rfl 7 (by decide) (hts _ mw_374) (fun _ h9 => h9) rfl dX6_letFail_7 ?_
  clear h9
  refine lv_iconst (v := 1) hx hb dX6_letFail_10 (by decide) ?_
  refine lv_iadd hx hb dX6_letFail_11 ?_
  obtain ⟨q9, h9, ez9⟩ := wc_set (cy := cy) (ad := ad) (ks := ks) (g := g) (u := u1) (κ := (.st L i)) (r := (10 + L)) (i := (17 + 16 * i + 5)) (v := ((u1 (10 + L) (17 + 16 * i + 5)) + 1)) hk.1 ⟨h_L_i.1, h_L_i.2⟩ (own_st (inl_lt h_L_i.1) h_L_i.2 (by decide)) (sf_st_7)
  refine va_put (D := (dC, dI)) (ci := 6) (v := .int ((u1 (10 + L) (17 + 16 * i + 5)) + 1)) (ty := .int) (C := RX6) (T := TX6) (N := 15) hx hb hts inlX6 tyX6 tyX6_ok nmX6 hown hK hP hD hS q9 h9 rfl 7 (by decide) (hts _ mw_374) (fun _ h9 => h9) rfl (by decide +kernel) rfl rfl (Nat.le_of_ble_eq_true rfl) dX6_letFail_12 (fun H locs hP hD hS => ?_)
  obtain ⟨u3, e4, hF⟩ := ob hF
  have hP : va_P (dC, dI) vwCl (WC cy ad ks g u3) H := by rw [← pt_eq e4, ← ez9]; exact hP
  have hD : va_D A (WC cy ad ks g u3) := by rw [← pt_eq e4, ← ez9]; exact hD
  clear ez9 h9
  have hZ := s1 hF
  have zuz : u3 = uz := hZ
  have hP9 : va_P (dC, dI) vwCl (WC cy ad ks g uz) H := by rw [← zuz]; exact hP
  have hD9 : va_D A (WC cy ad ks g uz) := by rw [← zuz]; exact hD
  rw [hQ]
  exact W.vret hx hb hr (fun t ht hW => ⟨⟨(), rfl, trivial, by rw [ht]; exact hP9, hD9⟩, hS.F ht⟩) hS.2.2 dX6_letFail_15
noncomputable def C3_failCardIn (g : CG) (u0 : RS) (L : Nat) (i : Nat) : Option (RS) := (ix 30 (u0 (10 + L) (17 + 16 * i + 2))).bind fun n1 => (C6_letFail g u0 L i).bind fun u3 => (wso u3 (10 + L) 12 5 1 ((u3 (10 + L) (12 + 1)) + 1)).bind fun u5 => (ix 6 (u5 (10 + L) (137 + 25 * n1 + 0))).bind fun n7 => (pt u5 (10 + L) (1100 + 8 * n7 + 3) ((u5 (10 + L) (1100 + 8 * n7 + 3)) + 1)).bind fun u9 => (ix 6 (u9 (10 + L) (137 + 25 * n1 + 0))).bind fun n11 => (pt u9 (10 + L) (113 + 4 * n11 + 3) ((u9 (10 + L) (113 + 4 * n11 + 3)) + 1)).bind fun u13 => (pt u13 (10 + L) (137 + 25 * n1 + 5) ((u13 (10 + L) (137 + 25 * n1 + 5)) + 1)).bind fun u15 => (if (u15 (10 + L) (137 + 25 * n1 + 5)) < (u15 (10 + L) 2) then ((C3_changeState g u15 L n1 (0)).bind fun u21 => some u21) else ((C3_abandon g u15 L ((u0 (10 + L) (17 + 16 * i + 2)))).bind fun u23 => some u23) : Option (RS)).bind fun t18 => some t18
set_option maxHeartbeats 4000000 in
set_option maxRecDepth 100000 in
theorem c_X3_failCardIn (l : Launch) (dC : Nat → ClassId) (dI : Nat → Nat → Nat) (cy : Nat → ClassId) (nb : Nat → Nat) (ad : CK → Nat) (ks : List CK) (g : CG) (hk : GA nb ad g ks) (u0 : RS) (L : Nat) (i : Nat) (uz : RS) (sz : Nat) (h_L : has g (.ln L)) (h_L_i : has g (.st L i)) (hF : C3_failCardIn g u0 L i = some uz) : Met l yX3_failCardIn (wsg yX3_failCardIn cX3_failCardIn 4 none) ({ frames := 10, cells := 0, slots := 0, locals := 500 }) (va_Pc [.ref (ad (.ln L)), .ref (ad (.st L i))] (fun U => U.heap.size = sz ∧ va_P (dC, dI) vwCl (WC cy ad ks g u0) U.heap ∧ va_K (dC, dI) vwCl (tyL cy) U ∧ va_D (fun _ => True) (WC cy ad ks g u0) ∧ GE nb (va_A (WC cy ad ks g u0) sz) U)) (va_Qv (fun (_ : Unit) => True) (fun _ t => va_P (dC, dI) vwCl (WC cy ad ks g uz) t.heap ∧ va_D (va_A (WC cy ad ks g u0) sz) (WC cy ad ks g uz)) (va_A (WC cy ad ks g u0) sz)) 0 0 (va_A (WC cy ad ks g u0) sz) := by
  refine Met.ofW (cc := cX3_failCardIn) (maxL := 4) (ret := none) pn_X3 rfl ?_
  intro p e s m args below meth c s₁ B hml hv
  obtain ⟨rfl, hsz, hP, hK, hD0, hE⟩ := hv
  have hx := B.exec
  have hb := B.bytes
  have hr := B.returns
  have hts0 := atoms_spec (ws := (wsg yX3_failCardIn cX3_failCardIn 4 none)) B.pre
  have hts : ∀ w ∈ wsL_law, w.before _ s = true := fun w h => hts0 w (List.mem_cons_of_mem _ h)
  have hown : s.vm.findClass RX3 = some m.cls := by have h9 := findClass_of_methodNamed B.named; exact h9
  have hlocks := B.notSynchronized
  subst hsz
  have hD := hD0.self (sz := s.heap.size)
  generalize hAe : va_A (WC cy ad ks g u0) s.heap.size = A at hD hE ⊢
  have hA : ∀ q : Nat, s.heap.size ≤ q → A q := fun q h => by rw [← hAe]; exact Or.inr h
  have hS : va_S A s.heap s.heap [] := va_S.rf
  have hl := lv_entry ([.ref (ad (.ln L)), .ref (ad (.st L i))]) (n := 4) (Nat.le_of_ble_eq_true rfl)
  rw [lg_entry_eq]
  generalize (lg_sl ([.ref (ad (.ln L)), .ref (ad (.st L i))]) ++ List.replicate (4 - (lg_sl ([.ref (ad (.ln L)), .ref (ad (.st L i))])).length) Slot.unset).toArray = ls at hl ⊢
  have hl : lv_has ls 4 [(0, .ref (ad (.ln L))), (1, .ref (ad (.st L i)))] := hl
  generalize hHe : s.heap = H at hP hS ⊢
  have hS : va_S A s.heap H [] := by rw [hHe]; exact hS
  refine my_Q (fun Qn hQ => ?_)
  simp only [C3_failCardIn] at hF
  refine lv_aload_n hx hb dX3_failCardIn_0 rfl (lv_at hl 1 rfl) ?_
  obtain ⟨q9, h9⟩ := wc_at (cy := cy) (ad := ad) (ks := ks) (g := g) (u := u0) (κ := (.st L i)) hk.1 ⟨h_L_i.1, h_L_i.2⟩
  refine va_get (D := (dC, dI)) (ci := 6) (v := .int (u0 (10 + L) (17 + 16 * i + 2))) (C := RX6) (T := TX6) (N := 15) hx hb hts inlX6 hown hK hP q9 h9 rfl 3 (by decide) (hts _ mw_1142) (fun _ h9 => h9) rfl dX3_failCardIn_1 ?_
  clear h9
  refine lv_istore_n (lv' := [(2, .int (u0 (10 + L) (17 + 16 * i + 2))), (0, .ref (ad (.ln L))), (1, .ref (ad (.st L i)))]) hx hb dX3_failCardIn_4 rfl hl (by decide) rfl (fun ls hl => ?_)
  refine lv_aload_n hx hb dX3_failCardIn_5 rfl (lv_at hl 1 rfl) ?_
  obtain ⟨q9, h9⟩ := wc_at (cy := cy) (ad := ad) (ks := ks) (g := g) (u := u0) (κ := (.ln L)) hk.1 h_L_i.1
  refine va_get (D := (dC, dI)) (ci := 3) (v := .ref (ad (.cs L))) (C := RX3) (T := TX3) (N := 17) hx hb hts inlX3 hown hK hP q9 h9 rfl 12 (by decide) (hts _ mw_45) (fun _ h9 => h9) rfl dX3_failCardIn_6 ?_
  clear h9
  refine lv_iload_n hx hb dX3_failCardIn_9 rfl (lv_at hl 0 rfl) ?_
  obtain ⟨n1, e2, hF⟩ := ob hF
  obtain ⟨q9, h9⟩ := wc_at (cy := cy) (ad := ad) (ks := ks) (g := g) (u := u0) (κ := (.cs L)) hk.1 h_L_i.1
  refine va_aldq hx hb hK hP q9 8 h9 rfl (ix_in e2) dX3_failCardIn_10 ?_
  refine my_top (y := .ref (ad (.cd L n1))) (ixv (F := fun j => ad (.cd L j)) e2) ?_
  clear h9
  refine lv_astore_n (lv' := [(3, .ref (ad (.cd L n1))), (2, .int (u0 (10 + L) (17 + 16 * i + 2))), (0, .ref (ad (.ln L))), (1, .ref (ad (.st L i)))]) hx hb dX3_failCardIn_11 rfl hl (by decide) rfl (fun ls hl => ?_)
  refine lv_aload_n hx hb dX3_failCardIn_12 rfl (lv_at hl 3 rfl) ?_
  obtain ⟨u3, e4, hF⟩ := ob hF
  have hPc := hP
  have hDc := hD
  have hFc := my_free hD hS hA
  obtain ⟨q8, h8⟩ := wc_at (cy := cy) (ad := ad) (ks := ks) (g := g) (u := u0) (κ := (.st L i)) hk.1 ⟨h_L_i.1, h_L_i.2⟩
  refine va_callv (va_runV (As := []) (rest := []) ⟨hx, hb, hml, hown, hts⟩ (c_X6_letFail l dC dI cy nb ad ks g hk u0 L i (u3) H.size ⟨h_L_i.1, h_L_i.2⟩ e4) (cwV 0 hts (gV mw_1161 mw_1162 mw_1163 mw_50 mw_1164) rfl rfl rfl (by decide +kernel) ⟨Nat.le_of_ble_eq_true rfl, Nat.le_of_ble_eq_true rfl⟩) (my_preV hPc hK hDc hE hS hFc (va_recv (q := (RX6, TX6, 15)) hK hP (ci := 6) (q0 := q8) rfl h8)) rfl rfl hl.1 rfl (lv_room (Nat.le_of_ble_eq_true rfl)) dX3_failCardIn_13 ⟨Nat.le_of_ble_eq_true rfl, Nat.le_of_ble_eq_true rfl⟩) hS (fun q _ h => hFc q h) hFc (fun u t H1 locs ht hvm hw hB hz1 hk1 hS => ?_)
  clear h8
  obtain ⟨hP1, hD1⟩ := hB
  rw [ht] at hP1
  have hP := hP1
  have hD := hD1.weaken (fun k q _ h => hFc q.1 h)
  generalize H1 = H at hP hS ⊢
  clear hP1 hD1 hPc hDc hFc hk1 hz1 hvm ht
  refine lv_aload_n hx hb dX3_failCardIn_16 rfl (lv_at hl 2 rfl) ?_
  obtain ⟨q9, h9⟩ := wc_at (cy := cy) (ad := ad) (ks := ks) (g := g) (u := u3) (κ := (.ln L)) hk.1 h_L_i.1
  refine va_get (D := (dC, dI)) (ci := 3) (v := .ref (ad (.tt L))) (C := RX3) (T := TX3) (N := 17) hx hb hts inlX3 hown hK hP q9 h9 rfl 15 (by decide) (hts _ mw_48) (fun _ h9 => h9) rfl dX3_failCardIn_17 ?_
  clear h9
  refine lv_iconst (v := 1) hx hb dX3_failCardIn_20 (by decide) ?_
  refine lv_dup2_11 hx hb dX3_failCardIn_21 rfl rfl ?_
  obtain ⟨q9, h9⟩ := wc_at (cy := cy) (ad := ad) (ks := ks) (g := g) (u := u3) (κ := (.tt L)) hk.1 h_L_i.1
  refine va_iald hx hb hK hP q9 1 h9 rfl (vp_in_nI (n := 1) (by decide) (by decide)) dX3_failCardIn_22 ?_
  refine my_topi (y := (u3 (10 + L) (12 + 1))) (by rfl) ?_
  clear h9
  refine lv_iconst (v := 1) hx hb dX3_failCardIn_23 (by decide) ?_
  refine lv_iadd hx hb dX3_failCardIn_24 ?_
  obtain ⟨u5, e6, hF⟩ := ob hF
  obtain ⟨q9, h9, ez9⟩ := wc_set (cy := cy) (ad := ad) (ks := ks) (g := g) (u := u3) (κ := (.tt L)) (r := (10 + L)) (i := (12 + (1 : Int32).toNatClampNeg)) (v := ((u3 (10 + L) (12 + 1)) + 1)) hk.1 h_L_i.1 (own_tt (inl_lt h_L_i.1) (vp_in_lt (wso_in e6))) (sf_tt (vp_in_lt (wso_in e6)))
  refine va_iast hx hb hK hP hD hS q9 1 h9 rfl (wso_in e6) dX3_failCardIn_25 (fun H locs hP hD hS => ?_)
  have hP : va_P (dC, dI) vwCl (WC cy ad ks g u5) H := by rw [← wso_eq e6, ← ez9]; exact hP
  have hD : va_D A (WC cy ad ks g u5) := by rw [← wso_eq e6, ← ez9]; exact hD
  clear ez9 h9
  refine lv_aload_n hx hb dX3_failCardIn_26 rfl (lv_at hl 2 rfl) ?_
  obtain ⟨q9, h9⟩ := wc_at (cy := cy) (ad := ad) (ks := ks) (g := g) (u := u5) (κ := (.ln L)) hk.1 h_L_i.1
  refine va_get (D := (dC, dI)) (ci := 3) (v := .ref (ad (.ls L))) (C := RX3) (T := TX3) (N := 17) hx hb hts inlX3 hown hK hP q9 h9 rfl 11 (by decide) (hts _ mw_43) (fun _ h9 => h9) rfl dX3_failCardIn_27 ?_
  clear h9
  refine lv_aload_n hx hb dX3_failCardIn_30 rfl (lv_at hl 0 rfl) ?_
  obtain ⟨q9, h9⟩ := wc_at (cy := cy) (ad := ad) (ks := ks) (g := g) (u := u5) (κ := (.cd L n1)) hk.1 ⟨h_L_i.1, (ix_lt e2)⟩
  refine va_get (D := (dC, dI)) (ci := 2) (v := .int (u5 (10 + L) (137 + 25 * n1 + 0))) (C := RX1) (T := TX1) (N := 9) hx hb hts inlX1 hown hK hP q9 h9 rfl 0 (by decide) (hts _ mw_786) (fun _ h9 => h9) rfl dX3_failCardIn_31 ?_
  clear h9
  obtain ⟨n7, e8, hF⟩ := ob hF
  obtain ⟨q9, h9⟩ := wc_at (cy := cy) (ad := ad) (ks := ks) (g := g) (u := u5) (κ := (.ls L)) hk.1 h_L_i.1
  refine va_aldq hx hb hK hP q9 7 h9 rfl (ix_in e8) dX3_failCardIn_34 ?_
  refine my_top (y := .ref (ad (.lo L n7))) (ixv (F := fun j => ad (.lo L j)) e8) ?_
  clear h9
  refine lv_dup hx hb dX3_failCardIn_35 rfl ?_
  obtain ⟨q9, h9⟩ := wc_at (cy := cy) (ad := ad) (ks := ks) (g := g) (u := u5) (κ := (.lo L n7)) hk.1 ⟨h_L_i.1, (ix_lt e8)⟩
  refine va_get (D := (dC, dI)) (ci := 4) (v := .int (u5 (10 + L) (1100 + 8 * n7 + 3))) (C := RX4) (T := TX4) (N := 12) hx hb hts inlX4 hown hK hP q9 h9 rfl 6 (by decide) (hts _ mw_1159) (fun _ h9 => h9) rfl dX3_failCardIn_36 ?_
  clear h9
  refine lv_iconst (v := 1) hx hb dX3_failCardIn_39 (by decide) ?_
  refine lv_iadd hx hb dX3_failCardIn_40 ?_
  obtain ⟨q9, h9, ez9⟩ := wc_set (cy := cy) (ad := ad) (ks := ks) (g := g) (u := u5) (κ := (.lo L n7)) (r := (10 + L)) (i := (1100 + 8 * n7 + 3)) (v := ((u5 (10 + L) (1100 + 8 * n7 + 3)) + 1)) hk.1 ⟨h_L_i.1, (ix_lt e8)⟩ (own_lq (inl_lt h_L_i.1) (ix_lt e8) (by decide)) (sf_lo_6)
  refine va_put (D := (dC, dI)) (ci := 4) (v := .int ((u5 (10 + L) (1100 + 8 * n7 + 3)) + 1)) (ty := .int) (C := RX4) (T := TX4) (N := 12) hx hb hts inlX4 tyX4 tyX4_ok nmX4 hown hK hP hD hS q9 h9 rfl 6 (by decide) (hts _ mw_1159) (fun _ h9 => h9) rfl (by decide +kernel) rfl rfl (Nat.le_of_ble_eq_true rfl) dX3_failCardIn_41 (fun H locs hP hD hS => ?_)
  obtain ⟨u9, e10, hF⟩ := ob hF
  have hP : va_P (dC, dI) vwCl (WC cy ad ks g u9) H := by rw [← pt_eq e10, ← ez9]; exact hP
  have hD : va_D A (WC cy ad ks g u9) := by rw [← pt_eq e10, ← ez9]; exact hD
  clear ez9 h9
  refine lv_aload_n hx hb dX3_failCardIn_44 rfl (lv_at hl 2 rfl) ?_
  obtain ⟨q9, h9⟩ := wc_at (cy := cy) (ad := ad) (ks := ks) (g := g) (u := u9) (κ := (.ln L)) hk.1 h_L_i.1
  refine va_get (D := (dC, dI)) (ci := 3) (v := .ref (ad (.ls L))) (C := RX3) (T := TX3) (N := 17) hx hb hts inlX3 hown hK hP q9 h9 rfl 11 (by decide) (hts _ mw_43) (fun _ h9 => h9) rfl dX3_failCardIn_45 ?_
  clear h9
  refine lv_aload_n hx hb dX3_failCardIn_48 rfl (lv_at hl 0 rfl) ?_
  obtain ⟨q9, h9⟩ := wc_at (cy := cy) (ad := ad) (ks := ks) (g := g) (u := u9) (κ := (.cd L n1)) hk.1 ⟨h_L_i.1, (ix_lt e2)⟩
  refine va_get (D := (dC, dI)) (ci := 2) (v := .int (u9 (10 + L) (137 + 25 * n1 + 0))) (C := RX1) (T := TX1) (N := 9) hx hb hts inlX1 hown hK hP q9 h9 rfl 0 (by decide) (hts _ mw_786) (fun _ h9 => h9) rfl dX3_failCardIn_49 ?_
  clear h9
  obtain ⟨n11, e12, hF⟩ := ob hF
  obtain ⟨q9, h9⟩ := wc_at (cy := cy) (ad := ad) (ks := ks) (g := g) (u := u9) (κ := (.ls L)) hk.1 h_L_i.1
  refine va_aldq hx hb hK hP q9 7 h9 rfl (ix_in e12) dX3_failCardIn_52 ?_
  refine my_top (y := .ref (ad (.lo L n11))) (ixv (F := fun j => ad (.lo L j)) e12) ?_
  clear h9
  refine lv_dup hx hb dX3_failCardIn_53 rfl ?_
  obtain ⟨q9, h9⟩ := wc_at (cy := cy) (ad := ad) (ks := ks) (g := g) (u := u9) (κ := (.lo L n11)) hk.1 ⟨h_L_i.1, (ix_lt e12)⟩
  refine va_get (D := (dC, dI)) (ci := 4) (v := .int (u9 (10 + L) (113 + 4 * n11 + 3))) (C := RX4) (T := TX4) (N := 12) hx hb hts inlX4 hown hK hP q9 h9 rfl 9 (by decide) (hts _ mw_1160) (fun _ h9 => h9) rfl dX3_failCardIn_54 ?_
  clear h9
  refine lv_iconst (v := 1) hx hb dX3_failCardIn_57 (by decide) ?_
  refine lv_iadd hx hb dX3_failCardIn_58 ?_
  obtain ⟨q9, h9, ez9⟩ := wc_set (cy := cy) (ad := ad) (ks := ks) (g := g) (u := u9) (κ := (.lo L n11)) (r := (10 + L)) (i := (113 + 4 * n11 + 3)) (v := ((u9 (10 + L) (113 + 4 * n11 + 3)) + 1)) hk.1 ⟨h_L_i.1, (ix_lt e12)⟩ (own_lo (inl_lt h_L_i.1) (ix_lt e12) (by decide)) (sf_lo_9)
  refine va_put (D := (dC, dI)) (ci := 4) (v := .int ((u9 (10 + L) (113 + 4 * n11 + 3)) + 1)) (ty := .int) (C := RX4) (T := TX4) (N := 12) hx hb hts inlX4 tyX4 tyX4_ok nmX4 hown hK hP hD hS q9 h9 rfl 9 (by decide) (hts _ mw_1160) (fun _ h9 => h9) rfl (by decide +kernel) rfl rfl (Nat.le_of_ble_eq_true rfl) dX3_failCardIn_59 (fun H locs hP hD hS => ?_)
  obtain ⟨u13, e14, hF⟩ := ob hF
  have hP : va_P (dC, dI) vwCl (WC cy ad ks g u13) H := by rw [← pt_eq e14, ← ez9]; exact hP
  have hD : va_D A (WC cy ad ks g u13) := by rw [← pt_eq e14, ← ez9]; exact hD
  clear ez9 h9
  refine lv_aload_n hx hb dX3_failCardIn_62 rfl (lv_at hl 0 rfl) ?_
  refine lv_dup hx hb dX3_failCardIn_63 rfl ?_
  obtain ⟨q9, h9⟩ := wc_at (cy := cy) (ad := ad) (ks := ks) (g := g) (u := u13) (κ := (.cd L n1)) hk.1 ⟨h_L_i.1, (ix_lt e2)⟩
  refine va_get (D := (dC, dI)) (ci := 2) (v := .int (u13 (10 + L) (137 + 25 * n1 + 5))) (C := RX1) (T := TX1) (N := 9) hx hb hts inlX1 hown hK hP q9 h9 rfl 5 (by decide) (hts _ mw_784) (fun _ h9 => h9) rfl dX3_failCardIn_64 ?_
  clear h9
  refine lv_iconst (v := 1) hx hb dX3_failCardIn_67 (by decide) ?_
  refine lv_iadd hx hb dX3_failCardIn_68 ?_
  obtain ⟨q9, h9, ez9⟩ := wc_set (cy := cy) (ad := ad) (ks := ks) (g := g) (u := u13) (κ := (.cd L n1)) (r := (10 + L)) (i := (137 + 25 * n1 + 5)) (v := ((u13 (10 + L) (137 + 25 * n1 + 5)) + 1)) hk.1 ⟨h_L_i.1, (ix_lt e2)⟩ (own_cd (inl_lt h_L_i.1) (ix_lt e2) (by decide)) (sf_cd_5)
  refine va_put (D := (dC, dI)) (ci := 2) (v := .int ((u13 (10 + L) (137 + 25 * n1 + 5)) + 1)) (ty := .int) (C := RX1) (T := TX1) (N := 9) hx hb hts inlX1 tyX1 tyX1_ok nmX1 hown hK hP hD hS q9 h9 rfl 5 (by decide) (hts _ mw_784) (fun _ h9 => h9) rfl (by decide +kernel) rfl rfl (Nat.le_of_ble_eq_true rfl) dX3_failCardIn_69 (fun H locs hP hD hS => ?_)
  obtain ⟨u15, e16, hF⟩ := ob hF
  have hP : va_P (dC, dI) vwCl (WC cy ad ks g u15) H := by rw [← pt_eq e16, ← ez9]; exact hP
  have hD : va_D A (WC cy ad ks g u15) := by rw [← pt_eq e16, ← ez9]; exact hD
  clear ez9 h9
  refine lv_aload_n hx hb dX3_failCardIn_72 rfl (lv_at hl 0 rfl) ?_
  obtain ⟨q9, h9⟩ := wc_at (cy := cy) (ad := ad) (ks := ks) (g := g) (u := u15) (κ := (.cd L n1)) hk.1 ⟨h_L_i.1, (ix_lt e2)⟩
  refine va_get (D := (dC, dI)) (ci := 2) (v := .int (u15 (10 + L) (137 + 25 * n1 + 5))) (C := RX1) (T := TX1) (N := 9) hx hb hts inlX1 hown hK hP q9 h9 rfl 5 (by decide) (hts _ mw_784) (fun _ h9 => h9) rfl dX3_failCardIn_73 ?_
  clear h9
  refine lv_aload_n hx hb dX3_failCardIn_76 rfl (lv_at hl 2 rfl) ?_
  obtain ⟨q9, h9⟩ := wc_at (cy := cy) (ad := ad) (ks := ks) (g := g) (u := u15) (κ := (.ln L)) hk.1 h_L_i.1
  refine va_get (D := (dC, dI)) (ci := 3) (v := .int (u15 (10 + L) 2)) (C := RX3) (T := TX3) (N := 17) hx hb hts inlX3 hown hK hP q9 h9 rfl 2 (by decide) (hts _ mw_84) (fun _ h9 => h9) rfl dX3_failCardIn_77 ?_
  clear h9
  obtain ⟨t18, hJ19, hF⟩ := ob hF
  have join20 : ∀ (H : Heap) (locs : List Loc) (ls : Array Slot), va_P (dC, dI) vwCl (WC cy ad ks g t18) H → va_D A (WC cy ad ks g t18) → va_S A s.heap H locs → lv_has ls 4 [(3, .ref (ad (.cd L n1))), (2, .int (u0 (10 + L) (17 + 16 * i + 2))), (0, .ref (ad (.ln L))), (1, .ref (ad (.st L i)))] → W p l e (headSpec (wsg yX3_failCardIn cX3_failCardIn 4 none) ({ frames := 10, cells := 0, slots := 0, locals := 500 })).room s m ([.ref (ad (.ln L)), .ref (ad (.st L i))] : List Value).toArray below meth c H locs 0 0 Qn (F0 m 97 ls []) := by
    intro H locs ls hP hD hS hl
    have hZ := s1 hF
    have zuz : t18 = uz := hZ
    have hP9 : va_P (dC, dI) vwCl (WC cy ad ks g uz) H := by rw [← zuz]; exact hP
    have hD9 : va_D A (WC cy ad ks g uz) := by rw [← zuz]; exact hD
    rw [hQ]
    exact W.vret hx hb hr (fun t ht hW => ⟨⟨(), rfl, trivial, by rw [ht]; exact hP9, hD9⟩, hS.F ht⟩) hS.2.2 dX3_failCardIn_97
  clear hF
  have hF := hJ19
  clear hJ19
  refine lv_icmp_lt (tgt := 91) hx hb dX3_failCardIn_80 (by decide) (fun c17 => ?_) (fun c17 => ?_)
  · rw [if_pos c17] at hF
    refine lv_aload_n hx hb dX3_failCardIn_91 rfl (lv_at hl 2 rfl) ?_
    refine lv_aload_n hx hb dX3_failCardIn_92 rfl (lv_at hl 0 rfl) ?_
    refine lv_iconst (v := 0) hx hb dX3_failCardIn_93 (by decide) ?_
    obtain ⟨u21, e22, hF⟩ := ob hF
    have hPc := hP
    have hDc := hD
    have hFc := my_free hD hS hA
    obtain ⟨q8, h8⟩ := wc_at (cy := cy) (ad := ad) (ks := ks) (g := g) (u := u15) (κ := (.ln L)) hk.1 h_L_i.1
    refine va_callv (va_runV (As := [.ref (ad (.cd L n1)), .int 0]) (rest := []) ⟨hx, hb, hml, hown, hts⟩ (c_X3_changeState l dC dI cy nb ad ks g hk u15 L n1 (0) (u21) H.size h_L_i.1 ⟨h_L_i.1, (ix_lt e2)⟩ e22) (cwV 2 hts (gV mw_1003 mw_1004 mw_1005 mw_17 mw_1006) rfl rfl rfl (by decide +kernel) ⟨Nat.le_of_ble_eq_true rfl, Nat.le_of_ble_eq_true rfl⟩) (my_preV hPc hK hDc hE hS hFc (va_recv (q := (RX3, TX3, 17)) hK hP (ci := 3) (q0 := q8) rfl h8)) rfl rfl hl.1 rfl (lv_room (Nat.le_of_ble_eq_true rfl)) dX3_failCardIn_94 ⟨Nat.le_of_ble_eq_true rfl, Nat.le_of_ble_eq_true rfl⟩) hS (fun q _ h => hFc q h) hFc (fun u t H1 locs ht hvm hw hB hz1 hk1 hS => ?_)
    clear h8
    obtain ⟨hP1, hD1⟩ := hB
    rw [ht] at hP1
    have hP := hP1
    have hD := hD1.weaken (fun k q _ h => hFc q.1 h)
    generalize H1 = H at hP hS ⊢
    clear hP1 hD1 hPc hDc hFc hk1 hz1 hvm ht
    have ht := s1 hF
    subst ht
    exact join20 _ _ _ hP hD hS (lv_sub hl [0, 1, 2, 3] rfl)
  · rw [if_neg c17] at hF
    refine lv_aload_n hx hb dX3_failCardIn_83 rfl (lv_at hl 2 rfl) ?_
    refine lv_iload_n hx hb dX3_failCardIn_84 rfl (lv_at hl 1 rfl) ?_
    obtain ⟨u23, e24, hF⟩ := ob hF
    have hPc := hP
    have hDc := hD
    have hFc := my_free hD hS hA
    obtain ⟨q8, h8⟩ := wc_at (cy := cy) (ad := ad) (ks := ks) (g := g) (u := u15) (κ := (.ln L)) hk.1 h_L_i.1
    refine va_callv (va_runV (As := [.int (u0 (10 + L) (17 + 16 * i + 2))]) (rest := []) ⟨hx, hb, hml, hown, hts⟩ (c_X3_abandon l dC dI cy nb ad ks g hk u15 L ((u0 (10 + L) (17 + 16 * i + 2))) (u23) H.size h_L_i.1 e24) (cwV 1 hts (gV mw_1165 mw_999 mw_1000 mw_17 mw_1001) rfl rfl rfl (by decide +kernel) ⟨Nat.le_of_ble_eq_true rfl, Nat.le_of_ble_eq_true rfl⟩) (my_preV hPc hK hDc hE hS hFc (va_recv (q := (RX3, TX3, 17)) hK hP (ci := 3) (q0 := q8) rfl h8)) rfl rfl hl.1 rfl (lv_room (Nat.le_of_ble_eq_true rfl)) dX3_failCardIn_85 ⟨Nat.le_of_ble_eq_true rfl, Nat.le_of_ble_eq_true rfl⟩) hS (fun q _ h => hFc q h) hFc (fun u t H1 locs ht hvm hw hB hz1 hk1 hS => ?_)
    clear h8
    obtain ⟨hP1, hD1⟩ := hB
    rw [ht] at hP1
    have hP := hP1
    have hD := hD1.weaken (fun k q _ h => hFc q.1 h)
    generalize H1 = H at hP hS ⊢
    clear hP1 hD1 hPc hDc hFc hk1 hz1 hvm ht
    refine lv_goto (tgt := 97) hx hb dX3_failCardIn_88 (by decide) ?_
    have ht := s1 hF
    subst ht
    exact join20 _ _ _ hP hD hS (lv_sub hl [0, 1, 2, 3] rfl)
noncomputable def C3_nextWaiting_L9 (L : Nat) (g : CG) (u0 : RS) : Nat → Int32 → Int32 → Int32 → Int32 → Option (Sum (Int32) (Int32 × Int32 × Int32 × Int32))
  | 0, _, _, _, _ => none
  | m15 + 1, y1, y2, y3, y4 => if (u0 (10 + L) 9) ≤ y1 then (some (.inr (y1, y2, y3, y4))) else ((ix 30 y1).bind fun n17 => if (u0 (10 + L) (137 + 25 * n17 + 3)) = 0 then (if (u0 (10 + L) (137 + 25 * n17 + 8)) = 0 then ((if y4 = (-1) then (if ((u0 (10 + L) (137 + 25 * n17 + 5)) + (u0 (10 + L) (137 + 25 * n17 + 6))) ≤ 0 then (some y4) else (some y1)) else (some y4) : Option (Int32)).bind fun t22 => (ix 6 (u0 (10 + L) (137 + 25 * n17 + 0))).bind fun n25 => (if (u0 (10 + L) (113 + 4 * n25 + 0)) ≤ y2 then (some (y2, y3)) else ((ix 6 (u0 (10 + L) (137 + 25 * n17 + 0))).bind fun n31 => some ((u0 (10 + L) (113 + 4 * n31 + 0)), y1)) : Option (Int32 × Int32)).bind fun t28 => C3_nextWaiting_L9 L g u0 m15 ((y1 + 1)) ((t28.1)) ((t28.2)) (t22)) else (some (.inl y1))) else (C3_nextWaiting_L9 L g u0 m15 ((y1 + 1)) (y2) (y3) (y4)))
noncomputable def C3_nextWaiting (g : CG) (u0 : RS) (L : Nat) : Option (Int32) := (C3_nextWaiting_L9 L g u0 FUEL (0 : Int32) (-1 : Int32) (-1 : Int32) (-1 : Int32)).bind fun t5 => match t5 with | .inl r => some r | .inr t9 => (if (t9.2.2.2) = (-1) then (some (t9.2.2.1)) else (some (t9.2.2.2)) : Option (Int32)).bind fun t11 => some t11
set_option maxHeartbeats 4000000 in
set_option maxRecDepth 100000 in
theorem c_X3_nextWaiting (l : Launch) (dC : Nat → ClassId) (dI : Nat → Nat → Nat) (cy : Nat → ClassId) (nb : Nat → Nat) (ad : CK → Nat) (ks : List CK) (g : CG) (hk : GA nb ad g ks) (u0 : RS) (L : Nat) (ro : Int32) (sz : Nat) (h_L : has g (.ln L)) (hF : C3_nextWaiting g u0 L = some ro) : Met l yX3_nextWaiting (wsg yX3_nextWaiting cX3_nextWaiting 6 (some .int)) ({ frames := 7, cells := 0, slots := 0, locals := 200 }) (va_Pc [.ref (ad (.ln L))] (fun U => U.heap.size = sz ∧ va_P (dC, dI) vwCl (WC cy ad ks g u0) U.heap ∧ va_K (dC, dI) vwCl (tyL cy) U ∧ va_D (fun _ => True) (WC cy ad ks g u0) ∧ GE nb (va_A (WC cy ad ks g u0) sz) U)) (va_Qi (fun (r : Int32) (_ : Unit) => r = ro) (fun _ t => va_P (dC, dI) vwCl (WC cy ad ks g u0) t.heap ∧ va_D (va_A (WC cy ad ks g u0) sz) (WC cy ad ks g u0)) (va_A (WC cy ad ks g u0) sz)) 0 0 (va_A (WC cy ad ks g u0) sz) := by
  refine Met.ofW (cc := cX3_nextWaiting) (maxL := 6) (ret := (some .int)) pn_X3 rfl ?_
  intro p e s m args below meth c s₁ B hml hv
  obtain ⟨rfl, hsz, hP, hK, hD0, hE⟩ := hv
  have hx := B.exec
  have hb := B.bytes
  have hr := B.returns
  have hts0 := atoms_spec (ws := (wsg yX3_nextWaiting cX3_nextWaiting 6 (some .int))) B.pre
  have hts : ∀ w ∈ wsL_law, w.before _ s = true := fun w h => hts0 w (List.mem_cons_of_mem _ h)
  have hown : s.vm.findClass RX3 = some m.cls := by have h9 := findClass_of_methodNamed B.named; exact h9
  have hlocks := B.notSynchronized
  subst hsz
  have hD := hD0.self (sz := s.heap.size)
  generalize hAe : va_A (WC cy ad ks g u0) s.heap.size = A at hD hE ⊢
  have hA : ∀ q : Nat, s.heap.size ≤ q → A q := fun q h => by rw [← hAe]; exact Or.inr h
  have hS : va_S A s.heap s.heap [] := va_S.rf
  have hl := lv_entry ([.ref (ad (.ln L))]) (n := 6) (Nat.le_of_ble_eq_true rfl)
  rw [lg_entry_eq]
  generalize (lg_sl ([.ref (ad (.ln L))]) ++ List.replicate (6 - (lg_sl ([.ref (ad (.ln L))])).length) Slot.unset).toArray = ls at hl ⊢
  have hl : lv_has ls 6 [(0, .ref (ad (.ln L)))] := hl
  generalize hHe : s.heap = H at hP hS ⊢
  have hS : va_S A s.heap H [] := by rw [hHe]; exact hS
  refine my_Q (fun Qn hQ => ?_)
  simp only [C3_nextWaiting] at hF
  refine lv_iconst (v := (-1)) hx hb dX3_nextWaiting_0 (by decide) ?_
  refine lv_istore_n (lv' := [(1, .int (-1)), (0, .ref (ad (.ln L)))]) hx hb dX3_nextWaiting_1 rfl hl (by decide) rfl (fun ls hl => ?_)
  refine lv_iconst (v := (-1)) hx hb dX3_nextWaiting_2 (by decide) ?_
  refine lv_istore_n (lv' := [(2, .int (-1)), (1, .int (-1)), (0, .ref (ad (.ln L)))]) hx hb dX3_nextWaiting_3 rfl hl (by decide) rfl (fun ls hl => ?_)
  refine lv_iconst (v := (-1)) hx hb dX3_nextWaiting_4 (by decide) ?_
  refine lv_istore_n (lv' := [(3, .int (-1)), (2, .int (-1)), (1, .int (-1)), (0, .ref (ad (.ln L)))]) hx hb dX3_nextWaiting_5 rfl hl (by decide) rfl (fun ls hl => ?_)
  refine lv_iconst (v := 0) hx hb dX3_nextWaiting_6 (by decide) ?_
  refine lv_istore (lv' := [(4, .int 0), (3, .int (-1)), (2, .int (-1)), (1, .int (-1)), (0, .ref (ad (.ln L)))]) hx hb dX3_nextWaiting_7 hl (by decide) rfl (fun ls hl => ?_)
  obtain ⟨t5, hL6, hF⟩ := ob hF
  have kx7 : ∀ (t9 : Int32 × Int32 × Int32 × Int32), t5 = .inr t9 → ∀ (H : Heap) (locs : List Loc) (ls : Array Slot), va_P (dC, dI) vwCl (WC cy ad ks g u0) H → va_D A (WC cy ad ks g u0) → va_S A s.heap H locs → lv_has ls 6 [(4, .int (t9.1)), (3, .int (t9.2.1)), (2, .int (t9.2.2.1)), (1, .int (t9.2.2.2)), (0, .ref (ad (.ln L)))] → W p l e (headSpec (wsg yX3_nextWaiting cX3_nextWaiting 6 (some .int)) ({ frames := 7, cells := 0, slots := 0, locals := 200 })).room s m ([.ref (ad (.ln L))] : List Value).toArray below meth c H locs 0 0 Qn (F0 m 108 ls []) := by
    intro t9 he H locs ls hP hD hS hl
    subst he
    refine lv_iload_n hx hb dX3_nextWaiting_108 rfl (lv_at hl 3 rfl) ?_
    refine lv_iconst (v := (-1)) hx hb dX3_nextWaiting_109 (by decide) ?_
    obtain ⟨t11, hJ12, hF⟩ := ob hF
    have join13 : ∀ (H : Heap) (locs : List Loc) (ls : Array Slot), va_P (dC, dI) vwCl (WC cy ad ks g u0) H → va_D A (WC cy ad ks g u0) → va_S A s.heap H locs → lv_has ls 6 [(4, .int (t9.1)), (3, .int (t9.2.1)), (2, .int (t9.2.2.1)), (1, .int (t9.2.2.2)), (0, .ref (ad (.ln L)))] → W p l e (headSpec (wsg yX3_nextWaiting cX3_nextWaiting 6 (some .int)) ({ frames := 7, cells := 0, slots := 0, locals := 200 })).room s m ([.ref (ad (.ln L))] : List Value).toArray below meth c H locs 0 0 Qn (F0 m 118 ls [.int t11]) := by
      intro H locs ls hP hD hS hl
      have hZ := s1 hF
      have zro : t11 = ro := hZ
      have hP9 : va_P (dC, dI) vwCl (WC cy ad ks g u0) H := by exact hP
      have hD9 : va_D A (WC cy ad ks g u0) := by exact hD
      rw [hQ]
      exact W.iret (v := t11) hx hb hr (fun t ht hW => ⟨⟨t11, (), rfl, zro, by rw [ht]; exact hP9, hD9⟩, hS.F ht⟩) hS.2.2 dX3_nextWaiting_118
    clear hF
    have hF := hJ12
    clear hJ12
    refine lv_icmp_eq (tgt := 117) hx hb dX3_nextWaiting_110 (by decide) (fun c10 => ?_) (fun c10 => ?_)
    · rw [if_pos c10] at hF
      refine lv_iload_n hx hb dX3_nextWaiting_117 rfl (lv_at hl 2 rfl) ?_
      have ht := s1 hF
      subst ht
      exact join13 _ _ _ hP hD hS (lv_sub hl [0, 1, 2, 3, 4] rfl)
    · rw [if_neg c10] at hF
      refine lv_iload_n hx hb dX3_nextWaiting_113 rfl (lv_at hl 3 rfl) ?_
      refine lv_goto (tgt := 118) hx hb dX3_nextWaiting_114 (by decide) ?_
      have ht := s1 hF
      subst ht
      exact join13 _ _ _ hP hD hS (lv_sub hl [0, 1, 2, 3, 4] rfl)
  have kr8 : ∀ r : Int32, t5 = .inl r → some r = some ro := by
    intro r he
    subst he
    exact hF
  clear hF
  have loop14 : ∀ (m15 : Nat) (y1 : Int32) (y2 : Int32) (y3 : Int32) (y4 : Int32), C3_nextWaiting_L9 L g u0 m15 y1 y2 y3 y4 = some t5 → ∀ (H : Heap) (locs : List Loc) (ls : Array Slot), va_P (dC, dI) vwCl (WC cy ad ks g u0) H → va_D A (WC cy ad ks g u0) → va_S A s.heap H locs → lv_has ls 6 [(4, .int y1), (3, .int y2), (2, .int y3), (1, .int y4), (0, .ref (ad (.ln L)))] → W p l e (headSpec (wsg yX3_nextWaiting cX3_nextWaiting 6 (some .int)) ({ frames := 7, cells := 0, slots := 0, locals := 200 })).room s m ([.ref (ad (.ln L))] : List Value).toArray below meth c H locs 0 0 Qn (F0 m 9 ls []) := by
    intro m15
    induction m15 with
    | zero => intro y1 y2 y3 y4 hF; cases hF
    | succ m15 ih =>
      intro y1 y2 y3 y4 hF H locs ls hP hD hS hl
      simp only [C3_nextWaiting_L9] at hF
      refine lv_iload hx hb dX3_nextWaiting_9 (lv_at hl 0 rfl) ?_
      refine lv_aload_n hx hb dX3_nextWaiting_11 rfl (lv_at hl 4 rfl) ?_
      obtain ⟨q9, h9⟩ := wc_at (cy := cy) (ad := ad) (ks := ks) (g := g) (u := u0) (κ := (.ln L)) hk.1 h_L
      refine va_get (D := (dC, dI)) (ci := 3) (v := .int (u0 (10 + L) 9)) (C := RX3) (T := TX3) (N := 17) hx hb hts inlX3 hown hK hP q9 h9 rfl 9 (by decide) (hts _ mw_88) (fun _ h9 => h9) rfl dX3_nextWaiting_12 ?_
      clear h9
      refine lv_icmp_ge (tgt := 108) hx hb dX3_nextWaiting_15 (by decide) (fun c16 => ?_) (fun c16 => ?_)
      · rw [if_pos c16] at hF
        exact kx7 _ (s1 hF).symm _ _ _ hP hD hS (lv_sub hl [0, 1, 2, 3, 4] rfl)
      · rw [if_neg c16] at hF
        refine lv_aload_n hx hb dX3_nextWaiting_18 rfl (lv_at hl 4 rfl) ?_
        obtain ⟨q9, h9⟩ := wc_at (cy := cy) (ad := ad) (ks := ks) (g := g) (u := u0) (κ := (.ln L)) hk.1 h_L
        refine va_get (D := (dC, dI)) (ci := 3) (v := .ref (ad (.cs L))) (C := RX3) (T := TX3) (N := 17) hx hb hts inlX3 hown hK hP q9 h9 rfl 12 (by decide) (hts _ mw_45) (fun _ h9 => h9) rfl dX3_nextWaiting_19 ?_
        clear h9
        refine lv_iload hx hb dX3_nextWaiting_22 (lv_at hl 0 rfl) ?_
        obtain ⟨n17, e18, hF⟩ := ob hF
        obtain ⟨q9, h9⟩ := wc_at (cy := cy) (ad := ad) (ks := ks) (g := g) (u := u0) (κ := (.cs L)) hk.1 h_L
        refine va_aldq hx hb hK hP q9 8 h9 rfl (ix_in e18) dX3_nextWaiting_24 ?_
        refine my_top (y := .ref (ad (.cd L n17))) (ixv (F := fun j => ad (.cd L j)) e18) ?_
        clear h9
        refine lv_astore (lv' := [(5, .ref (ad (.cd L n17))), (4, .int y1), (3, .int y2), (2, .int y3), (1, .int y4), (0, .ref (ad (.ln L)))]) hx hb dX3_nextWaiting_25 hl (by decide) rfl (fun ls hl => ?_)
        refine lv_aload hx hb dX3_nextWaiting_27 (lv_at hl 0 rfl) ?_
        obtain ⟨q9, h9⟩ := wc_at (cy := cy) (ad := ad) (ks := ks) (g := g) (u := u0) (κ := (.cd L n17)) hk.1 ⟨h_L, (ix_lt e18)⟩
        refine va_get (D := (dC, dI)) (ci := 2) (v := .int (u0 (10 + L) (137 + 25 * n17 + 3))) (C := RX1) (T := TX1) (N := 9) hx hb hts inlX1 hown hK hP q9 h9 rfl 3 (by decide) (hts _ mw_782) (fun _ h9 => h9) rfl dX3_nextWaiting_29 ?_
        clear h9
        refine lv_if_ne (tgt := 102) hx hb dX3_nextWaiting_32 (by decide) (fun c19 => ?_) (fun c19 => ?_)
        · rw [if_neg c19] at hF
          refine lv_iinc (v := (y1 + 1)) (lv' := [(4, .int (y1 + 1)), (5, .ref (ad (.cd L n17))), (3, .int y2), (2, .int y3), (1, .int y4), (0, .ref (ad (.ln L)))]) hx hb dX3_nextWaiting_102 hl (k := 1) rfl (by rfl) (by decide) rfl (fun ls hl => ?_)
          refine lv_goto (tgt := 9) hx hb dX3_nextWaiting_105 (by decide) ?_
          exact ih _ _ _ _ hF _ _ _ hP hD hS (lv_sub hl [0, 2, 3, 4, 5] rfl)
        · rw [if_pos c19] at hF
          refine lv_aload hx hb dX3_nextWaiting_35 (lv_at hl 0 rfl) ?_
          obtain ⟨q9, h9⟩ := wc_at (cy := cy) (ad := ad) (ks := ks) (g := g) (u := u0) (κ := (.cd L n17)) hk.1 ⟨h_L, (ix_lt e18)⟩
          refine va_get (D := (dC, dI)) (ci := 2) (v := .int (u0 (10 + L) (137 + 25 * n17 + 8))) (C := RX1) (T := TX1) (N := 9) hx hb hts inlX1 hown hK hP q9 h9 rfl 8 (by decide) (hts _ mw_783) (fun _ h9 => h9) rfl dX3_nextWaiting_37 ?_
          clear h9
          refine lv_if_eq (tgt := 46) hx hb dX3_nextWaiting_40 (by decide) (fun c20 => ?_) (fun c20 => ?_)
          · rw [if_pos c20] at hF
            refine lv_iload_n hx hb dX3_nextWaiting_46 rfl (lv_at hl 4 rfl) ?_
            refine lv_iconst (v := (-1)) hx hb dX3_nextWaiting_47 (by decide) ?_
            obtain ⟨t22, hJ23, hF⟩ := ob hF
            have join24 : ∀ (H : Heap) (locs : List Loc) (ls : Array Slot), va_P (dC, dI) vwCl (WC cy ad ks g u0) H → va_D A (WC cy ad ks g u0) → va_S A s.heap H locs → lv_has ls 6 [(5, .ref (ad (.cd L n17))), (4, .int y1), (3, .int y2), (2, .int y3), (1, .int t22), (0, .ref (ad (.ln L)))] → W p l e (headSpec (wsg yX3_nextWaiting cX3_nextWaiting 6 (some .int)) ({ frames := 7, cells := 0, slots := 0, locals := 200 })).room s m ([.ref (ad (.ln L))] : List Value).toArray below meth c H locs 0 0 Qn (F0 m 68 ls []) := by
              intro H locs ls hP hD hS hl
              refine lv_aload_n hx hb dX3_nextWaiting_68 rfl (lv_at hl 5 rfl) ?_
              obtain ⟨q9, h9⟩ := wc_at (cy := cy) (ad := ad) (ks := ks) (g := g) (u := u0) (κ := (.ln L)) hk.1 h_L
              refine va_get (D := (dC, dI)) (ci := 3) (v := .ref (ad (.ls L))) (C := RX3) (T := TX3) (N := 17) hx hb hts inlX3 hown hK hP q9 h9 rfl 11 (by decide) (hts _ mw_43) (fun _ h9 => h9) rfl dX3_nextWaiting_69 ?_
              clear h9
              refine lv_aload hx hb dX3_nextWaiting_72 (lv_at hl 0 rfl) ?_
              obtain ⟨q9, h9⟩ := wc_at (cy := cy) (ad := ad) (ks := ks) (g := g) (u := u0) (κ := (.cd L n17)) hk.1 ⟨h_L, (ix_lt e18)⟩
              refine va_get (D := (dC, dI)) (ci := 2) (v := .int (u0 (10 + L) (137 + 25 * n17 + 0))) (C := RX1) (T := TX1) (N := 9) hx hb hts inlX1 hown hK hP q9 h9 rfl 0 (by decide) (hts _ mw_786) (fun _ h9 => h9) rfl dX3_nextWaiting_74 ?_
              clear h9
              obtain ⟨n25, e26, hF⟩ := ob hF
              obtain ⟨q9, h9⟩ := wc_at (cy := cy) (ad := ad) (ks := ks) (g := g) (u := u0) (κ := (.ls L)) hk.1 h_L
              refine va_aldq hx hb hK hP q9 7 h9 rfl (ix_in e26) dX3_nextWaiting_77 ?_
              refine my_top (y := .ref (ad (.lo L n25))) (ixv (F := fun j => ad (.lo L j)) e26) ?_
              clear h9
              obtain ⟨q9, h9⟩ := wc_at (cy := cy) (ad := ad) (ks := ks) (g := g) (u := u0) (κ := (.lo L n25)) hk.1 ⟨h_L, (ix_lt e26)⟩
              refine va_get (D := (dC, dI)) (ci := 4) (v := .int (u0 (10 + L) (113 + 4 * n25 + 0))) (C := RX4) (T := TX4) (N := 12) hx hb hts inlX4 hown hK hP q9 h9 rfl 0 (by decide) (hts _ mw_787) (fun _ h9 => h9) rfl dX3_nextWaiting_78 ?_
              clear h9
              refine lv_iload_n hx hb dX3_nextWaiting_81 rfl (lv_at hl 2 rfl) ?_
              obtain ⟨t28, hJ29, hF⟩ := ob hF
              have join30 : ∀ (H : Heap) (locs : List Loc) (ls : Array Slot), va_P (dC, dI) vwCl (WC cy ad ks g u0) H → va_D A (WC cy ad ks g u0) → va_S A s.heap H locs → lv_has ls 6 [(5, .ref (ad (.cd L n17))), (4, .int y1), (3, .int (t28.1)), (2, .int (t28.2)), (1, .int t22), (0, .ref (ad (.ln L)))] → W p l e (headSpec (wsg yX3_nextWaiting cX3_nextWaiting 6 (some .int)) ({ frames := 7, cells := 0, slots := 0, locals := 200 })).room s m ([.ref (ad (.ln L))] : List Value).toArray below meth c H locs 0 0 Qn (F0 m 102 ls []) := by
                intro H locs ls hP hD hS hl
                refine lv_iinc (v := (y1 + 1)) (lv' := [(4, .int (y1 + 1)), (5, .ref (ad (.cd L n17))), (3, .int (t28.1)), (2, .int (t28.2)), (1, .int t22), (0, .ref (ad (.ln L)))]) hx hb dX3_nextWaiting_102 hl (k := 1) rfl (by rfl) (by decide) rfl (fun ls hl => ?_)
                refine lv_goto (tgt := 9) hx hb dX3_nextWaiting_105 (by decide) ?_
                exact ih _ _ _ _ hF _ _ _ hP hD hS (lv_sub hl [0, 2, 3, 4, 5] rfl)
              clear hF
              have hF := hJ29
              clear hJ29
              refine lv_icmp_le (tgt := 102) hx hb dX3_nextWaiting_82 (by decide) (fun c27 => ?_) (fun c27 => ?_)
              · rw [if_pos c27] at hF
                have ht := s1 hF
                subst ht
                exact join30 _ _ _ hP hD hS (lv_sub hl [0, 1, 2, 3, 4, 5] rfl)
              · rw [if_neg c27] at hF
                refine lv_iload hx hb dX3_nextWaiting_85 (lv_at hl 1 rfl) ?_
                refine lv_istore_n (lv' := [(2, .int y1), (5, .ref (ad (.cd L n17))), (4, .int y1), (3, .int y2), (1, .int t22), (0, .ref (ad (.ln L)))]) hx hb dX3_nextWaiting_87 rfl hl (by decide) rfl (fun ls hl => ?_)
                refine lv_aload_n hx hb dX3_nextWaiting_88 rfl (lv_at hl 5 rfl) ?_
                obtain ⟨q9, h9⟩ := wc_at (cy := cy) (ad := ad) (ks := ks) (g := g) (u := u0) (κ := (.ln L)) hk.1 h_L
                refine va_get (D := (dC, dI)) (ci := 3) (v := .ref (ad (.ls L))) (C := RX3) (T := TX3) (N := 17) hx hb hts inlX3 hown hK hP q9 h9 rfl 11 (by decide) (hts _ mw_43) (fun _ h9 => h9) rfl dX3_nextWaiting_89 ?_
                clear h9
                refine lv_aload hx hb dX3_nextWaiting_92 (lv_at hl 1 rfl) ?_
                obtain ⟨q9, h9⟩ := wc_at (cy := cy) (ad := ad) (ks := ks) (g := g) (u := u0) (κ := (.cd L n17)) hk.1 ⟨h_L, (ix_lt e18)⟩
                refine va_get (D := (dC, dI)) (ci := 2) (v := .int (u0 (10 + L) (137 + 25 * n17 + 0))) (C := RX1) (T := TX1) (N := 9) hx hb hts inlX1 hown hK hP q9 h9 rfl 0 (by decide) (hts _ mw_786) (fun _ h9 => h9) rfl dX3_nextWaiting_94 ?_
                clear h9
                obtain ⟨n31, e32, hF⟩ := ob hF
                obtain ⟨q9, h9⟩ := wc_at (cy := cy) (ad := ad) (ks := ks) (g := g) (u := u0) (κ := (.ls L)) hk.1 h_L
                refine va_aldq hx hb hK hP q9 7 h9 rfl (ix_in e32) dX3_nextWaiting_97 ?_
                refine my_top (y := .ref (ad (.lo L n31))) (ixv (F := fun j => ad (.lo L j)) e32) ?_
                clear h9
                obtain ⟨q9, h9⟩ := wc_at (cy := cy) (ad := ad) (ks := ks) (g := g) (u := u0) (κ := (.lo L n31)) hk.1 ⟨h_L, (ix_lt e32)⟩
                refine va_get (D := (dC, dI)) (ci := 4) (v := .int (u0 (10 + L) (113 + 4 * n31 + 0))) (C := RX4) (T := TX4) (N := 12) hx hb hts inlX4 hown hK hP q9 h9 rfl 0 (by decide) (hts _ mw_787) (fun _ h9 => h9) rfl dX3_nextWaiting_98 ?_
                clear h9
                refine lv_istore_n (lv' := [(3, .int (u0 (10 + L) (113 + 4 * n31 + 0))), (2, .int y1), (5, .ref (ad (.cd L n17))), (4, .int y1), (1, .int t22), (0, .ref (ad (.ln L)))]) hx hb dX3_nextWaiting_101 rfl hl (by decide) rfl (fun ls hl => ?_)
                have ht := s1 hF
                subst ht
                exact join30 _ _ _ hP hD hS (lv_sub hl [2, 3, 0, 1, 4, 5] rfl)
            clear hF
            have hF := hJ23
            clear hJ23
            refine lv_icmp_ne (tgt := 68) hx hb dX3_nextWaiting_48 (by decide) (fun c21 => ?_) (fun c21 => ?_)
            · rw [if_neg c21] at hF
              have ht := s1 hF
              subst ht
              exact join24 _ _ _ hP hD hS (lv_sub hl [0, 1, 2, 3, 4, 5] rfl)
            · rw [if_pos c21] at hF
              refine lv_aload hx hb dX3_nextWaiting_51 (lv_at hl 0 rfl) ?_
              obtain ⟨q9, h9⟩ := wc_at (cy := cy) (ad := ad) (ks := ks) (g := g) (u := u0) (κ := (.cd L n17)) hk.1 ⟨h_L, (ix_lt e18)⟩
              refine va_get (D := (dC, dI)) (ci := 2) (v := .int (u0 (10 + L) (137 + 25 * n17 + 5))) (C := RX1) (T := TX1) (N := 9) hx hb hts inlX1 hown hK hP q9 h9 rfl 5 (by decide) (hts _ mw_784) (fun _ h9 => h9) rfl dX3_nextWaiting_53 ?_
              clear h9
              refine lv_aload hx hb dX3_nextWaiting_56 (lv_at hl 0 rfl) ?_
              obtain ⟨q9, h9⟩ := wc_at (cy := cy) (ad := ad) (ks := ks) (g := g) (u := u0) (κ := (.cd L n17)) hk.1 ⟨h_L, (ix_lt e18)⟩
              refine va_get (D := (dC, dI)) (ci := 2) (v := .int (u0 (10 + L) (137 + 25 * n17 + 6))) (C := RX1) (T := TX1) (N := 9) hx hb hts inlX1 hown hK hP q9 h9 rfl 6 (by decide) (hts _ mw_785) (fun _ h9 => h9) rfl dX3_nextWaiting_58 ?_
              clear h9
              refine lv_iadd hx hb dX3_nextWaiting_61 ?_
              refine lv_if_le (tgt := 68) hx hb dX3_nextWaiting_62 (by decide) (fun c33 => ?_) (fun c33 => ?_)
              · rw [if_pos c33] at hF
                have ht := s1 hF
                subst ht
                exact join24 _ _ _ hP hD hS (lv_sub hl [0, 1, 2, 3, 4, 5] rfl)
              · rw [if_neg c33] at hF
                refine lv_iload hx hb dX3_nextWaiting_65 (lv_at hl 1 rfl) ?_
                refine lv_istore_n (lv' := [(1, .int y1), (5, .ref (ad (.cd L n17))), (4, .int y1), (3, .int y2), (2, .int y3), (0, .ref (ad (.ln L)))]) hx hb dX3_nextWaiting_67 rfl hl (by decide) rfl (fun ls hl => ?_)
                have ht := s1 hF
                subst ht
                exact join24 _ _ _ hP hD hS (lv_sub hl [1, 2, 3, 4, 0, 5] rfl)
          · rw [if_neg c20] at hF
            refine lv_iload hx hb dX3_nextWaiting_43 (lv_at hl 1 rfl) ?_
            have hF := kr8 _ (s1 hF).symm
            have hZ := s1 hF
            have zro : y1 = ro := hZ
            have hP9 : va_P (dC, dI) vwCl (WC cy ad ks g u0) H := by exact hP
            have hD9 : va_D A (WC cy ad ks g u0) := by exact hD
            rw [hQ]
            exact W.iret (v := y1) hx hb hr (fun t ht hW => ⟨⟨y1, (), rfl, zro, by rw [ht]; exact hP9, hD9⟩, hS.F ht⟩) hS.2.2 dX3_nextWaiting_45
  exact loop14 FUEL _ _ _ _ hL6 _ _ _ hP hD hS (lv_sub hl [0, 1, 2, 3, 4] rfl)
noncomputable def C3_feed (g : CG) (u0 : RS) (L : Nat) : Option (RS) := if (u0 (10 + L) 7) = 0 then (some u0) else (if (u0 (10 + L) 5) ≤ 0 then (some u0) else (if (u0 (10 + L) (17 + 16 * 0 + 2)) = (-1) then (if (u0 (10 + L) (17 + 16 * 0 + 7)) = 0 then ((C3_nextWaiting g u0 L).bind fun x5 => (if x5 = (-1) then (some u0) else ((pt u0 (10 + L) 5 ((u0 (10 + L) 5) - 1)).bind fun u11 => (wso u11 (10 + L) 12 5 0 ((u11 (10 + L) (12 + 0)) + 1)).bind fun u13 => (ix 30 x5).bind fun n15 => (pt u13 (10 + L) (137 + 25 * n15 + 8) (0)).bind fun u17 => (C3_enter g u17 L (x5) (0)).bind fun u19 => (pt u19 (10 + L) 1060 (1)).bind fun u21 => some u21) : Option (RS)).bind fun t8 => some t8) else (some u0)) else (some u0)))
set_option maxHeartbeats 4000000 in
set_option maxRecDepth 100000 in
theorem c_X3_feed (l : Launch) (dC : Nat → ClassId) (dI : Nat → Nat → Nat) (cy : Nat → ClassId) (nb : Nat → Nat) (ad : CK → Nat) (ks : List CK) (g : CG) (hk : GA nb ad g ks) (u0 : RS) (L : Nat) (uz : RS) (sz : Nat) (h_L : has g (.ln L)) (hF : C3_feed g u0 L = some uz) : Met l yX3_feed (wsg yX3_feed cX3_feed 2 none) ({ frames := 10, cells := 0, slots := 0, locals := 500 }) (va_Pc [.ref (ad (.ln L))] (fun U => U.heap.size = sz ∧ va_P (dC, dI) vwCl (WC cy ad ks g u0) U.heap ∧ va_K (dC, dI) vwCl (tyL cy) U ∧ va_D (fun _ => True) (WC cy ad ks g u0) ∧ GE nb (va_A (WC cy ad ks g u0) sz) U)) (va_Qv (fun (_ : Unit) => True) (fun _ t => va_P (dC, dI) vwCl (WC cy ad ks g uz) t.heap ∧ va_D (va_A (WC cy ad ks g u0) sz) (WC cy ad ks g uz)) (va_A (WC cy ad ks g u0) sz)) 0 0 (va_A (WC cy ad ks g u0) sz) := by
  refine Met.ofW (cc := cX3_feed) (maxL := 2) (ret := none) pn_X3 rfl ?_
  intro p e s m args below meth c s₁ B hml hv
  obtain ⟨rfl, hsz, hP, hK, hD0, hE⟩ := hv
  have hx := B.exec
  have hb := B.bytes
  have hr := B.returns
  have hts0 := atoms_spec (ws := (wsg yX3_feed cX3_feed 2 none)) B.pre
  have hts : ∀ w ∈ wsL_law, w.before _ s = true := fun w h => hts0 w (List.mem_cons_of_mem _ h)
  have hown : s.vm.findClass RX3 = some m.cls := by have h9 := findClass_of_methodNamed B.named; exact h9
  have hlocks := B.notSynchronized
  subst hsz
  have hD := hD0.self (sz := s.heap.size)
  generalize hAe : va_A (WC cy ad ks g u0) s.heap.size = A at hD hE ⊢
  have hA : ∀ q : Nat, s.heap.size ≤ q → A q := fun q h => by rw [← hAe]; exact Or.inr h
  have hS : va_S A s.heap s.heap [] := va_S.rf
  have hl := lv_entry ([.ref (ad (.ln L))]) (n := 2) (Nat.le_of_ble_eq_true rfl)
  rw [lg_entry_eq]
  generalize (lg_sl ([.ref (ad (.ln L))]) ++ List.replicate (2 - (lg_sl ([.ref (ad (.ln L))])).length) Slot.unset).toArray = ls at hl ⊢
  have hl : lv_has ls 2 [(0, .ref (ad (.ln L)))] := hl
  generalize hHe : s.heap = H at hP hS ⊢
  have hS : va_S A s.heap H [] := by rw [hHe]; exact hS
  refine my_Q (fun Qn hQ => ?_)
  simp only [C3_feed] at hF
  refine lv_aload_n hx hb dX3_feed_0 rfl (lv_at hl 0 rfl) ?_
  obtain ⟨q9, h9⟩ := wc_at (cy := cy) (ad := ad) (ks := ks) (g := g) (u := u0) (κ := (.ln L)) hk.1 h_L
  refine va_get (D := (dC, dI)) (ci := 3) (v := .int (u0 (10 + L) 7)) (C := RX3) (T := TX3) (N := 17) hx hb hts inlX3 hown hK hP q9 h9 rfl 7 (by decide) (hts _ mw_86) (fun _ h9 => h9) rfl dX3_feed_1 ?_
  clear h9
  refine lv_if_eq (tgt := 39) hx hb dX3_feed_4 (by decide) (fun c1 => ?_) (fun c1 => ?_)
  · rw [if_pos c1] at hF
    have hZ := s1 hF
    have zuz : u0 = uz := hZ
    have hP9 : va_P (dC, dI) vwCl (WC cy ad ks g uz) H := by rw [← zuz]; exact hP
    have hD9 : va_D A (WC cy ad ks g uz) := by rw [← zuz]; exact hD
    rw [hQ]
    exact W.vret hx hb hr (fun t ht hW => ⟨⟨(), rfl, trivial, by rw [ht]; exact hP9, hD9⟩, hS.F ht⟩) hS.2.2 dX3_feed_39
  · rw [if_neg c1] at hF
    refine lv_aload_n hx hb dX3_feed_7 rfl (lv_at hl 0 rfl) ?_
    obtain ⟨q9, h9⟩ := wc_at (cy := cy) (ad := ad) (ks := ks) (g := g) (u := u0) (κ := (.ln L)) hk.1 h_L
    refine va_get (D := (dC, dI)) (ci := 3) (v := .int (u0 (10 + L) 5)) (C := RX3) (T := TX3) (N := 17) hx hb hts inlX3 hown hK hP q9 h9 rfl 5 (by decide) (hts _ mw_82) (fun _ h9 => h9) rfl dX3_feed_8 ?_
    clear h9
    refine lv_if_le (tgt := 39) hx hb dX3_feed_11 (by decide) (fun c2 => ?_) (fun c2 => ?_)
    · rw [if_pos c2] at hF
      have hZ := s1 hF
      have zuz : u0 = uz := hZ
      have hP9 : va_P (dC, dI) vwCl (WC cy ad ks g uz) H := by rw [← zuz]; exact hP
      have hD9 : va_D A (WC cy ad ks g uz) := by rw [← zuz]; exact hD
      rw [hQ]
      exact W.vret hx hb hr (fun t ht hW => ⟨⟨(), rfl, trivial, by rw [ht]; exact hP9, hD9⟩, hS.F ht⟩) hS.2.2 dX3_feed_39
    · rw [if_neg c2] at hF
      refine lv_aload_n hx hb dX3_feed_14 rfl (lv_at hl 0 rfl) ?_
      obtain ⟨q9, h9⟩ := wc_at (cy := cy) (ad := ad) (ks := ks) (g := g) (u := u0) (κ := (.ln L)) hk.1 h_L
      refine va_get (D := (dC, dI)) (ci := 3) (v := .ref (ad (.ss L))) (C := RX3) (T := TX3) (N := 17) hx hb hts inlX3 hown hK hP q9 h9 rfl 10 (by decide) (hts _ mw_41) (fun _ h9 => h9) rfl dX3_feed_15 ?_
      clear h9
      refine lv_iconst (v := 0) hx hb dX3_feed_18 (by decide) ?_
      obtain ⟨q9, h9⟩ := wc_at (cy := cy) (ad := ad) (ks := ks) (g := g) (u := u0) (κ := (.ss L)) hk.1 h_L
      refine va_aldq hx hb hK hP q9 6 h9 rfl (vp_in_nI (n := 0) (by decide) (by decide)) dX3_feed_19 ?_
      refine my_top (y := .ref (ad (.st L 0))) rfl ?_
      clear h9
      obtain ⟨q9, h9⟩ := wc_at (cy := cy) (ad := ad) (ks := ks) (g := g) (u := u0) (κ := (.st L 0)) hk.1 ⟨h_L, by decide⟩
      refine va_get (D := (dC, dI)) (ci := 6) (v := .int (u0 (10 + L) (17 + 16 * 0 + 2))) (C := RX6) (T := TX6) (N := 15) hx hb hts inlX6 hown hK hP q9 h9 rfl 3 (by decide) (hts _ mw_1142) (fun _ h9 => h9) rfl dX3_feed_20 ?_
      clear h9
      refine lv_iconst (v := (-1)) hx hb dX3_feed_23 (by decide) ?_
      refine lv_icmp_ne (tgt := 39) hx hb dX3_feed_24 (by decide) (fun c3 => ?_) (fun c3 => ?_)
      · rw [if_neg c3] at hF
        have hZ := s1 hF
        have zuz : u0 = uz := hZ
        have hP9 : va_P (dC, dI) vwCl (WC cy ad ks g uz) H := by rw [← zuz]; exact hP
        have hD9 : va_D A (WC cy ad ks g uz) := by rw [← zuz]; exact hD
        rw [hQ]
        exact W.vret hx hb hr (fun t ht hW => ⟨⟨(), rfl, trivial, by rw [ht]; exact hP9, hD9⟩, hS.F ht⟩) hS.2.2 dX3_feed_39
      · rw [if_pos c3] at hF
        refine lv_aload_n hx hb dX3_feed_27 rfl (lv_at hl 0 rfl) ?_
        obtain ⟨q9, h9⟩ := wc_at (cy := cy) (ad := ad) (ks := ks) (g := g) (u := u0) (κ := (.ln L)) hk.1 h_L
        refine va_get (D := (dC, dI)) (ci := 3) (v := .ref (ad (.ss L))) (C := RX3) (T := TX3) (N := 17) hx hb hts inlX3 hown hK hP q9 h9 rfl 10 (by decide) (hts _ mw_41) (fun _ h9 => h9) rfl dX3_feed_28 ?_
        clear h9
        refine lv_iconst (v := 0) hx hb dX3_feed_31 (by decide) ?_
        obtain ⟨q9, h9⟩ := wc_at (cy := cy) (ad := ad) (ks := ks) (g := g) (u := u0) (κ := (.ss L)) hk.1 h_L
        refine va_aldq hx hb hK hP q9 6 h9 rfl (vp_in_nI (n := 0) (by decide) (by decide)) dX3_feed_32 ?_
        refine my_top (y := .ref (ad (.st L 0))) rfl ?_
        clear h9
        obtain ⟨q9, h9⟩ := wc_at (cy := cy) (ad := ad) (ks := ks) (g := g) (u := u0) (κ := (.st L 0)) hk.1 ⟨h_L, by decide⟩
        refine va_get (D := (dC, dI)) (ci := 6) (v := .int (u0 (10 + L) (17 + 16 * 0 + 7))) (C := RX6) (T := TX6) (N := 15) hx hb hts inlX6 hown hK hP q9 h9 rfl 9 (by decide) (hts _ mw_1149) (fun _ h9 => h9) rfl dX3_feed_33 ?_
        clear h9
        refine lv_if_eq (tgt := 40) hx hb dX3_feed_36 (by decide) (fun c4 => ?_) (fun c4 => ?_)
        · rw [if_pos c4] at hF
          refine lv_aload_n hx hb dX3_feed_40 rfl (lv_at hl 0 rfl) ?_
          obtain ⟨x5, e6, hF⟩ := ob hF
          have hPc := hP
          have hDc := hD
          have hFc := my_free hD hS hA
          obtain ⟨q8, h8⟩ := wc_at (cy := cy) (ad := ad) (ks := ks) (g := g) (u := u0) (κ := (.ln L)) hk.1 h_L
          refine va_calli (va_runV (As := []) (rest := []) ⟨hx, hb, hml, hown, hts⟩ (c_X3_nextWaiting l dC dI cy nb ad ks g hk u0 L (x5) H.size h_L e6) (cwV 0 hts (gV mw_1204 mw_779 mw_780 mw_17 mw_781) rfl rfl rfl (by decide +kernel) ⟨Nat.le_of_ble_eq_true rfl, Nat.le_of_ble_eq_true rfl⟩) (my_preV hPc hK hDc hE hS hFc (va_recv (q := (RX3, TX3, 17)) hK hP (ci := 3) (q0 := q8) rfl h8)) rfl rfl hl.1 rfl (lv_room (Nat.le_of_ble_eq_true rfl)) dX3_feed_41 ⟨Nat.le_of_ble_eq_true rfl, Nat.le_of_ble_eq_true rfl⟩) hS (fun q _ h => hFc q h) hFc (fun r u t H1 locs ht hvm hw hB hz1 hk1 hS => ?_)
          clear h8
          obtain ⟨hP1, hD1⟩ := hB
          rw [ht] at hP1
          have hP := hP1
          have hD := hD1.weaken (fun k q _ h => hFc q.1 h)
          generalize H1 = H at hP hS ⊢
          clear hP1 hD1 hPc hDc hFc hk1 hz1 hvm ht
          obtain rfl := hw.symm
          refine lv_istore_n (lv' := [(1, .int x5), (0, .ref (ad (.ln L)))]) hx hb dX3_feed_44 rfl hl (by decide) rfl (fun ls hl => ?_)
          refine lv_iload_n hx hb dX3_feed_45 rfl (lv_at hl 0 rfl) ?_
          refine lv_iconst (v := (-1)) hx hb dX3_feed_46 (by decide) ?_
          obtain ⟨t8, hJ9, hF⟩ := ob hF
          have join10 : ∀ (H : Heap) (locs : List Loc) (ls : Array Slot), va_P (dC, dI) vwCl (WC cy ad ks g t8) H → va_D A (WC cy ad ks g t8) → va_S A s.heap H locs → lv_has ls 2 [(1, .int x5), (0, .ref (ad (.ln L)))] → W p l e (headSpec (wsg yX3_feed cX3_feed 2 none) ({ frames := 10, cells := 0, slots := 0, locals := 500 })).room s m ([.ref (ad (.ln L))] : List Value).toArray below meth c H locs 0 0 Qn (F0 m 91 ls []) := by
            intro H locs ls hP hD hS hl
            have hZ := s1 hF
            have zuz : t8 = uz := hZ
            have hP9 : va_P (dC, dI) vwCl (WC cy ad ks g uz) H := by rw [← zuz]; exact hP
            have hD9 : va_D A (WC cy ad ks g uz) := by rw [← zuz]; exact hD
            rw [hQ]
            exact W.vret hx hb hr (fun t ht hW => ⟨⟨(), rfl, trivial, by rw [ht]; exact hP9, hD9⟩, hS.F ht⟩) hS.2.2 dX3_feed_91
          clear hF
          have hF := hJ9
          clear hJ9
          refine lv_icmp_eq (tgt := 91) hx hb dX3_feed_47 (by decide) (fun c7 => ?_) (fun c7 => ?_)
          · rw [if_pos c7] at hF
            have ht := s1 hF
            subst ht
            exact join10 _ _ _ hP hD hS (lv_sub hl [0, 1] rfl)
          · rw [if_neg c7] at hF
            refine lv_aload_n hx hb dX3_feed_50 rfl (lv_at hl 1 rfl) ?_
            refine lv_dup hx hb dX3_feed_51 rfl ?_
            obtain ⟨q9, h9⟩ := wc_at (cy := cy) (ad := ad) (ks := ks) (g := g) (u := u0) (κ := (.ln L)) hk.1 h_L
            refine va_get (D := (dC, dI)) (ci := 3) (v := .int (u0 (10 + L) 5)) (C := RX3) (T := TX3) (N := 17) hx hb hts inlX3 hown hK hP q9 h9 rfl 5 (by decide) (hts _ mw_82) (fun _ h9 => h9) rfl dX3_feed_52 ?_
            clear h9
            refine lv_iconst (v := 1) hx hb dX3_feed_55 (by decide) ?_
            refine lv_isub hx hb dX3_feed_56 ?_
            obtain ⟨q9, h9, ez9⟩ := wc_set (cy := cy) (ad := ad) (ks := ks) (g := g) (u := u0) (κ := (.ln L)) (r := (10 + L)) (i := 5) (v := ((u0 (10 + L) 5) - 1)) hk.1 h_L (own_ln (inl_lt h_L) (by decide)) (sf_ln_5)
            refine va_put (D := (dC, dI)) (ci := 3) (v := .int ((u0 (10 + L) 5) - 1)) (ty := .int) (C := RX3) (T := TX3) (N := 17) hx hb hts inlX3 tyX3 tyX3_ok nmX3 hown hK hP hD hS q9 h9 rfl 5 (by decide) (hts _ mw_82) (fun _ h9 => h9) rfl (by decide +kernel) rfl rfl (Nat.le_of_ble_eq_true rfl) dX3_feed_57 (fun H locs hP hD hS => ?_)
            obtain ⟨u11, e12, hF⟩ := ob hF
            have hP : va_P (dC, dI) vwCl (WC cy ad ks g u11) H := by rw [← pt_eq e12, ← ez9]; exact hP
            have hD : va_D A (WC cy ad ks g u11) := by rw [← pt_eq e12, ← ez9]; exact hD
            clear ez9 h9
            refine lv_aload_n hx hb dX3_feed_60 rfl (lv_at hl 1 rfl) ?_
            obtain ⟨q9, h9⟩ := wc_at (cy := cy) (ad := ad) (ks := ks) (g := g) (u := u11) (κ := (.ln L)) hk.1 h_L
            refine va_get (D := (dC, dI)) (ci := 3) (v := .ref (ad (.tt L))) (C := RX3) (T := TX3) (N := 17) hx hb hts inlX3 hown hK hP q9 h9 rfl 15 (by decide) (hts _ mw_48) (fun _ h9 => h9) rfl dX3_feed_61 ?_
            clear h9
            refine lv_iconst (v := 0) hx hb dX3_feed_64 (by decide) ?_
            refine lv_dup2_11 hx hb dX3_feed_65 rfl rfl ?_
            obtain ⟨q9, h9⟩ := wc_at (cy := cy) (ad := ad) (ks := ks) (g := g) (u := u11) (κ := (.tt L)) hk.1 h_L
            refine va_iald hx hb hK hP q9 1 h9 rfl (vp_in_nI (n := 0) (by decide) (by decide)) dX3_feed_66 ?_
            refine my_topi (y := (u11 (10 + L) (12 + 0))) (by rfl) ?_
            clear h9
            refine lv_iconst (v := 1) hx hb dX3_feed_67 (by decide) ?_
            refine lv_iadd hx hb dX3_feed_68 ?_
            obtain ⟨u13, e14, hF⟩ := ob hF
            obtain ⟨q9, h9, ez9⟩ := wc_set (cy := cy) (ad := ad) (ks := ks) (g := g) (u := u11) (κ := (.tt L)) (r := (10 + L)) (i := (12 + (0 : Int32).toNatClampNeg)) (v := ((u11 (10 + L) (12 + 0)) + 1)) hk.1 h_L (own_tt (inl_lt h_L) (vp_in_lt (wso_in e14))) (sf_tt (vp_in_lt (wso_in e14)))
            refine va_iast hx hb hK hP hD hS q9 1 h9 rfl (wso_in e14) dX3_feed_69 (fun H locs hP hD hS => ?_)
            have hP : va_P (dC, dI) vwCl (WC cy ad ks g u13) H := by rw [← wso_eq e14, ← ez9]; exact hP
            have hD : va_D A (WC cy ad ks g u13) := by rw [← wso_eq e14, ← ez9]; exact hD
            clear ez9 h9
            refine lv_aload_n hx hb dX3_feed_70 rfl (lv_at hl 1 rfl) ?_
            obtain ⟨q9, h9⟩ := wc_at (cy := cy) (ad := ad) (ks := ks) (g := g) (u := u13) (κ := (.ln L)) hk.1 h_L
            refine va_get (D := (dC, dI)) (ci := 3) (v := .ref (ad (.cs L))) (C := RX3) (T := TX3) (N := 17) hx hb hts inlX3 hown hK hP q9 h9 rfl 12 (by decide) (hts _ mw_45) (fun _ h9 => h9) rfl dX3_feed_71 ?_
            clear h9
            refine lv_iload_n hx hb dX3_feed_74 rfl (lv_at hl 0 rfl) ?_
            obtain ⟨n15, e16, hF⟩ := ob hF
            obtain ⟨q9, h9⟩ := wc_at (cy := cy) (ad := ad) (ks := ks) (g := g) (u := u13) (κ := (.cs L)) hk.1 h_L
            refine va_aldq hx hb hK hP q9 8 h9 rfl (ix_in e16) dX3_feed_75 ?_
            refine my_top (y := .ref (ad (.cd L n15))) (ixv (F := fun j => ad (.cd L j)) e16) ?_
            clear h9
            refine lv_iconst (v := 0) hx hb dX3_feed_76 (by decide) ?_
            obtain ⟨q9, h9, ez9⟩ := wc_set (cy := cy) (ad := ad) (ks := ks) (g := g) (u := u13) (κ := (.cd L n15)) (r := (10 + L)) (i := (137 + 25 * n15 + 8)) (v := (0)) hk.1 ⟨h_L, (ix_lt e16)⟩ (own_cd (inl_lt h_L) (ix_lt e16) (by decide)) (sf_cd_8)
            refine va_put (D := (dC, dI)) (ci := 2) (v := .int 0) (ty := .boolean) (C := RX1) (T := TX1) (N := 9) hx hb hts inlX1 tyX1 tyX1_ok nmX1 hown hK hP hD hS q9 h9 rfl 8 (by decide) (hts _ mw_783) (fun _ h9 => h9) rfl (by decide +kernel) rfl rfl (Nat.le_of_ble_eq_true rfl) dX3_feed_77 (fun H locs hP hD hS => ?_)
            obtain ⟨u17, e18, hF⟩ := ob hF
            have hP : va_P (dC, dI) vwCl (WC cy ad ks g u17) H := by rw [← pt_eq e18, ← ez9]; exact hP
            have hD : va_D A (WC cy ad ks g u17) := by rw [← pt_eq e18, ← ez9]; exact hD
            clear ez9 h9
            refine lv_aload_n hx hb dX3_feed_80 rfl (lv_at hl 1 rfl) ?_
            refine lv_iload_n hx hb dX3_feed_81 rfl (lv_at hl 0 rfl) ?_
            refine lv_iconst (v := 0) hx hb dX3_feed_82 (by decide) ?_
            obtain ⟨u19, e20, hF⟩ := ob hF
            have hPc := hP
            have hDc := hD
            have hFc := my_free hD hS hA
            obtain ⟨q8, h8⟩ := wc_at (cy := cy) (ad := ad) (ks := ks) (g := g) (u := u17) (κ := (.ln L)) hk.1 h_L
            refine va_callv (va_runV (As := [.int x5, .int 0]) (rest := []) ⟨hx, hb, hml, hown, hts⟩ (c_X3_enter l dC dI cy nb ad ks g hk u17 L (x5) (0) (u19) H.size h_L e20) (cwV 2 hts (gV mw_1191 mw_1192 mw_1193 mw_17 mw_1194) rfl rfl rfl (by decide +kernel) ⟨Nat.le_of_ble_eq_true rfl, Nat.le_of_ble_eq_true rfl⟩) (my_preV hPc hK hDc hE hS hFc (va_recv (q := (RX3, TX3, 17)) hK hP (ci := 3) (q0 := q8) rfl h8)) rfl rfl hl.1 rfl (lv_room (Nat.le_of_ble_eq_true rfl)) dX3_feed_83 ⟨Nat.le_of_ble_eq_true rfl, Nat.le_of_ble_eq_true rfl⟩) hS (fun q _ h => hFc q h) hFc (fun u t H1 locs ht hvm hw hB hz1 hk1 hS => ?_)
            clear h8
            obtain ⟨hP1, hD1⟩ := hB
            rw [ht] at hP1
            have hP := hP1
            have hD := hD1.weaken (fun k q _ h => hFc q.1 h)
            generalize H1 = H at hP hS ⊢
            clear hP1 hD1 hPc hDc hFc hk1 hz1 hvm ht
            refine lv_aload_n hx hb dX3_feed_86 rfl (lv_at hl 1 rfl) ?_
            refine lv_iconst (v := 1) hx hb dX3_feed_87 (by decide) ?_
            obtain ⟨q9, h9, ez9⟩ := wc_set (cy := cy) (ad := ad) (ks := ks) (g := g) (u := u19) (κ := (.ln L)) (r := (10 + L)) (i := 1060) (v := (1)) hk.1 h_L (own_mv (inl_lt h_L)) (sf_ln_16)
            refine va_put (D := (dC, dI)) (ci := 3) (v := .int 1) (ty := .boolean) (C := RX3) (T := TX3) (N := 17) hx hb hts inlX3 tyX3 tyX3_ok nmX3 hown hK hP hD hS q9 h9 rfl 16 (by decide) (hts _ mw_1141) (fun _ h9 => h9) rfl (by decide +kernel) rfl rfl (Nat.le_of_ble_eq_true rfl) dX3_feed_88 (fun H locs hP hD hS => ?_)
            obtain ⟨u21, e22, hF⟩ := ob hF
            have hP : va_P (dC, dI) vwCl (WC cy ad ks g u21) H := by rw [← pt_eq e22, ← ez9]; exact hP
            have hD : va_D A (WC cy ad ks g u21) := by rw [← pt_eq e22, ← ez9]; exact hD
            clear ez9 h9
            have ht := s1 hF
            subst ht
            exact join10 _ _ _ hP hD hS (lv_sub hl [0, 1] rfl)
        · rw [if_neg c4] at hF
          have hZ := s1 hF
          have zuz : u0 = uz := hZ
          have hP9 : va_P (dC, dI) vwCl (WC cy ad ks g uz) H := by rw [← zuz]; exact hP
          have hD9 : va_D A (WC cy ad ks g uz) := by rw [← zuz]; exact hD
          rw [hQ]
          exact W.vret hx hb hr (fun t ht hW => ⟨⟨(), rfl, trivial, by rw [ht]; exact hP9, hD9⟩, hS.F ht⟩) hS.2.2 dX3_feed_39
noncomputable def C3_goOn (g : CG) (u0 : RS) (L : Nat) (i : Nat) (a2 : Int32) : Option (RS) := (C6_letGoOn g u0 L i).bind fun u1 => (C3_enter g u1 L ((u0 (10 + L) (17 + 16 * i + 2))) (a2)).bind fun u3 => (pt u3 (10 + L) 1060 (1)).bind fun u5 => some u5
set_option maxHeartbeats 4000000 in
set_option maxRecDepth 100000 in
theorem c_X3_goOn (l : Launch) (dC : Nat → ClassId) (dI : Nat → Nat → Nat) (cy : Nat → ClassId) (nb : Nat → Nat) (ad : CK → Nat) (ks : List CK) (g : CG) (hk : GA nb ad g ks) (u0 : RS) (L : Nat) (i : Nat) (a2 : Int32) (uz : RS) (sz : Nat) (h_L : has g (.ln L)) (h_L_i : has g (.st L i)) (hF : C3_goOn g u0 L i a2 = some uz) : Met l yX3_goOn (wsg yX3_goOn cX3_goOn 4 none) ({ frames := 10, cells := 0, slots := 0, locals := 500 }) (va_Pc [.ref (ad (.ln L)), .ref (ad (.st L i)), .int a2] (fun U => U.heap.size = sz ∧ va_P (dC, dI) vwCl (WC cy ad ks g u0) U.heap ∧ va_K (dC, dI) vwCl (tyL cy) U ∧ va_D (fun _ => True) (WC cy ad ks g u0) ∧ GE nb (va_A (WC cy ad ks g u0) sz) U)) (va_Qv (fun (_ : Unit) => True) (fun _ t => va_P (dC, dI) vwCl (WC cy ad ks g uz) t.heap ∧ va_D (va_A (WC cy ad ks g u0) sz) (WC cy ad ks g uz)) (va_A (WC cy ad ks g u0) sz)) 0 0 (va_A (WC cy ad ks g u0) sz) := by
  refine Met.ofW (cc := cX3_goOn) (maxL := 4) (ret := none) pn_X3 rfl ?_
  intro p e s m args below meth c s₁ B hml hv
  obtain ⟨rfl, hsz, hP, hK, hD0, hE⟩ := hv
  have hx := B.exec
  have hb := B.bytes
  have hr := B.returns
  have hts0 := atoms_spec (ws := (wsg yX3_goOn cX3_goOn 4 none)) B.pre
  have hts : ∀ w ∈ wsL_law, w.before _ s = true := fun w h => hts0 w (List.mem_cons_of_mem _ h)
  have hown : s.vm.findClass RX3 = some m.cls := by have h9 := findClass_of_methodNamed B.named; exact h9
  have hlocks := B.notSynchronized
  subst hsz
  have hD := hD0.self (sz := s.heap.size)
  generalize hAe : va_A (WC cy ad ks g u0) s.heap.size = A at hD hE ⊢
  have hA : ∀ q : Nat, s.heap.size ≤ q → A q := fun q h => by rw [← hAe]; exact Or.inr h
  have hS : va_S A s.heap s.heap [] := va_S.rf
  have hl := lv_entry ([.ref (ad (.ln L)), .ref (ad (.st L i)), .int a2]) (n := 4) (Nat.le_of_ble_eq_true rfl)
  rw [lg_entry_eq]
  generalize (lg_sl ([.ref (ad (.ln L)), .ref (ad (.st L i)), .int a2]) ++ List.replicate (4 - (lg_sl ([.ref (ad (.ln L)), .ref (ad (.st L i)), .int a2])).length) Slot.unset).toArray = ls at hl ⊢
  have hl : lv_has ls 4 [(0, .ref (ad (.ln L))), (1, .ref (ad (.st L i))), (2, .int a2)] := hl
  generalize hHe : s.heap = H at hP hS ⊢
  have hS : va_S A s.heap H [] := by rw [hHe]; exact hS
  refine my_Q (fun Qn hQ => ?_)
  simp only [C3_goOn] at hF
  refine lv_aload_n hx hb dX3_goOn_0 rfl (lv_at hl 1 rfl) ?_
  obtain ⟨q9, h9⟩ := wc_at (cy := cy) (ad := ad) (ks := ks) (g := g) (u := u0) (κ := (.st L i)) hk.1 ⟨h_L_i.1, h_L_i.2⟩
  refine va_get (D := (dC, dI)) (ci := 6) (v := .int (u0 (10 + L) (17 + 16 * i + 2))) (C := RX6) (T := TX6) (N := 15) hx hb hts inlX6 hown hK hP q9 h9 rfl 3 (by decide) (hts _ mw_1142) (fun _ h9 => h9) rfl dX3_goOn_1 ?_
  clear h9
  refine lv_istore_n (lv' := [(3, .int (u0 (10 + L) (17 + 16 * i + 2))), (0, .ref (ad (.ln L))), (1, .ref (ad (.st L i))), (2, .int a2)]) hx hb dX3_goOn_4 rfl hl (by decide) rfl (fun ls hl => ?_)
  refine lv_aload_n hx hb dX3_goOn_5 rfl (lv_at hl 2 rfl) ?_
  obtain ⟨u1, e2, hF⟩ := ob hF
  have hPc := hP
  have hDc := hD
  have hFc := my_free hD hS hA
  obtain ⟨q8, h8⟩ := wc_at (cy := cy) (ad := ad) (ks := ks) (g := g) (u := u0) (κ := (.st L i)) hk.1 ⟨h_L_i.1, h_L_i.2⟩
  refine va_callv (va_runV (As := []) (rest := []) ⟨hx, hb, hml, hown, hts⟩ (c_X6_letGoOn l dC dI cy nb ad ks g hk u0 L i (u1) H.size ⟨h_L_i.1, h_L_i.2⟩ e2) (cwV 0 hts (gV mw_1175 mw_1176 mw_1177 mw_50 mw_1178) rfl rfl rfl (by decide +kernel) ⟨Nat.le_of_ble_eq_true rfl, Nat.le_of_ble_eq_true rfl⟩) (my_preV hPc hK hDc hE hS hFc (va_recv (q := (RX6, TX6, 15)) hK hP (ci := 6) (q0 := q8) rfl h8)) rfl rfl hl.1 rfl (lv_room (Nat.le_of_ble_eq_true rfl)) dX3_goOn_6 ⟨Nat.le_of_ble_eq_true rfl, Nat.le_of_ble_eq_true rfl⟩) hS (fun q _ h => hFc q h) hFc (fun u t H1 locs ht hvm hw hB hz1 hk1 hS => ?_)
  clear h8
  obtain ⟨hP1, hD1⟩ := hB
  rw [ht] at hP1
  have hP := hP1
  have hD := hD1.weaken (fun k q _ h => hFc q.1 h)
  generalize H1 = H at hP hS ⊢
  clear hP1 hD1 hPc hDc hFc hk1 hz1 hvm ht
  refine lv_aload_n hx hb dX3_goOn_9 rfl (lv_at hl 1 rfl) ?_
  refine lv_iload_n hx hb dX3_goOn_10 rfl (lv_at hl 0 rfl) ?_
  refine lv_iload_n hx hb dX3_goOn_11 rfl (lv_at hl 3 rfl) ?_
  obtain ⟨u3, e4, hF⟩ := ob hF
  have hPc := hP
  have hDc := hD
  have hFc := my_free hD hS hA
  obtain ⟨q8, h8⟩ := wc_at (cy := cy) (ad := ad) (ks := ks) (g := g) (u := u1) (κ := (.ln L)) hk.1 h_L_i.1
  refine va_callv (va_runV (As := [.int (u0 (10 + L) (17 + 16 * i + 2)), .int a2]) (rest := []) ⟨hx, hb, hml, hown, hts⟩ (c_X3_enter l dC dI cy nb ad ks g hk u1 L ((u0 (10 + L) (17 + 16 * i + 2))) (a2) (u3) H.size h_L_i.1 e4) (cwV 2 hts (gV mw_1191 mw_1192 mw_1193 mw_17 mw_1194) rfl rfl rfl (by decide +kernel) ⟨Nat.le_of_ble_eq_true rfl, Nat.le_of_ble_eq_true rfl⟩) (my_preV hPc hK hDc hE hS hFc (va_recv (q := (RX3, TX3, 17)) hK hP (ci := 3) (q0 := q8) rfl h8)) rfl rfl hl.1 rfl (lv_room (Nat.le_of_ble_eq_true rfl)) dX3_goOn_12 ⟨Nat.le_of_ble_eq_true rfl, Nat.le_of_ble_eq_true rfl⟩) hS (fun q _ h => hFc q h) hFc (fun u t H1 locs ht hvm hw hB hz1 hk1 hS => ?_)
  clear h8
  obtain ⟨hP1, hD1⟩ := hB
  rw [ht] at hP1
  have hP := hP1
  have hD := hD1.weaken (fun k q _ h => hFc q.1 h)
  generalize H1 = H at hP hS ⊢
  clear hP1 hD1 hPc hDc hFc hk1 hz1 hvm ht
  refine lv_aload_n hx hb dX3_goOn_15 rfl (lv_at hl 1 rfl) ?_
  refine lv_iconst (v := 1) hx hb dX3_goOn_16 (by decide) ?_
  obtain ⟨q9, h9, ez9⟩ := wc_set (cy := cy) (ad := ad) (ks := ks) (g := g) (u := u3) (κ := (.ln L)) (r := (10 + L)) (i := 1060) (v := (1)) hk.1 h_L_i.1 (own_mv (inl_lt h_L_i.1)) (sf_ln_16)
  refine va_put (D := (dC, dI)) (ci := 3) (v := .int 1) (ty := .boolean) (C := RX3) (T := TX3) (N := 17) hx hb hts inlX3 tyX3 tyX3_ok nmX3 hown hK hP hD hS q9 h9 rfl 16 (by decide) (hts _ mw_1141) (fun _ h9 => h9) rfl (by decide +kernel) rfl rfl (Nat.le_of_ble_eq_true rfl) dX3_goOn_17 (fun H locs hP hD hS => ?_)
  obtain ⟨u5, e6, hF⟩ := ob hF
  have hP : va_P (dC, dI) vwCl (WC cy ad ks g u5) H := by rw [← pt_eq e6, ← ez9]; exact hP
  have hD : va_D A (WC cy ad ks g u5) := by rw [← pt_eq e6, ← ez9]; exact hD
  clear ez9 h9
  have hZ := s1 hF
  have zuz : u5 = uz := hZ
  have hP9 : va_P (dC, dI) vwCl (WC cy ad ks g uz) H := by rw [← zuz]; exact hP
  have hD9 : va_D A (WC cy ad ks g uz) := by rw [← zuz]; exact hD
  rw [hQ]
  exact W.vret hx hb hr (fun t ht hW => ⟨⟨(), rfl, trivial, by rw [ht]; exact hP9, hD9⟩, hS.F ht⟩) hS.2.2 dX3_goOn_20
noncomputable def C4_isFinished (g : CG) (u0 : RS) (L : Nat) (i : Nat) : Option (Int32) := (if ((u0 (10 + L) (1100 + 8 * i + 1)) + (u0 (10 + L) (1100 + 8 * i + 2))) = (u0 (10 + L) (113 + 4 * i + 1)) then (some (1 : Int32)) else (some (0 : Int32)) : Option (Int32)).bind fun t2 => (nz t2).bind fun x5 => some x5
set_option maxHeartbeats 4000000 in
set_option maxRecDepth 100000 in
theorem c_X4_isFinished (l : Launch) (dC : Nat → ClassId) (dI : Nat → Nat → Nat) (cy : Nat → ClassId) (nb : Nat → Nat) (ad : CK → Nat) (ks : List CK) (g : CG) (hk : GA nb ad g ks) (u0 : RS) (L : Nat) (i : Nat) (ro : Int32) (sz : Nat) (h_L_i : has g (.lo L i)) (hF : C4_isFinished g u0 L i = some ro) : Met l yX4_isFinished (wsg yX4_isFinished cX4_isFinished 1 (some .boolean)) ({ frames := 7, cells := 0, slots := 0, locals := 200 }) (va_Pc [.ref (ad (.lo L i))] (fun U => U.heap.size = sz ∧ va_P (dC, dI) vwCl (WC cy ad ks g u0) U.heap ∧ va_K (dC, dI) vwCl (tyL cy) U ∧ va_D (fun _ => True) (WC cy ad ks g u0) ∧ GE nb (va_A (WC cy ad ks g u0) sz) U)) (va_Qi (fun (r : Int32) (_ : Unit) => r = ro) (fun _ t => va_P (dC, dI) vwCl (WC cy ad ks g u0) t.heap ∧ va_D (va_A (WC cy ad ks g u0) sz) (WC cy ad ks g u0)) (va_A (WC cy ad ks g u0) sz)) 0 0 (va_A (WC cy ad ks g u0) sz) := by
  refine Met.ofW (cc := cX4_isFinished) (maxL := 1) (ret := (some .boolean)) pn_X4 rfl ?_
  intro p e s m args below meth c s₁ B hml hv
  obtain ⟨rfl, hsz, hP, hK, hD0, hE⟩ := hv
  have hx := B.exec
  have hb := B.bytes
  have hr := B.returns
  have hts0 := atoms_spec (ws := (wsg yX4_isFinished cX4_isFinished 1 (some .boolean))) B.pre
  have hts : ∀ w ∈ wsL_law, w.before _ s = true := fun w h => hts0 w (List.mem_cons_of_mem _ h)
  have hown : s.vm.findClass RX4 = some m.cls := by have h9 := findClass_of_methodNamed B.named; exact h9
  have hlocks := B.notSynchronized
  subst hsz
  have hD := hD0.self (sz := s.heap.size)
  generalize hAe : va_A (WC cy ad ks g u0) s.heap.size = A at hD hE ⊢
  have hA : ∀ q : Nat, s.heap.size ≤ q → A q := fun q h => by rw [← hAe]; exact Or.inr h
  have hS : va_S A s.heap s.heap [] := va_S.rf
  have hl := lv_entry ([.ref (ad (.lo L i))]) (n := 1) (Nat.le_of_ble_eq_true rfl)
  rw [lg_entry_eq]
  generalize (lg_sl ([.ref (ad (.lo L i))]) ++ List.replicate (1 - (lg_sl ([.ref (ad (.lo L i))])).length) Slot.unset).toArray = ls at hl ⊢
  have hl : lv_has ls 1 [(0, .ref (ad (.lo L i)))] := hl
  generalize hHe : s.heap = H at hP hS ⊢
  have hS : va_S A s.heap H [] := by rw [hHe]; exact hS
  refine my_Q (fun Qn hQ => ?_)
  simp only [C4_isFinished] at hF
  refine lv_aload_n hx hb dX4_isFinished_0 rfl (lv_at hl 0 rfl) ?_
  obtain ⟨q9, h9⟩ := wc_at (cy := cy) (ad := ad) (ks := ks) (g := g) (u := u0) (κ := (.lo L i)) hk.1 ⟨h_L_i.1, h_L_i.2⟩
  refine va_get (D := (dC, dI)) (ci := 4) (v := .int (u0 (10 + L) (1100 + 8 * i + 1))) (C := RX4) (T := TX4) (N := 12) hx hb hts inlX4 hown hK hP q9 h9 rfl 4 (by decide) (hts _ mw_268) (fun _ h9 => h9) rfl dX4_isFinished_1 ?_
  clear h9
  refine lv_aload_n hx hb dX4_isFinished_4 rfl (lv_at hl 0 rfl) ?_
  obtain ⟨q9, h9⟩ := wc_at (cy := cy) (ad := ad) (ks := ks) (g := g) (u := u0) (κ := (.lo L i)) hk.1 ⟨h_L_i.1, h_L_i.2⟩
  refine va_get (D := (dC, dI)) (ci := 4) (v := .int (u0 (10 + L) (1100 + 8 * i + 2))) (C := RX4) (T := TX4) (N := 12) hx hb hts inlX4 hown hK hP q9 h9 rfl 5 (by decide) (hts _ mw_269) (fun _ h9 => h9) rfl dX4_isFinished_5 ?_
  clear h9
  refine lv_iadd hx hb dX4_isFinished_8 ?_
  refine lv_aload_n hx hb dX4_isFinished_9 rfl (lv_at hl 0 rfl) ?_
  obtain ⟨q9, h9⟩ := wc_at (cy := cy) (ad := ad) (ks := ks) (g := g) (u := u0) (κ := (.lo L i)) hk.1 ⟨h_L_i.1, h_L_i.2⟩
  refine va_get (D := (dC, dI)) (ci := 4) (v := .int (u0 (10 + L) (113 + 4 * i + 1))) (C := RX4) (T := TX4) (N := 12) hx hb hts inlX4 hown hK hP q9 h9 rfl 1 (by decide) (hts _ mw_266) (fun _ h9 => h9) rfl dX4_isFinished_10 ?_
  clear h9
  obtain ⟨t2, hJ3, hF⟩ := ob hF
  have join4 : ∀ (H : Heap) (locs : List Loc) (ls : Array Slot), va_P (dC, dI) vwCl (WC cy ad ks g u0) H → va_D A (WC cy ad ks g u0) → va_S A s.heap H locs → lv_has ls 1 [(0, .ref (ad (.lo L i)))] → W p l e (headSpec (wsg yX4_isFinished cX4_isFinished 1 (some .boolean)) ({ frames := 7, cells := 0, slots := 0, locals := 200 })).room s m ([.ref (ad (.lo L i))] : List Value).toArray below meth c H locs 0 0 Qn (F0 m 21 ls [.int t2]) := by
    intro H locs ls hP hD hS hl
    obtain ⟨x5, e6, hF⟩ := ob hF
    refine my_topi (y := x5) (nz_e e6) ?_
    have hZ := s1 hF
    have zro : x5 = ro := hZ
    have hP9 : va_P (dC, dI) vwCl (WC cy ad ks g u0) H := by exact hP
    have hD9 : va_D A (WC cy ad ks g u0) := by exact hD
    rw [hQ]
    exact W.zret (v := x5) hx hb hr (nz_n e6) (fun t ht hW => ⟨⟨x5, (), rfl, zro, by rw [ht]; exact hP9, hD9⟩, hS.F ht⟩) hS.2.2 dX4_isFinished_21
  clear hF
  have hF := hJ3
  clear hJ3
  refine lv_icmp_ne (tgt := 20) hx hb dX4_isFinished_13 (by decide) (fun c1 => ?_) (fun c1 => ?_)
  · rw [if_neg c1] at hF
    refine lv_iconst (v := 0) hx hb dX4_isFinished_20 (by decide) ?_
    have ht := s1 hF
    subst ht
    exact join4 _ _ _ hP hD hS (lv_sub hl [0] rfl)
  · rw [if_pos c1] at hF
    refine lv_iconst (v := 1) hx hb dX4_isFinished_16 (by decide) ?_
    refine lv_goto (tgt := 21) hx hb dX4_isFinished_17 (by decide) ?_
    have ht := s1 hF
    subst ht
    exact join4 _ _ _ hP hD hS (lv_sub hl [0] rfl)
noncomputable def C3_hasHappened_e0 (g : CG) (u0 : RS) (L : Nat) (a2 : Int32) : Option (Int32) := (ix 30 a2).bind fun n1 => (if (u0 (10 + L) (137 + 25 * n1 + 3)) = 3 then (some (1 : Int32)) else (some (0 : Int32)) : Option (Int32)).bind fun t4 => (nz t4).bind fun x7 => some x7
set_option maxHeartbeats 4000000 in
set_option maxRecDepth 100000 in
theorem c_X3_hasHappened_e0 (l : Launch) (dC : Nat → ClassId) (dI : Nat → Nat → Nat) (cy : Nat → ClassId) (nb : Nat → Nat) (ad : CK → Nat) (ks : List CK) (g : CG) (hk : GA nb ad g ks) (u0 : RS) (L : Nat) (a2 : Int32) (ro : Int32) (sz : Nat) (h_L : has g (.ln L)) (hF : C3_hasHappened_e0 g u0 L a2 = some ro) : Met l yX3_hasHappened (wsg yX3_hasHappened cX3_hasHappened 3 (some .boolean)) ({ frames := 8, cells := 0, slots := 0, locals := 300 }) (va_Pc [.ref (ad (.ln L)), .ref (nb (40 + 0)), .int a2] (fun U => U.heap.size = sz ∧ va_P (dC, dI) vwCl (WC cy ad ks g u0) U.heap ∧ va_K (dC, dI) vwCl (tyL cy) U ∧ va_D (fun _ => True) (WC cy ad ks g u0) ∧ GE nb (va_A (WC cy ad ks g u0) sz) U)) (va_Qi (fun (r : Int32) (_ : Unit) => r = ro) (fun _ t => va_P (dC, dI) vwCl (WC cy ad ks g u0) t.heap ∧ va_D (va_A (WC cy ad ks g u0) sz) (WC cy ad ks g u0)) (va_A (WC cy ad ks g u0) sz)) 0 0 (va_A (WC cy ad ks g u0) sz) := by
  refine Met.ofW (cc := cX3_hasHappened) (maxL := 3) (ret := (some .boolean)) pn_X3 rfl ?_
  intro p e s m args below meth c s₁ B hml hv
  obtain ⟨rfl, hsz, hP, hK, hD0, hE⟩ := hv
  have hx := B.exec
  have hb := B.bytes
  have hr := B.returns
  have hts0 := atoms_spec (ws := (wsg yX3_hasHappened cX3_hasHappened 3 (some .boolean))) B.pre
  have hts : ∀ w ∈ wsL_law, w.before _ s = true := fun w h => hts0 w (List.mem_cons_of_mem _ h)
  have hown : s.vm.findClass RX3 = some m.cls := by have h9 := findClass_of_methodNamed B.named; exact h9
  have hlocks := B.notSynchronized
  subst hsz
  have hD := hD0.self (sz := s.heap.size)
  generalize hAe : va_A (WC cy ad ks g u0) s.heap.size = A at hD hE ⊢
  have hA : ∀ q : Nat, s.heap.size ≤ q → A q := fun q h => by rw [← hAe]; exact Or.inr h
  have hS : va_S A s.heap s.heap [] := va_S.rf
  have hl := lv_entry ([.ref (ad (.ln L)), .ref (nb (40 + 0)), .int a2]) (n := 3) (Nat.le_of_ble_eq_true rfl)
  rw [lg_entry_eq]
  generalize (lg_sl ([.ref (ad (.ln L)), .ref (nb (40 + 0)), .int a2]) ++ List.replicate (3 - (lg_sl ([.ref (ad (.ln L)), .ref (nb (40 + 0)), .int a2])).length) Slot.unset).toArray = ls at hl ⊢
  have hl : lv_has ls 3 [(0, .ref (ad (.ln L))), (1, .ref (nb (40 + 0))), (2, .int a2)] := hl
  generalize hHe : s.heap = H at hP hS ⊢
  have hS : va_S A s.heap H [] := by rw [hHe]; exact hS
  refine my_Q (fun Qn hQ => ?_)
  simp only [C3_hasHappened_e0] at hF
  refine va_gets (C := RX0) (n := "$SwitchMap$CardLine$Event") (d := "[I") (ref := "CardLine$1") (v := .ref (nb 2)) hx hb hE.evt.1 hS hown (hts _ mw_1309) (fun _ h9 => h9) dX3_hasHappened_0 ?_
  refine lv_aload_n hx hb dX3_hasHappened_3 rfl (lv_at hl 1 rfl) ?_
  have hF0 := my_free0 hS hA
  refine va_calli (va_runU (C := RX2) (As := []) (rest := [.ref (nb 2)]) ⟨hx, hb, hml, hown, hts⟩ (c_ordinal l dC dI cy nb 0 "CARD_LEFT" rfl H.size) (va_cwU 0 hts (gU mw_1311 mw_1312 mw_1313 mw_1314 mw_1315 mw_1316) rfl rfl rfl rfl (by decide +kernel) ⟨Nat.le_of_ble_eq_true rfl, Nat.le_of_ble_eq_true rfl⟩) ⟨fun a U g mk q => by obtain ⟨q0, q1, qP, qK, qD, qE⟩ := q; exact ⟨q0, q1, qP, va_K.moved (u := U) (U := U.calling g mk a) (Vm.Alike.refl U.vm) qK, qD, GE.calling qE⟩, my_recvO (hE.evk 0 rfl).2.1 hS, fun U hU hW => ⟨rfl, by rw [hU], fun k q h => by simp at h, va_K.moved hW.alike hK, ⟨fun i j p q h => by simp at h, fun k q h => by simp at h⟩, GE.call hE hS hF0 hU hW⟩⟩ rfl rfl hl.1 rfl (lv_room (Nat.le_of_ble_eq_true rfl)) dX3_hasHappened_4 ⟨Nat.le_of_ble_eq_true rfl, Nat.le_of_ble_eq_true rfl⟩) hS (fun q _ h => hF0 q h) hF0 (fun r u t H1 locs ht hvm hw hB hz1 hk1 hS => ?_)
  have hP := my_keep hP hk1
  generalize H1 = H at hP hS ⊢
  clear hF0 hk1 hB hz1 hvm ht
  obtain rfl := hw
  refine my_topi (y := 0) (by decide) ?_
  refine va_ti (v := .int 1) hx hb hE.evt.2 hS (vp_in_nI (n := 0) (by decide) (by decide)) rfl dX3_hasHappened_7 ?_
  refine lv_tableIn (off := 32) (tgt := 40) hx hb dX3_hasHappened_8 (by decide) (by decide) (by decide) (by decide) ?_
  refine lv_aload_n hx hb dX3_hasHappened_40 rfl (lv_at hl 0 rfl) ?_
  obtain ⟨q9, h9⟩ := wc_at (cy := cy) (ad := ad) (ks := ks) (g := g) (u := u0) (κ := (.ln L)) hk.1 h_L
  refine va_get (D := (dC, dI)) (ci := 3) (v := .ref (ad (.cs L))) (C := RX3) (T := TX3) (N := 17) hx hb hts inlX3 hown hK hP q9 h9 rfl 12 (by decide) (hts _ mw_45) (fun _ h9 => h9) rfl dX3_hasHappened_41 ?_
  clear h9
  refine lv_iload_n hx hb dX3_hasHappened_44 rfl (lv_at hl 2 rfl) ?_
  obtain ⟨n1, e2, hF⟩ := ob hF
  obtain ⟨q9, h9⟩ := wc_at (cy := cy) (ad := ad) (ks := ks) (g := g) (u := u0) (κ := (.cs L)) hk.1 h_L
  refine va_aldq hx hb hK hP q9 8 h9 rfl (ix_in e2) dX3_hasHappened_45 ?_
  refine my_top (y := .ref (ad (.cd L n1))) (ixv (F := fun j => ad (.cd L j)) e2) ?_
  clear h9
  obtain ⟨q9, h9⟩ := wc_at (cy := cy) (ad := ad) (ks := ks) (g := g) (u := u0) (κ := (.cd L n1)) hk.1 ⟨h_L, (ix_lt e2)⟩
  refine va_get (D := (dC, dI)) (ci := 2) (v := .int (u0 (10 + L) (137 + 25 * n1 + 3))) (C := RX1) (T := TX1) (N := 9) hx hb hts inlX1 hown hK hP q9 h9 rfl 3 (by decide) (hts _ mw_782) (fun _ h9 => h9) rfl dX3_hasHappened_46 ?_
  clear h9
  refine lv_iconst (v := 3) hx hb dX3_hasHappened_49 (by decide) ?_
  obtain ⟨t4, hJ5, hF⟩ := ob hF
  have join6 : ∀ (H : Heap) (locs : List Loc) (ls : Array Slot), va_P (dC, dI) vwCl (WC cy ad ks g u0) H → va_D A (WC cy ad ks g u0) → va_S A s.heap H locs → lv_has ls 3 [(0, .ref (ad (.ln L))), (1, .ref (nb (40 + 0))), (2, .int a2)] → W p l e (headSpec (wsg yX3_hasHappened cX3_hasHappened 3 (some .boolean)) ({ frames := 8, cells := 0, slots := 0, locals := 300 })).room s m ([.ref (ad (.ln L)), .ref (nb (40 + 0)), .int a2] : List Value).toArray below meth c H locs 0 0 Qn (F0 m 58 ls [.int t4]) := by
    intro H locs ls hP hD hS hl
    obtain ⟨x7, e8, hF⟩ := ob hF
    refine my_topi (y := x7) (nz_e e8) ?_
    have hZ := s1 hF
    have zro : x7 = ro := hZ
    have hP9 : va_P (dC, dI) vwCl (WC cy ad ks g u0) H := by exact hP
    have hD9 : va_D A (WC cy ad ks g u0) := by exact hD
    rw [hQ]
    exact W.zret (v := x7) hx hb hr (nz_n e8) (fun t ht hW => ⟨⟨x7, (), rfl, zro, by rw [ht]; exact hP9, hD9⟩, hS.F ht⟩) hS.2.2 dX3_hasHappened_58
  clear hF
  have hF := hJ5
  clear hJ5
  refine lv_icmp_ne (tgt := 57) hx hb dX3_hasHappened_50 (by decide) (fun c3 => ?_) (fun c3 => ?_)
  · rw [if_neg c3] at hF
    refine lv_iconst (v := 0) hx hb dX3_hasHappened_57 (by decide) ?_
    have ht := s1 hF
    subst ht
    exact join6 _ _ _ hP hD hS (lv_sub hl [0, 1, 2] rfl)
  · rw [if_pos c3] at hF
    refine lv_iconst (v := 1) hx hb dX3_hasHappened_53 (by decide) ?_
    refine lv_goto (tgt := 58) hx hb dX3_hasHappened_54 (by decide) ?_
    have ht := s1 hF
    subst ht
    exact join6 _ _ _ hP hD hS (lv_sub hl [0, 1, 2] rfl)
noncomputable def C3_hasHappened_e1 (g : CG) (u0 : RS) (L : Nat) (a2 : Int32) : Option (Int32) := (ix 6 a2).bind fun n1 => (C4_isFinished g u0 L n1).bind fun x3 => (nz x3).bind fun x5 => some x5
set_option maxHeartbeats 4000000 in
set_option maxRecDepth 100000 in
theorem c_X3_hasHappened_e1 (l : Launch) (dC : Nat → ClassId) (dI : Nat → Nat → Nat) (cy : Nat → ClassId) (nb : Nat → Nat) (ad : CK → Nat) (ks : List CK) (g : CG) (hk : GA nb ad g ks) (u0 : RS) (L : Nat) (a2 : Int32) (ro : Int32) (sz : Nat) (h_L : has g (.ln L)) (hF : C3_hasHappened_e1 g u0 L a2 = some ro) : Met l yX3_hasHappened (wsg yX3_hasHappened cX3_hasHappened 3 (some .boolean)) ({ frames := 8, cells := 0, slots := 0, locals := 300 }) (va_Pc [.ref (ad (.ln L)), .ref (nb (40 + 1)), .int a2] (fun U => U.heap.size = sz ∧ va_P (dC, dI) vwCl (WC cy ad ks g u0) U.heap ∧ va_K (dC, dI) vwCl (tyL cy) U ∧ va_D (fun _ => True) (WC cy ad ks g u0) ∧ GE nb (va_A (WC cy ad ks g u0) sz) U)) (va_Qi (fun (r : Int32) (_ : Unit) => r = ro) (fun _ t => va_P (dC, dI) vwCl (WC cy ad ks g u0) t.heap ∧ va_D (va_A (WC cy ad ks g u0) sz) (WC cy ad ks g u0)) (va_A (WC cy ad ks g u0) sz)) 0 0 (va_A (WC cy ad ks g u0) sz) := by
  refine Met.ofW (cc := cX3_hasHappened) (maxL := 3) (ret := (some .boolean)) pn_X3 rfl ?_
  intro p e s m args below meth c s₁ B hml hv
  obtain ⟨rfl, hsz, hP, hK, hD0, hE⟩ := hv
  have hx := B.exec
  have hb := B.bytes
  have hr := B.returns
  have hts0 := atoms_spec (ws := (wsg yX3_hasHappened cX3_hasHappened 3 (some .boolean))) B.pre
  have hts : ∀ w ∈ wsL_law, w.before _ s = true := fun w h => hts0 w (List.mem_cons_of_mem _ h)
  have hown : s.vm.findClass RX3 = some m.cls := by have h9 := findClass_of_methodNamed B.named; exact h9
  have hlocks := B.notSynchronized
  subst hsz
  have hD := hD0.self (sz := s.heap.size)
  generalize hAe : va_A (WC cy ad ks g u0) s.heap.size = A at hD hE ⊢
  have hA : ∀ q : Nat, s.heap.size ≤ q → A q := fun q h => by rw [← hAe]; exact Or.inr h
  have hS : va_S A s.heap s.heap [] := va_S.rf
  have hl := lv_entry ([.ref (ad (.ln L)), .ref (nb (40 + 1)), .int a2]) (n := 3) (Nat.le_of_ble_eq_true rfl)
  rw [lg_entry_eq]
  generalize (lg_sl ([.ref (ad (.ln L)), .ref (nb (40 + 1)), .int a2]) ++ List.replicate (3 - (lg_sl ([.ref (ad (.ln L)), .ref (nb (40 + 1)), .int a2])).length) Slot.unset).toArray = ls at hl ⊢
  have hl : lv_has ls 3 [(0, .ref (ad (.ln L))), (1, .ref (nb (40 + 1))), (2, .int a2)] := hl
  generalize hHe : s.heap = H at hP hS ⊢
  have hS : va_S A s.heap H [] := by rw [hHe]; exact hS
  refine my_Q (fun Qn hQ => ?_)
  simp only [C3_hasHappened_e1] at hF
  refine va_gets (C := RX0) (n := "$SwitchMap$CardLine$Event") (d := "[I") (ref := "CardLine$1") (v := .ref (nb 2)) hx hb hE.evt.1 hS hown (hts _ mw_1309) (fun _ h9 => h9) dX3_hasHappened_0 ?_
  refine lv_aload_n hx hb dX3_hasHappened_3 rfl (lv_at hl 1 rfl) ?_
  have hF0 := my_free0 hS hA
  refine va_calli (va_runU (C := RX2) (As := []) (rest := [.ref (nb 2)]) ⟨hx, hb, hml, hown, hts⟩ (c_ordinal l dC dI cy nb 1 "LOT_FINISHED" rfl H.size) (va_cwU 0 hts (gU mw_1311 mw_1312 mw_1313 mw_1314 mw_1315 mw_1316) rfl rfl rfl rfl (by decide +kernel) ⟨Nat.le_of_ble_eq_true rfl, Nat.le_of_ble_eq_true rfl⟩) ⟨fun a U g mk q => by obtain ⟨q0, q1, qP, qK, qD, qE⟩ := q; exact ⟨q0, q1, qP, va_K.moved (u := U) (U := U.calling g mk a) (Vm.Alike.refl U.vm) qK, qD, GE.calling qE⟩, my_recvO (hE.evk 1 rfl).2.1 hS, fun U hU hW => ⟨rfl, by rw [hU], fun k q h => by simp at h, va_K.moved hW.alike hK, ⟨fun i j p q h => by simp at h, fun k q h => by simp at h⟩, GE.call hE hS hF0 hU hW⟩⟩ rfl rfl hl.1 rfl (lv_room (Nat.le_of_ble_eq_true rfl)) dX3_hasHappened_4 ⟨Nat.le_of_ble_eq_true rfl, Nat.le_of_ble_eq_true rfl⟩) hS (fun q _ h => hF0 q h) hF0 (fun r u t H1 locs ht hvm hw hB hz1 hk1 hS => ?_)
  have hP := my_keep hP hk1
  generalize H1 = H at hP hS ⊢
  clear hF0 hk1 hB hz1 hvm ht
  obtain rfl := hw
  refine my_topi (y := 1) (by decide) ?_
  refine va_ti (v := .int 2) hx hb hE.evt.2 hS (vp_in_nI (n := 1) (by decide) (by decide)) rfl dX3_hasHappened_7 ?_
  refine lv_tableIn (off := 51) (tgt := 59) hx hb dX3_hasHappened_8 (by decide) (by decide) (by decide) (by decide) ?_
  refine lv_aload_n hx hb dX3_hasHappened_59 rfl (lv_at hl 0 rfl) ?_
  obtain ⟨q9, h9⟩ := wc_at (cy := cy) (ad := ad) (ks := ks) (g := g) (u := u0) (κ := (.ln L)) hk.1 h_L
  refine va_get (D := (dC, dI)) (ci := 3) (v := .ref (ad (.ls L))) (C := RX3) (T := TX3) (N := 17) hx hb hts inlX3 hown hK hP q9 h9 rfl 11 (by decide) (hts _ mw_43) (fun _ h9 => h9) rfl dX3_hasHappened_60 ?_
  clear h9
  refine lv_iload_n hx hb dX3_hasHappened_63 rfl (lv_at hl 2 rfl) ?_
  obtain ⟨n1, e2, hF⟩ := ob hF
  obtain ⟨q9, h9⟩ := wc_at (cy := cy) (ad := ad) (ks := ks) (g := g) (u := u0) (κ := (.ls L)) hk.1 h_L
  refine va_aldq hx hb hK hP q9 7 h9 rfl (ix_in e2) dX3_hasHappened_64 ?_
  refine my_top (y := .ref (ad (.lo L n1))) (ixv (F := fun j => ad (.lo L j)) e2) ?_
  clear h9
  obtain ⟨x3, e4, hF⟩ := ob hF
  have hPc := hP
  have hDc := hD
  have hFc := my_free hD hS hA
  obtain ⟨q8, h8⟩ := wc_at (cy := cy) (ad := ad) (ks := ks) (g := g) (u := u0) (κ := (.lo L n1)) hk.1 ⟨h_L, (ix_lt e2)⟩
  refine va_calli (va_runV (As := []) (rest := []) ⟨hx, hb, hml, hown, hts⟩ (c_X4_isFinished l dC dI cy nb ad ks g hk u0 L n1 (x3) H.size ⟨h_L, (ix_lt e2)⟩ e4) (cwV 0 hts (gV mw_1318 mw_1319 mw_1320 mw_52 mw_1321) rfl rfl rfl (by decide +kernel) ⟨Nat.le_of_ble_eq_true rfl, Nat.le_of_ble_eq_true rfl⟩) (my_preV hPc hK hDc hE hS hFc (va_recv (q := (RX4, TX4, 12)) hK hP (ci := 4) (q0 := q8) rfl h8)) rfl rfl hl.1 rfl (lv_room (Nat.le_of_ble_eq_true rfl)) dX3_hasHappened_65 ⟨Nat.le_of_ble_eq_true rfl, Nat.le_of_ble_eq_true rfl⟩) hS (fun q _ h => hFc q h) hFc (fun r u t H1 locs ht hvm hw hB hz1 hk1 hS => ?_)
  clear h8
  obtain ⟨hP1, hD1⟩ := hB
  rw [ht] at hP1
  have hP := hP1
  have hD := hD1.weaken (fun k q _ h => hFc q.1 h)
  generalize H1 = H at hP hS ⊢
  clear hP1 hD1 hPc hDc hFc hk1 hz1 hvm ht
  obtain rfl := hw.symm
  obtain ⟨x5, e6, hF⟩ := ob hF
  refine my_topi (y := x5) (nz_e e6) ?_
  have hZ := s1 hF
  have zro : x5 = ro := hZ
  have hP9 : va_P (dC, dI) vwCl (WC cy ad ks g u0) H := by exact hP
  have hD9 : va_D A (WC cy ad ks g u0) := by exact hD
  rw [hQ]
  exact W.zret (v := x5) hx hb hr (nz_n e6) (fun t ht hW => ⟨⟨x5, (), rfl, zro, by rw [ht]; exact hP9, hD9⟩, hS.F ht⟩) hS.2.2 dX3_hasHappened_68
noncomputable def C3_hasHappened_e2 (g : CG) (u0 : RS) (L : Nat) (a2 : Int32) : Option (Int32) := (if ((u0 (400 + L) 3) + (u0 (400 + L) 4)) = (u0 (10 + L) 9) then (some (1 : Int32)) else (some (0 : Int32)) : Option (Int32)).bind fun t2 => (nz t2).bind fun x5 => some x5
set_option maxHeartbeats 4000000 in
set_option maxRecDepth 100000 in
theorem c_X3_hasHappened_e2 (l : Launch) (dC : Nat → ClassId) (dI : Nat → Nat → Nat) (cy : Nat → ClassId) (nb : Nat → Nat) (ad : CK → Nat) (ks : List CK) (g : CG) (hk : GA nb ad g ks) (u0 : RS) (L : Nat) (a2 : Int32) (ro : Int32) (sz : Nat) (h_L : has g (.ln L)) (hF : C3_hasHappened_e2 g u0 L a2 = some ro) : Met l yX3_hasHappened (wsg yX3_hasHappened cX3_hasHappened 3 (some .boolean)) ({ frames := 8, cells := 0, slots := 0, locals := 300 }) (va_Pc [.ref (ad (.ln L)), .ref (nb (40 + 2)), .int a2] (fun U => U.heap.size = sz ∧ va_P (dC, dI) vwCl (WC cy ad ks g u0) U.heap ∧ va_K (dC, dI) vwCl (tyL cy) U ∧ va_D (fun _ => True) (WC cy ad ks g u0) ∧ GE nb (va_A (WC cy ad ks g u0) sz) U)) (va_Qi (fun (r : Int32) (_ : Unit) => r = ro) (fun _ t => va_P (dC, dI) vwCl (WC cy ad ks g u0) t.heap ∧ va_D (va_A (WC cy ad ks g u0) sz) (WC cy ad ks g u0)) (va_A (WC cy ad ks g u0) sz)) 0 0 (va_A (WC cy ad ks g u0) sz) := by
  refine Met.ofW (cc := cX3_hasHappened) (maxL := 3) (ret := (some .boolean)) pn_X3 rfl ?_
  intro p e s m args below meth c s₁ B hml hv
  obtain ⟨rfl, hsz, hP, hK, hD0, hE⟩ := hv
  have hx := B.exec
  have hb := B.bytes
  have hr := B.returns
  have hts0 := atoms_spec (ws := (wsg yX3_hasHappened cX3_hasHappened 3 (some .boolean))) B.pre
  have hts : ∀ w ∈ wsL_law, w.before _ s = true := fun w h => hts0 w (List.mem_cons_of_mem _ h)
  have hown : s.vm.findClass RX3 = some m.cls := by have h9 := findClass_of_methodNamed B.named; exact h9
  have hlocks := B.notSynchronized
  subst hsz
  have hD := hD0.self (sz := s.heap.size)
  generalize hAe : va_A (WC cy ad ks g u0) s.heap.size = A at hD hE ⊢
  have hA : ∀ q : Nat, s.heap.size ≤ q → A q := fun q h => by rw [← hAe]; exact Or.inr h
  have hS : va_S A s.heap s.heap [] := va_S.rf
  have hl := lv_entry ([.ref (ad (.ln L)), .ref (nb (40 + 2)), .int a2]) (n := 3) (Nat.le_of_ble_eq_true rfl)
  rw [lg_entry_eq]
  generalize (lg_sl ([.ref (ad (.ln L)), .ref (nb (40 + 2)), .int a2]) ++ List.replicate (3 - (lg_sl ([.ref (ad (.ln L)), .ref (nb (40 + 2)), .int a2])).length) Slot.unset).toArray = ls at hl ⊢
  have hl : lv_has ls 3 [(0, .ref (ad (.ln L))), (1, .ref (nb (40 + 2))), (2, .int a2)] := hl
  generalize hHe : s.heap = H at hP hS ⊢
  have hS : va_S A s.heap H [] := by rw [hHe]; exact hS
  refine my_Q (fun Qn hQ => ?_)
  simp only [C3_hasHappened_e2] at hF
  refine va_gets (C := RX0) (n := "$SwitchMap$CardLine$Event") (d := "[I") (ref := "CardLine$1") (v := .ref (nb 2)) hx hb hE.evt.1 hS hown (hts _ mw_1309) (fun _ h9 => h9) dX3_hasHappened_0 ?_
  refine lv_aload_n hx hb dX3_hasHappened_3 rfl (lv_at hl 1 rfl) ?_
  have hF0 := my_free0 hS hA
  refine va_calli (va_runU (C := RX2) (As := []) (rest := [.ref (nb 2)]) ⟨hx, hb, hml, hown, hts⟩ (c_ordinal l dC dI cy nb 2 "ALL_FINISHED" rfl H.size) (va_cwU 0 hts (gU mw_1311 mw_1312 mw_1313 mw_1314 mw_1315 mw_1316) rfl rfl rfl rfl (by decide +kernel) ⟨Nat.le_of_ble_eq_true rfl, Nat.le_of_ble_eq_true rfl⟩) ⟨fun a U g mk q => by obtain ⟨q0, q1, qP, qK, qD, qE⟩ := q; exact ⟨q0, q1, qP, va_K.moved (u := U) (U := U.calling g mk a) (Vm.Alike.refl U.vm) qK, qD, GE.calling qE⟩, my_recvO (hE.evk 2 rfl).2.1 hS, fun U hU hW => ⟨rfl, by rw [hU], fun k q h => by simp at h, va_K.moved hW.alike hK, ⟨fun i j p q h => by simp at h, fun k q h => by simp at h⟩, GE.call hE hS hF0 hU hW⟩⟩ rfl rfl hl.1 rfl (lv_room (Nat.le_of_ble_eq_true rfl)) dX3_hasHappened_4 ⟨Nat.le_of_ble_eq_true rfl, Nat.le_of_ble_eq_true rfl⟩) hS (fun q _ h => hF0 q h) hF0 (fun r u t H1 locs ht hvm hw hB hz1 hk1 hS => ?_)
  have hP := my_keep hP hk1
  generalize H1 = H at hP hS ⊢
  clear hF0 hk1 hB hz1 hvm ht
  obtain rfl := hw
  refine my_topi (y := 2) (by decide) ?_
  refine va_ti (v := .int 3) hx hb hE.evt.2 hS (vp_in_nI (n := 2) (by decide) (by decide)) rfl dX3_hasHappened_7 ?_
  refine lv_tableIn (off := 61) (tgt := 69) hx hb dX3_hasHappened_8 (by decide) (by decide) (by decide) (by decide) ?_
  refine lv_aload_n hx hb dX3_hasHappened_69 rfl (lv_at hl 0 rfl) ?_
  obtain ⟨q9, h9⟩ := wc_at (cy := cy) (ad := ad) (ks := ks) (g := g) (u := u0) (κ := (.ln L)) hk.1 h_L
  refine va_get (D := (dC, dI)) (ci := 3) (v := .ref (ad (.is L))) (C := RX3) (T := TX3) (N := 17) hx hb hts inlX3 hown hK hP q9 h9 rfl 13 (by decide) (hts _ mw_46) (fun _ h9 => h9) rfl dX3_hasHappened_70 ?_
  clear h9
  refine lv_iconst (v := 3) hx hb dX3_hasHappened_73 (by decide) ?_
  obtain ⟨q9, h9⟩ := wc_at (cy := cy) (ad := ad) (ks := ks) (g := g) (u := u0) (κ := (.is L)) hk.1 h_L
  refine va_iald hx hb hK hP q9 1 h9 rfl (vp_in_nI (n := 3) (by decide) (by decide)) dX3_hasHappened_74 ?_
  refine my_topi (y := (u0 (400 + L) 3)) (by rfl) ?_
  clear h9
  refine lv_aload_n hx hb dX3_hasHappened_75 rfl (lv_at hl 0 rfl) ?_
  obtain ⟨q9, h9⟩ := wc_at (cy := cy) (ad := ad) (ks := ks) (g := g) (u := u0) (κ := (.ln L)) hk.1 h_L
  refine va_get (D := (dC, dI)) (ci := 3) (v := .ref (ad (.is L))) (C := RX3) (T := TX3) (N := 17) hx hb hts inlX3 hown hK hP q9 h9 rfl 13 (by decide) (hts _ mw_46) (fun _ h9 => h9) rfl dX3_hasHappened_76 ?_
  clear h9
  refine lv_iconst (v := 4) hx hb dX3_hasHappened_79 (by decide) ?_
  obtain ⟨q9, h9⟩ := wc_at (cy := cy) (ad := ad) (ks := ks) (g := g) (u := u0) (κ := (.is L)) hk.1 h_L
  refine va_iald hx hb hK hP q9 1 h9 rfl (vp_in_nI (n := 4) (by decide) (by decide)) dX3_hasHappened_80 ?_
  refine my_topi (y := (u0 (400 + L) 4)) (by rfl) ?_
  clear h9
  refine lv_iadd hx hb dX3_hasHappened_81 ?_
  refine lv_aload_n hx hb dX3_hasHappened_82 rfl (lv_at hl 0 rfl) ?_
  obtain ⟨q9, h9⟩ := wc_at (cy := cy) (ad := ad) (ks := ks) (g := g) (u := u0) (κ := (.ln L)) hk.1 h_L
  refine va_get (D := (dC, dI)) (ci := 3) (v := .int (u0 (10 + L) 9)) (C := RX3) (T := TX3) (N := 17) hx hb hts inlX3 hown hK hP q9 h9 rfl 9 (by decide) (hts _ mw_88) (fun _ h9 => h9) rfl dX3_hasHappened_83 ?_
  clear h9
  obtain ⟨t2, hJ3, hF⟩ := ob hF
  have join4 : ∀ (H : Heap) (locs : List Loc) (ls : Array Slot), va_P (dC, dI) vwCl (WC cy ad ks g u0) H → va_D A (WC cy ad ks g u0) → va_S A s.heap H locs → lv_has ls 3 [(0, .ref (ad (.ln L))), (1, .ref (nb (40 + 2))), (2, .int a2)] → W p l e (headSpec (wsg yX3_hasHappened cX3_hasHappened 3 (some .boolean)) ({ frames := 8, cells := 0, slots := 0, locals := 300 })).room s m ([.ref (ad (.ln L)), .ref (nb (40 + 2)), .int a2] : List Value).toArray below meth c H locs 0 0 Qn (F0 m 94 ls [.int t2]) := by
    intro H locs ls hP hD hS hl
    obtain ⟨x5, e6, hF⟩ := ob hF
    refine my_topi (y := x5) (nz_e e6) ?_
    have hZ := s1 hF
    have zro : x5 = ro := hZ
    have hP9 : va_P (dC, dI) vwCl (WC cy ad ks g u0) H := by exact hP
    have hD9 : va_D A (WC cy ad ks g u0) := by exact hD
    rw [hQ]
    exact W.zret (v := x5) hx hb hr (nz_n e6) (fun t ht hW => ⟨⟨x5, (), rfl, zro, by rw [ht]; exact hP9, hD9⟩, hS.F ht⟩) hS.2.2 dX3_hasHappened_94
  clear hF
  have hF := hJ3
  clear hJ3
  refine lv_icmp_ne (tgt := 93) hx hb dX3_hasHappened_86 (by decide) (fun c1 => ?_) (fun c1 => ?_)
  · rw [if_neg c1] at hF
    refine lv_iconst (v := 0) hx hb dX3_hasHappened_93 (by decide) ?_
    have ht := s1 hF
    subst ht
    exact join4 _ _ _ hP hD hS (lv_sub hl [0, 1, 2] rfl)
  · rw [if_pos c1] at hF
    refine lv_iconst (v := 1) hx hb dX3_hasHappened_89 (by decide) ?_
    refine lv_goto (tgt := 94) hx hb dX3_hasHappened_90 (by decide) ?_
    have ht := s1 hF
    subst ht
    exact join4 _ _ _ hP hD hS (lv_sub hl [0, 1, 2] rfl)
noncomputable def C3_hasHappened_e3 (g : CG) (u0 : RS) (L : Nat) (a2 : Int32) : Option (Int32) := (ix 6 a2).bind fun n1 => (if (u0 (10 + L) (17 + 16 * n1 + 5)) ≤ 0 then (some (0 : Int32)) else (some (1 : Int32)) : Option (Int32)).bind fun t4 => (nz t4).bind fun x7 => some x7
set_option maxHeartbeats 4000000 in
set_option maxRecDepth 100000 in
theorem c_X3_hasHappened_e3 (l : Launch) (dC : Nat → ClassId) (dI : Nat → Nat → Nat) (cy : Nat → ClassId) (nb : Nat → Nat) (ad : CK → Nat) (ks : List CK) (g : CG) (hk : GA nb ad g ks) (u0 : RS) (L : Nat) (a2 : Int32) (ro : Int32) (sz : Nat) (h_L : has g (.ln L)) (hF : C3_hasHappened_e3 g u0 L a2 = some ro) : Met l yX3_hasHappened (wsg yX3_hasHappened cX3_hasHappened 3 (some .boolean)) ({ frames := 8, cells := 0, slots := 0, locals := 300 }) (va_Pc [.ref (ad (.ln L)), .ref (nb (40 + 3)), .int a2] (fun U => U.heap.size = sz ∧ va_P (dC, dI) vwCl (WC cy ad ks g u0) U.heap ∧ va_K (dC, dI) vwCl (tyL cy) U ∧ va_D (fun _ => True) (WC cy ad ks g u0) ∧ GE nb (va_A (WC cy ad ks g u0) sz) U)) (va_Qi (fun (r : Int32) (_ : Unit) => r = ro) (fun _ t => va_P (dC, dI) vwCl (WC cy ad ks g u0) t.heap ∧ va_D (va_A (WC cy ad ks g u0) sz) (WC cy ad ks g u0)) (va_A (WC cy ad ks g u0) sz)) 0 0 (va_A (WC cy ad ks g u0) sz) := by
  refine Met.ofW (cc := cX3_hasHappened) (maxL := 3) (ret := (some .boolean)) pn_X3 rfl ?_
  intro p e s m args below meth c s₁ B hml hv
  obtain ⟨rfl, hsz, hP, hK, hD0, hE⟩ := hv
  have hx := B.exec
  have hb := B.bytes
  have hr := B.returns
  have hts0 := atoms_spec (ws := (wsg yX3_hasHappened cX3_hasHappened 3 (some .boolean))) B.pre
  have hts : ∀ w ∈ wsL_law, w.before _ s = true := fun w h => hts0 w (List.mem_cons_of_mem _ h)
  have hown : s.vm.findClass RX3 = some m.cls := by have h9 := findClass_of_methodNamed B.named; exact h9
  have hlocks := B.notSynchronized
  subst hsz
  have hD := hD0.self (sz := s.heap.size)
  generalize hAe : va_A (WC cy ad ks g u0) s.heap.size = A at hD hE ⊢
  have hA : ∀ q : Nat, s.heap.size ≤ q → A q := fun q h => by rw [← hAe]; exact Or.inr h
  have hS : va_S A s.heap s.heap [] := va_S.rf
  have hl := lv_entry ([.ref (ad (.ln L)), .ref (nb (40 + 3)), .int a2]) (n := 3) (Nat.le_of_ble_eq_true rfl)
  rw [lg_entry_eq]
  generalize (lg_sl ([.ref (ad (.ln L)), .ref (nb (40 + 3)), .int a2]) ++ List.replicate (3 - (lg_sl ([.ref (ad (.ln L)), .ref (nb (40 + 3)), .int a2])).length) Slot.unset).toArray = ls at hl ⊢
  have hl : lv_has ls 3 [(0, .ref (ad (.ln L))), (1, .ref (nb (40 + 3))), (2, .int a2)] := hl
  generalize hHe : s.heap = H at hP hS ⊢
  have hS : va_S A s.heap H [] := by rw [hHe]; exact hS
  refine my_Q (fun Qn hQ => ?_)
  simp only [C3_hasHappened_e3] at hF
  refine va_gets (C := RX0) (n := "$SwitchMap$CardLine$Event") (d := "[I") (ref := "CardLine$1") (v := .ref (nb 2)) hx hb hE.evt.1 hS hown (hts _ mw_1309) (fun _ h9 => h9) dX3_hasHappened_0 ?_
  refine lv_aload_n hx hb dX3_hasHappened_3 rfl (lv_at hl 1 rfl) ?_
  have hF0 := my_free0 hS hA
  refine va_calli (va_runU (C := RX2) (As := []) (rest := [.ref (nb 2)]) ⟨hx, hb, hml, hown, hts⟩ (c_ordinal l dC dI cy nb 3 "STATION_FAILED" rfl H.size) (va_cwU 0 hts (gU mw_1311 mw_1312 mw_1313 mw_1314 mw_1315 mw_1316) rfl rfl rfl rfl (by decide +kernel) ⟨Nat.le_of_ble_eq_true rfl, Nat.le_of_ble_eq_true rfl⟩) ⟨fun a U g mk q => by obtain ⟨q0, q1, qP, qK, qD, qE⟩ := q; exact ⟨q0, q1, qP, va_K.moved (u := U) (U := U.calling g mk a) (Vm.Alike.refl U.vm) qK, qD, GE.calling qE⟩, my_recvO (hE.evk 3 rfl).2.1 hS, fun U hU hW => ⟨rfl, by rw [hU], fun k q h => by simp at h, va_K.moved hW.alike hK, ⟨fun i j p q h => by simp at h, fun k q h => by simp at h⟩, GE.call hE hS hF0 hU hW⟩⟩ rfl rfl hl.1 rfl (lv_room (Nat.le_of_ble_eq_true rfl)) dX3_hasHappened_4 ⟨Nat.le_of_ble_eq_true rfl, Nat.le_of_ble_eq_true rfl⟩) hS (fun q _ h => hF0 q h) hF0 (fun r u t H1 locs ht hvm hw hB hz1 hk1 hS => ?_)
  have hP := my_keep hP hk1
  generalize H1 = H at hP hS ⊢
  clear hF0 hk1 hB hz1 hvm ht
  obtain rfl := hw
  refine my_topi (y := 3) (by decide) ?_
  refine va_ti (v := .int 4) hx hb hE.evt.2 hS (vp_in_nI (n := 3) (by decide) (by decide)) rfl dX3_hasHappened_7 ?_
  refine lv_tableIn (off := 87) (tgt := 95) hx hb dX3_hasHappened_8 (by decide) (by decide) (by decide) (by decide) ?_
  refine lv_aload_n hx hb dX3_hasHappened_95 rfl (lv_at hl 0 rfl) ?_
  obtain ⟨q9, h9⟩ := wc_at (cy := cy) (ad := ad) (ks := ks) (g := g) (u := u0) (κ := (.ln L)) hk.1 h_L
  refine va_get (D := (dC, dI)) (ci := 3) (v := .ref (ad (.ss L))) (C := RX3) (T := TX3) (N := 17) hx hb hts inlX3 hown hK hP q9 h9 rfl 10 (by decide) (hts _ mw_41) (fun _ h9 => h9) rfl dX3_hasHappened_96 ?_
  clear h9
  refine lv_iload_n hx hb dX3_hasHappened_99 rfl (lv_at hl 2 rfl) ?_
  obtain ⟨n1, e2, hF⟩ := ob hF
  obtain ⟨q9, h9⟩ := wc_at (cy := cy) (ad := ad) (ks := ks) (g := g) (u := u0) (κ := (.ss L)) hk.1 h_L
  refine va_aldq hx hb hK hP q9 6 h9 rfl (ix_in e2) dX3_hasHappened_100 ?_
  refine my_top (y := .ref (ad (.st L n1))) (ixv (F := fun j => ad (.st L j)) e2) ?_
  clear h9
  obtain ⟨q9, h9⟩ := wc_at (cy := cy) (ad := ad) (ks := ks) (g := g) (u := u0) (κ := (.st L n1)) hk.1 ⟨h_L, (ix_lt e2)⟩
  refine va_get (D := (dC, dI)) (ci := 6) (v := .int (u0 (10 + L) (17 + 16 * n1 + 5))) (C := RX6) (T := TX6) (N := 15) hx hb hts inlX6 hown hK hP q9 h9 rfl 7 (by decide) (hts _ mw_1310) (fun _ h9 => h9) rfl dX3_hasHappened_101 ?_
  clear h9
  obtain ⟨t4, hJ5, hF⟩ := ob hF
  have join6 : ∀ (H : Heap) (locs : List Loc) (ls : Array Slot), va_P (dC, dI) vwCl (WC cy ad ks g u0) H → va_D A (WC cy ad ks g u0) → va_S A s.heap H locs → lv_has ls 3 [(0, .ref (ad (.ln L))), (1, .ref (nb (40 + 3))), (2, .int a2)] → W p l e (headSpec (wsg yX3_hasHappened cX3_hasHappened 3 (some .boolean)) ({ frames := 8, cells := 0, slots := 0, locals := 300 })).room s m ([.ref (ad (.ln L)), .ref (nb (40 + 3)), .int a2] : List Value).toArray below meth c H locs 0 0 Qn (F0 m 112 ls [.int t4]) := by
    intro H locs ls hP hD hS hl
    obtain ⟨x7, e8, hF⟩ := ob hF
    refine my_topi (y := x7) (nz_e e8) ?_
    have hZ := s1 hF
    have zro : x7 = ro := hZ
    have hP9 : va_P (dC, dI) vwCl (WC cy ad ks g u0) H := by exact hP
    have hD9 : va_D A (WC cy ad ks g u0) := by exact hD
    rw [hQ]
    exact W.zret (v := x7) hx hb hr (nz_n e8) (fun t ht hW => ⟨⟨x7, (), rfl, zro, by rw [ht]; exact hP9, hD9⟩, hS.F ht⟩) hS.2.2 dX3_hasHappened_112
  clear hF
  have hF := hJ5
  clear hJ5
  refine lv_if_le (tgt := 111) hx hb dX3_hasHappened_104 (by decide) (fun c3 => ?_) (fun c3 => ?_)
  · rw [if_pos c3] at hF
    refine lv_iconst (v := 0) hx hb dX3_hasHappened_111 (by decide) ?_
    have ht := s1 hF
    subst ht
    exact join6 _ _ _ hP hD hS (lv_sub hl [0, 1, 2] rfl)
  · rw [if_neg c3] at hF
    refine lv_iconst (v := 1) hx hb dX3_hasHappened_107 (by decide) ?_
    refine lv_goto (tgt := 112) hx hb dX3_hasHappened_108 (by decide) ?_
    have ht := s1 hF
    subst ht
    exact join6 _ _ _ hP hD hS (lv_sub hl [0, 1, 2] rfl)
noncomputable def C3_hasHappened_e4 (g : CG) (u0 : RS) (L : Nat) (a2 : Int32) : Option (Int32) := (ix 6 a2).bind fun n1 => (if (u0 (10 + L) (17 + 16 * n1 + 11)) ≤ 0 then (some (0 : Int32)) else (some (1 : Int32)) : Option (Int32)).bind fun t4 => (nz t4).bind fun x7 => some x7
set_option maxHeartbeats 4000000 in
set_option maxRecDepth 100000 in
theorem c_X3_hasHappened_e4 (l : Launch) (dC : Nat → ClassId) (dI : Nat → Nat → Nat) (cy : Nat → ClassId) (nb : Nat → Nat) (ad : CK → Nat) (ks : List CK) (g : CG) (hk : GA nb ad g ks) (u0 : RS) (L : Nat) (a2 : Int32) (ro : Int32) (sz : Nat) (h_L : has g (.ln L)) (hF : C3_hasHappened_e4 g u0 L a2 = some ro) : Met l yX3_hasHappened (wsg yX3_hasHappened cX3_hasHappened 3 (some .boolean)) ({ frames := 8, cells := 0, slots := 0, locals := 300 }) (va_Pc [.ref (ad (.ln L)), .ref (nb (40 + 4)), .int a2] (fun U => U.heap.size = sz ∧ va_P (dC, dI) vwCl (WC cy ad ks g u0) U.heap ∧ va_K (dC, dI) vwCl (tyL cy) U ∧ va_D (fun _ => True) (WC cy ad ks g u0) ∧ GE nb (va_A (WC cy ad ks g u0) sz) U)) (va_Qi (fun (r : Int32) (_ : Unit) => r = ro) (fun _ t => va_P (dC, dI) vwCl (WC cy ad ks g u0) t.heap ∧ va_D (va_A (WC cy ad ks g u0) sz) (WC cy ad ks g u0)) (va_A (WC cy ad ks g u0) sz)) 0 0 (va_A (WC cy ad ks g u0) sz) := by
  refine Met.ofW (cc := cX3_hasHappened) (maxL := 3) (ret := (some .boolean)) pn_X3 rfl ?_
  intro p e s m args below meth c s₁ B hml hv
  obtain ⟨rfl, hsz, hP, hK, hD0, hE⟩ := hv
  have hx := B.exec
  have hb := B.bytes
  have hr := B.returns
  have hts0 := atoms_spec (ws := (wsg yX3_hasHappened cX3_hasHappened 3 (some .boolean))) B.pre
  have hts : ∀ w ∈ wsL_law, w.before _ s = true := fun w h => hts0 w (List.mem_cons_of_mem _ h)
  have hown : s.vm.findClass RX3 = some m.cls := by have h9 := findClass_of_methodNamed B.named; exact h9
  have hlocks := B.notSynchronized
  subst hsz
  have hD := hD0.self (sz := s.heap.size)
  generalize hAe : va_A (WC cy ad ks g u0) s.heap.size = A at hD hE ⊢
  have hA : ∀ q : Nat, s.heap.size ≤ q → A q := fun q h => by rw [← hAe]; exact Or.inr h
  have hS : va_S A s.heap s.heap [] := va_S.rf
  have hl := lv_entry ([.ref (ad (.ln L)), .ref (nb (40 + 4)), .int a2]) (n := 3) (Nat.le_of_ble_eq_true rfl)
  rw [lg_entry_eq]
  generalize (lg_sl ([.ref (ad (.ln L)), .ref (nb (40 + 4)), .int a2]) ++ List.replicate (3 - (lg_sl ([.ref (ad (.ln L)), .ref (nb (40 + 4)), .int a2])).length) Slot.unset).toArray = ls at hl ⊢
  have hl : lv_has ls 3 [(0, .ref (ad (.ln L))), (1, .ref (nb (40 + 4))), (2, .int a2)] := hl
  generalize hHe : s.heap = H at hP hS ⊢
  have hS : va_S A s.heap H [] := by rw [hHe]; exact hS
  refine my_Q (fun Qn hQ => ?_)
  simp only [C3_hasHappened_e4] at hF
  refine va_gets (C := RX0) (n := "$SwitchMap$CardLine$Event") (d := "[I") (ref := "CardLine$1") (v := .ref (nb 2)) hx hb hE.evt.1 hS hown (hts _ mw_1309) (fun _ h9 => h9) dX3_hasHappened_0 ?_
  refine lv_aload_n hx hb dX3_hasHappened_3 rfl (lv_at hl 1 rfl) ?_
  have hF0 := my_free0 hS hA
  refine va_calli (va_runU (C := RX2) (As := []) (rest := [.ref (nb 2)]) ⟨hx, hb, hml, hown, hts⟩ (c_ordinal l dC dI cy nb 4 "STATION_RESTS" rfl H.size) (va_cwU 0 hts (gU mw_1311 mw_1312 mw_1313 mw_1314 mw_1315 mw_1316) rfl rfl rfl rfl (by decide +kernel) ⟨Nat.le_of_ble_eq_true rfl, Nat.le_of_ble_eq_true rfl⟩) ⟨fun a U g mk q => by obtain ⟨q0, q1, qP, qK, qD, qE⟩ := q; exact ⟨q0, q1, qP, va_K.moved (u := U) (U := U.calling g mk a) (Vm.Alike.refl U.vm) qK, qD, GE.calling qE⟩, my_recvO (hE.evk 4 rfl).2.1 hS, fun U hU hW => ⟨rfl, by rw [hU], fun k q h => by simp at h, va_K.moved hW.alike hK, ⟨fun i j p q h => by simp at h, fun k q h => by simp at h⟩, GE.call hE hS hF0 hU hW⟩⟩ rfl rfl hl.1 rfl (lv_room (Nat.le_of_ble_eq_true rfl)) dX3_hasHappened_4 ⟨Nat.le_of_ble_eq_true rfl, Nat.le_of_ble_eq_true rfl⟩) hS (fun q _ h => hF0 q h) hF0 (fun r u t H1 locs ht hvm hw hB hz1 hk1 hS => ?_)
  have hP := my_keep hP hk1
  generalize H1 = H at hP hS ⊢
  clear hF0 hk1 hB hz1 hvm ht
  obtain rfl := hw
  refine my_topi (y := 4) (by decide) ?_
  refine va_ti (v := .int 0) hx hb hE.evt.2 hS (vp_in_nI (n := 4) (by decide) (by decide)) rfl dX3_hasHappened_7 ?_
  refine lv_tableOut (tgt := 113) hx hb dX3_hasHappened_8 (by decide) (by decide) ?_
  refine lv_aload_n hx hb dX3_hasHappened_113 rfl (lv_at hl 0 rfl) ?_
  obtain ⟨q9, h9⟩ := wc_at (cy := cy) (ad := ad) (ks := ks) (g := g) (u := u0) (κ := (.ln L)) hk.1 h_L
  refine va_get (D := (dC, dI)) (ci := 3) (v := .ref (ad (.ss L))) (C := RX3) (T := TX3) (N := 17) hx hb hts inlX3 hown hK hP q9 h9 rfl 10 (by decide) (hts _ mw_41) (fun _ h9 => h9) rfl dX3_hasHappened_114 ?_
  clear h9
  refine lv_iload_n hx hb dX3_hasHappened_117 rfl (lv_at hl 2 rfl) ?_
  obtain ⟨n1, e2, hF⟩ := ob hF
  obtain ⟨q9, h9⟩ := wc_at (cy := cy) (ad := ad) (ks := ks) (g := g) (u := u0) (κ := (.ss L)) hk.1 h_L
  refine va_aldq hx hb hK hP q9 6 h9 rfl (ix_in e2) dX3_hasHappened_118 ?_
  refine my_top (y := .ref (ad (.st L n1))) (ixv (F := fun j => ad (.st L j)) e2) ?_
  clear h9
  obtain ⟨q9, h9⟩ := wc_at (cy := cy) (ad := ad) (ks := ks) (g := g) (u := u0) (κ := (.st L n1)) hk.1 ⟨h_L, (ix_lt e2)⟩
  refine va_get (D := (dC, dI)) (ci := 6) (v := .int (u0 (10 + L) (17 + 16 * n1 + 11))) (C := RX6) (T := TX6) (N := 15) hx hb hts inlX6 hown hK hP q9 h9 rfl 13 (by decide) (hts _ mw_1147) (fun _ h9 => h9) rfl dX3_hasHappened_119 ?_
  clear h9
  obtain ⟨t4, hJ5, hF⟩ := ob hF
  have join6 : ∀ (H : Heap) (locs : List Loc) (ls : Array Slot), va_P (dC, dI) vwCl (WC cy ad ks g u0) H → va_D A (WC cy ad ks g u0) → va_S A s.heap H locs → lv_has ls 3 [(0, .ref (ad (.ln L))), (1, .ref (nb (40 + 4))), (2, .int a2)] → W p l e (headSpec (wsg yX3_hasHappened cX3_hasHappened 3 (some .boolean)) ({ frames := 8, cells := 0, slots := 0, locals := 300 })).room s m ([.ref (ad (.ln L)), .ref (nb (40 + 4)), .int a2] : List Value).toArray below meth c H locs 0 0 Qn (F0 m 130 ls [.int t4]) := by
    intro H locs ls hP hD hS hl
    obtain ⟨x7, e8, hF⟩ := ob hF
    refine my_topi (y := x7) (nz_e e8) ?_
    have hZ := s1 hF
    have zro : x7 = ro := hZ
    have hP9 : va_P (dC, dI) vwCl (WC cy ad ks g u0) H := by exact hP
    have hD9 : va_D A (WC cy ad ks g u0) := by exact hD
    rw [hQ]
    exact W.zret (v := x7) hx hb hr (nz_n e8) (fun t ht hW => ⟨⟨x7, (), rfl, zro, by rw [ht]; exact hP9, hD9⟩, hS.F ht⟩) hS.2.2 dX3_hasHappened_130
  clear hF
  have hF := hJ5
  clear hJ5
  refine lv_if_le (tgt := 129) hx hb dX3_hasHappened_122 (by decide) (fun c3 => ?_) (fun c3 => ?_)
  · rw [if_pos c3] at hF
    refine lv_iconst (v := 0) hx hb dX3_hasHappened_129 (by decide) ?_
    have ht := s1 hF
    subst ht
    exact join6 _ _ _ hP hD hS (lv_sub hl [0, 1, 2] rfl)
  · rw [if_neg c3] at hF
    refine lv_iconst (v := 1) hx hb dX3_hasHappened_125 (by decide) ?_
    refine lv_goto (tgt := 130) hx hb dX3_hasHappened_126 (by decide) ?_
    have ht := s1 hF
    subst ht
    exact join6 _ _ _ hP hD hS (lv_sub hl [0, 1, 2] rfl)
noncomputable def C4_endDay (g : CG) (u0 : RS) (L : Nat) (i : Nat) (a1 : Int32) : Option (RS) := (ws u0 (200 + 6 * L + i) 10 a1 (u0 (10 + L) (113 + 4 * i + 2))).bind fun u1 => (ws u1 (300 + 6 * L + i) 10 a1 (u1 (10 + L) (113 + 4 * i + 3))).bind fun u3 => (pt u3 (10 + L) (113 + 4 * i + 2) (0)).bind fun u5 => (pt u5 (10 + L) (113 + 4 * i + 3) (0)).bind fun u7 => some u7
set_option maxHeartbeats 4000000 in
set_option maxRecDepth 100000 in
theorem c_X4_endDay (l : Launch) (dC : Nat → ClassId) (dI : Nat → Nat → Nat) (cy : Nat → ClassId) (nb : Nat → Nat) (ad : CK → Nat) (ks : List CK) (g : CG) (hk : GA nb ad g ks) (u0 : RS) (L : Nat) (i : Nat) (a1 : Int32) (uz : RS) (sz : Nat) (h_L_i : has g (.lo L i)) (hF : C4_endDay g u0 L i a1 = some uz) : Met l yX4_endDay (wsg yX4_endDay cX4_endDay 2 none) ({ frames := 7, cells := 0, slots := 0, locals := 200 }) (va_Pc [.ref (ad (.lo L i)), .int a1] (fun U => U.heap.size = sz ∧ va_P (dC, dI) vwCl (WC cy ad ks g u0) U.heap ∧ va_K (dC, dI) vwCl (tyL cy) U ∧ va_D (fun _ => True) (WC cy ad ks g u0) ∧ GE nb (va_A (WC cy ad ks g u0) sz) U)) (va_Qv (fun (_ : Unit) => True) (fun _ t => va_P (dC, dI) vwCl (WC cy ad ks g uz) t.heap ∧ va_D (va_A (WC cy ad ks g u0) sz) (WC cy ad ks g uz)) (va_A (WC cy ad ks g u0) sz)) 0 0 (va_A (WC cy ad ks g u0) sz) := by
  refine Met.ofW (cc := cX4_endDay) (maxL := 2) (ret := none) pn_X4 rfl ?_
  intro p e s m args below meth c s₁ B hml hv
  obtain ⟨rfl, hsz, hP, hK, hD0, hE⟩ := hv
  have hx := B.exec
  have hb := B.bytes
  have hr := B.returns
  have hts0 := atoms_spec (ws := (wsg yX4_endDay cX4_endDay 2 none)) B.pre
  have hts : ∀ w ∈ wsL_law, w.before _ s = true := fun w h => hts0 w (List.mem_cons_of_mem _ h)
  have hown : s.vm.findClass RX4 = some m.cls := by have h9 := findClass_of_methodNamed B.named; exact h9
  have hlocks := B.notSynchronized
  subst hsz
  have hD := hD0.self (sz := s.heap.size)
  generalize hAe : va_A (WC cy ad ks g u0) s.heap.size = A at hD hE ⊢
  have hA : ∀ q : Nat, s.heap.size ≤ q → A q := fun q h => by rw [← hAe]; exact Or.inr h
  have hS : va_S A s.heap s.heap [] := va_S.rf
  have hl := lv_entry ([.ref (ad (.lo L i)), .int a1]) (n := 2) (Nat.le_of_ble_eq_true rfl)
  rw [lg_entry_eq]
  generalize (lg_sl ([.ref (ad (.lo L i)), .int a1]) ++ List.replicate (2 - (lg_sl ([.ref (ad (.lo L i)), .int a1])).length) Slot.unset).toArray = ls at hl ⊢
  have hl : lv_has ls 2 [(0, .ref (ad (.lo L i))), (1, .int a1)] := hl
  generalize hHe : s.heap = H at hP hS ⊢
  have hS : va_S A s.heap H [] := by rw [hHe]; exact hS
  refine my_Q (fun Qn hQ => ?_)
  simp only [C4_endDay] at hF
  refine lv_aload_n hx hb dX4_endDay_0 rfl (lv_at hl 0 rfl) ?_
  obtain ⟨q9, h9⟩ := wc_at (cy := cy) (ad := ad) (ks := ks) (g := g) (u := u0) (κ := (.lo L i)) hk.1 ⟨h_L_i.1, h_L_i.2⟩
  refine va_get (D := (dC, dI)) (ci := 4) (v := .ref (ad (.dl L i))) (C := RX4) (T := TX4) (N := 12) hx hb hts inlX4 hown hK hP q9 h9 rfl 10 (by decide) (hts _ mw_63) (fun _ h9 => h9) rfl dX4_endDay_1 ?_
  clear h9
  refine lv_iload_n hx hb dX4_endDay_4 rfl (lv_at hl 1 rfl) ?_
  refine lv_aload_n hx hb dX4_endDay_5 rfl (lv_at hl 0 rfl) ?_
  obtain ⟨q9, h9⟩ := wc_at (cy := cy) (ad := ad) (ks := ks) (g := g) (u := u0) (κ := (.lo L i)) hk.1 ⟨h_L_i.1, h_L_i.2⟩
  refine va_get (D := (dC, dI)) (ci := 4) (v := .int (u0 (10 + L) (113 + 4 * i + 2))) (C := RX4) (T := TX4) (N := 12) hx hb hts inlX4 hown hK hP q9 h9 rfl 8 (by decide) (hts _ mw_272) (fun _ h9 => h9) rfl dX4_endDay_6 ?_
  clear h9
  obtain ⟨u1, e2, hF⟩ := ob hF
  obtain ⟨q9, h9, ez9⟩ := wc_set (cy := cy) (ad := ad) (ks := ks) (g := g) (u := u0) (κ := (.dl L i)) (r := (200 + 6 * L + i)) (i := (a1 : Int32).toNatClampNeg) (v := (u0 (10 + L) (113 + 4 * i + 2))) hk.1 ⟨h_L_i.1, h_L_i.2⟩ (own_dl (inl_lt h_L_i.1) h_L_i.2) (sf_dl)
  refine va_iast hx hb hK hP hD hS q9 1 h9 rfl (ws_in e2) dX4_endDay_9 (fun H locs hP hD hS => ?_)
  have hP : va_P (dC, dI) vwCl (WC cy ad ks g u1) H := by rw [← ws_eq e2, ← ez9]; exact hP
  have hD : va_D A (WC cy ad ks g u1) := by rw [← ws_eq e2, ← ez9]; exact hD
  clear ez9 h9
  refine lv_aload_n hx hb dX4_endDay_10 rfl (lv_at hl 0 rfl) ?_
  obtain ⟨q9, h9⟩ := wc_at (cy := cy) (ad := ad) (ks := ks) (g := g) (u := u1) (κ := (.lo L i)) hk.1 ⟨h_L_i.1, h_L_i.2⟩
  refine va_get (D := (dC, dI)) (ci := 4) (v := .ref (ad (.df L i))) (C := RX4) (T := TX4) (N := 12) hx hb hts inlX4 hown hK hP q9 h9 rfl 11 (by decide) (hts _ mw_64) (fun _ h9 => h9) rfl dX4_endDay_11 ?_
  clear h9
  refine lv_iload_n hx hb dX4_endDay_14 rfl (lv_at hl 1 rfl) ?_
  refine lv_aload_n hx hb dX4_endDay_15 rfl (lv_at hl 0 rfl) ?_
  obtain ⟨q9, h9⟩ := wc_at (cy := cy) (ad := ad) (ks := ks) (g := g) (u := u1) (κ := (.lo L i)) hk.1 ⟨h_L_i.1, h_L_i.2⟩
  refine va_get (D := (dC, dI)) (ci := 4) (v := .int (u1 (10 + L) (113 + 4 * i + 3))) (C := RX4) (T := TX4) (N := 12) hx hb hts inlX4 hown hK hP q9 h9 rfl 9 (by decide) (hts _ mw_273) (fun _ h9 => h9) rfl dX4_endDay_16 ?_
  clear h9
  obtain ⟨u3, e4, hF⟩ := ob hF
  obtain ⟨q9, h9, ez9⟩ := wc_set (cy := cy) (ad := ad) (ks := ks) (g := g) (u := u1) (κ := (.df L i)) (r := (300 + 6 * L + i)) (i := (a1 : Int32).toNatClampNeg) (v := (u1 (10 + L) (113 + 4 * i + 3))) hk.1 ⟨h_L_i.1, h_L_i.2⟩ (own_df (inl_lt h_L_i.1) h_L_i.2) (sf_df)
  refine va_iast hx hb hK hP hD hS q9 1 h9 rfl (ws_in e4) dX4_endDay_19 (fun H locs hP hD hS => ?_)
  have hP : va_P (dC, dI) vwCl (WC cy ad ks g u3) H := by rw [← ws_eq e4, ← ez9]; exact hP
  have hD : va_D A (WC cy ad ks g u3) := by rw [← ws_eq e4, ← ez9]; exact hD
  clear ez9 h9
  refine lv_aload_n hx hb dX4_endDay_20 rfl (lv_at hl 0 rfl) ?_
  refine lv_iconst (v := 0) hx hb dX4_endDay_21 (by decide) ?_
  obtain ⟨q9, h9, ez9⟩ := wc_set (cy := cy) (ad := ad) (ks := ks) (g := g) (u := u3) (κ := (.lo L i)) (r := (10 + L)) (i := (113 + 4 * i + 2)) (v := (0)) hk.1 ⟨h_L_i.1, h_L_i.2⟩ (own_lo (inl_lt h_L_i.1) h_L_i.2 (by decide)) (sf_lo_8)
  refine va_put (D := (dC, dI)) (ci := 4) (v := .int 0) (ty := .int) (C := RX4) (T := TX4) (N := 12) hx hb hts inlX4 tyX4 tyX4_ok nmX4 hown hK hP hD hS q9 h9 rfl 8 (by decide) (hts _ mw_272) (fun _ h9 => h9) rfl (by decide +kernel) rfl rfl (Nat.le_of_ble_eq_true rfl) dX4_endDay_22 (fun H locs hP hD hS => ?_)
  obtain ⟨u5, e6, hF⟩ := ob hF
  have hP : va_P (dC, dI) vwCl (WC cy ad ks g u5) H := by rw [← pt_eq e6, ← ez9]; exact hP
  have hD : va_D A (WC cy ad ks g u5) := by rw [← pt_eq e6, ← ez9]; exact hD
  clear ez9 h9
  refine lv_aload_n hx hb dX4_endDay_25 rfl (lv_at hl 0 rfl) ?_
  refine lv_iconst (v := 0) hx hb dX4_endDay_26 (by decide) ?_
  obtain ⟨q9, h9, ez9⟩ := wc_set (cy := cy) (ad := ad) (ks := ks) (g := g) (u := u5) (κ := (.lo L i)) (r := (10 + L)) (i := (113 + 4 * i + 3)) (v := (0)) hk.1 ⟨h_L_i.1, h_L_i.2⟩ (own_lo (inl_lt h_L_i.1) h_L_i.2 (by decide)) (sf_lo_9)
  refine va_put (D := (dC, dI)) (ci := 4) (v := .int 0) (ty := .int) (C := RX4) (T := TX4) (N := 12) hx hb hts inlX4 tyX4 tyX4_ok nmX4 hown hK hP hD hS q9 h9 rfl 9 (by decide) (hts _ mw_273) (fun _ h9 => h9) rfl (by decide +kernel) rfl rfl (Nat.le_of_ble_eq_true rfl) dX4_endDay_27 (fun H locs hP hD hS => ?_)
  obtain ⟨u7, e8, hF⟩ := ob hF
  have hP : va_P (dC, dI) vwCl (WC cy ad ks g u7) H := by rw [← pt_eq e8, ← ez9]; exact hP
  have hD : va_D A (WC cy ad ks g u7) := by rw [← pt_eq e8, ← ez9]; exact hD
  clear ez9 h9
  have hZ := s1 hF
  have zuz : u7 = uz := hZ
  have hP9 : va_P (dC, dI) vwCl (WC cy ad ks g uz) H := by rw [← zuz]; exact hP
  have hD9 : va_D A (WC cy ad ks g uz) := by rw [← zuz]; exact hD
  rw [hQ]
  exact W.vret hx hb hr (fun t ht hW => ⟨⟨(), rfl, trivial, by rw [ht]; exact hP9, hD9⟩, hS.F ht⟩) hS.2.2 dX4_endDay_30
noncomputable def C3_passTime_L41 (x12 : Int32) (L : Nat) (g : CG) : Nat → Int32 → RS → Option (Int32 × RS)
  | 0, _, _ => none
  | m21 + 1, y14, u15 => if (u15 (10 + L) 8) ≤ y14 then (some ((y14, u15))) else (if x12 < 0 then (some ((y14, u15))) else ((ix 6 y14).bind fun n24 => (C4_endDay g u15 L n24 (x12)).bind fun u26 => C3_passTime_L41 x12 L g m21 ((y14 + 1)) u26))
noncomputable def C3_passTime (g : CG) (u0 : RS) (L : Nat) : Option (RS) := (pt u0 (10 + L) 6 ((u0 (10 + L) 6) + 1)).bind fun u1 => (if (u1 (10 + L) 0) ≤ 0 then (some u1) else ((rm (u1 (10 + L) 6) (u1 (10 + L) 0)).bind fun x7 => if x7 = 0 then ((C3_daysOver g u1 L).bind fun x10 => (rm (x10 - 1) 10).bind fun x12 => (C3_passTime_L41 x12 L g FUEL (0 : Int32) u1).bind fun t16 => some (t16.2)) else (some u1)) : Option (RS)).bind fun t4 => some t4
set_option maxHeartbeats 4000000 in
set_option maxRecDepth 100000 in
theorem c_X3_passTime (l : Launch) (dC : Nat → ClassId) (dI : Nat → Nat → Nat) (cy : Nat → ClassId) (nb : Nat → Nat) (ad : CK → Nat) (ks : List CK) (g : CG) (hk : GA nb ad g ks) (u0 : RS) (L : Nat) (uz : RS) (sz : Nat) (h_L : has g (.ln L)) (hF : C3_passTime g u0 L = some uz) : Met l yX3_passTime (wsg yX3_passTime cX3_passTime 3 none) ({ frames := 8, cells := 0, slots := 0, locals := 300 }) (va_Pc [.ref (ad (.ln L))] (fun U => U.heap.size = sz ∧ va_P (dC, dI) vwCl (WC cy ad ks g u0) U.heap ∧ va_K (dC, dI) vwCl (tyL cy) U ∧ va_D (fun _ => True) (WC cy ad ks g u0) ∧ GE nb (va_A (WC cy ad ks g u0) sz) U)) (va_Qv (fun (_ : Unit) => True) (fun _ t => va_P (dC, dI) vwCl (WC cy ad ks g uz) t.heap ∧ va_D (va_A (WC cy ad ks g u0) sz) (WC cy ad ks g uz)) (va_A (WC cy ad ks g u0) sz)) 0 0 (va_A (WC cy ad ks g u0) sz) := by
  refine Met.ofW (cc := cX3_passTime) (maxL := 3) (ret := none) pn_X3 rfl ?_
  intro p e s m args below meth c s₁ B hml hv
  obtain ⟨rfl, hsz, hP, hK, hD0, hE⟩ := hv
  have hx := B.exec
  have hb := B.bytes
  have hr := B.returns
  have hts0 := atoms_spec (ws := (wsg yX3_passTime cX3_passTime 3 none)) B.pre
  have hts : ∀ w ∈ wsL_law, w.before _ s = true := fun w h => hts0 w (List.mem_cons_of_mem _ h)
  have hown : s.vm.findClass RX3 = some m.cls := by have h9 := findClass_of_methodNamed B.named; exact h9
  have hlocks := B.notSynchronized
  subst hsz
  have hD := hD0.self (sz := s.heap.size)
  generalize hAe : va_A (WC cy ad ks g u0) s.heap.size = A at hD hE ⊢
  have hA : ∀ q : Nat, s.heap.size ≤ q → A q := fun q h => by rw [← hAe]; exact Or.inr h
  have hS : va_S A s.heap s.heap [] := va_S.rf
  have hl := lv_entry ([.ref (ad (.ln L))]) (n := 3) (Nat.le_of_ble_eq_true rfl)
  rw [lg_entry_eq]
  generalize (lg_sl ([.ref (ad (.ln L))]) ++ List.replicate (3 - (lg_sl ([.ref (ad (.ln L))])).length) Slot.unset).toArray = ls at hl ⊢
  have hl : lv_has ls 3 [(0, .ref (ad (.ln L)))] := hl
  generalize hHe : s.heap = H at hP hS ⊢
  have hS : va_S A s.heap H [] := by rw [hHe]; exact hS
  refine my_Q (fun Qn hQ => ?_)
  simp only [C3_passTime] at hF
  refine lv_aload_n hx hb dX3_passTime_0 rfl (lv_at hl 0 rfl) ?_
  refine lv_dup hx hb dX3_passTime_1 rfl ?_
  obtain ⟨q9, h9⟩ := wc_at (cy := cy) (ad := ad) (ks := ks) (g := g) (u := u0) (κ := (.ln L)) hk.1 h_L
  refine va_get (D := (dC, dI)) (ci := 3) (v := .int (u0 (10 + L) 6)) (C := RX3) (T := TX3) (N := 17) hx hb hts inlX3 hown hK hP q9 h9 rfl 6 (by decide) (hts _ mw_85) (fun _ h9 => h9) rfl dX3_passTime_2 ?_
  clear h9
  refine lv_iconst (v := 1) hx hb dX3_passTime_5 (by decide) ?_
  refine lv_iadd hx hb dX3_passTime_6 ?_
  obtain ⟨q9, h9, ez9⟩ := wc_set (cy := cy) (ad := ad) (ks := ks) (g := g) (u := u0) (κ := (.ln L)) (r := (10 + L)) (i := 6) (v := ((u0 (10 + L) 6) + 1)) hk.1 h_L (own_ln (inl_lt h_L) (by decide)) (sf_ln_6)
  refine va_put (D := (dC, dI)) (ci := 3) (v := .int ((u0 (10 + L) 6) + 1)) (ty := .int) (C := RX3) (T := TX3) (N := 17) hx hb hts inlX3 tyX3 tyX3_ok nmX3 hown hK hP hD hS q9 h9 rfl 6 (by decide) (hts _ mw_85) (fun _ h9 => h9) rfl (by decide +kernel) rfl rfl (Nat.le_of_ble_eq_true rfl) dX3_passTime_7 (fun H locs hP hD hS => ?_)
  obtain ⟨u1, e2, hF⟩ := ob hF
  have hP : va_P (dC, dI) vwCl (WC cy ad ks g u1) H := by rw [← pt_eq e2, ← ez9]; exact hP
  have hD : va_D A (WC cy ad ks g u1) := by rw [← pt_eq e2, ← ez9]; exact hD
  clear ez9 h9
  refine lv_aload_n hx hb dX3_passTime_10 rfl (lv_at hl 0 rfl) ?_
  obtain ⟨q9, h9⟩ := wc_at (cy := cy) (ad := ad) (ks := ks) (g := g) (u := u1) (κ := (.ln L)) hk.1 h_L
  refine va_get (D := (dC, dI)) (ci := 3) (v := .int (u1 (10 + L) 0)) (C := RX3) (T := TX3) (N := 17) hx hb hts inlX3 hown hK hP q9 h9 rfl 0 (by decide) (hts _ mw_39) (fun _ h9 => h9) rfl dX3_passTime_11 ?_
  clear h9
  obtain ⟨t4, hJ5, hF⟩ := ob hF
  have join6 : ∀ (H : Heap) (locs : List Loc) (ls : Array Slot), va_P (dC, dI) vwCl (WC cy ad ks g t4) H → va_D A (WC cy ad ks g t4) → va_S A s.heap H locs → lv_has ls 3 [(0, .ref (ad (.ln L)))] → W p l e (headSpec (wsg yX3_passTime cX3_passTime 3 none) ({ frames := 8, cells := 0, slots := 0, locals := 300 })).room s m ([.ref (ad (.ln L))] : List Value).toArray below meth c H locs 0 0 Qn (F0 m 69 ls []) := by
    intro H locs ls hP hD hS hl
    have hZ := s1 hF
    have zuz : t4 = uz := hZ
    have hP9 : va_P (dC, dI) vwCl (WC cy ad ks g uz) H := by rw [← zuz]; exact hP
    have hD9 : va_D A (WC cy ad ks g uz) := by rw [← zuz]; exact hD
    rw [hQ]
    exact W.vret hx hb hr (fun t ht hW => ⟨⟨(), rfl, trivial, by rw [ht]; exact hP9, hD9⟩, hS.F ht⟩) hS.2.2 dX3_passTime_69
  clear hF
  have hF := hJ5
  clear hJ5
  refine lv_if_le (tgt := 69) hx hb dX3_passTime_14 (by decide) (fun c3 => ?_) (fun c3 => ?_)
  · rw [if_pos c3] at hF
    have ht := s1 hF
    subst ht
    exact join6 _ _ _ hP hD hS (lv_sub hl [0] rfl)
  · rw [if_neg c3] at hF
    refine lv_aload_n hx hb dX3_passTime_17 rfl (lv_at hl 0 rfl) ?_
    obtain ⟨q9, h9⟩ := wc_at (cy := cy) (ad := ad) (ks := ks) (g := g) (u := u1) (κ := (.ln L)) hk.1 h_L
    refine va_get (D := (dC, dI)) (ci := 3) (v := .int (u1 (10 + L) 6)) (C := RX3) (T := TX3) (N := 17) hx hb hts inlX3 hown hK hP q9 h9 rfl 6 (by decide) (hts _ mw_85) (fun _ h9 => h9) rfl dX3_passTime_18 ?_
    clear h9
    refine lv_aload_n hx hb dX3_passTime_21 rfl (lv_at hl 0 rfl) ?_
    obtain ⟨q9, h9⟩ := wc_at (cy := cy) (ad := ad) (ks := ks) (g := g) (u := u1) (κ := (.ln L)) hk.1 h_L
    refine va_get (D := (dC, dI)) (ci := 3) (v := .int (u1 (10 + L) 0)) (C := RX3) (T := TX3) (N := 17) hx hb hts inlX3 hown hK hP q9 h9 rfl 0 (by decide) (hts _ mw_39) (fun _ h9 => h9) rfl dX3_passTime_22 ?_
    clear h9
    obtain ⟨x7, e8, hF⟩ := ob hF
    refine lv_irem hx hb dX3_passTime_25 (rm_ne e8) ?_
    refine my_topi (y := x7) (rm_eq e8) ?_
    refine lv_if_ne (tgt := 69) hx hb dX3_passTime_26 (by decide) (fun c9 => ?_) (fun c9 => ?_)
    · rw [if_neg c9] at hF
      have ht := s1 hF
      subst ht
      exact join6 _ _ _ hP hD hS (lv_sub hl [0] rfl)
    · rw [if_pos c9] at hF
      refine lv_aload_n hx hb dX3_passTime_29 rfl (lv_at hl 0 rfl) ?_
      obtain ⟨x10, e11, hF⟩ := ob hF
      have hPc := hP
      have hDc := hD
      have hFc := my_free hD hS hA
      obtain ⟨q8, h8⟩ := wc_at (cy := cy) (ad := ad) (ks := ks) (g := g) (u := u1) (κ := (.ln L)) hk.1 h_L
      refine va_calli (va_runV (As := []) (rest := []) ⟨hx, hb, hml, hown, hts⟩ (c_X3_daysOver l dC dI cy nb ad ks g hk u1 L (x10) H.size h_L e11) (cwV 0 hts (gV mw_1217 mw_882 mw_883 mw_17 mw_884) rfl rfl rfl (by decide +kernel) ⟨Nat.le_of_ble_eq_true rfl, Nat.le_of_ble_eq_true rfl⟩) (my_preV hPc hK hDc hE hS hFc (va_recv (q := (RX3, TX3, 17)) hK hP (ci := 3) (q0 := q8) rfl h8)) rfl rfl hl.1 rfl (lv_room (Nat.le_of_ble_eq_true rfl)) dX3_passTime_30 ⟨Nat.le_of_ble_eq_true rfl, Nat.le_of_ble_eq_true rfl⟩) hS (fun q _ h => hFc q h) hFc (fun r u t H1 locs ht hvm hw hB hz1 hk1 hS => ?_)
      clear h8
      obtain ⟨hP1, hD1⟩ := hB
      rw [ht] at hP1
      have hP := hP1
      have hD := hD1.weaken (fun k q _ h => hFc q.1 h)
      generalize H1 = H at hP hS ⊢
      clear hP1 hD1 hPc hDc hFc hk1 hz1 hvm ht
      obtain rfl := hw.symm
      refine lv_iconst (v := 1) hx hb dX3_passTime_33 (by decide) ?_
      refine lv_isub hx hb dX3_passTime_34 ?_
      refine lv_bipush (v := 10) hx hb dX3_passTime_35 (by decide) ?_
      obtain ⟨x12, e13, hF⟩ := ob hF
      refine lv_irem hx hb dX3_passTime_37 (rm_ne e13) ?_
      refine my_topi (y := x12) (rm_eq e13) ?_
      refine lv_istore_n (lv' := [(1, .int x12), (0, .ref (ad (.ln L)))]) hx hb dX3_passTime_38 rfl hl (by decide) rfl (fun ls hl => ?_)
      refine lv_iconst (v := 0) hx hb dX3_passTime_39 (by decide) ?_
      refine lv_istore_n (lv' := [(2, .int 0), (1, .int x12), (0, .ref (ad (.ln L)))]) hx hb dX3_passTime_40 rfl hl (by decide) rfl (fun ls hl => ?_)
      obtain ⟨t16, hL17, hF⟩ := ob hF
      have kx18 : ∀ (H : Heap) (locs : List Loc) (ls : Array Slot), va_P (dC, dI) vwCl (WC cy ad ks g (t16.2)) H → va_D A (WC cy ad ks g (t16.2)) → va_S A s.heap H locs → lv_has ls 3 [(2, .int (t16.1)), (1, .int x12), (0, .ref (ad (.ln L)))] → W p l e (headSpec (wsg yX3_passTime cX3_passTime 3 none) ({ frames := 8, cells := 0, slots := 0, locals := 300 })).room s m ([.ref (ad (.ln L))] : List Value).toArray below meth c H locs 0 0 Qn (F0 m 69 ls []) := by
        intro H locs ls hP hD hS hl
        have ht := s1 hF
        subst ht
        exact join6 _ _ _ hP hD hS (lv_sub hl [2] rfl)
      clear hF
      have loop20 : ∀ (m21 : Nat) (y14 : Int32) (u15 : RS), C3_passTime_L41 x12 L g m21 y14 u15 = some t16 → ∀ (H : Heap) (locs : List Loc) (ls : Array Slot), va_P (dC, dI) vwCl (WC cy ad ks g u15) H → va_D A (WC cy ad ks g u15) → va_S A s.heap H locs → lv_has ls 3 [(2, .int y14), (1, .int x12), (0, .ref (ad (.ln L)))] → W p l e (headSpec (wsg yX3_passTime cX3_passTime 3 none) ({ frames := 8, cells := 0, slots := 0, locals := 300 })).room s m ([.ref (ad (.ln L))] : List Value).toArray below meth c H locs 0 0 Qn (F0 m 41 ls []) := by
        intro m21
        induction m21 with
        | zero => intro y14 u15 hF; cases hF
        | succ m21 ih =>
          intro y14 u15 hF H locs ls hP hD hS hl
          simp only [C3_passTime_L41] at hF
          refine lv_iload_n hx hb dX3_passTime_41 rfl (lv_at hl 0 rfl) ?_
          refine lv_aload_n hx hb dX3_passTime_42 rfl (lv_at hl 2 rfl) ?_
          obtain ⟨q9, h9⟩ := wc_at (cy := cy) (ad := ad) (ks := ks) (g := g) (u := u15) (κ := (.ln L)) hk.1 h_L
          refine va_get (D := (dC, dI)) (ci := 3) (v := .int (u15 (10 + L) 8)) (C := RX3) (T := TX3) (N := 17) hx hb hts inlX3 hown hK hP q9 h9 rfl 8 (by decide) (hts _ mw_87) (fun _ h9 => h9) rfl dX3_passTime_43 ?_
          clear h9
          refine lv_icmp_ge (tgt := 69) hx hb dX3_passTime_46 (by decide) (fun c22 => ?_) (fun c22 => ?_)
          · rw [if_pos c22] at hF
            have ht := s1 hF
            subst ht
            exact kx18 _ _ _ hP hD hS (lv_sub hl [0, 1, 2] rfl)
          · rw [if_neg c22] at hF
            refine lv_iload_n hx hb dX3_passTime_49 rfl (lv_at hl 1 rfl) ?_
            refine lv_if_lt (tgt := 69) hx hb dX3_passTime_50 (by decide) (fun c23 => ?_) (fun c23 => ?_)
            · rw [if_pos c23] at hF
              have ht := s1 hF
              subst ht
              exact kx18 _ _ _ hP hD hS (lv_sub hl [0, 1, 2] rfl)
            · rw [if_neg c23] at hF
              refine lv_aload_n hx hb dX3_passTime_53 rfl (lv_at hl 2 rfl) ?_
              obtain ⟨q9, h9⟩ := wc_at (cy := cy) (ad := ad) (ks := ks) (g := g) (u := u15) (κ := (.ln L)) hk.1 h_L
              refine va_get (D := (dC, dI)) (ci := 3) (v := .ref (ad (.ls L))) (C := RX3) (T := TX3) (N := 17) hx hb hts inlX3 hown hK hP q9 h9 rfl 11 (by decide) (hts _ mw_43) (fun _ h9 => h9) rfl dX3_passTime_54 ?_
              clear h9
              refine lv_iload_n hx hb dX3_passTime_57 rfl (lv_at hl 0 rfl) ?_
              obtain ⟨n24, e25, hF⟩ := ob hF
              obtain ⟨q9, h9⟩ := wc_at (cy := cy) (ad := ad) (ks := ks) (g := g) (u := u15) (κ := (.ls L)) hk.1 h_L
              refine va_aldq hx hb hK hP q9 7 h9 rfl (ix_in e25) dX3_passTime_58 ?_
              refine my_top (y := .ref (ad (.lo L n24))) (ixv (F := fun j => ad (.lo L j)) e25) ?_
              clear h9
              refine lv_iload_n hx hb dX3_passTime_59 rfl (lv_at hl 1 rfl) ?_
              obtain ⟨u26, e27, hF⟩ := ob hF
              have hPc := hP
              have hDc := hD
              have hFc := my_free hD hS hA
              obtain ⟨q8, h8⟩ := wc_at (cy := cy) (ad := ad) (ks := ks) (g := g) (u := u15) (κ := (.lo L n24)) hk.1 ⟨h_L, (ix_lt e25)⟩
              refine va_callv (va_runV (As := [.int x12]) (rest := []) ⟨hx, hb, hml, hown, hts⟩ (c_X4_endDay l dC dI cy nb ad ks g hk u15 L n24 (x12) (u26) H.size ⟨h_L, (ix_lt e25)⟩ e27) (cwV 1 hts (gV mw_1218 mw_1219 mw_1220 mw_52 mw_1221) rfl rfl rfl (by decide +kernel) ⟨Nat.le_of_ble_eq_true rfl, Nat.le_of_ble_eq_true rfl⟩) (my_preV hPc hK hDc hE hS hFc (va_recv (q := (RX4, TX4, 12)) hK hP (ci := 4) (q0 := q8) rfl h8)) rfl rfl hl.1 rfl (lv_room (Nat.le_of_ble_eq_true rfl)) dX3_passTime_60 ⟨Nat.le_of_ble_eq_true rfl, Nat.le_of_ble_eq_true rfl⟩) hS (fun q _ h => hFc q h) hFc (fun u t H1 locs ht hvm hw hB hz1 hk1 hS => ?_)
              clear h8
              obtain ⟨hP1, hD1⟩ := hB
              rw [ht] at hP1
              have hP := hP1
              have hD := hD1.weaken (fun k q _ h => hFc q.1 h)
              generalize H1 = H at hP hS ⊢
              clear hP1 hD1 hPc hDc hFc hk1 hz1 hvm ht
              refine lv_iinc (v := (y14 + 1)) (lv' := [(2, .int (y14 + 1)), (1, .int x12), (0, .ref (ad (.ln L)))]) hx hb dX3_passTime_63 hl (k := 0) rfl (by rfl) (by decide) rfl (fun ls hl => ?_)
              refine lv_goto (tgt := 41) hx hb dX3_passTime_66 (by decide) ?_
              exact ih _ _ hF _ _ _ hP hD hS (lv_sub hl [0, 1, 2] rfl)
      exact loop20 FUEL _ _ hL17 _ _ _ hP hD hS (lv_sub hl [0, 1, 2] rfl)
noncomputable def C3_putAt (g : CG) (u0 : RS) (L : Nat) (a1 : Int32) (a2 : Int32) : Option (RS) := (ix 30 a1).bind fun n1 => (pt u0 (10 + L) (137 + 25 * n1 + 1) a2).bind fun u3 => (ix 30 a1).bind fun n5 => (ix 6 (u3 (10 + L) (137 + 25 * n5 + 0))).bind fun n7 => (ws u3 (100 + 6 * L + n7) 30 a2 a1).bind fun u9 => some u9
set_option maxHeartbeats 4000000 in
set_option maxRecDepth 100000 in
theorem c_X3_putAt (l : Launch) (dC : Nat → ClassId) (dI : Nat → Nat → Nat) (cy : Nat → ClassId) (nb : Nat → Nat) (ad : CK → Nat) (ks : List CK) (g : CG) (hk : GA nb ad g ks) (u0 : RS) (L : Nat) (a1 : Int32) (a2 : Int32) (uz : RS) (sz : Nat) (h_L : has g (.ln L)) (hF : C3_putAt g u0 L a1 a2 = some uz) : Met l yX3_putAt (wsg yX3_putAt cX3_putAt 3 none) ({ frames := 7, cells := 0, slots := 0, locals := 200 }) (va_Pc [.ref (ad (.ln L)), .int a1, .int a2] (fun U => U.heap.size = sz ∧ va_P (dC, dI) vwCl (WC cy ad ks g u0) U.heap ∧ va_K (dC, dI) vwCl (tyL cy) U ∧ va_D (fun _ => True) (WC cy ad ks g u0) ∧ GE nb (va_A (WC cy ad ks g u0) sz) U)) (va_Qv (fun (_ : Unit) => True) (fun _ t => va_P (dC, dI) vwCl (WC cy ad ks g uz) t.heap ∧ va_D (va_A (WC cy ad ks g u0) sz) (WC cy ad ks g uz)) (va_A (WC cy ad ks g u0) sz)) 0 0 (va_A (WC cy ad ks g u0) sz) := by
  refine Met.ofW (cc := cX3_putAt) (maxL := 3) (ret := none) pn_X3 rfl ?_
  intro p e s m args below meth c s₁ B hml hv
  obtain ⟨rfl, hsz, hP, hK, hD0, hE⟩ := hv
  have hx := B.exec
  have hb := B.bytes
  have hr := B.returns
  have hts0 := atoms_spec (ws := (wsg yX3_putAt cX3_putAt 3 none)) B.pre
  have hts : ∀ w ∈ wsL_law, w.before _ s = true := fun w h => hts0 w (List.mem_cons_of_mem _ h)
  have hown : s.vm.findClass RX3 = some m.cls := by have h9 := findClass_of_methodNamed B.named; exact h9
  have hlocks := B.notSynchronized
  subst hsz
  have hD := hD0.self (sz := s.heap.size)
  generalize hAe : va_A (WC cy ad ks g u0) s.heap.size = A at hD hE ⊢
  have hA : ∀ q : Nat, s.heap.size ≤ q → A q := fun q h => by rw [← hAe]; exact Or.inr h
  have hS : va_S A s.heap s.heap [] := va_S.rf
  have hl := lv_entry ([.ref (ad (.ln L)), .int a1, .int a2]) (n := 3) (Nat.le_of_ble_eq_true rfl)
  rw [lg_entry_eq]
  generalize (lg_sl ([.ref (ad (.ln L)), .int a1, .int a2]) ++ List.replicate (3 - (lg_sl ([.ref (ad (.ln L)), .int a1, .int a2])).length) Slot.unset).toArray = ls at hl ⊢
  have hl : lv_has ls 3 [(0, .ref (ad (.ln L))), (1, .int a1), (2, .int a2)] := hl
  generalize hHe : s.heap = H at hP hS ⊢
  have hS : va_S A s.heap H [] := by rw [hHe]; exact hS
  refine my_Q (fun Qn hQ => ?_)
  simp only [C3_putAt] at hF
  refine lv_aload_n hx hb dX3_putAt_0 rfl (lv_at hl 0 rfl) ?_
  obtain ⟨q9, h9⟩ := wc_at (cy := cy) (ad := ad) (ks := ks) (g := g) (u := u0) (κ := (.ln L)) hk.1 h_L
  refine va_get (D := (dC, dI)) (ci := 3) (v := .ref (ad (.cs L))) (C := RX3) (T := TX3) (N := 17) hx hb hts inlX3 hown hK hP q9 h9 rfl 12 (by decide) (hts _ mw_45) (fun _ h9 => h9) rfl dX3_putAt_1 ?_
  clear h9
  refine lv_iload_n hx hb dX3_putAt_4 rfl (lv_at hl 1 rfl) ?_
  obtain ⟨n1, e2, hF⟩ := ob hF
  obtain ⟨q9, h9⟩ := wc_at (cy := cy) (ad := ad) (ks := ks) (g := g) (u := u0) (κ := (.cs L)) hk.1 h_L
  refine va_aldq hx hb hK hP q9 8 h9 rfl (ix_in e2) dX3_putAt_5 ?_
  refine my_top (y := .ref (ad (.cd L n1))) (ixv (F := fun j => ad (.cd L j)) e2) ?_
  clear h9
  refine lv_iload_n hx hb dX3_putAt_6 rfl (lv_at hl 2 rfl) ?_
  obtain ⟨q9, h9, ez9⟩ := wc_set (cy := cy) (ad := ad) (ks := ks) (g := g) (u := u0) (κ := (.cd L n1)) (r := (10 + L)) (i := (137 + 25 * n1 + 1)) (v := a2) hk.1 ⟨h_L, (ix_lt e2)⟩ (own_cd (inl_lt h_L) (ix_lt e2) (by decide)) (sf_cd_1)
  refine va_put (D := (dC, dI)) (ci := 2) (v := .int a2) (ty := .int) (C := RX1) (T := TX1) (N := 9) hx hb hts inlX1 tyX1 tyX1_ok nmX1 hown hK hP hD hS q9 h9 rfl 1 (by decide) (hts _ mw_1102) (fun _ h9 => h9) rfl (by decide +kernel) rfl rfl (Nat.le_of_ble_eq_true rfl) dX3_putAt_7 (fun H locs hP hD hS => ?_)
  obtain ⟨u3, e4, hF⟩ := ob hF
  have hP : va_P (dC, dI) vwCl (WC cy ad ks g u3) H := by rw [← pt_eq e4, ← ez9]; exact hP
  have hD : va_D A (WC cy ad ks g u3) := by rw [← pt_eq e4, ← ez9]; exact hD
  clear ez9 h9
  refine lv_aload_n hx hb dX3_putAt_10 rfl (lv_at hl 0 rfl) ?_
  obtain ⟨q9, h9⟩ := wc_at (cy := cy) (ad := ad) (ks := ks) (g := g) (u := u3) (κ := (.ln L)) hk.1 h_L
  refine va_get (D := (dC, dI)) (ci := 3) (v := .ref (ad (.ls L))) (C := RX3) (T := TX3) (N := 17) hx hb hts inlX3 hown hK hP q9 h9 rfl 11 (by decide) (hts _ mw_43) (fun _ h9 => h9) rfl dX3_putAt_11 ?_
  clear h9
  refine lv_aload_n hx hb dX3_putAt_14 rfl (lv_at hl 0 rfl) ?_
  obtain ⟨q9, h9⟩ := wc_at (cy := cy) (ad := ad) (ks := ks) (g := g) (u := u3) (κ := (.ln L)) hk.1 h_L
  refine va_get (D := (dC, dI)) (ci := 3) (v := .ref (ad (.cs L))) (C := RX3) (T := TX3) (N := 17) hx hb hts inlX3 hown hK hP q9 h9 rfl 12 (by decide) (hts _ mw_45) (fun _ h9 => h9) rfl dX3_putAt_15 ?_
  clear h9
  refine lv_iload_n hx hb dX3_putAt_18 rfl (lv_at hl 1 rfl) ?_
  obtain ⟨n5, e6, hF⟩ := ob hF
  obtain ⟨q9, h9⟩ := wc_at (cy := cy) (ad := ad) (ks := ks) (g := g) (u := u3) (κ := (.cs L)) hk.1 h_L
  refine va_aldq hx hb hK hP q9 8 h9 rfl (ix_in e6) dX3_putAt_19 ?_
  refine my_top (y := .ref (ad (.cd L n5))) (ixv (F := fun j => ad (.cd L j)) e6) ?_
  clear h9
  obtain ⟨q9, h9⟩ := wc_at (cy := cy) (ad := ad) (ks := ks) (g := g) (u := u3) (κ := (.cd L n5)) hk.1 ⟨h_L, (ix_lt e6)⟩
  refine va_get (D := (dC, dI)) (ci := 2) (v := .int (u3 (10 + L) (137 + 25 * n5 + 0))) (C := RX1) (T := TX1) (N := 9) hx hb hts inlX1 hown hK hP q9 h9 rfl 0 (by decide) (hts _ mw_786) (fun _ h9 => h9) rfl dX3_putAt_20 ?_
  clear h9
  obtain ⟨n7, e8, hF⟩ := ob hF
  obtain ⟨q9, h9⟩ := wc_at (cy := cy) (ad := ad) (ks := ks) (g := g) (u := u3) (κ := (.ls L)) hk.1 h_L
  refine va_aldq hx hb hK hP q9 7 h9 rfl (ix_in e8) dX3_putAt_23 ?_
  refine my_top (y := .ref (ad (.lo L n7))) (ixv (F := fun j => ad (.lo L j)) e8) ?_
  clear h9
  obtain ⟨q9, h9⟩ := wc_at (cy := cy) (ad := ad) (ks := ks) (g := g) (u := u3) (κ := (.lo L n7)) hk.1 ⟨h_L, (ix_lt e8)⟩
  refine va_get (D := (dC, dI)) (ci := 4) (v := .ref (ad (.bp L n7))) (C := RX4) (T := TX4) (N := 12) hx hb hts inlX4 hown hK hP q9 h9 rfl 2 (by decide) (hts _ mw_325) (fun _ h9 => h9) rfl dX3_putAt_24 ?_
  clear h9
  refine lv_iload_n hx hb dX3_putAt_27 rfl (lv_at hl 2 rfl) ?_
  refine lv_iload_n hx hb dX3_putAt_28 rfl (lv_at hl 1 rfl) ?_
  obtain ⟨u9, e10, hF⟩ := ob hF
  obtain ⟨q9, h9, ez9⟩ := wc_set (cy := cy) (ad := ad) (ks := ks) (g := g) (u := u3) (κ := (.bp L n7)) (r := (100 + 6 * L + n7)) (i := (a2 : Int32).toNatClampNeg) (v := a1) hk.1 ⟨h_L, (ix_lt e8)⟩ (own_bp (inl_lt h_L) (ix_lt e8)) (sf_bp)
  refine va_iast hx hb hK hP hD hS q9 1 h9 rfl (ws_in e10) dX3_putAt_29 (fun H locs hP hD hS => ?_)
  have hP : va_P (dC, dI) vwCl (WC cy ad ks g u9) H := by rw [← ws_eq e10, ← ez9]; exact hP
  have hD : va_D A (WC cy ad ks g u9) := by rw [← ws_eq e10, ← ez9]; exact hD
  clear ez9 h9
  have hZ := s1 hF
  have zuz : u9 = uz := hZ
  have hP9 : va_P (dC, dI) vwCl (WC cy ad ks g uz) H := by rw [← zuz]; exact hP
  have hD9 : va_D A (WC cy ad ks g uz) := by rw [← zuz]; exact hD
  rw [hQ]
  exact W.vret hx hb hr (fun t ht hW => ⟨⟨(), rfl, trivial, by rw [ht]; exact hP9, hD9⟩, hS.F ht⟩) hS.2.2 dX3_putAt_30
noncomputable def C6_useSign (g : CG) (u0 : RS) (L : Nat) (i : Nat) : Option (Int32 × RS) := (tln g u0 (u0 (10 + L) (17 + 16 * i + 14))).bind fun x1 => (if x1 ≤ 0 then (some (0 : Int32)) else ((tln g u0 (u0 (10 + L) (17 + 16 * i + 14))).bind fun x22 => (rm (u0 (10 + L) (17 + 16 * i + 4)) x22).bind fun x24 => (tbt g u0 (u0 (10 + L) (17 + 16 * i + 14)) x24).bind fun x26 => if x26 = 49 then (some (1 : Int32)) else (some (0 : Int32))) : Option (Int32)).bind fun t4 => (pt u0 (10 + L) (17 + 16 * i + 4) ((u0 (10 + L) (17 + 16 * i + 4)) + 1)).bind fun u7 => (pt u7 (10 + L) (17 + 16 * i + 13) ((u7 (10 + L) (17 + 16 * i + 13)) + 1)).bind fun u9 => (if (u9 (10 + L) (17 + 16 * i + 9)) ≤ 0 then (some u9) else (if (u9 (10 + L) (17 + 16 * i + 13)) < (u9 (10 + L) (17 + 16 * i + 9)) then (some u9) else ((pt u9 (10 + L) (17 + 16 * i + 11) (u9 (10 + L) (17 + 16 * i + 10))).bind fun u18 => (pt u18 (10 + L) (17 + 16 * i + 13) (0)).bind fun u20 => some u20)) : Option (RS)).bind fun t12 => (nz t4).bind fun x15 => some (x15, t12)
set_option maxHeartbeats 4000000 in
set_option maxRecDepth 100000 in
theorem c_X6_useSign (l : Launch) (dC : Nat → ClassId) (dI : Nat → Nat → Nat) (cy : Nat → ClassId) (nb : Nat → Nat) (ad : CK → Nat) (ks : List CK) (g : CG) (hk : GA nb ad g ks) (u0 : RS) (L : Nat) (i : Nat) (ro : Int32) (uz : RS) (sz : Nat) (h_L_i : has g (.st L i)) (hF : C6_useSign g u0 L i = some (ro, uz)) : Met l yX6_useSign (wsg yX6_useSign cX6_useSign 2 (some .boolean)) ({ frames := 7, cells := 0, slots := 0, locals := 200 }) (va_Pc [.ref (ad (.st L i))] (fun U => U.heap.size = sz ∧ va_P (dC, dI) vwCl (WC cy ad ks g u0) U.heap ∧ va_K (dC, dI) vwCl (tyL cy) U ∧ va_D (fun _ => True) (WC cy ad ks g u0) ∧ GE nb (va_A (WC cy ad ks g u0) sz) U)) (va_Qi (fun (r : Int32) (_ : Unit) => r = ro) (fun _ t => va_P (dC, dI) vwCl (WC cy ad ks g uz) t.heap ∧ va_D (va_A (WC cy ad ks g u0) sz) (WC cy ad ks g uz)) (va_A (WC cy ad ks g u0) sz)) 0 0 (va_A (WC cy ad ks g u0) sz) := by
  refine Met.ofW (cc := cX6_useSign) (maxL := 2) (ret := (some .boolean)) pn_X6 rfl ?_
  intro p e s m args below meth c s₁ B hml hv
  obtain ⟨rfl, hsz, hP, hK, hD0, hE⟩ := hv
  have hx := B.exec
  have hb := B.bytes
  have hr := B.returns
  have hts0 := atoms_spec (ws := (wsg yX6_useSign cX6_useSign 2 (some .boolean))) B.pre
  have hts : ∀ w ∈ wsL_law, w.before _ s = true := fun w h => hts0 w (List.mem_cons_of_mem _ h)
  have hown : s.vm.findClass RX6 = some m.cls := by have h9 := findClass_of_methodNamed B.named; exact h9
  have hlocks := B.notSynchronized
  subst hsz
  have hD := hD0.self (sz := s.heap.size)
  generalize hAe : va_A (WC cy ad ks g u0) s.heap.size = A at hD hE ⊢
  have hA : ∀ q : Nat, s.heap.size ≤ q → A q := fun q h => by rw [← hAe]; exact Or.inr h
  have hS : va_S A s.heap s.heap [] := va_S.rf
  have hl := lv_entry ([.ref (ad (.st L i))]) (n := 2) (Nat.le_of_ble_eq_true rfl)
  rw [lg_entry_eq]
  generalize (lg_sl ([.ref (ad (.st L i))]) ++ List.replicate (2 - (lg_sl ([.ref (ad (.st L i))])).length) Slot.unset).toArray = ls at hl ⊢
  have hl : lv_has ls 2 [(0, .ref (ad (.st L i)))] := hl
  generalize hHe : s.heap = H at hP hS ⊢
  have hS : va_S A s.heap H [] := by rw [hHe]; exact hS
  refine my_Q (fun Qn hQ => ?_)
  simp only [C6_useSign] at hF
  refine lv_aload_n hx hb dX6_useSign_0 rfl (lv_at hl 0 rfl) ?_
  obtain ⟨q9, h9⟩ := wc_at (cy := cy) (ad := ad) (ks := ks) (g := g) (u := u0) (κ := (.st L i)) hk.1 ⟨h_L_i.1, h_L_i.2⟩
  refine va_get (D := (dC, dI)) (ci := 6) (v := .ref (ad (.tx (u0 (10 + L) (17 + 16 * i + 14)).toNatClampNeg))) (C := RX6) (T := TX6) (N := 15) hx hb hts inlX6 hown hK hP q9 h9 rfl 2 (by decide) (hts _ mw_58) (fun _ h9 => h9) rfl dX6_useSign_1 ?_
  clear h9
  obtain ⟨x1, e2, hF⟩ := ob hF
  obtain ⟨q9, h9⟩ := wc_at (cy := cy) (ad := ad) (ks := ks) (g := g) (u := u0) (κ := (.tx (u0 (10 + L) (17 + 16 * i + 14)).toNatClampNeg)) hk.1 (tln_h e2)
  refine va_alen (v := x1) hx hb hK hP q9 0 h9 (ty := .byte) rfl (tln_l e2) dX6_useSign_4 ?_
  clear h9
  obtain ⟨t4, hJ5, hF⟩ := ob hF
  have join6 : ∀ (H : Heap) (locs : List Loc) (ls : Array Slot), va_P (dC, dI) vwCl (WC cy ad ks g u0) H → va_D A (WC cy ad ks g u0) → va_S A s.heap H locs → lv_has ls 2 [(0, .ref (ad (.st L i)))] → W p l e (headSpec (wsg yX6_useSign cX6_useSign 2 (some .boolean)) ({ frames := 7, cells := 0, slots := 0, locals := 200 })).room s m ([.ref (ad (.st L i))] : List Value).toArray below meth c H locs 0 0 Qn (F0 m 33 ls [.int t4]) := by
    intro H locs ls hP hD hS hl
    refine lv_istore_n (lv' := [(1, .int t4), (0, .ref (ad (.st L i)))]) hx hb dX6_useSign_33 rfl hl (by decide) rfl (fun ls hl => ?_)
    refine lv_aload_n hx hb dX6_useSign_34 rfl (lv_at hl 1 rfl) ?_
    refine lv_dup hx hb dX6_useSign_35 rfl ?_
    obtain ⟨q9, h9⟩ := wc_at (cy := cy) (ad := ad) (ks := ks) (g := g) (u := u0) (κ := (.st L i)) hk.1 ⟨h_L_i.1, h_L_i.2⟩
    refine va_get (D := (dC, dI)) (ci := 6) (v := .int (u0 (10 + L) (17 + 16 * i + 4))) (C := RX6) (T := TX6) (N := 15) hx hb hts inlX6 hown hK hP q9 h9 rfl 5 (by decide) (hts _ mw_372) (fun _ h9 => h9) rfl dX6_useSign_36 ?_
    clear h9
    refine lv_iconst (v := 1) hx hb dX6_useSign_39 (by decide) ?_
    refine lv_iadd hx hb dX6_useSign_40 ?_
    obtain ⟨q9, h9, ez9⟩ := wc_set (cy := cy) (ad := ad) (ks := ks) (g := g) (u := u0) (κ := (.st L i)) (r := (10 + L)) (i := (17 + 16 * i + 4)) (v := ((u0 (10 + L) (17 + 16 * i + 4)) + 1)) hk.1 ⟨h_L_i.1, h_L_i.2⟩ (own_st (inl_lt h_L_i.1) h_L_i.2 (by decide)) (sf_st_5)
    refine va_put (D := (dC, dI)) (ci := 6) (v := .int ((u0 (10 + L) (17 + 16 * i + 4)) + 1)) (ty := .int) (C := RX6) (T := TX6) (N := 15) hx hb hts inlX6 tyX6 tyX6_ok nmX6 hown hK hP hD hS q9 h9 rfl 5 (by decide) (hts _ mw_372) (fun _ h9 => h9) rfl (by decide +kernel) rfl rfl (Nat.le_of_ble_eq_true rfl) dX6_useSign_41 (fun H locs hP hD hS => ?_)
    obtain ⟨u7, e8, hF⟩ := ob hF
    have hP : va_P (dC, dI) vwCl (WC cy ad ks g u7) H := by rw [← pt_eq e8, ← ez9]; exact hP
    have hD : va_D A (WC cy ad ks g u7) := by rw [← pt_eq e8, ← ez9]; exact hD
    clear ez9 h9
    refine lv_aload_n hx hb dX6_useSign_44 rfl (lv_at hl 1 rfl) ?_
    refine lv_dup hx hb dX6_useSign_45 rfl ?_
    obtain ⟨q9, h9⟩ := wc_at (cy := cy) (ad := ad) (ks := ks) (g := g) (u := u7) (κ := (.st L i)) hk.1 ⟨h_L_i.1, h_L_i.2⟩
    refine va_get (D := (dC, dI)) (ci := 6) (v := .int (u7 (10 + L) (17 + 16 * i + 13))) (C := RX6) (T := TX6) (N := 15) hx hb hts inlX6 hown hK hP q9 h9 rfl 6 (by decide) (hts _ mw_373) (fun _ h9 => h9) rfl dX6_useSign_46 ?_
    clear h9
    refine lv_iconst (v := 1) hx hb dX6_useSign_49 (by decide) ?_
    refine lv_iadd hx hb dX6_useSign_50 ?_
    obtain ⟨q9, h9, ez9⟩ := wc_set (cy := cy) (ad := ad) (ks := ks) (g := g) (u := u7) (κ := (.st L i)) (r := (10 + L)) (i := (17 + 16 * i + 13)) (v := ((u7 (10 + L) (17 + 16 * i + 13)) + 1)) hk.1 ⟨h_L_i.1, h_L_i.2⟩ (own_st (inl_lt h_L_i.1) h_L_i.2 (by decide)) (sf_st_6)
    refine va_put (D := (dC, dI)) (ci := 6) (v := .int ((u7 (10 + L) (17 + 16 * i + 13)) + 1)) (ty := .int) (C := RX6) (T := TX6) (N := 15) hx hb hts inlX6 tyX6 tyX6_ok nmX6 hown hK hP hD hS q9 h9 rfl 6 (by decide) (hts _ mw_373) (fun _ h9 => h9) rfl (by decide +kernel) rfl rfl (Nat.le_of_ble_eq_true rfl) dX6_useSign_51 (fun H locs hP hD hS => ?_)
    obtain ⟨u9, e10, hF⟩ := ob hF
    have hP : va_P (dC, dI) vwCl (WC cy ad ks g u9) H := by rw [← pt_eq e10, ← ez9]; exact hP
    have hD : va_D A (WC cy ad ks g u9) := by rw [← pt_eq e10, ← ez9]; exact hD
    clear ez9 h9
    refine lv_aload_n hx hb dX6_useSign_54 rfl (lv_at hl 1 rfl) ?_
    obtain ⟨q9, h9⟩ := wc_at (cy := cy) (ad := ad) (ks := ks) (g := g) (u := u9) (κ := (.st L i)) hk.1 ⟨h_L_i.1, h_L_i.2⟩
    refine va_get (D := (dC, dI)) (ci := 6) (v := .int (u9 (10 + L) (17 + 16 * i + 9))) (C := RX6) (T := TX6) (N := 15) hx hb hts inlX6 hown hK hP q9 h9 rfl 11 (by decide) (hts _ mw_378) (fun _ h9 => h9) rfl dX6_useSign_55 ?_
    clear h9
    obtain ⟨t12, hJ13, hF⟩ := ob hF
    have join14 : ∀ (H : Heap) (locs : List Loc) (ls : Array Slot), va_P (dC, dI) vwCl (WC cy ad ks g t12) H → va_D A (WC cy ad ks g t12) → va_S A s.heap H locs → lv_has ls 2 [(1, .int t4), (0, .ref (ad (.st L i)))] → W p l e (headSpec (wsg yX6_useSign cX6_useSign 2 (some .boolean)) ({ frames := 7, cells := 0, slots := 0, locals := 200 })).room s m ([.ref (ad (.st L i))] : List Value).toArray below meth c H locs 0 0 Qn (F0 m 85 ls []) := by
      intro H locs ls hP hD hS hl
      refine lv_iload_n hx hb dX6_useSign_85 rfl (lv_at hl 0 rfl) ?_
      obtain ⟨x15, e16, hF⟩ := ob hF
      refine my_topi (y := x15) (nz_e e16) ?_
      have hZ := s1 hF
      have zro : x15 = ro := (congrArg (fun q => q.1) hZ)
      have zuz : t12 = uz := (congrArg (fun q => q.2) hZ)
      have hP9 : va_P (dC, dI) vwCl (WC cy ad ks g uz) H := by rw [← zuz]; exact hP
      have hD9 : va_D A (WC cy ad ks g uz) := by rw [← zuz]; exact hD
      rw [hQ]
      exact W.zret (v := x15) hx hb hr (nz_n e16) (fun t ht hW => ⟨⟨x15, (), rfl, zro, by rw [ht]; exact hP9, hD9⟩, hS.F ht⟩) hS.2.2 dX6_useSign_86
    clear hF
    have hF := hJ13
    clear hJ13
    refine lv_if_le (tgt := 85) hx hb dX6_useSign_58 (by decide) (fun c11 => ?_) (fun c11 => ?_)
    · rw [if_pos c11] at hF
      have ht := s1 hF
      subst ht
      exact join14 _ _ _ hP hD hS (lv_sub hl [0, 1] rfl)
    · rw [if_neg c11] at hF
      refine lv_aload_n hx hb dX6_useSign_61 rfl (lv_at hl 1 rfl) ?_
      obtain ⟨q9, h9⟩ := wc_at (cy := cy) (ad := ad) (ks := ks) (g := g) (u := u9) (κ := (.st L i)) hk.1 ⟨h_L_i.1, h_L_i.2⟩
      refine va_get (D := (dC, dI)) (ci := 6) (v := .int (u9 (10 + L) (17 + 16 * i + 13))) (C := RX6) (T := TX6) (N := 15) hx hb hts inlX6 hown hK hP q9 h9 rfl 6 (by decide) (hts _ mw_373) (fun _ h9 => h9) rfl dX6_useSign_62 ?_
      clear h9
      refine lv_aload_n hx hb dX6_useSign_65 rfl (lv_at hl 1 rfl) ?_
      obtain ⟨q9, h9⟩ := wc_at (cy := cy) (ad := ad) (ks := ks) (g := g) (u := u9) (κ := (.st L i)) hk.1 ⟨h_L_i.1, h_L_i.2⟩
      refine va_get (D := (dC, dI)) (ci := 6) (v := .int (u9 (10 + L) (17 + 16 * i + 9))) (C := RX6) (T := TX6) (N := 15) hx hb hts inlX6 hown hK hP q9 h9 rfl 11 (by decide) (hts _ mw_378) (fun _ h9 => h9) rfl dX6_useSign_66 ?_
      clear h9
      refine lv_icmp_lt (tgt := 85) hx hb dX6_useSign_69 (by decide) (fun c17 => ?_) (fun c17 => ?_)
      · rw [if_pos c17] at hF
        have ht := s1 hF
        subst ht
        exact join14 _ _ _ hP hD hS (lv_sub hl [0, 1] rfl)
      · rw [if_neg c17] at hF
        refine lv_aload_n hx hb dX6_useSign_72 rfl (lv_at hl 1 rfl) ?_
        refine lv_aload_n hx hb dX6_useSign_73 rfl (lv_at hl 1 rfl) ?_
        obtain ⟨q9, h9⟩ := wc_at (cy := cy) (ad := ad) (ks := ks) (g := g) (u := u9) (κ := (.st L i)) hk.1 ⟨h_L_i.1, h_L_i.2⟩
        refine va_get (D := (dC, dI)) (ci := 6) (v := .int (u9 (10 + L) (17 + 16 * i + 10))) (C := RX6) (T := TX6) (N := 15) hx hb hts inlX6 hown hK hP q9 h9 rfl 12 (by decide) (hts _ mw_379) (fun _ h9 => h9) rfl dX6_useSign_74 ?_
        clear h9
        obtain ⟨q9, h9, ez9⟩ := wc_set (cy := cy) (ad := ad) (ks := ks) (g := g) (u := u9) (κ := (.st L i)) (r := (10 + L)) (i := (17 + 16 * i + 11)) (v := (u9 (10 + L) (17 + 16 * i + 10))) hk.1 ⟨h_L_i.1, h_L_i.2⟩ (own_st (inl_lt h_L_i.1) h_L_i.2 (by decide)) (sf_st_13)
        refine va_put (D := (dC, dI)) (ci := 6) (v := .int (u9 (10 + L) (17 + 16 * i + 10))) (ty := .int) (C := RX6) (T := TX6) (N := 15) hx hb hts inlX6 tyX6 tyX6_ok nmX6 hown hK hP hD hS q9 h9 rfl 13 (by decide) (hts _ mw_380) (fun _ h9 => h9) rfl (by decide +kernel) rfl rfl (Nat.le_of_ble_eq_true rfl) dX6_useSign_77 (fun H locs hP hD hS => ?_)
        obtain ⟨u18, e19, hF⟩ := ob hF
        have hP : va_P (dC, dI) vwCl (WC cy ad ks g u18) H := by rw [← pt_eq e19, ← ez9]; exact hP
        have hD : va_D A (WC cy ad ks g u18) := by rw [← pt_eq e19, ← ez9]; exact hD
        clear ez9 h9
        refine lv_aload_n hx hb dX6_useSign_80 rfl (lv_at hl 1 rfl) ?_
        refine lv_iconst (v := 0) hx hb dX6_useSign_81 (by decide) ?_
        obtain ⟨q9, h9, ez9⟩ := wc_set (cy := cy) (ad := ad) (ks := ks) (g := g) (u := u18) (κ := (.st L i)) (r := (10 + L)) (i := (17 + 16 * i + 13)) (v := (0)) hk.1 ⟨h_L_i.1, h_L_i.2⟩ (own_st (inl_lt h_L_i.1) h_L_i.2 (by decide)) (sf_st_6)
        refine va_put (D := (dC, dI)) (ci := 6) (v := .int 0) (ty := .int) (C := RX6) (T := TX6) (N := 15) hx hb hts inlX6 tyX6 tyX6_ok nmX6 hown hK hP hD hS q9 h9 rfl 6 (by decide) (hts _ mw_373) (fun _ h9 => h9) rfl (by decide +kernel) rfl rfl (Nat.le_of_ble_eq_true rfl) dX6_useSign_82 (fun H locs hP hD hS => ?_)
        obtain ⟨u20, e21, hF⟩ := ob hF
        have hP : va_P (dC, dI) vwCl (WC cy ad ks g u20) H := by rw [← pt_eq e21, ← ez9]; exact hP
        have hD : va_D A (WC cy ad ks g u20) := by rw [← pt_eq e21, ← ez9]; exact hD
        clear ez9 h9
        have ht := s1 hF
        subst ht
        exact join14 _ _ _ hP hD hS (lv_sub hl [0, 1] rfl)
  clear hF
  have hF := hJ5
  clear hJ5
  refine lv_if_le (tgt := 32) hx hb dX6_useSign_5 (by decide) (fun c3 => ?_) (fun c3 => ?_)
  · rw [if_pos c3] at hF
    refine lv_iconst (v := 0) hx hb dX6_useSign_32 (by decide) ?_
    have ht := s1 hF
    subst ht
    exact join6 _ _ _ hP hD hS (lv_sub hl [0] rfl)
  · rw [if_neg c3] at hF
    refine lv_aload_n hx hb dX6_useSign_8 rfl (lv_at hl 0 rfl) ?_
    obtain ⟨q9, h9⟩ := wc_at (cy := cy) (ad := ad) (ks := ks) (g := g) (u := u0) (κ := (.st L i)) hk.1 ⟨h_L_i.1, h_L_i.2⟩
    refine va_get (D := (dC, dI)) (ci := 6) (v := .ref (ad (.tx (u0 (10 + L) (17 + 16 * i + 14)).toNatClampNeg))) (C := RX6) (T := TX6) (N := 15) hx hb hts inlX6 hown hK hP q9 h9 rfl 2 (by decide) (hts _ mw_58) (fun _ h9 => h9) rfl dX6_useSign_9 ?_
    clear h9
    refine lv_aload_n hx hb dX6_useSign_12 rfl (lv_at hl 0 rfl) ?_
    obtain ⟨q9, h9⟩ := wc_at (cy := cy) (ad := ad) (ks := ks) (g := g) (u := u0) (κ := (.st L i)) hk.1 ⟨h_L_i.1, h_L_i.2⟩
    refine va_get (D := (dC, dI)) (ci := 6) (v := .int (u0 (10 + L) (17 + 16 * i + 4))) (C := RX6) (T := TX6) (N := 15) hx hb hts inlX6 hown hK hP q9 h9 rfl 5 (by decide) (hts _ mw_372) (fun _ h9 => h9) rfl dX6_useSign_13 ?_
    clear h9
    refine lv_aload_n hx hb dX6_useSign_16 rfl (lv_at hl 0 rfl) ?_
    obtain ⟨q9, h9⟩ := wc_at (cy := cy) (ad := ad) (ks := ks) (g := g) (u := u0) (κ := (.st L i)) hk.1 ⟨h_L_i.1, h_L_i.2⟩
    refine va_get (D := (dC, dI)) (ci := 6) (v := .ref (ad (.tx (u0 (10 + L) (17 + 16 * i + 14)).toNatClampNeg))) (C := RX6) (T := TX6) (N := 15) hx hb hts inlX6 hown hK hP q9 h9 rfl 2 (by decide) (hts _ mw_58) (fun _ h9 => h9) rfl dX6_useSign_17 ?_
    clear h9
    obtain ⟨x22, e23, hF⟩ := ob hF
    obtain ⟨q9, h9⟩ := wc_at (cy := cy) (ad := ad) (ks := ks) (g := g) (u := u0) (κ := (.tx (u0 (10 + L) (17 + 16 * i + 14)).toNatClampNeg)) hk.1 (tln_h e23)
    refine va_alen (v := x22) hx hb hK hP q9 0 h9 (ty := .byte) rfl (tln_l e23) dX6_useSign_20 ?_
    clear h9
    obtain ⟨x24, e25, hF⟩ := ob hF
    refine lv_irem hx hb dX6_useSign_21 (rm_ne e25) ?_
    refine my_topi (y := x24) (rm_eq e25) ?_
    obtain ⟨x26, e27, hF⟩ := ob hF
    obtain ⟨q9, h9⟩ := wc_at (cy := cy) (ad := ad) (ks := ks) (g := g) (u := u0) (κ := (.tx (u0 (10 + L) (17 + 16 * i + 14)).toNatClampNeg)) hk.1 (tbt_h e27)
    refine va_bald hx hb hK hP q9 0 h9 rfl (tbt_in e27) dX6_useSign_22 ?_
    refine my_topi (y := x26) (tbt_eq e27) ?_
    clear h9
    refine lv_bipush (v := 49) hx hb dX6_useSign_23 (by decide) ?_
    refine lv_icmp_ne (tgt := 32) hx hb dX6_useSign_25 (by decide) (fun c28 => ?_) (fun c28 => ?_)
    · rw [if_neg c28] at hF
      refine lv_iconst (v := 0) hx hb dX6_useSign_32 (by decide) ?_
      have ht := s1 hF
      subst ht
      exact join6 _ _ _ hP hD hS (lv_sub hl [0] rfl)
    · rw [if_pos c28] at hF
      refine lv_iconst (v := 1) hx hb dX6_useSign_28 (by decide) ?_
      refine lv_goto (tgt := 33) hx hb dX6_useSign_29 (by decide) ?_
      have ht := s1 hF
      subst ht
      exact join6 _ _ _ hP hD hS (lv_sub hl [0] rfl)
