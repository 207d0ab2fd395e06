noncomputable def C7_giveUp (g : CG) (u0 : RS) (a1 : Int32) : Option (Sum Int32 (Int32 × CG × RS)) := (C7_needCard g u0 (a1)).bind fun t1 => tr t1 fun t3 => (C7_waits g u0 (a1)).bind fun x4 => if x4 = 0 then (some (.inr ((-3 : Int32), g, u0))) else ((C7_remember g u0).bind fun t7 => (C3_abandon (t7.1) (t7.2) 0 (a1)).bind fun u13 => some (.inr ((u13 (400 + 0) 0), (t7.1), u13)))
set_option maxHeartbeats 4000000 in
set_option maxRecDepth 100000 in
theorem c_X7_giveUp (l : Launch) (dC : Nat → ClassId) (dI : Nat → Nat → Nat) (cy : Nat → ClassId) (nb : Nat → Nat) (ad : CK → Nat) (ks : List CK) (g : CG) (hk : GA nb ad g ks) (u0 : RS) (a1 : Int32) (ro : Int32) (gz : CG) (uz : RS) (sz : Nat) (hF : C7_giveUp g u0 a1 = some (.inr (ro, gz, uz))) : Met l yX7_giveUp (wsg yX7_giveUp cX7_giveUp 2 (some .int)) ({ frames := 11, cells := 67, slots := 831, locals := 600 }) (va_Pc [.ref (ad .cl), .int a1] (fun U => U.heap.size = sz ∧ va_P (dC, dI) vwCl (WC cy ad ks g u0) U.heap ∧ va_K (dC, dI) vwCl (tyL cy) U ∧ va_D (fun _ => True) (WC cy ad ks g u0) ∧ GE nb (va_A (WC cy ad ks g u0) sz) U)) (va_Qi (fun (r : Int32) (_ : Unit) => r = ro) (fun _ t => ∃ (ad' : CK → Nat) (ks' : List CK), GA nb ad' gz ks' ∧ AX g ad gz ad' ∧ va_P (dC, dI) vwCl (WC cy ad' ks' gz uz) t.heap ∧ va_D (va_A (WC cy ad ks g u0) sz) (WC cy ad' ks' gz uz)) (va_A (WC cy ad ks g u0) sz)) 67 831 (va_A (WC cy ad ks g u0) sz) := by
  refine Met.ofW (cc := cX7_giveUp) (maxL := 2) (ret := (some .int)) pn_X7 rfl ?_
  intro p e s m args below meth c s₁ B hml hv
  obtain ⟨rfl, hsz, hP, hK, hD0, hE⟩ := hv
  have hx := B.exec
  have hb := B.bytes
  have hr := B.returns
  have hts0 := atoms_spec (ws := (wsg yX7_giveUp cX7_giveUp 2 (some .int))) B.pre
  have hts : ∀ w ∈ wsL_law, w.before _ s = true := fun w h => hts0 w (List.mem_cons_of_mem _ h)
  have hown : s.vm.findClass RX7 = some m.cls := by have h9 := findClass_of_methodNamed B.named; exact h9
  have hlocks := B.notSynchronized
  subst hsz
  have hD := hD0.self (sz := s.heap.size)
  generalize hAe : va_A (WC cy ad ks g u0) s.heap.size = A at hD hE ⊢
  have hA : ∀ q : Nat, s.heap.size ≤ q → A q := fun q h => by rw [← hAe]; exact Or.inr h
  have hS : va_S A s.heap s.heap [] := va_S.rf
  have hl := lv_entry ([.ref (ad .cl), .int a1]) (n := 2) (Nat.le_of_ble_eq_true rfl)
  rw [lg_entry_eq]
  generalize (lg_sl ([.ref (ad .cl), .int a1]) ++ List.replicate (2 - (lg_sl ([.ref (ad .cl), .int a1])).length) Slot.unset).toArray = ls at hl ⊢
  have hl : lv_has ls 2 [(0, .ref (ad .cl)), (1, .int a1)] := hl
  generalize hHe : s.heap = H at hP hS ⊢
  have hS : va_S A s.heap H [] := by rw [hHe]; exact hS
  refine my_Q (fun Qn hQ => ?_)
  simp only [C7_giveUp] at hF
  refine lv_aload_n hx hb dX7_giveUp_0 rfl (lv_at hl 0 rfl) ?_
  refine lv_iload_n hx hb dX7_giveUp_1 rfl (lv_at hl 1 rfl) ?_
  obtain ⟨t1, e2, hF⟩ := ob hF
  rcases t1 with xz9 | t3
  · have hF : some (Sum.inl xz9) = some (.inr (ro, gz, uz)) := hF
    cases hF
  · dsimp only [tr] at hF
    have hPc := hP
    have hDc := hD
    have hFc := my_free hD hS hA
    obtain ⟨q8, h8⟩ := wc_at (cy := cy) (ad := ad) (ks := ks) (g := g) (u := u0) (κ := .cl) hk.1 True.intro
    refine va_callv (va_runV (As := [.int a1]) (rest := []) ⟨hx, hb, hml, hown, hts⟩ (c_X7_needCard l dC dI cy nb ad ks g hk u0 (a1) H.size e2) (cwV 1 hts (gV mw_666 mw_667 mw_668 mw_2 mw_669) rfl rfl rfl (by decide +kernel) ⟨Nat.le_of_ble_eq_true rfl, Nat.le_of_ble_eq_true rfl⟩) (my_preV hPc hK hDc hE hS hFc (va_recv (q := (RX7, TX7, 12)) hK hP (ci := 7) (q0 := q8) rfl h8)) rfl rfl hl.1 rfl (lv_room (Nat.le_of_ble_eq_true rfl)) dX7_giveUp_2 ⟨Nat.le_of_ble_eq_true rfl, Nat.le_of_ble_eq_true rfl⟩) hS (fun q _ h => hFc q h) hFc (fun u t H1 locs ht hvm hw hB hz1 hk1 hS => ?_)
    clear h8
    obtain ⟨hP1, hD1⟩ := hB
    rw [ht] at hP1
    have hP := hP1
    have hD := hD1.weaken (fun k q _ h => hFc q.1 h)
    generalize H1 = H at hP hS ⊢
    clear hP1 hD1 hPc hDc hFc hk1 hz1 hvm ht
    refine lv_aload_n hx hb dX7_giveUp_5 rfl (lv_at hl 0 rfl) ?_
    refine lv_iload_n hx hb dX7_giveUp_6 rfl (lv_at hl 1 rfl) ?_
    obtain ⟨x4, e5, hF⟩ := ob hF
    have hPc := hP
    have hDc := hD
    have hFc := my_free hD hS hA
    obtain ⟨q8, h8⟩ := wc_at (cy := cy) (ad := ad) (ks := ks) (g := g) (u := u0) (κ := .cl) hk.1 True.intro
    refine va_calli (va_runV (As := [.int a1]) (rest := []) ⟨hx, hb, hml, hown, hts⟩ (c_X7_waits l dC dI cy nb ad ks g hk u0 (a1) (x4) H.size e5) (cwV 1 hts (gV mw_994 mw_995 mw_996 mw_2 mw_997) rfl rfl rfl (by decide +kernel) ⟨Nat.le_of_ble_eq_true rfl, Nat.le_of_ble_eq_true rfl⟩) (my_preV hPc hK hDc hE hS hFc (va_recv (q := (RX7, TX7, 12)) hK hP (ci := 7) (q0 := q8) rfl h8)) rfl rfl hl.1 rfl (lv_room (Nat.le_of_ble_eq_true rfl)) dX7_giveUp_7 ⟨Nat.le_of_ble_eq_true rfl, Nat.le_of_ble_eq_true rfl⟩) hS (fun q _ h => hFc q h) hFc (fun r u t H1 locs ht hvm hw hB hz1 hk1 hS => ?_)
    clear h8
    obtain ⟨hP1, hD1⟩ := hB
    rw [ht] at hP1
    have hP := hP1
    have hD := hD1.weaken (fun k q _ h => hFc q.1 h)
    generalize H1 = H at hP hS ⊢
    clear hP1 hD1 hPc hDc hFc hk1 hz1 hvm ht
    obtain rfl := hw.symm
    refine lv_if_ne (tgt := 16) hx hb dX7_giveUp_10 (by decide) (fun c6 => ?_) (fun c6 => ?_)
    · rw [if_neg c6] at hF
      refine lv_aload_n hx hb dX7_giveUp_16 rfl (lv_at hl 0 rfl) ?_
      obtain ⟨t7, e8, hF⟩ := ob hF
      have hPc := hP
      have hDc := hD
      have hFc := my_free hD hS hA
      obtain ⟨q8, h8⟩ := wc_at (cy := cy) (ad := ad) (ks := ks) (g := g) (u := u0) (κ := .cl) hk.1 True.intro
      refine va_callv (va_runV (As := []) (rest := []) ⟨hx, hb, hml, hown, hts⟩ (c_X7_remember l dC dI cy nb ad ks g hk u0 (t7.1) (t7.2) H.size e8) (cwV 0 hts (gV mw_973 mw_974 mw_975 mw_2 mw_976) rfl rfl rfl (by decide +kernel) ⟨Nat.le_of_ble_eq_true rfl, Nat.le_of_ble_eq_true rfl⟩) (my_preV hPc hK hDc hE hS hFc (va_recv (q := (RX7, TX7, 12)) hK hP (ci := 7) (q0 := q8) rfl h8)) rfl rfl hl.1 rfl (lv_room (Nat.le_of_ble_eq_true rfl)) dX7_giveUp_17 ⟨Nat.le_of_ble_eq_true rfl, Nat.le_of_ble_eq_true rfl⟩) hS (fun q _ h => hFc q h) hFc (fun u t H1 locs ht hvm hw hB hz1 hk1 hS => ?_)
      clear h8
      obtain ⟨ad9, ks10, hk11, ax12, hP1, hD1⟩ := hB
      rw [ht] at hP1
      have hP := hP1
      have hD := hD1.weaken (fun k q _ h => hFc q.1 h)
      generalize H1 = H at hP hS ⊢
      have hl : lv_has ls 2 [(0, .ref (ad9 .cl)), (1, .int a1)] := by rw [(ax12 .cl True.intro).2]; exact hl
      clear hP1 hD1 hPc hDc hFc hk1 hz1 hvm ht
      refine W.widen (k := 67) (n := 831) (by omega) (by omega) ?_
      refine lv_aload_n hx hb dX7_giveUp_20 rfl (lv_at hl 0 rfl) ?_
      obtain ⟨q9, h9⟩ := wc_at (cy := cy) (ad := ad9) (ks := ks10) (g := (t7.1)) (u := (t7.2)) (κ := .cl) hk11.1 True.intro
      refine va_get (D := (dC, dI)) (ci := 7) (v := .ref (ad9 (.ln 0))) (C := RX7) (T := TX7) (N := 12) hx hb hts inlX7 hown hK hP q9 h9 rfl 0 (by decide) (hts _ mw_18) (fun _ h9 => h9) rfl dX7_giveUp_21 ?_
      clear h9
      refine lv_iload_n hx hb dX7_giveUp_24 rfl (lv_at hl 1 rfl) ?_
      obtain ⟨u13, e14, hF⟩ := ob hF
      have hPc := hP
      have hDc := hD
      have hFc := my_free hD hS hA
      obtain ⟨q8, h8⟩ := wc_at (cy := cy) (ad := ad9) (ks := ks10) (g := (t7.1)) (u := (t7.2)) (κ := (.ln 0)) hk11.1 (Or.inl (by decide))
      refine va_callv (va_runV (As := [.int a1]) (rest := []) ⟨hx, hb, hml, hown, hts⟩ (c_X3_abandon l dC dI cy nb ad9 ks10 (t7.1) hk11 (t7.2) 0 (a1) (u13) H.size (Or.inl (by decide)) e14) (cwV 1 hts (gV mw_998 mw_999 mw_1000 mw_17 mw_1001) rfl rfl rfl (by decide +kernel) ⟨Nat.le_of_ble_eq_true rfl, Nat.le_of_ble_eq_true rfl⟩) (my_preV hPc hK hDc hE hS hFc (va_recv (q := (RX3, TX3, 17)) hK hP (ci := 3) (q0 := q8) rfl h8)) rfl rfl hl.1 rfl (lv_room (Nat.le_of_ble_eq_true rfl)) dX7_giveUp_25 ⟨Nat.le_of_ble_eq_true rfl, Nat.le_of_ble_eq_true rfl⟩) hS (fun q _ h => hFc q h) hFc (fun u t H1 locs ht hvm hw hB hz1 hk1 hS => ?_)
      clear h8
      obtain ⟨hP1, hD1⟩ := hB
      rw [ht] at hP1
      have hP := hP1
      have hD := hD1.weaken (fun k q _ h => hFc q.1 h)
      generalize H1 = H at hP hS ⊢
      clear hP1 hD1 hPc hDc hFc hk1 hz1 hvm ht
      refine lv_aload_n hx hb dX7_giveUp_28 rfl (lv_at hl 0 rfl) ?_
      obtain ⟨q9, h9⟩ := wc_at (cy := cy) (ad := ad9) (ks := ks10) (g := (t7.1)) (u := u13) (κ := .cl) hk11.1 True.intro
      refine va_get (D := (dC, dI)) (ci := 7) (v := .ref (ad9 (.ln 0))) (C := RX7) (T := TX7) (N := 12) hx hb hts inlX7 hown hK hP q9 h9 rfl 0 (by decide) (hts _ mw_18) (fun _ h9 => h9) rfl dX7_giveUp_29 ?_
      clear h9
      obtain ⟨q9, h9⟩ := wc_at (cy := cy) (ad := ad9) (ks := ks10) (g := (t7.1)) (u := u13) (κ := (.ln 0)) hk11.1 (Or.inl (by decide))
      refine va_get (D := (dC, dI)) (ci := 3) (v := .ref (ad9 (.is 0))) (C := RX3) (T := TX3) (N := 17) hx hb hts inlX3 hown hK hP q9 h9 rfl 13 (by decide) (hts _ mw_574) (fun _ h9 => h9) rfl dX7_giveUp_32 ?_
      clear h9
      refine lv_iconst (v := 0) hx hb dX7_giveUp_35 (by decide) ?_
      obtain ⟨q9, h9⟩ := wc_at (cy := cy) (ad := ad9) (ks := ks10) (g := (t7.1)) (u := u13) (κ := (.is 0)) hk11.1 (Or.inl (by decide))
      refine va_iald hx hb hK hP q9 1 h9 rfl (vp_in_nI (n := 0) (by decide) (by decide)) dX7_giveUp_36 ?_
      refine my_topi (y := (u13 (400 + 0) 0)) (by rfl) ?_
      clear h9
      have hZ := s3 hF
      have zro : (u13 (400 + 0) 0) = ro := (congrArg (fun q => q.1) hZ)
      have zgz : (t7.1) = gz := (congrArg (fun q => q.2.1) hZ)
      have zuz : u13 = uz := (congrArg (fun q => q.2.2) hZ)
      have hP9 : va_P (dC, dI) vwCl (WC cy ad9 ks10 gz uz) H := by rw [← zuz, ← zgz]; exact hP
      have hD9 : va_D A (WC cy ad9 ks10 gz uz) := by rw [← zuz, ← zgz]; exact hD
      have hk9 : GA nb ad9 gz ks10 := by rw [← zgz]; exact hk11
      have ax9 : AX g ad gz ad9 := by rw [← zgz]; exact ax12
      refine W.widen (k := 67) (n := 831) (by omega) (by omega) ?_
      rw [hQ]
      exact W.iret (v := (u13 (400 + 0) 0)) hx hb hr (fun t ht hW => ⟨⟨(u13 (400 + 0) 0), (), rfl, zro, ad9, ks10, hk9, ax9, by rw [ht]; exact hP9, hD9⟩, hS.F ht⟩) hS.2.2 dX7_giveUp_37
    · rw [if_pos c6] at hF
      refine lv_bipush (v := (-3)) hx hb dX7_giveUp_13 (by decide) ?_
      have hZ := s3 hF
      have zro : (-3 : Int32) = ro := (congrArg (fun q => q.1) hZ)
      have zgz : g = gz := (congrArg (fun q => q.2.1) hZ)
      have zuz : u0 = uz := (congrArg (fun q => q.2.2) hZ)
      have hP9 : va_P (dC, dI) vwCl (WC cy ad ks gz uz) H := by rw [← zuz, ← zgz]; exact hP
      have hD9 : va_D A (WC cy ad ks gz uz) := by rw [← zuz, ← zgz]; exact hD
      have hk9 : GA nb ad gz ks := by rw [← zgz]; exact hk
      have ax9 : AX g ad gz ad := by rw [← zgz]; exact ax_refl
      refine W.widen (k := 67) (n := 831) (by omega) (by omega) ?_
      rw [hQ]
      exact W.iret (v := (-3 : Int32)) hx hb hr (fun t ht hW => ⟨⟨(-3 : Int32), (), rfl, zro, ad, ks, hk9, ax9, by rw [ht]; exact hP9, hD9⟩, hS.F ht⟩) hS.2.2 dX7_giveUp_15
noncomputable def C7_keepResult (g : CG) (u0 : RS)  : Option (RS) := (pt u0 0 1 (u0 0 7)).bind fun u1 => (if (u1 0 1) = 0 then (some (-1 : Int32)) else (some (u1 0 9)) : Option (Int32)).bind fun t4 => (pt u1 0 2 t4).bind fun u7 => some u7
set_option maxHeartbeats 4000000 in
set_option maxRecDepth 100000 in
theorem c_X7_keepResult (l : Launch) (dC : Nat → ClassId) (dI : Nat → Nat → Nat) (cy : Nat → ClassId) (nb : Nat → Nat) (ad : CK → Nat) (ks : List CK) (g : CG) (hk : GA nb ad g ks) (u0 : RS)  (uz : RS) (sz : Nat) (hF : C7_keepResult g u0  = some uz) : Met l yX7_keepResult (wsg yX7_keepResult cX7_keepResult 1 none) ({ frames := 7, cells := 0, slots := 0, locals := 200 }) (va_Pc [.ref (ad .cl)] (fun U => U.heap.size = sz ∧ va_P (dC, dI) vwCl (WC cy ad ks g u0) U.heap ∧ va_K (dC, dI) vwCl (tyL cy) U ∧ va_D (fun _ => True) (WC cy ad ks g u0) ∧ GE nb (va_A (WC cy ad ks g u0) sz) U)) (va_Qv (fun (_ : Unit) => True) (fun _ t => va_P (dC, dI) vwCl (WC cy ad ks g uz) t.heap ∧ va_D (va_A (WC cy ad ks g u0) sz) (WC cy ad ks g uz)) (va_A (WC cy ad ks g u0) sz)) 0 0 (va_A (WC cy ad ks g u0) sz) := by
  refine Met.ofW (cc := cX7_keepResult) (maxL := 1) (ret := none) pn_X7 rfl ?_
  intro p e s m args below meth c s₁ B hml hv
  obtain ⟨rfl, hsz, hP, hK, hD0, hE⟩ := hv
  have hx := B.exec
  have hb := B.bytes
  have hr := B.returns
  have hts0 := atoms_spec (ws := (wsg yX7_keepResult cX7_keepResult 1 none)) B.pre
  have hts : ∀ w ∈ wsL_law, w.before _ s = true := fun w h => hts0 w (List.mem_cons_of_mem _ h)
  have hown : s.vm.findClass RX7 = some m.cls := by have h9 := findClass_of_methodNamed B.named; exact h9
  have hlocks := B.notSynchronized
  subst hsz
  have hD := hD0.self (sz := s.heap.size)
  generalize hAe : va_A (WC cy ad ks g u0) s.heap.size = A at hD hE ⊢
  have hA : ∀ q : Nat, s.heap.size ≤ q → A q := fun q h => by rw [← hAe]; exact Or.inr h
  have hS : va_S A s.heap s.heap [] := va_S.rf
  have hl := lv_entry ([.ref (ad .cl)]) (n := 1) (Nat.le_of_ble_eq_true rfl)
  rw [lg_entry_eq]
  generalize (lg_sl ([.ref (ad .cl)]) ++ List.replicate (1 - (lg_sl ([.ref (ad .cl)])).length) Slot.unset).toArray = ls at hl ⊢
  have hl : lv_has ls 1 [(0, .ref (ad .cl))] := hl
  generalize hHe : s.heap = H at hP hS ⊢
  have hS : va_S A s.heap H [] := by rw [hHe]; exact hS
  refine my_Q (fun Qn hQ => ?_)
  simp only [C7_keepResult] at hF
  refine lv_aload_n hx hb dX7_keepResult_0 rfl (lv_at hl 0 rfl) ?_
  refine lv_aload_n hx hb dX7_keepResult_1 rfl (lv_at hl 0 rfl) ?_
  obtain ⟨q9, h9⟩ := wc_at (cy := cy) (ad := ad) (ks := ks) (g := g) (u := u0) (κ := .cl) hk.1 True.intro
  refine va_get (D := (dC, dI)) (ci := 7) (v := .ref (ad .rd)) (C := RX7) (T := TX7) (N := 12) hx hb hts inlX7 hown hK hP q9 h9 rfl 2 (by decide) (hts _ mw_23) (fun _ h9 => h9) rfl dX7_keepResult_2 ?_
  clear h9
  obtain ⟨q9, h9⟩ := wc_at (cy := cy) (ad := ad) (ks := ks) (g := g) (u := u0) (κ := .rd) hk.1 True.intro
  refine va_get (D := (dC, dI)) (ci := 5) (v := .int (u0 0 7)) (C := RX5) (T := TX5) (N := 11) hx hb hts inlX5 hown hK hP q9 h9 rfl 3 (by decide) (hts _ mw_390) (fun _ h9 => h9) rfl dX7_keepResult_5 ?_
  clear h9
  obtain ⟨q9, h9, ez9⟩ := wc_set (cy := cy) (ad := ad) (ks := ks) (g := g) (u := u0) (κ := .cl) (r := 0) (i := 1) (v := (u0 0 7)) hk.1 True.intro (own_cl (by decide)) (sf_cl_8)
  refine va_put (D := (dC, dI)) (ci := 7) (v := .int (u0 0 7)) (ty := .int) (C := RX7) (T := TX7) (N := 12) hx hb hts inlX7 tyX7 tyX7_ok nmX7 hown hK hP hD hS q9 h9 rfl 8 (by decide) (hts _ mw_31) (fun _ h9 => h9) rfl (by decide +kernel) rfl rfl (Nat.le_of_ble_eq_true rfl) dX7_keepResult_8 (fun H locs hP hD hS => ?_)
  obtain ⟨u1, e2, hF⟩ := ob hF
  have hP : va_P (dC, dI) vwCl (WC cy ad ks g u1) H := by rw [← pt_eq e2, ← ez9]; exact hP
  have hD : va_D A (WC cy ad ks g u1) := by rw [← pt_eq e2, ← ez9]; exact hD
  clear ez9 h9
  refine lv_aload_n hx hb dX7_keepResult_11 rfl (lv_at hl 0 rfl) ?_
  refine lv_aload_n hx hb dX7_keepResult_12 rfl (lv_at hl 0 rfl) ?_
  obtain ⟨q9, h9⟩ := wc_at (cy := cy) (ad := ad) (ks := ks) (g := g) (u := u1) (κ := .cl) hk.1 True.intro
  refine va_get (D := (dC, dI)) (ci := 7) (v := .int (u1 0 1)) (C := RX7) (T := TX7) (N := 12) hx hb hts inlX7 hown hK hP q9 h9 rfl 8 (by decide) (hts _ mw_31) (fun _ h9 => h9) rfl dX7_keepResult_13 ?_
  clear h9
  obtain ⟨t4, hJ5, hF⟩ := ob hF
  have join6 : ∀ (H : Heap) (locs : List Loc) (ls : Array Slot), va_P (dC, dI) vwCl (WC cy ad ks g u1) H → va_D A (WC cy ad ks g u1) → va_S A s.heap H locs → lv_has ls 1 [(0, .ref (ad .cl))] → W p l e (headSpec (wsg yX7_keepResult cX7_keepResult 1 none) ({ frames := 7, cells := 0, slots := 0, locals := 200 })).room s m ([.ref (ad .cl)] : List Value).toArray below meth c H locs 0 0 Qn (F0 m 30 ls [.int t4, .ref (ad .cl)]) := by
    intro H locs ls hP hD hS hl
    obtain ⟨q9, h9, ez9⟩ := wc_set (cy := cy) (ad := ad) (ks := ks) (g := g) (u := u1) (κ := .cl) (r := 0) (i := 2) (v := t4) hk.1 True.intro (own_cl (by decide)) (sf_cl_9)
    refine va_put (D := (dC, dI)) (ci := 7) (v := .int t4) (ty := .int) (C := RX7) (T := TX7) (N := 12) hx hb hts inlX7 tyX7 tyX7_ok nmX7 hown hK hP hD hS q9 h9 rfl 9 (by decide) (hts _ mw_32) (fun _ h9 => h9) rfl (by decide +kernel) rfl rfl (Nat.le_of_ble_eq_true rfl) dX7_keepResult_30 (fun H locs hP hD hS => ?_)
    obtain ⟨u7, e8, hF⟩ := ob hF
    have hP : va_P (dC, dI) vwCl (WC cy ad ks g u7) H := by rw [← pt_eq e8, ← ez9]; exact hP
    have hD : va_D A (WC cy ad ks g u7) := by rw [← pt_eq e8, ← ez9]; exact hD
    clear ez9 h9
    have hZ := s1 hF
    have zuz : u7 = uz := hZ
    have hP9 : va_P (dC, dI) vwCl (WC cy ad ks g uz) H := by rw [← zuz]; exact hP
    have hD9 : va_D A (WC cy ad ks g uz) := by rw [← zuz]; exact hD
    rw [hQ]
    exact W.vret hx hb hr (fun t ht hW => ⟨⟨(), rfl, trivial, by rw [ht]; exact hP9, hD9⟩, hS.F ht⟩) hS.2.2 dX7_keepResult_33
  clear hF
  have hF := hJ5
  clear hJ5
  refine lv_if_ne (tgt := 23) hx hb dX7_keepResult_16 (by decide) (fun c3 => ?_) (fun c3 => ?_)
  · rw [if_neg c3] at hF
    refine lv_aload_n hx hb dX7_keepResult_23 rfl (lv_at hl 0 rfl) ?_
    obtain ⟨q9, h9⟩ := wc_at (cy := cy) (ad := ad) (ks := ks) (g := g) (u := u1) (κ := .cl) hk.1 True.intro
    refine va_get (D := (dC, dI)) (ci := 7) (v := .ref (ad .rd)) (C := RX7) (T := TX7) (N := 12) hx hb hts inlX7 hown hK hP q9 h9 rfl 2 (by decide) (hts _ mw_23) (fun _ h9 => h9) rfl dX7_keepResult_24 ?_
    clear h9
    obtain ⟨q9, h9⟩ := wc_at (cy := cy) (ad := ad) (ks := ks) (g := g) (u := u1) (κ := .rd) hk.1 True.intro
    refine va_get (D := (dC, dI)) (ci := 5) (v := .int (u1 0 9)) (C := RX5) (T := TX5) (N := 11) hx hb hts inlX5 hown hK hP q9 h9 rfl 5 (by decide) (hts _ mw_391) (fun _ h9 => h9) rfl dX7_keepResult_27 ?_
    clear h9
    have ht := s1 hF
    subst ht
    exact join6 _ _ _ hP hD hS (lv_sub hl [0] rfl)
  · rw [if_pos c3] at hF
    refine lv_iconst (v := (-1)) hx hb dX7_keepResult_19 (by decide) ?_
    refine lv_goto (tgt := 30) hx hb dX7_keepResult_20 (by decide) ?_
    have ht := s1 hF
    subst ht
    exact join6 _ _ _ hP hD hS (lv_sub hl [0] rfl)
noncomputable def C7_leavesIn (g : CG) (u0 : RS) (a1 : Int32) : Option (Sum Int32 (Int32 × RS)) := (C7_needCard g u0 (a1)).bind fun t1 => tr t1 fun t3 => (C7_copyOfLine g u0).bind fun t4 => (C7_ticksUntil_e0 g t4 1 (a1) (2000)).bind fun t6 => some (.inr ((t6.1), (t6.2)))
set_option maxHeartbeats 4000000 in
set_option maxRecDepth 100000 in
theorem c_X7_leavesIn (l : Launch) (dC : Nat → ClassId) (dI : Nat → Nat → Nat) (cy : Nat → ClassId) (nb : Nat → Nat) (ad : CK → Nat) (ks : List CK) (g : CG) (hk : GA nb ad g ks) (u0 : RS) (a1 : Int32) (ro : Int32) (uz : RS) (sz : Nat) (hF : C7_leavesIn g u0 a1 = some (.inr (ro, uz))) : Met l yX7_leavesIn (wsg yX7_leavesIn cX7_leavesIn 2 (some .int)) ({ frames := 13, cells := 0, slots := 0, locals := 800 }) (va_Pc [.ref (ad .cl), .int a1] (fun U => U.heap.size = sz ∧ va_P (dC, dI) vwCl (WC cy ad ks g u0) U.heap ∧ va_K (dC, dI) vwCl (tyL cy) U ∧ va_D (fun _ => True) (WC cy ad ks g u0) ∧ GE nb (va_A (WC cy ad ks g u0) sz) U)) (va_Qi (fun (r : Int32) (_ : Unit) => r = ro) (fun _ t => va_P (dC, dI) vwCl (WC cy ad ks g uz) t.heap ∧ va_D (va_A (WC cy ad ks g u0) sz) (WC cy ad ks g uz)) (va_A (WC cy ad ks g u0) sz)) 0 0 (va_A (WC cy ad ks g u0) sz) := by
  refine Met.ofW (cc := cX7_leavesIn) (maxL := 2) (ret := (some .int)) pn_X7 rfl ?_
  intro p e s m args below meth c s₁ B hml hv
  obtain ⟨rfl, hsz, hP, hK, hD0, hE⟩ := hv
  have hx := B.exec
  have hb := B.bytes
  have hr := B.returns
  have hts0 := atoms_spec (ws := (wsg yX7_leavesIn cX7_leavesIn 2 (some .int))) B.pre
  have hts : ∀ w ∈ wsL_law, w.before _ s = true := fun w h => hts0 w (List.mem_cons_of_mem _ h)
  have hown : s.vm.findClass RX7 = some m.cls := by have h9 := findClass_of_methodNamed B.named; exact h9
  have hlocks := B.notSynchronized
  subst hsz
  have hD := hD0.self (sz := s.heap.size)
  generalize hAe : va_A (WC cy ad ks g u0) s.heap.size = A at hD hE ⊢
  have hA : ∀ q : Nat, s.heap.size ≤ q → A q := fun q h => by rw [← hAe]; exact Or.inr h
  have hS : va_S A s.heap s.heap [] := va_S.rf
  have hl := lv_entry ([.ref (ad .cl), .int a1]) (n := 2) (Nat.le_of_ble_eq_true rfl)
  rw [lg_entry_eq]
  generalize (lg_sl ([.ref (ad .cl), .int a1]) ++ List.replicate (2 - (lg_sl ([.ref (ad .cl), .int a1])).length) Slot.unset).toArray = ls at hl ⊢
  have hl : lv_has ls 2 [(0, .ref (ad .cl)), (1, .int a1)] := hl
  generalize hHe : s.heap = H at hP hS ⊢
  have hS : va_S A s.heap H [] := by rw [hHe]; exact hS
  refine my_Q (fun Qn hQ => ?_)
  simp only [C7_leavesIn] at hF
  refine lv_aload_n hx hb dX7_leavesIn_0 rfl (lv_at hl 0 rfl) ?_
  refine lv_iload_n hx hb dX7_leavesIn_1 rfl (lv_at hl 1 rfl) ?_
  obtain ⟨t1, e2, hF⟩ := ob hF
  rcases t1 with xz9 | t3
  · have hF : some (Sum.inl xz9) = some (.inr (ro, uz)) := hF
    cases hF
  · dsimp only [tr] at hF
    have hPc := hP
    have hDc := hD
    have hFc := my_free hD hS hA
    obtain ⟨q8, h8⟩ := wc_at (cy := cy) (ad := ad) (ks := ks) (g := g) (u := u0) (κ := .cl) hk.1 True.intro
    refine va_callv (va_runV (As := [.int a1]) (rest := []) ⟨hx, hb, hml, hown, hts⟩ (c_X7_needCard l dC dI cy nb ad ks g hk u0 (a1) H.size e2) (cwV 1 hts (gV mw_666 mw_667 mw_668 mw_2 mw_669) rfl rfl rfl (by decide +kernel) ⟨Nat.le_of_ble_eq_true rfl, Nat.le_of_ble_eq_true rfl⟩) (my_preV hPc hK hDc hE hS hFc (va_recv (q := (RX7, TX7, 12)) hK hP (ci := 7) (q0 := q8) rfl h8)) rfl rfl hl.1 rfl (lv_room (Nat.le_of_ble_eq_true rfl)) dX7_leavesIn_2 ⟨Nat.le_of_ble_eq_true rfl, Nat.le_of_ble_eq_true rfl⟩) hS (fun q _ h => hFc q h) hFc (fun u t H1 locs ht hvm hw hB hz1 hk1 hS => ?_)
    clear h8
    obtain ⟨hP1, hD1⟩ := hB
    rw [ht] at hP1
    have hP := hP1
    have hD := hD1.weaken (fun k q _ h => hFc q.1 h)
    generalize H1 = H at hP hS ⊢
    clear hP1 hD1 hPc hDc hFc hk1 hz1 hvm ht
    refine lv_aload_n hx hb dX7_leavesIn_5 rfl (lv_at hl 0 rfl) ?_
    obtain ⟨t4, e5, hF⟩ := ob hF
    have hPc := hP
    have hDc := hD
    have hFc := my_free hD hS hA
    obtain ⟨q8, h8⟩ := wc_at (cy := cy) (ad := ad) (ks := ks) (g := g) (u := u0) (κ := .cl) hk.1 True.intro
    refine va_callr (va_runV (As := []) (rest := []) ⟨hx, hb, hml, hown, hts⟩ (c_X7_copyOfLine l dC dI cy nb ad ks g hk u0 (t4) H.size e5) (cwV 0 hts (gV mw_1298 mw_1299 mw_1300 mw_2 mw_1301) rfl rfl rfl (by decide +kernel) ⟨Nat.le_of_ble_eq_true rfl, Nat.le_of_ble_eq_true rfl⟩) (my_preV hPc hK hDc hE hS hFc (va_recv (q := (RX7, TX7, 12)) hK hP (ci := 7) (q0 := q8) rfl h8)) rfl rfl hl.1 rfl (lv_room (Nat.le_of_ble_eq_true rfl)) dX7_leavesIn_6 ⟨Nat.le_of_ble_eq_true rfl, Nat.le_of_ble_eq_true rfl⟩) hS (fun q _ h => hFc q h) hFc (fun u ra t H1 locs ht hvm hw hB hz1 hk1 hS => ?_)
    clear h8
    obtain ⟨hra, hP1, hD1⟩ := hB
    rw [ht] at hP1
    have hP := hP1
    have hD := hD1.weaken (fun k q _ h => hFc q.1 h)
    generalize H1 = H at hP hS ⊢
    clear hP1 hD1 hPc hDc hFc hk1 hz1 hvm ht
    obtain rfl := hra.symm
    refine va_gets (C := RX2) (n := "CARD_LEFT") (d := "LCardLine$Event;") (ref := "CardLine$Event") (v := .ref (nb (40 + 0))) hx hb (hE.evk 0 rfl).1 hS hown (hts _ mw_1297) (fun _ h9 => h9) dX7_leavesIn_9 ?_
    refine lv_iload_n hx hb dX7_leavesIn_12 rfl (lv_at hl 1 rfl) ?_
    refine lv_sipush (v := 2000) hx hb dX7_leavesIn_13 (by decide) ?_
    obtain ⟨t6, e7, hF⟩ := ob hF
    have hPc := hP
    have hDc := hD
    have hFc := my_free hD hS hA
    refine va_calli (va_runS (As := [.ref (ad (.ln 1)), .ref (nb (40 + 0)), .int a1, .int 2000]) (rest := []) ⟨hx, hb, hml, hown, hts⟩ (c_X7_ticksUntil_e0 l dC dI cy nb ad ks g hk t4 1 (a1) (2000) (t6.1) (t6.2) H.size (Or.inl (by decide)) e7) (va_cwS 4 hts (gS mw_1302 mw_1303 mw_2 mw_1304) rfl rfl rfl (by decide +kernel) ⟨Nat.le_of_ble_eq_true rfl, Nat.le_of_ble_eq_true rfl⟩) (my_preS hPc hK hDc hE hS hFc) rfl rfl hl.1 rfl (lv_room (Nat.le_of_ble_eq_true rfl)) dX7_leavesIn_16 ⟨Nat.le_of_ble_eq_true rfl, Nat.le_of_ble_eq_true rfl⟩) hS (fun q _ h => hFc q h) hFc (fun r u t H1 locs ht hvm hw hB hz1 hk1 hS => ?_)
    obtain ⟨hP1, hD1⟩ := hB
    rw [ht] at hP1
    have hP := hP1
    have hD := hD1.weaken (fun k q _ h => hFc q.1 h)
    generalize H1 = H at hP hS ⊢
    clear hP1 hD1 hPc hDc hFc hk1 hz1 hvm ht
    obtain rfl := hw.symm
    have hZ := s3 hF
    have zro : (t6.1) = ro := (congrArg (fun q => q.1) hZ)
    have zuz : (t6.2) = uz := (congrArg (fun q => q.2) hZ)
    have hP9 : va_P (dC, dI) vwCl (WC cy ad ks g uz) H := by rw [← zuz]; exact hP
    have hD9 : va_D A (WC cy ad ks g uz) := by rw [← zuz]; exact hD
    rw [hQ]
    exact W.iret (v := (t6.1)) hx hb hr (fun t ht hW => ⟨⟨(t6.1), (), rfl, zro, by rw [ht]; exact hP9, hD9⟩, hS.F ht⟩) hS.2.2 dX7_leavesIn_19
noncomputable def C7_leftAt (g : CG) (u0 : RS) (a1 : Int32) : Option (Int32) := (if a1 < 0 then (some (-1 : Int32)) else (if (u0 (400 + 0) 3) ≤ a1 then (some (-1 : Int32)) else ((rdo u0 (10 + 0) 887 30 a1).bind fun x6 => some x6)) : Option (Int32)).bind fun t2 => some t2
set_option maxHeartbeats 4000000 in
set_option maxRecDepth 100000 in
theorem c_X7_leftAt (l : Launch) (dC : Nat → ClassId) (dI : Nat → Nat → Nat) (cy : Nat → ClassId) (nb : Nat → Nat) (ad : CK → Nat) (ks : List CK) (g : CG) (hk : GA nb ad g ks) (u0 : RS) (a1 : Int32) (ro : Int32) (sz : Nat) (hF : C7_leftAt g u0 a1 = some ro) : Met l yX7_leftAt (wsg yX7_leftAt cX7_leftAt 2 (some .int)) ({ frames := 7, cells := 0, slots := 0, locals := 200 }) (va_Pc [.ref (ad .cl), .int a1] (fun U => U.heap.size = sz ∧ va_P (dC, dI) vwCl (WC cy ad ks g u0) U.heap ∧ va_K (dC, dI) vwCl (tyL cy) U ∧ va_D (fun _ => True) (WC cy ad ks g u0) ∧ GE nb (va_A (WC cy ad ks g u0) sz) U)) (va_Qi (fun (r : Int32) (_ : Unit) => r = ro) (fun _ t => va_P (dC, dI) vwCl (WC cy ad ks g u0) t.heap ∧ va_D (va_A (WC cy ad ks g u0) sz) (WC cy ad ks g u0)) (va_A (WC cy ad ks g u0) sz)) 0 0 (va_A (WC cy ad ks g u0) sz) := by
  refine Met.ofW (cc := cX7_leftAt) (maxL := 2) (ret := (some .int)) pn_X7 rfl ?_
  intro p e s m args below meth c s₁ B hml hv
  obtain ⟨rfl, hsz, hP, hK, hD0, hE⟩ := hv
  have hx := B.exec
  have hb := B.bytes
  have hr := B.returns
  have hts0 := atoms_spec (ws := (wsg yX7_leftAt cX7_leftAt 2 (some .int))) B.pre
  have hts : ∀ w ∈ wsL_law, w.before _ s = true := fun w h => hts0 w (List.mem_cons_of_mem _ h)
  have hown : s.vm.findClass RX7 = some m.cls := by have h9 := findClass_of_methodNamed B.named; exact h9
  have hlocks := B.notSynchronized
  subst hsz
  have hD := hD0.self (sz := s.heap.size)
  generalize hAe : va_A (WC cy ad ks g u0) s.heap.size = A at hD hE ⊢
  have hA : ∀ q : Nat, s.heap.size ≤ q → A q := fun q h => by rw [← hAe]; exact Or.inr h
  have hS : va_S A s.heap s.heap [] := va_S.rf
  have hl := lv_entry ([.ref (ad .cl), .int a1]) (n := 2) (Nat.le_of_ble_eq_true rfl)
  rw [lg_entry_eq]
  generalize (lg_sl ([.ref (ad .cl), .int a1]) ++ List.replicate (2 - (lg_sl ([.ref (ad .cl), .int a1])).length) Slot.unset).toArray = ls at hl ⊢
  have hl : lv_has ls 2 [(0, .ref (ad .cl)), (1, .int a1)] := hl
  generalize hHe : s.heap = H at hP hS ⊢
  have hS : va_S A s.heap H [] := by rw [hHe]; exact hS
  refine my_Q (fun Qn hQ => ?_)
  simp only [C7_leftAt] at hF
  refine lv_iload_n hx hb dX7_leftAt_0 rfl (lv_at hl 1 rfl) ?_
  obtain ⟨t2, hJ3, hF⟩ := ob hF
  have join4 : ∀ (H : Heap) (locs : List Loc) (ls : Array Slot), va_P (dC, dI) vwCl (WC cy ad ks g u0) H → va_D A (WC cy ad ks g u0) → va_S A s.heap H locs → lv_has ls 2 [(0, .ref (ad .cl)), (1, .int a1)] → W p l e (headSpec (wsg yX7_leftAt cX7_leftAt 2 (some .int)) ({ frames := 7, cells := 0, slots := 0, locals := 200 })).room s m ([.ref (ad .cl), .int a1] : List Value).toArray below meth c H locs 0 0 Qn (F0 m 30 ls [.int t2]) := by
    intro H locs ls hP hD hS hl
    have hZ := s1 hF
    have zro : t2 = ro := hZ
    have hP9 : va_P (dC, dI) vwCl (WC cy ad ks g u0) H := by exact hP
    have hD9 : va_D A (WC cy ad ks g u0) := by exact hD
    rw [hQ]
    exact W.iret (v := t2) hx hb hr (fun t ht hW => ⟨⟨t2, (), rfl, zro, by rw [ht]; exact hP9, hD9⟩, hS.F ht⟩) hS.2.2 dX7_leftAt_30
  clear hF
  have hF := hJ3
  clear hJ3
  refine lv_if_lt (tgt := 29) hx hb dX7_leftAt_1 (by decide) (fun c1 => ?_) (fun c1 => ?_)
  · rw [if_pos c1] at hF
    refine lv_iconst (v := (-1)) hx hb dX7_leftAt_29 (by decide) ?_
    have ht := s1 hF
    subst ht
    exact join4 _ _ _ hP hD hS (lv_sub hl [0, 1] rfl)
  · rw [if_neg c1] at hF
    refine lv_iload_n hx hb dX7_leftAt_4 rfl (lv_at hl 1 rfl) ?_
    refine lv_aload_n hx hb dX7_leftAt_5 rfl (lv_at hl 0 rfl) ?_
    obtain ⟨q9, h9⟩ := wc_at (cy := cy) (ad := ad) (ks := ks) (g := g) (u := u0) (κ := .cl) hk.1 True.intro
    refine va_get (D := (dC, dI)) (ci := 7) (v := .ref (ad (.ln 0))) (C := RX7) (T := TX7) (N := 12) hx hb hts inlX7 hown hK hP q9 h9 rfl 0 (by decide) (hts _ mw_18) (fun _ h9 => h9) rfl dX7_leftAt_6 ?_
    clear h9
    obtain ⟨q9, h9⟩ := wc_at (cy := cy) (ad := ad) (ks := ks) (g := g) (u := u0) (κ := (.ln 0)) hk.1 (Or.inl (by decide))
    refine va_get (D := (dC, dI)) (ci := 3) (v := .ref (ad (.is 0))) (C := RX3) (T := TX3) (N := 17) hx hb hts inlX3 hown hK hP q9 h9 rfl 13 (by decide) (hts _ mw_574) (fun _ h9 => h9) rfl dX7_leftAt_9 ?_
    clear h9
    refine lv_iconst (v := 3) hx hb dX7_leftAt_12 (by decide) ?_
    obtain ⟨q9, h9⟩ := wc_at (cy := cy) (ad := ad) (ks := ks) (g := g) (u := u0) (κ := (.is 0)) hk.1 (Or.inl (by decide))
    refine va_iald hx hb hK hP q9 1 h9 rfl (vp_in_nI (n := 3) (by decide) (by decide)) dX7_leftAt_13 ?_
    refine my_topi (y := (u0 (400 + 0) 3)) (by rfl) ?_
    clear h9
    refine lv_icmp_ge (tgt := 29) hx hb dX7_leftAt_14 (by decide) (fun c5 => ?_) (fun c5 => ?_)
    · rw [if_pos c5] at hF
      refine lv_iconst (v := (-1)) hx hb dX7_leftAt_29 (by decide) ?_
      have ht := s1 hF
      subst ht
      exact join4 _ _ _ hP hD hS (lv_sub hl [0, 1] rfl)
    · rw [if_neg c5] at hF
      refine lv_aload_n hx hb dX7_leftAt_17 rfl (lv_at hl 0 rfl) ?_
      obtain ⟨q9, h9⟩ := wc_at (cy := cy) (ad := ad) (ks := ks) (g := g) (u := u0) (κ := .cl) hk.1 True.intro
      refine va_get (D := (dC, dI)) (ci := 7) (v := .ref (ad (.ln 0))) (C := RX7) (T := TX7) (N := 12) hx hb hts inlX7 hown hK hP q9 h9 rfl 0 (by decide) (hts _ mw_18) (fun _ h9 => h9) rfl dX7_leftAt_18 ?_
      clear h9
      obtain ⟨q9, h9⟩ := wc_at (cy := cy) (ad := ad) (ks := ks) (g := g) (u := u0) (κ := (.ln 0)) hk.1 (Or.inl (by decide))
      refine va_get (D := (dC, dI)) (ci := 3) (v := .ref (ad (.lc 0))) (C := RX3) (T := TX3) (N := 17) hx hb hts inlX3 hown hK hP q9 h9 rfl 14 (by decide) (hts _ mw_769) (fun _ h9 => h9) rfl dX7_leftAt_21 ?_
      clear h9
      refine lv_iload_n hx hb dX7_leftAt_24 rfl (lv_at hl 1 rfl) ?_
      obtain ⟨x6, e7, hF⟩ := ob hF
      obtain ⟨q9, h9⟩ := wc_at (cy := cy) (ad := ad) (ks := ks) (g := g) (u := u0) (κ := (.lc 0)) hk.1 (Or.inl (by decide))
      refine va_iald hx hb hK hP q9 1 h9 rfl (rdo_in e7) dX7_leftAt_25 ?_
      refine my_topi (y := x6) (rdo_eq e7) ?_
      clear h9
      refine lv_goto (tgt := 30) hx hb dX7_leftAt_26 (by decide) ?_
      have ht := s1 hF
      subst ht
      exact join4 _ _ _ hP hD hS (lv_sub hl [0, 1] rfl)
noncomputable def C7_leftIn (g : CG) (u0 : RS) (a1 : Int32) : Option (Sum Int32 (Int32 × RS)) := (C7_needRange (a1) (1) (2000)).bind fun t1 => tr t1 fun t3 => (C7_copyBehind g u0 (a1)).bind fun t4 => some (.inr ((t4 (400 + 1) 3), t4))
set_option maxHeartbeats 4000000 in
set_option maxRecDepth 100000 in
theorem c_X7_leftIn (l : Launch) (dC : Nat → ClassId) (dI : Nat → Nat → Nat) (cy : Nat → ClassId) (nb : Nat → Nat) (ad : CK → Nat) (ks : List CK) (g : CG) (hk : GA nb ad g ks) (u0 : RS) (a1 : Int32) (ro : Int32) (uz : RS) (sz : Nat) (hF : C7_leftIn g u0 a1 = some (.inr (ro, uz))) : Met l yX7_leftIn (wsg yX7_leftIn cX7_leftIn 2 (some .int)) ({ frames := 13, cells := 0, slots := 0, locals := 800 }) (va_Pc [.ref (ad .cl), .int a1] (fun U => U.heap.size = sz ∧ va_P (dC, dI) vwCl (WC cy ad ks g u0) U.heap ∧ va_K (dC, dI) vwCl (tyL cy) U ∧ va_D (fun _ => True) (WC cy ad ks g u0) ∧ GE nb (va_A (WC cy ad ks g u0) sz) U)) (va_Qi (fun (r : Int32) (_ : Unit) => r = ro) (fun _ t => va_P (dC, dI) vwCl (WC cy ad ks g uz) t.heap ∧ va_D (va_A (WC cy ad ks g u0) sz) (WC cy ad ks g uz)) (va_A (WC cy ad ks g u0) sz)) 0 0 (va_A (WC cy ad ks g u0) sz) := by
  refine Met.ofW (cc := cX7_leftIn) (maxL := 2) (ret := (some .int)) pn_X7 rfl ?_
  intro p e s m args below meth c s₁ B hml hv
  obtain ⟨rfl, hsz, hP, hK, hD0, hE⟩ := hv
  have hx := B.exec
  have hb := B.bytes
  have hr := B.returns
  have hts0 := atoms_spec (ws := (wsg yX7_leftIn cX7_leftIn 2 (some .int))) B.pre
  have hts : ∀ w ∈ wsL_law, w.before _ s = true := fun w h => hts0 w (List.mem_cons_of_mem _ h)
  have hown : s.vm.findClass RX7 = some m.cls := by have h9 := findClass_of_methodNamed B.named; exact h9
  have hlocks := B.notSynchronized
  subst hsz
  have hD := hD0.self (sz := s.heap.size)
  generalize hAe : va_A (WC cy ad ks g u0) s.heap.size = A at hD hE ⊢
  have hA : ∀ q : Nat, s.heap.size ≤ q → A q := fun q h => by rw [← hAe]; exact Or.inr h
  have hS : va_S A s.heap s.heap [] := va_S.rf
  have hl := lv_entry ([.ref (ad .cl), .int a1]) (n := 2) (Nat.le_of_ble_eq_true rfl)
  rw [lg_entry_eq]
  generalize (lg_sl ([.ref (ad .cl), .int a1]) ++ List.replicate (2 - (lg_sl ([.ref (ad .cl), .int a1])).length) Slot.unset).toArray = ls at hl ⊢
  have hl : lv_has ls 2 [(0, .ref (ad .cl)), (1, .int a1)] := hl
  generalize hHe : s.heap = H at hP hS ⊢
  have hS : va_S A s.heap H [] := by rw [hHe]; exact hS
  refine my_Q (fun Qn hQ => ?_)
  simp only [C7_leftIn] at hF
  refine lv_iload_n hx hb dX7_leftIn_0 rfl (lv_at hl 1 rfl) ?_
  refine lv_iconst (v := 1) hx hb dX7_leftIn_1 (by decide) ?_
  refine lv_sipush (v := 2000) hx hb dX7_leftIn_2 (by decide) ?_
  obtain ⟨t1, e2, hF⟩ := ob hF
  rcases t1 with xz9 | t3
  · have hF : some (Sum.inl xz9) = some (.inr (ro, uz)) := hF
    cases hF
  · dsimp only [tr] at hF
    have hPc : va_P (dC, dI) vwCl ([] : va_W) H := fun k q h => by simp at h
    have hDc : va_D A ([] : va_W) := ⟨fun i j p q h => by simp at h, fun k q h => by simp at h⟩
    have hFc := my_free0 hS hA
    refine va_callv (va_runS (As := [.int a1, .int 1, .int 2000]) (rest := []) ⟨hx, hb, hml, hown, hts⟩ (c_X7_needRange l dC dI cy nb (a1) (1) (2000) H.size e2) (va_cwS 3 hts (gS mw_815 mw_816 mw_2 mw_817) rfl rfl rfl (by decide +kernel) ⟨Nat.le_of_ble_eq_true rfl, Nat.le_of_ble_eq_true rfl⟩) (my_preS hPc hK hDc hE hS hFc) rfl rfl hl.1 rfl (lv_room (Nat.le_of_ble_eq_true rfl)) dX7_leftIn_5 ⟨Nat.le_of_ble_eq_true rfl, Nat.le_of_ble_eq_true rfl⟩) hS (fun q _ h => hFc q h) hFc (fun u t H1 locs ht hvm hw hB hz1 hk1 hS => ?_)
    obtain ⟨hP1, hD1⟩ := hB
    rw [ht] at hP1
    have hP := my_keep hP hk1
    generalize H1 = H at hP hS ⊢
    clear hP1 hD1 hPc hDc hFc hk1 hz1 hvm ht
    refine lv_aload_n hx hb dX7_leftIn_8 rfl (lv_at hl 0 rfl) ?_
    refine lv_iload_n hx hb dX7_leftIn_9 rfl (lv_at hl 1 rfl) ?_
    obtain ⟨t4, e5, hF⟩ := ob hF
    have hPc := hP
    have hDc := hD
    have hFc := my_free hD hS hA
    obtain ⟨q8, h8⟩ := wc_at (cy := cy) (ad := ad) (ks := ks) (g := g) (u := u0) (κ := .cl) hk.1 True.intro
    refine va_callr (va_runV (As := [.int a1]) (rest := []) ⟨hx, hb, hml, hown, hts⟩ (c_X7_copyBehind l dC dI cy nb ad ks g hk u0 (a1) (t4) H.size e5) (cwV 1 hts (gV mw_1370 mw_1371 mw_1372 mw_2 mw_1373) rfl rfl rfl (by decide +kernel) ⟨Nat.le_of_ble_eq_true rfl, Nat.le_of_ble_eq_true rfl⟩) (my_preV hPc hK hDc hE hS hFc (va_recv (q := (RX7, TX7, 12)) hK hP (ci := 7) (q0 := q8) rfl h8)) rfl rfl hl.1 rfl (lv_room (Nat.le_of_ble_eq_true rfl)) dX7_leftIn_10 ⟨Nat.le_of_ble_eq_true rfl, Nat.le_of_ble_eq_true rfl⟩) hS (fun q _ h => hFc q h) hFc (fun u ra t H1 locs ht hvm hw hB hz1 hk1 hS => ?_)
    clear h8
    obtain ⟨hra, hP1, hD1⟩ := hB
    rw [ht] at hP1
    have hP := hP1
    have hD := hD1.weaken (fun k q _ h => hFc q.1 h)
    generalize H1 = H at hP hS ⊢
    clear hP1 hD1 hPc hDc hFc hk1 hz1 hvm ht
    obtain rfl := hra.symm
    obtain ⟨q9, h9⟩ := wc_at (cy := cy) (ad := ad) (ks := ks) (g := g) (u := t4) (κ := (.ln 1)) hk.1 (Or.inl (by decide))
    refine va_get (D := (dC, dI)) (ci := 3) (v := .ref (ad (.is 1))) (C := RX3) (T := TX3) (N := 17) hx hb hts inlX3 hown hK hP q9 h9 rfl 13 (by decide) (hts _ mw_574) (fun _ h9 => h9) rfl dX7_leftIn_13 ?_
    clear h9
    refine lv_iconst (v := 3) hx hb dX7_leftIn_16 (by decide) ?_
    obtain ⟨q9, h9⟩ := wc_at (cy := cy) (ad := ad) (ks := ks) (g := g) (u := t4) (κ := (.is 1)) hk.1 (Or.inl (by decide))
    refine va_iald hx hb hK hP q9 1 h9 rfl (vp_in_nI (n := 3) (by decide) (by decide)) dX7_leftIn_17 ?_
    refine my_topi (y := (t4 (400 + 1) 3)) (by rfl) ?_
    clear h9
    have hZ := s3 hF
    have zro : (t4 (400 + 1) 3) = ro := (congrArg (fun q => q.1) hZ)
    have zuz : t4 = uz := (congrArg (fun q => q.2) hZ)
    have hP9 : va_P (dC, dI) vwCl (WC cy ad ks g uz) H := by rw [← zuz]; exact hP
    have hD9 : va_D A (WC cy ad ks g uz) := by rw [← zuz]; exact hD
    rw [hQ]
    exact W.iret (v := (t4 (400 + 1) 3)) hx hb hr (fun t ht hW => ⟨⟨(t4 (400 + 1) 3), (), rfl, zro, by rw [ht]; exact hP9, hD9⟩, hS.F ht⟩) hS.2.2 dX7_leftIn_18
noncomputable def C7_letter (g : CG) (u0 : RS) (a1 : Int32) (a2 : Int32) : Option (Sum Int32 (Int32)) := (C7_needCard g u0 (a1)).bind fun t1 => tr t1 fun t3 => (ix 30 a1).bind fun n4 => (if a2 < 0 then (some (-1 : Int32)) else ((tln g u0 (u0 (10 + 0) (137 + 25 * n4 + 2))).bind fun x10 => if x10 ≤ a2 then (some (-1 : Int32)) else ((tbt g u0 (u0 (10 + 0) (137 + 25 * n4 + 2)) a2).bind fun x13 => some x13)) : Option (Int32)).bind fun t7 => some (.inr t7)
set_option maxHeartbeats 4000000 in
set_option maxRecDepth 100000 in
theorem c_X7_letter (l : Launch) (dC : Nat → ClassId) (dI : Nat → Nat → Nat) (cy : Nat → ClassId) (nb : Nat → Nat) (ad : CK → Nat) (ks : List CK) (g : CG) (hk : GA nb ad g ks) (u0 : RS) (a1 : Int32) (a2 : Int32) (ro : Int32) (sz : Nat) (hF : C7_letter g u0 a1 a2 = some (.inr ro)) : Met l yX7_letter (wsg yX7_letter cX7_letter 4 (some .int)) ({ frames := 8, cells := 0, slots := 0, locals := 300 }) (va_Pc [.ref (ad .cl), .int a1, .int a2] (fun U => U.heap.size = sz ∧ va_P (dC, dI) vwCl (WC cy ad ks g u0) U.heap ∧ va_K (dC, dI) vwCl (tyL cy) U ∧ va_D (fun _ => True) (WC cy ad ks g u0) ∧ GE nb (va_A (WC cy ad ks g u0) sz) U)) (va_Qi (fun (r : Int32) (_ : Unit) => r = ro) (fun _ t => va_P (dC, dI) vwCl (WC cy ad ks g u0) t.heap ∧ va_D (va_A (WC cy ad ks g u0) sz) (WC cy ad ks g u0)) (va_A (WC cy ad ks g u0) sz)) 0 0 (va_A (WC cy ad ks g u0) sz) := by
  refine Met.ofW (cc := cX7_letter) (maxL := 4) (ret := (some .int)) pn_X7 rfl ?_
  intro p e s m args below meth c s₁ B hml hv
  obtain ⟨rfl, hsz, hP, hK, hD0, hE⟩ := hv
  have hx := B.exec
  have hb := B.bytes
  have hr := B.returns
  have hts0 := atoms_spec (ws := (wsg yX7_letter cX7_letter 4 (some .int))) B.pre
  have hts : ∀ w ∈ wsL_law, w.before _ s = true := fun w h => hts0 w (List.mem_cons_of_mem _ h)
  have hown : s.vm.findClass RX7 = some m.cls := by have h9 := findClass_of_methodNamed B.named; exact h9
  have hlocks := B.notSynchronized
  subst hsz
  have hD := hD0.self (sz := s.heap.size)
  generalize hAe : va_A (WC cy ad ks g u0) s.heap.size = A at hD hE ⊢
  have hA : ∀ q : Nat, s.heap.size ≤ q → A q := fun q h => by rw [← hAe]; exact Or.inr h
  have hS : va_S A s.heap s.heap [] := va_S.rf
  have hl := lv_entry ([.ref (ad .cl), .int a1, .int a2]) (n := 4) (Nat.le_of_ble_eq_true rfl)
  rw [lg_entry_eq]
  generalize (lg_sl ([.ref (ad .cl), .int a1, .int a2]) ++ List.replicate (4 - (lg_sl ([.ref (ad .cl), .int a1, .int a2])).length) Slot.unset).toArray = ls at hl ⊢
  have hl : lv_has ls 4 [(0, .ref (ad .cl)), (1, .int a1), (2, .int a2)] := hl
  generalize hHe : s.heap = H at hP hS ⊢
  have hS : va_S A s.heap H [] := by rw [hHe]; exact hS
  refine my_Q (fun Qn hQ => ?_)
  simp only [C7_letter] at hF
  refine lv_aload_n hx hb dX7_letter_0 rfl (lv_at hl 0 rfl) ?_
  refine lv_iload_n hx hb dX7_letter_1 rfl (lv_at hl 1 rfl) ?_
  obtain ⟨t1, e2, hF⟩ := ob hF
  rcases t1 with xz9 | t3
  · have hF : some (Sum.inl xz9) = some (.inr ro) := hF
    cases hF
  · dsimp only [tr] at hF
    have hPc := hP
    have hDc := hD
    have hFc := my_free hD hS hA
    obtain ⟨q8, h8⟩ := wc_at (cy := cy) (ad := ad) (ks := ks) (g := g) (u := u0) (κ := .cl) hk.1 True.intro
    refine va_callv (va_runV (As := [.int a1]) (rest := []) ⟨hx, hb, hml, hown, hts⟩ (c_X7_needCard l dC dI cy nb ad ks g hk u0 (a1) H.size e2) (cwV 1 hts (gV mw_666 mw_667 mw_668 mw_2 mw_669) rfl rfl rfl (by decide +kernel) ⟨Nat.le_of_ble_eq_true rfl, Nat.le_of_ble_eq_true rfl⟩) (my_preV hPc hK hDc hE hS hFc (va_recv (q := (RX7, TX7, 12)) hK hP (ci := 7) (q0 := q8) rfl h8)) rfl rfl hl.1 rfl (lv_room (Nat.le_of_ble_eq_true rfl)) dX7_letter_2 ⟨Nat.le_of_ble_eq_true rfl, Nat.le_of_ble_eq_true rfl⟩) hS (fun q _ h => hFc q h) hFc (fun u t H1 locs ht hvm hw hB hz1 hk1 hS => ?_)
    clear h8
    obtain ⟨hP1, hD1⟩ := hB
    rw [ht] at hP1
    have hP := hP1
    have hD := hD1.weaken (fun k q _ h => hFc q.1 h)
    generalize H1 = H at hP hS ⊢
    clear hP1 hD1 hPc hDc hFc hk1 hz1 hvm ht
    refine lv_aload_n hx hb dX7_letter_5 rfl (lv_at hl 0 rfl) ?_
    obtain ⟨q9, h9⟩ := wc_at (cy := cy) (ad := ad) (ks := ks) (g := g) (u := u0) (κ := .cl) hk.1 True.intro
    refine va_get (D := (dC, dI)) (ci := 7) (v := .ref (ad (.ln 0))) (C := RX7) (T := TX7) (N := 12) hx hb hts inlX7 hown hK hP q9 h9 rfl 0 (by decide) (hts _ mw_18) (fun _ h9 => h9) rfl dX7_letter_6 ?_
    clear h9
    obtain ⟨q9, h9⟩ := wc_at (cy := cy) (ad := ad) (ks := ks) (g := g) (u := u0) (κ := (.ln 0)) hk.1 (Or.inl (by decide))
    refine va_get (D := (dC, dI)) (ci := 3) (v := .ref (ad (.cs 0))) (C := RX3) (T := TX3) (N := 17) hx hb hts inlX3 hown hK hP q9 h9 rfl 12 (by decide) (hts _ mw_657) (fun _ h9 => h9) rfl dX7_letter_9 ?_
    clear h9
    refine lv_iload_n hx hb dX7_letter_12 rfl (lv_at hl 1 rfl) ?_
    obtain ⟨n4, e5, hF⟩ := ob hF
    obtain ⟨q9, h9⟩ := wc_at (cy := cy) (ad := ad) (ks := ks) (g := g) (u := u0) (κ := (.cs 0)) hk.1 (Or.inl (by decide))
    refine va_aldq hx hb hK hP q9 8 h9 rfl (ix_in e5) dX7_letter_13 ?_
    refine my_top (y := .ref (ad (.cd 0 n4))) (ixv (F := fun j => ad (.cd 0 j)) e5) ?_
    clear h9
    obtain ⟨q9, h9⟩ := wc_at (cy := cy) (ad := ad) (ks := ks) (g := g) (u := u0) (κ := (.cd 0 n4)) hk.1 ⟨(Or.inl (by decide)), (ix_lt e5)⟩
    refine va_get (D := (dC, dI)) (ci := 2) (v := .ref (ad (.tx (u0 (10 + 0) (137 + 25 * n4 + 2)).toNatClampNeg))) (C := RX1) (T := TX1) (N := 9) hx hb hts inlX1 hown hK hP q9 h9 rfl 2 (by decide) (hts _ mw_660) (fun _ h9 => h9) rfl dX7_letter_14 ?_
    clear h9
    refine lv_astore_n (lv' := [(3, .ref (ad (.tx (u0 (10 + 0) (137 + 25 * n4 + 2)).toNatClampNeg))), (0, .ref (ad .cl)), (1, .int a1), (2, .int a2)]) hx hb dX7_letter_17 rfl hl (by decide) rfl (fun ls hl => ?_)
    refine lv_iload_n hx hb dX7_letter_18 rfl (lv_at hl 3 rfl) ?_
    obtain ⟨t7, hJ8, hF⟩ := ob hF
    have join9 : ∀ (H : Heap) (locs : List Loc) (ls : Array Slot), va_P (dC, dI) vwCl (WC cy ad ks g u0) H → va_D A (WC cy ad ks g u0) → va_S A s.heap H locs → lv_has ls 4 [(3, .ref (ad (.tx (u0 (10 + 0) (137 + 25 * n4 + 2)).toNatClampNeg))), (0, .ref (ad .cl)), (1, .int a1), (2, .int a2)] → W p l e (headSpec (wsg yX7_letter cX7_letter 4 (some .int)) ({ frames := 8, cells := 0, slots := 0, locals := 300 })).room s m ([.ref (ad .cl), .int a1, .int a2] : List Value).toArray below meth c H locs 0 0 Qn (F0 m 35 ls [.int t7]) := by
      intro H locs ls hP hD hS hl
      have hZ := s3 hF
      have zro : t7 = ro := hZ
      have hP9 : va_P (dC, dI) vwCl (WC cy ad ks g u0) H := by exact hP
      have hD9 : va_D A (WC cy ad ks g u0) := by exact hD
      rw [hQ]
      exact W.iret (v := t7) hx hb hr (fun t ht hW => ⟨⟨t7, (), rfl, zro, by rw [ht]; exact hP9, hD9⟩, hS.F ht⟩) hS.2.2 dX7_letter_35
    clear hF
    have hF := hJ8
    clear hJ8
    refine lv_if_lt (tgt := 34) hx hb dX7_letter_19 (by decide) (fun c6 => ?_) (fun c6 => ?_)
    · rw [if_pos c6] at hF
      refine lv_iconst (v := (-1)) hx hb dX7_letter_34 (by decide) ?_
      have ht := s1 hF
      subst ht
      exact join9 _ _ _ hP hD hS (lv_sub hl [0, 1, 2, 3] rfl)
    · rw [if_neg c6] at hF
      refine lv_iload_n hx hb dX7_letter_22 rfl (lv_at hl 3 rfl) ?_
      refine lv_aload_n hx hb dX7_letter_23 rfl (lv_at hl 0 rfl) ?_
      obtain ⟨x10, e11, hF⟩ := ob hF
      obtain ⟨q9, h9⟩ := wc_at (cy := cy) (ad := ad) (ks := ks) (g := g) (u := u0) (κ := (.tx (u0 (10 + 0) (137 + 25 * n4 + 2)).toNatClampNeg)) hk.1 (tln_h e11)
      refine va_alen (v := x10) hx hb hK hP q9 0 h9 (ty := .byte) rfl (tln_l e11) dX7_letter_24 ?_
      clear h9
      refine lv_icmp_ge (tgt := 34) hx hb dX7_letter_25 (by decide) (fun c12 => ?_) (fun c12 => ?_)
      · rw [if_pos c12] at hF
        refine lv_iconst (v := (-1)) hx hb dX7_letter_34 (by decide) ?_
        have ht := s1 hF
        subst ht
        exact join9 _ _ _ hP hD hS (lv_sub hl [0, 1, 2, 3] rfl)
      · rw [if_neg c12] at hF
        refine lv_aload_n hx hb dX7_letter_28 rfl (lv_at hl 0 rfl) ?_
        refine lv_iload_n hx hb dX7_letter_29 rfl (lv_at hl 3 rfl) ?_
        obtain ⟨x13, e14, hF⟩ := ob hF
        obtain ⟨q9, h9⟩ := wc_at (cy := cy) (ad := ad) (ks := ks) (g := g) (u := u0) (κ := (.tx (u0 (10 + 0) (137 + 25 * n4 + 2)).toNatClampNeg)) hk.1 (tbt_h e14)
        refine va_bald hx hb hK hP q9 0 h9 rfl (tbt_in e14) dX7_letter_30 ?_
        refine my_topi (y := x13) (tbt_eq e14) ?_
        clear h9
        refine lv_goto (tgt := 35) hx hb dX7_letter_31 (by decide) ?_
        have ht := s1 hF
        subst ht
        exact join9 _ _ _ hP hD hS (lv_sub hl [0, 1, 2, 3] rfl)
noncomputable def C7_load (g : CG) (u0 : RS)  : Option (Int32 × CG × RS) := (C5_readDescription g u0 1).bind fun t1 => (C7_keepResult (t1.1) (t1.2)).bind fun u7 => if (u7 0 1) = 0 then ((C3_copyFrom (t1.1) u7 0 1).bind fun u10 => (pt u10 0 4 (0)).bind fun u12 => (pt u12 0 0 (0)).bind fun u14 => some ((u14 (10 + 0) 7), (t1.1), u14)) else (some (((-100) - (u7 0 8)), (t1.1), u7))
set_option maxHeartbeats 4000000 in
set_option maxRecDepth 100000 in
theorem c_X7_load (l : Launch) (dC : Nat → ClassId) (dI : Nat → Nat → Nat) (cy : Nat → ClassId) (nb : Nat → Nat) (ad : CK → Nat) (ks : List CK) (g : CG) (hk : GA nb ad g ks) (u0 : RS)  (ro : Int32) (gz : CG) (uz : RS) (sz : Nat) (hF : C7_load g u0  = some (ro, gz, uz)) : Met l yX7_load (wsg yX7_load cX7_load 1 (some .int)) ({ frames := 15, cells := 602, slots := 9632, locals := 1000 }) (va_Pc [.ref (ad .cl)] (fun U => U.heap.size = sz ∧ va_P (dC, dI) vwCl (WC cy ad ks g u0) U.heap ∧ va_K (dC, dI) vwCl (tyL cy) U ∧ va_D (fun _ => True) (WC cy ad ks g u0) ∧ GE nb (va_A (WC cy ad ks g u0) sz) U)) (va_Qi (fun (r : Int32) (_ : Unit) => r = ro) (fun _ t => ∃ (ad' : CK → Nat) (ks' : List CK), GA nb ad' gz ks' ∧ AX g ad gz ad' ∧ va_P (dC, dI) vwCl (WC cy ad' ks' gz uz) t.heap ∧ va_D (va_A (WC cy ad ks g u0) sz) (WC cy ad' ks' gz uz)) (va_A (WC cy ad ks g u0) sz)) 602 9632 (va_A (WC cy ad ks g u0) sz) := by
  refine Met.ofW (cc := cX7_load) (maxL := 1) (ret := (some .int)) pn_X7 rfl ?_
  intro p e s m args below meth c s₁ B hml hv
  obtain ⟨rfl, hsz, hP, hK, hD0, hE⟩ := hv
  have hx := B.exec
  have hb := B.bytes
  have hr := B.returns
  have hts0 := atoms_spec (ws := (wsg yX7_load cX7_load 1 (some .int))) B.pre
  have hts : ∀ w ∈ wsL_law, w.before _ s = true := fun w h => hts0 w (List.mem_cons_of_mem _ h)
  have hown : s.vm.findClass RX7 = some m.cls := by have h9 := findClass_of_methodNamed B.named; exact h9
  have hlocks := B.notSynchronized
  subst hsz
  have hD := hD0.self (sz := s.heap.size)
  generalize hAe : va_A (WC cy ad ks g u0) s.heap.size = A at hD hE ⊢
  have hA : ∀ q : Nat, s.heap.size ≤ q → A q := fun q h => by rw [← hAe]; exact Or.inr h
  have hS : va_S A s.heap s.heap [] := va_S.rf
  have hl := lv_entry ([.ref (ad .cl)]) (n := 1) (Nat.le_of_ble_eq_true rfl)
  rw [lg_entry_eq]
  generalize (lg_sl ([.ref (ad .cl)]) ++ List.replicate (1 - (lg_sl ([.ref (ad .cl)])).length) Slot.unset).toArray = ls at hl ⊢
  have hl : lv_has ls 1 [(0, .ref (ad .cl))] := hl
  generalize hHe : s.heap = H at hP hS ⊢
  have hS : va_S A s.heap H [] := by rw [hHe]; exact hS
  refine my_Q (fun Qn hQ => ?_)
  simp only [C7_load] at hF
  refine lv_aload_n hx hb dX7_load_0 rfl (lv_at hl 0 rfl) ?_
  obtain ⟨q9, h9⟩ := wc_at (cy := cy) (ad := ad) (ks := ks) (g := g) (u := u0) (κ := .cl) hk.1 True.intro
  refine va_get (D := (dC, dI)) (ci := 7) (v := .ref (ad .rd)) (C := RX7) (T := TX7) (N := 12) hx hb hts inlX7 hown hK hP q9 h9 rfl 2 (by decide) (hts _ mw_23) (fun _ h9 => h9) rfl dX7_load_1 ?_
  clear h9
  refine lv_aload_n hx hb dX7_load_4 rfl (lv_at hl 0 rfl) ?_
  obtain ⟨q9, h9⟩ := wc_at (cy := cy) (ad := ad) (ks := ks) (g := g) (u := u0) (κ := .cl) hk.1 True.intro
  refine va_get (D := (dC, dI)) (ci := 7) (v := .ref (ad (.ln 1))) (C := RX7) (T := TX7) (N := 12) hx hb hts inlX7 hown hK hP q9 h9 rfl 1 (by decide) (hts _ mw_19) (fun _ h9 => h9) rfl dX7_load_5 ?_
  clear h9
  obtain ⟨t1, e2, hF⟩ := ob hF
  have hPc := hP
  have hDc := hD
  have hFc := my_free hD hS hA
  obtain ⟨q8, h8⟩ := wc_at (cy := cy) (ad := ad) (ks := ks) (g := g) (u := u0) (κ := .rd) hk.1 True.intro
  refine va_callv (va_runV (As := [.ref (ad (.ln 1))]) (rest := []) ⟨hx, hb, hml, hown, hts⟩ (c_X5_readDescription l dC dI cy nb ad ks g hk u0 1 (t1.1) (t1.2) H.size (Or.inl (by decide)) e2) (cwV 1 hts (gV mw_139 mw_140 mw_141 mw_22 mw_142) rfl rfl rfl (by decide +kernel) ⟨Nat.le_of_ble_eq_true rfl, Nat.le_of_ble_eq_true rfl⟩) (my_preV hPc hK hDc hE hS hFc (va_recv (q := (RX5, TX5, 11)) hK hP (ci := 5) (q0 := q8) rfl h8)) rfl rfl hl.1 rfl (lv_room (Nat.le_of_ble_eq_true rfl)) dX7_load_8 ⟨Nat.le_of_ble_eq_true rfl, Nat.le_of_ble_eq_true rfl⟩) hS (fun q _ h => hFc q h) hFc (fun u t H1 locs ht hvm hw hB hz1 hk1 hS => ?_)
  clear h8
  obtain ⟨ad3, ks4, hk5, ax6, hP1, hD1⟩ := hB
  rw [ht] at hP1
  have hP := hP1
  have hD := hD1.weaken (fun k q _ h => hFc q.1 h)
  generalize H1 = H at hP hS ⊢
  have hl : lv_has ls 1 [(0, .ref (ad3 .cl))] := by rw [(ax6 .cl True.intro).2]; exact hl
  clear hP1 hD1 hPc hDc hFc hk1 hz1 hvm ht
  refine W.widen (k := 602) (n := 9632) (by omega) (by omega) ?_
  refine lv_aload_n hx hb dX7_load_11 rfl (lv_at hl 0 rfl) ?_
  obtain ⟨u7, e8, hF⟩ := ob hF
  have hPc := hP
  have hDc := hD
  have hFc := my_free hD hS hA
  obtain ⟨q8, h8⟩ := wc_at (cy := cy) (ad := ad3) (ks := ks4) (g := (t1.1)) (u := (t1.2)) (κ := .cl) hk5.1 True.intro
  refine va_callv (va_runV (As := []) (rest := []) ⟨hx, hb, hml, hown, hts⟩ (c_X7_keepResult l dC dI cy nb ad3 ks4 (t1.1) hk5 (t1.2) (u7) H.size e8) (cwV 0 hts (gV mw_386 mw_387 mw_388 mw_2 mw_389) rfl rfl rfl (by decide +kernel) ⟨Nat.le_of_ble_eq_true rfl, Nat.le_of_ble_eq_true rfl⟩) (my_preV hPc hK hDc hE hS hFc (va_recv (q := (RX7, TX7, 12)) hK hP (ci := 7) (q0 := q8) rfl h8)) rfl rfl hl.1 rfl (lv_room (Nat.le_of_ble_eq_true rfl)) dX7_load_12 ⟨Nat.le_of_ble_eq_true rfl, Nat.le_of_ble_eq_true rfl⟩) hS (fun q _ h => hFc q h) hFc (fun u t H1 locs ht hvm hw hB hz1 hk1 hS => ?_)
  clear h8
  obtain ⟨hP1, hD1⟩ := hB
  rw [ht] at hP1
  have hP := hP1
  have hD := hD1.weaken (fun k q _ h => hFc q.1 h)
  generalize H1 = H at hP hS ⊢
  clear hP1 hD1 hPc hDc hFc hk1 hz1 hvm ht
  refine lv_aload_n hx hb dX7_load_15 rfl (lv_at hl 0 rfl) ?_
  obtain ⟨q9, h9⟩ := wc_at (cy := cy) (ad := ad3) (ks := ks4) (g := (t1.1)) (u := u7) (κ := .cl) hk5.1 True.intro
  refine va_get (D := (dC, dI)) (ci := 7) (v := .int (u7 0 1)) (C := RX7) (T := TX7) (N := 12) hx hb hts inlX7 hown hK hP q9 h9 rfl 8 (by decide) (hts _ mw_31) (fun _ h9 => h9) rfl dX7_load_16 ?_
  clear h9
  refine lv_if_eq (tgt := 33) hx hb dX7_load_19 (by decide) (fun c9 => ?_) (fun c9 => ?_)
  · rw [if_pos c9] at hF
    refine lv_aload_n hx hb dX7_load_33 rfl (lv_at hl 0 rfl) ?_
    obtain ⟨q9, h9⟩ := wc_at (cy := cy) (ad := ad3) (ks := ks4) (g := (t1.1)) (u := u7) (κ := .cl) hk5.1 True.intro
    refine va_get (D := (dC, dI)) (ci := 7) (v := .ref (ad3 (.ln 0))) (C := RX7) (T := TX7) (N := 12) hx hb hts inlX7 hown hK hP q9 h9 rfl 0 (by decide) (hts _ mw_18) (fun _ h9 => h9) rfl dX7_load_34 ?_
    clear h9
    refine lv_aload_n hx hb dX7_load_37 rfl (lv_at hl 0 rfl) ?_
    obtain ⟨q9, h9⟩ := wc_at (cy := cy) (ad := ad3) (ks := ks4) (g := (t1.1)) (u := u7) (κ := .cl) hk5.1 True.intro
    refine va_get (D := (dC, dI)) (ci := 7) (v := .ref (ad3 (.ln 1))) (C := RX7) (T := TX7) (N := 12) hx hb hts inlX7 hown hK hP q9 h9 rfl 1 (by decide) (hts _ mw_19) (fun _ h9 => h9) rfl dX7_load_38 ?_
    clear h9
    obtain ⟨u10, e11, hF⟩ := ob hF
    have hPc := hP
    have hDc := hD
    have hFc := my_free hD hS hA
    obtain ⟨q8, h8⟩ := wc_at (cy := cy) (ad := ad3) (ks := ks4) (g := (t1.1)) (u := u7) (κ := (.ln 0)) hk5.1 (Or.inl (by decide))
    refine va_callv (va_runV (As := [.ref (ad3 (.ln 1))]) (rest := []) ⟨hx, hb, hml, hown, hts⟩ (c_X3_copyFrom l dC dI cy nb ad3 ks4 (t1.1) hk5 u7 0 1 (u10) H.size (Or.inl (by decide)) (Or.inl (by decide)) e11) (cwV 1 hts (gV mw_392 mw_393 mw_394 mw_17 mw_395) rfl rfl rfl (by decide +kernel) ⟨Nat.le_of_ble_eq_true rfl, Nat.le_of_ble_eq_true rfl⟩) (my_preV hPc hK hDc hE hS hFc (va_recv (q := (RX3, TX3, 17)) hK hP (ci := 3) (q0 := q8) rfl h8)) rfl rfl hl.1 rfl (lv_room (Nat.le_of_ble_eq_true rfl)) dX7_load_41 ⟨Nat.le_of_ble_eq_true rfl, Nat.le_of_ble_eq_true rfl⟩) hS (fun q _ h => hFc q h) hFc (fun u t H1 locs ht hvm hw hB hz1 hk1 hS => ?_)
    clear h8
    obtain ⟨hP1, hD1⟩ := hB
    rw [ht] at hP1
    have hP := hP1
    have hD := hD1.weaken (fun k q _ h => hFc q.1 h)
    generalize H1 = H at hP hS ⊢
    clear hP1 hD1 hPc hDc hFc hk1 hz1 hvm ht
    refine lv_aload_n hx hb dX7_load_44 rfl (lv_at hl 0 rfl) ?_
    refine lv_iconst (v := 0) hx hb dX7_load_45 (by decide) ?_
    obtain ⟨q9, h9, ez9⟩ := wc_set (cy := cy) (ad := ad3) (ks := ks4) (g := (t1.1)) (u := u10) (κ := .cl) (r := 0) (i := 4) (v := (0)) hk5.1 True.intro (own_cl (by decide)) (sf_cl_11)
    refine va_put (D := (dC, dI)) (ci := 7) (v := .int 0) (ty := .int) (C := RX7) (T := TX7) (N := 12) hx hb hts inlX7 tyX7 tyX7_ok nmX7 hown hK hP hD hS q9 h9 rfl 11 (by decide) (hts _ mw_34) (fun _ h9 => h9) rfl (by decide +kernel) rfl rfl (Nat.le_of_ble_eq_true rfl) dX7_load_46 (fun H locs hP hD hS => ?_)
    obtain ⟨u12, e13, hF⟩ := ob hF
    have hP : va_P (dC, dI) vwCl (WC cy ad3 ks4 (t1.1) u12) H := by rw [← pt_eq e13, ← ez9]; exact hP
    have hD : va_D A (WC cy ad3 ks4 (t1.1) u12) := by rw [← pt_eq e13, ← ez9]; exact hD
    clear ez9 h9
    refine lv_aload_n hx hb dX7_load_49 rfl (lv_at hl 0 rfl) ?_
    refine lv_iconst (v := 0) hx hb dX7_load_50 (by decide) ?_
    obtain ⟨q9, h9, ez9⟩ := wc_set (cy := cy) (ad := ad3) (ks := ks4) (g := (t1.1)) (u := u12) (κ := .cl) (r := 0) (i := 0) (v := (0)) hk5.1 True.intro (own_cl (by decide)) (sf_cl_7)
    refine va_put (D := (dC, dI)) (ci := 7) (v := .int 0) (ty := .int) (C := RX7) (T := TX7) (N := 12) hx hb hts inlX7 tyX7 tyX7_ok nmX7 hown hK hP hD hS q9 h9 rfl 7 (by decide) (hts _ mw_30) (fun _ h9 => h9) rfl (by decide +kernel) rfl rfl (Nat.le_of_ble_eq_true rfl) dX7_load_51 (fun H locs hP hD hS => ?_)
    obtain ⟨u14, e15, hF⟩ := ob hF
    have hP : va_P (dC, dI) vwCl (WC cy ad3 ks4 (t1.1) u14) H := by rw [← pt_eq e15, ← ez9]; exact hP
    have hD : va_D A (WC cy ad3 ks4 (t1.1) u14) := by rw [← pt_eq e15, ← ez9]; exact hD
    clear ez9 h9
    refine lv_aload_n hx hb dX7_load_54 rfl (lv_at hl 0 rfl) ?_
    obtain ⟨q9, h9⟩ := wc_at (cy := cy) (ad := ad3) (ks := ks4) (g := (t1.1)) (u := u14) (κ := .cl) hk5.1 True.intro
    refine va_get (D := (dC, dI)) (ci := 7) (v := .ref (ad3 (.ln 0))) (C := RX7) (T := TX7) (N := 12) hx hb hts inlX7 hown hK hP q9 h9 rfl 0 (by decide) (hts _ mw_18) (fun _ h9 => h9) rfl dX7_load_55 ?_
    clear h9
    obtain ⟨q9, h9⟩ := wc_at (cy := cy) (ad := ad3) (ks := ks4) (g := (t1.1)) (u := u14) (κ := (.ln 0)) hk5.1 (Or.inl (by decide))
    refine va_get (D := (dC, dI)) (ci := 3) (v := .int (u14 (10 + 0) 7)) (C := RX3) (T := TX3) (N := 17) hx hb hts inlX3 hown hK hP q9 h9 rfl 7 (by decide) (hts _ mw_138) (fun _ h9 => h9) rfl dX7_load_58 ?_
    clear h9
    have hZ := s1 hF
    have zro : (u14 (10 + 0) 7) = ro := (congrArg (fun q => q.1) hZ)
    have zgz : (t1.1) = gz := (congrArg (fun q => q.2.1) hZ)
    have zuz : u14 = uz := (congrArg (fun q => q.2.2) hZ)
    have hP9 : va_P (dC, dI) vwCl (WC cy ad3 ks4 gz uz) H := by rw [← zuz, ← zgz]; exact hP
    have hD9 : va_D A (WC cy ad3 ks4 gz uz) := by rw [← zuz, ← zgz]; exact hD
    have hk9 : GA nb ad3 gz ks4 := by rw [← zgz]; exact hk5
    have ax9 : AX g ad gz ad3 := by rw [← zgz]; exact ax6
    refine W.widen (k := 602) (n := 9632) (by omega) (by omega) ?_
    rw [hQ]
    exact W.iret (v := (u14 (10 + 0) 7)) hx hb hr (fun t ht hW => ⟨⟨(u14 (10 + 0) 7), (), rfl, zro, ad3, ks4, hk9, ax9, by rw [ht]; exact hP9, hD9⟩, hS.F ht⟩) hS.2.2 dX7_load_61
  · rw [if_neg c9] at hF
    refine lv_bipush (v := (-100)) hx hb dX7_load_22 (by decide) ?_
    refine lv_aload_n hx hb dX7_load_24 rfl (lv_at hl 0 rfl) ?_
    obtain ⟨q9, h9⟩ := wc_at (cy := cy) (ad := ad3) (ks := ks4) (g := (t1.1)) (u := u7) (κ := .cl) hk5.1 True.intro
    refine va_get (D := (dC, dI)) (ci := 7) (v := .ref (ad3 .rd)) (C := RX7) (T := TX7) (N := 12) hx hb hts inlX7 hown hK hP q9 h9 rfl 2 (by decide) (hts _ mw_23) (fun _ h9 => h9) rfl dX7_load_25 ?_
    clear h9
    obtain ⟨q9, h9⟩ := wc_at (cy := cy) (ad := ad3) (ks := ks4) (g := (t1.1)) (u := u7) (κ := .rd) hk5.1 True.intro
    refine va_get (D := (dC, dI)) (ci := 5) (v := .int (u7 0 8)) (C := RX5) (T := TX5) (N := 11) hx hb hts inlX5 hown hK hP q9 h9 rfl 4 (by decide) (hts _ mw_137) (fun _ h9 => h9) rfl dX7_load_28 ?_
    clear h9
    refine lv_isub hx hb dX7_load_31 ?_
    have hZ := s1 hF
    have zro : ((-100) - (u7 0 8)) = ro := (congrArg (fun q => q.1) hZ)
    have zgz : (t1.1) = gz := (congrArg (fun q => q.2.1) hZ)
    have zuz : u7 = uz := (congrArg (fun q => q.2.2) hZ)
    have hP9 : va_P (dC, dI) vwCl (WC cy ad3 ks4 gz uz) H := by rw [← zuz, ← zgz]; exact hP
    have hD9 : va_D A (WC cy ad3 ks4 gz uz) := by rw [← zuz, ← zgz]; exact hD
    have hk9 : GA nb ad3 gz ks4 := by rw [← zgz]; exact hk5
    have ax9 : AX g ad gz ad3 := by rw [← zgz]; exact ax6
    refine W.widen (k := 602) (n := 9632) (by omega) (by omega) ?_
    rw [hQ]
    exact W.iret (v := ((-100) - (u7 0 8))) hx hb hr (fun t ht hW => ⟨⟨((-100) - (u7 0 8)), (), rfl, zro, ad3, ks4, hk9, ax9, by rw [ht]; exact hP9, hD9⟩, hS.F ht⟩) hS.2.2 dX7_load_32
noncomputable def C7_loadError (g : CG) (u0 : RS)  : Option (Int32) := some (u0 0 1)
set_option maxHeartbeats 4000000 in
set_option maxRecDepth 100000 in
theorem c_X7_loadError (l : Launch) (dC : Nat → ClassId) (dI : Nat → Nat → Nat) (cy : Nat → ClassId) (nb : Nat → Nat) (ad : CK → Nat) (ks : List CK) (g : CG) (hk : GA nb ad g ks) (u0 : RS)  (ro : Int32) (sz : Nat) (hF : C7_loadError g u0  = some ro) : Met l yX7_loadError (wsg yX7_loadError cX7_loadError 1 (some .int)) ({ frames := 7, cells := 0, slots := 0, locals := 200 }) (va_Pc [.ref (ad .cl)] (fun U => U.heap.size = sz ∧ va_P (dC, dI) vwCl (WC cy ad ks g u0) U.heap ∧ va_K (dC, dI) vwCl (tyL cy) U ∧ va_D (fun _ => True) (WC cy ad ks g u0) ∧ GE nb (va_A (WC cy ad ks g u0) sz) U)) (va_Qi (fun (r : Int32) (_ : Unit) => r = ro) (fun _ t => va_P (dC, dI) vwCl (WC cy ad ks g u0) t.heap ∧ va_D (va_A (WC cy ad ks g u0) sz) (WC cy ad ks g u0)) (va_A (WC cy ad ks g u0) sz)) 0 0 (va_A (WC cy ad ks g u0) sz) := by
  refine Met.ofW (cc := cX7_loadError) (maxL := 1) (ret := (some .int)) pn_X7 rfl ?_
  intro p e s m args below meth c s₁ B hml hv
  obtain ⟨rfl, hsz, hP, hK, hD0, hE⟩ := hv
  have hx := B.exec
  have hb := B.bytes
  have hr := B.returns
  have hts0 := atoms_spec (ws := (wsg yX7_loadError cX7_loadError 1 (some .int))) B.pre
  have hts : ∀ w ∈ wsL_law, w.before _ s = true := fun w h => hts0 w (List.mem_cons_of_mem _ h)
  have hown : s.vm.findClass RX7 = some m.cls := by have h9 := findClass_of_methodNamed B.named; exact h9
  have hlocks := B.notSynchronized
  subst hsz
  have hD := hD0.self (sz := s.heap.size)
  generalize hAe : va_A (WC cy ad ks g u0) s.heap.size = A at hD hE ⊢
  have hA : ∀ q : Nat, s.heap.size ≤ q → A q := fun q h => by rw [← hAe]; exact Or.inr h
  have hS : va_S A s.heap s.heap [] := va_S.rf
  have hl := lv_entry ([.ref (ad .cl)]) (n := 1) (Nat.le_of_ble_eq_true rfl)
  rw [lg_entry_eq]
  generalize (lg_sl ([.ref (ad .cl)]) ++ List.replicate (1 - (lg_sl ([.ref (ad .cl)])).length) Slot.unset).toArray = ls at hl ⊢
  have hl : lv_has ls 1 [(0, .ref (ad .cl))] := hl
  generalize hHe : s.heap = H at hP hS ⊢
  have hS : va_S A s.heap H [] := by rw [hHe]; exact hS
  refine my_Q (fun Qn hQ => ?_)
  simp only [C7_loadError] at hF
  refine lv_aload_n hx hb dX7_loadError_0 rfl (lv_at hl 0 rfl) ?_
  obtain ⟨q9, h9⟩ := wc_at (cy := cy) (ad := ad) (ks := ks) (g := g) (u := u0) (κ := .cl) hk.1 True.intro
  refine va_get (D := (dC, dI)) (ci := 7) (v := .int (u0 0 1)) (C := RX7) (T := TX7) (N := 12) hx hb hts inlX7 hown hK hP q9 h9 rfl 8 (by decide) (hts _ mw_31) (fun _ h9 => h9) rfl dX7_loadError_1 ?_
  clear h9
  have hZ := s1 hF
  have zro : (u0 0 1) = ro := hZ
  have hP9 : va_P (dC, dI) vwCl (WC cy ad ks g u0) H := by exact hP
  have hD9 : va_D A (WC cy ad ks g u0) := by exact hD
  rw [hQ]
  exact W.iret (v := (u0 0 1)) hx hb hr (fun t ht hW => ⟨⟨(u0 0 1), (), rfl, zro, by rw [ht]; exact hP9, hD9⟩, hS.F ht⟩) hS.2.2 dX7_loadError_4
noncomputable def C7_loadStatement (g : CG) (u0 : RS)  : Option (Int32) := some (u0 0 2)
set_option maxHeartbeats 4000000 in
set_option maxRecDepth 100000 in
theorem c_X7_loadStatement (l : Launch) (dC : Nat → ClassId) (dI : Nat → Nat → Nat) (cy : Nat → ClassId) (nb : Nat → Nat) (ad : CK → Nat) (ks : List CK) (g : CG) (hk : GA nb ad g ks) (u0 : RS)  (ro : Int32) (sz : Nat) (hF : C7_loadStatement g u0  = some ro) : Met l yX7_loadStatement (wsg yX7_loadStatement cX7_loadStatement 1 (some .int)) ({ frames := 7, cells := 0, slots := 0, locals := 200 }) (va_Pc [.ref (ad .cl)] (fun U => U.heap.size = sz ∧ va_P (dC, dI) vwCl (WC cy ad ks g u0) U.heap ∧ va_K (dC, dI) vwCl (tyL cy) U ∧ va_D (fun _ => True) (WC cy ad ks g u0) ∧ GE nb (va_A (WC cy ad ks g u0) sz) U)) (va_Qi (fun (r : Int32) (_ : Unit) => r = ro) (fun _ t => va_P (dC, dI) vwCl (WC cy ad ks g u0) t.heap ∧ va_D (va_A (WC cy ad ks g u0) sz) (WC cy ad ks g u0)) (va_A (WC cy ad ks g u0) sz)) 0 0 (va_A (WC cy ad ks g u0) sz) := by
  refine Met.ofW (cc := cX7_loadStatement) (maxL := 1) (ret := (some .int)) pn_X7 rfl ?_
  intro p e s m args below meth c s₁ B hml hv
  obtain ⟨rfl, hsz, hP, hK, hD0, hE⟩ := hv
  have hx := B.exec
  have hb := B.bytes
  have hr := B.returns
  have hts0 := atoms_spec (ws := (wsg yX7_loadStatement cX7_loadStatement 1 (some .int))) B.pre
  have hts : ∀ w ∈ wsL_law, w.before _ s = true := fun w h => hts0 w (List.mem_cons_of_mem _ h)
  have hown : s.vm.findClass RX7 = some m.cls := by have h9 := findClass_of_methodNamed B.named; exact h9
  have hlocks := B.notSynchronized
  subst hsz
  have hD := hD0.self (sz := s.heap.size)
  generalize hAe : va_A (WC cy ad ks g u0) s.heap.size = A at hD hE ⊢
  have hA : ∀ q : Nat, s.heap.size ≤ q → A q := fun q h => by rw [← hAe]; exact Or.inr h
  have hS : va_S A s.heap s.heap [] := va_S.rf
  have hl := lv_entry ([.ref (ad .cl)]) (n := 1) (Nat.le_of_ble_eq_true rfl)
  rw [lg_entry_eq]
  generalize (lg_sl ([.ref (ad .cl)]) ++ List.replicate (1 - (lg_sl ([.ref (ad .cl)])).length) Slot.unset).toArray = ls at hl ⊢
  have hl : lv_has ls 1 [(0, .ref (ad .cl))] := hl
  generalize hHe : s.heap = H at hP hS ⊢
  have hS : va_S A s.heap H [] := by rw [hHe]; exact hS
  refine my_Q (fun Qn hQ => ?_)
  simp only [C7_loadStatement] at hF
  refine lv_aload_n hx hb dX7_loadStatement_0 rfl (lv_at hl 0 rfl) ?_
  obtain ⟨q9, h9⟩ := wc_at (cy := cy) (ad := ad) (ks := ks) (g := g) (u := u0) (κ := .cl) hk.1 True.intro
  refine va_get (D := (dC, dI)) (ci := 7) (v := .int (u0 0 2)) (C := RX7) (T := TX7) (N := 12) hx hb hts inlX7 hown hK hP q9 h9 rfl 9 (by decide) (hts _ mw_32) (fun _ h9 => h9) rfl dX7_loadStatement_1 ?_
  clear h9
  have hZ := s1 hF
  have zro : (u0 0 2) = ro := hZ
  have hP9 : va_P (dC, dI) vwCl (WC cy ad ks g u0) H := by exact hP
  have hD9 : va_D A (WC cy ad ks g u0) := by exact hD
  rw [hQ]
  exact W.iret (v := (u0 0 2)) hx hb hr (fun t ht hW => ⟨⟨(u0 0 2), (), rfl, zro, by rw [ht]; exact hP9, hD9⟩, hS.F ht⟩) hS.2.2 dX7_loadStatement_4
noncomputable def C7_lot (g : CG) (u0 : RS) (a1 : Int32) (a2 : Int32) : Option (Sum Int32 (Int32)) := (C7_needLot g u0 (a1)).bind fun t1 => tr t1 fun t3 => (ix 6 a1).bind fun n4 => if a2 = 0 then (some (.inr (u0 (10 + 0) (113 + 4 * n4 + 0)))) else (if a2 = 1 then (some (.inr (u0 (10 + 0) (113 + 4 * n4 + 1)))) else (if a2 = 2 then (some (.inr (u0 (10 + 0) (1100 + 8 * n4 + 1)))) else (if a2 = 3 then (some (.inr (u0 (10 + 0) (1100 + 8 * n4 + 2)))) else (if a2 = 4 then (some (.inr (u0 (10 + 0) (1100 + 8 * n4 + 3)))) else (if a2 = 5 then (some (.inr (u0 (10 + 0) (1100 + 8 * n4 + 4)))) else (if a2 = 6 then ((C4_nextCard g u0 0 n4).bind fun x13 => some (.inr x13)) else (some (.inl (2 : Int32)))))))))
set_option maxHeartbeats 4000000 in
set_option maxRecDepth 100000 in
theorem c_X7_lot (l : Launch) (dC : Nat → ClassId) (dI : Nat → Nat → Nat) (cy : Nat → ClassId) (nb : Nat → Nat) (ad : CK → Nat) (ks : List CK) (g : CG) (hk : GA nb ad g ks) (u0 : RS) (a1 : Int32) (a2 : Int32) (ro : Int32) (sz : Nat) (hF : C7_lot g u0 a1 a2 = some (.inr ro)) : Met l yX7_lot (wsg yX7_lot cX7_lot 4 (some .int)) ({ frames := 9, cells := 0, slots := 0, locals := 400 }) (va_Pc [.ref (ad .cl), .int a1, .int a2] (fun U => U.heap.size = sz ∧ va_P (dC, dI) vwCl (WC cy ad ks g u0) U.heap ∧ va_K (dC, dI) vwCl (tyL cy) U ∧ va_D (fun _ => True) (WC cy ad ks g u0) ∧ GE nb (va_A (WC cy ad ks g u0) sz) U)) (va_Qi (fun (r : Int32) (_ : Unit) => r = ro) (fun _ t => va_P (dC, dI) vwCl (WC cy ad ks g u0) t.heap ∧ va_D (va_A (WC cy ad ks g u0) sz) (WC cy ad ks g u0)) (va_A (WC cy ad ks g u0) sz)) 0 0 (va_A (WC cy ad ks g u0) sz) := by
  refine Met.ofW (cc := cX7_lot) (maxL := 4) (ret := (some .int)) pn_X7 rfl ?_
  intro p e s m args below meth c s₁ B hml hv
  obtain ⟨rfl, hsz, hP, hK, hD0, hE⟩ := hv
  have hx := B.exec
  have hb := B.bytes
  have hr := B.returns
  have hts0 := atoms_spec (ws := (wsg yX7_lot cX7_lot 4 (some .int))) B.pre
  have hts : ∀ w ∈ wsL_law, w.before _ s = true := fun w h => hts0 w (List.mem_cons_of_mem _ h)
  have hown : s.vm.findClass RX7 = some m.cls := by have h9 := findClass_of_methodNamed B.named; exact h9
  have hlocks := B.notSynchronized
  subst hsz
  have hD := hD0.self (sz := s.heap.size)
  generalize hAe : va_A (WC cy ad ks g u0) s.heap.size = A at hD hE ⊢
  have hA : ∀ q : Nat, s.heap.size ≤ q → A q := fun q h => by rw [← hAe]; exact Or.inr h
  have hS : va_S A s.heap s.heap [] := va_S.rf
  have hl := lv_entry ([.ref (ad .cl), .int a1, .int a2]) (n := 4) (Nat.le_of_ble_eq_true rfl)
  rw [lg_entry_eq]
  generalize (lg_sl ([.ref (ad .cl), .int a1, .int a2]) ++ List.replicate (4 - (lg_sl ([.ref (ad .cl), .int a1, .int a2])).length) Slot.unset).toArray = ls at hl ⊢
  have hl : lv_has ls 4 [(0, .ref (ad .cl)), (1, .int a1), (2, .int a2)] := hl
  generalize hHe : s.heap = H at hP hS ⊢
  have hS : va_S A s.heap H [] := by rw [hHe]; exact hS
  refine my_Q (fun Qn hQ => ?_)
  simp only [C7_lot] at hF
  refine lv_aload_n hx hb dX7_lot_0 rfl (lv_at hl 0 rfl) ?_
  refine lv_iload_n hx hb dX7_lot_1 rfl (lv_at hl 1 rfl) ?_
  obtain ⟨t1, e2, hF⟩ := ob hF
  rcases t1 with xz9 | t3
  · have hF : some (Sum.inl xz9) = some (.inr ro) := hF
    cases hF
  · dsimp only [tr] at hF
    have hPc := hP
    have hDc := hD
    have hFc := my_free hD hS hA
    obtain ⟨q8, h8⟩ := wc_at (cy := cy) (ad := ad) (ks := ks) (g := g) (u := u0) (κ := .cl) hk.1 True.intro
    refine va_callv (va_runV (As := [.int a1]) (rest := []) ⟨hx, hb, hml, hown, hts⟩ (c_X7_needLot l dC dI cy nb ad ks g hk u0 (a1) H.size e2) (cwV 1 hts (gV mw_704 mw_705 mw_706 mw_2 mw_707) rfl rfl rfl (by decide +kernel) ⟨Nat.le_of_ble_eq_true rfl, Nat.le_of_ble_eq_true rfl⟩) (my_preV hPc hK hDc hE hS hFc (va_recv (q := (RX7, TX7, 12)) hK hP (ci := 7) (q0 := q8) rfl h8)) rfl rfl hl.1 rfl (lv_room (Nat.le_of_ble_eq_true rfl)) dX7_lot_2 ⟨Nat.le_of_ble_eq_true rfl, Nat.le_of_ble_eq_true rfl⟩) hS (fun q _ h => hFc q h) hFc (fun u t H1 locs ht hvm hw hB hz1 hk1 hS => ?_)
    clear h8
    obtain ⟨hP1, hD1⟩ := hB
    rw [ht] at hP1
    have hP := hP1
    have hD := hD1.weaken (fun k q _ h => hFc q.1 h)
    generalize H1 = H at hP hS ⊢
    clear hP1 hD1 hPc hDc hFc hk1 hz1 hvm ht
    refine lv_aload_n hx hb dX7_lot_5 rfl (lv_at hl 0 rfl) ?_
    obtain ⟨q9, h9⟩ := wc_at (cy := cy) (ad := ad) (ks := ks) (g := g) (u := u0) (κ := .cl) hk.1 True.intro
    refine va_get (D := (dC, dI)) (ci := 7) (v := .ref (ad (.ln 0))) (C := RX7) (T := TX7) (N := 12) hx hb hts inlX7 hown hK hP q9 h9 rfl 0 (by decide) (hts _ mw_18) (fun _ h9 => h9) rfl dX7_lot_6 ?_
    clear h9
    obtain ⟨q9, h9⟩ := wc_at (cy := cy) (ad := ad) (ks := ks) (g := g) (u := u0) (κ := (.ln 0)) hk.1 (Or.inl (by decide))
    refine va_get (D := (dC, dI)) (ci := 3) (v := .ref (ad (.ls 0))) (C := RX3) (T := TX3) (N := 17) hx hb hts inlX3 hown hK hP q9 h9 rfl 11 (by decide) (hts _ mw_697) (fun _ h9 => h9) rfl dX7_lot_9 ?_
    clear h9
    refine lv_iload_n hx hb dX7_lot_12 rfl (lv_at hl 1 rfl) ?_
    obtain ⟨n4, e5, hF⟩ := ob hF
    obtain ⟨q9, h9⟩ := wc_at (cy := cy) (ad := ad) (ks := ks) (g := g) (u := u0) (κ := (.ls 0)) hk.1 (Or.inl (by decide))
    refine va_aldq hx hb hK hP q9 7 h9 rfl (ix_in e5) dX7_lot_13 ?_
    refine my_top (y := .ref (ad (.lo 0 n4))) (ixv (F := fun j => ad (.lo 0 j)) e5) ?_
    clear h9
    refine lv_astore_n (lv' := [(3, .ref (ad (.lo 0 n4))), (0, .ref (ad .cl)), (1, .int a1), (2, .int a2)]) hx hb dX7_lot_14 rfl hl (by decide) rfl (fun ls hl => ?_)
    refine lv_iload_n hx hb dX7_lot_15 rfl (lv_at hl 3 rfl) ?_
    by_cases c6 : a2 = 0
    · rw [if_pos c6] at hF
      refine my_topi (y := 0) c6 ?_
      refine lv_tableIn (off := 44) (tgt := 60) hx hb dX7_lot_16 (by decide) (by decide) (by decide) (by decide) ?_
      refine lv_aload_n hx hb dX7_lot_60 rfl (lv_at hl 0 rfl) ?_
      obtain ⟨q9, h9⟩ := wc_at (cy := cy) (ad := ad) (ks := ks) (g := g) (u := u0) (κ := (.lo 0 n4)) hk.1 ⟨(Or.inl (by decide)), (ix_lt e5)⟩
      refine va_get (D := (dC, dI)) (ci := 4) (v := .int (u0 (10 + 0) (113 + 4 * n4 + 0))) (C := RX4) (T := TX4) (N := 12) hx hb hts inlX4 hown hK hP q9 h9 rfl 0 (by decide) (hts _ mw_698) (fun _ h9 => h9) rfl dX7_lot_61 ?_
      clear h9
      have hZ := s3 hF
      have zro : (u0 (10 + 0) (113 + 4 * n4 + 0)) = ro := hZ
      have hP9 : va_P (dC, dI) vwCl (WC cy ad ks g u0) H := by exact hP
      have hD9 : va_D A (WC cy ad ks g u0) := by exact hD
      rw [hQ]
      exact W.iret (v := (u0 (10 + 0) (113 + 4 * n4 + 0))) hx hb hr (fun t ht hW => ⟨⟨(u0 (10 + 0) (113 + 4 * n4 + 0)), (), rfl, zro, by rw [ht]; exact hP9, hD9⟩, hS.F ht⟩) hS.2.2 dX7_lot_64
    · rw [if_neg c6] at hF
      by_cases c7 : a2 = 1
      · rw [if_pos c7] at hF
        refine my_topi (y := 1) c7 ?_
        refine lv_tableIn (off := 49) (tgt := 65) hx hb dX7_lot_16 (by decide) (by decide) (by decide) (by decide) ?_
        refine lv_aload_n hx hb dX7_lot_65 rfl (lv_at hl 0 rfl) ?_
        obtain ⟨q9, h9⟩ := wc_at (cy := cy) (ad := ad) (ks := ks) (g := g) (u := u0) (κ := (.lo 0 n4)) hk.1 ⟨(Or.inl (by decide)), (ix_lt e5)⟩
        refine va_get (D := (dC, dI)) (ci := 4) (v := .int (u0 (10 + 0) (113 + 4 * n4 + 1))) (C := RX4) (T := TX4) (N := 12) hx hb hts inlX4 hown hK hP q9 h9 rfl 1 (by decide) (hts _ mw_699) (fun _ h9 => h9) rfl dX7_lot_66 ?_
        clear h9
        have hZ := s3 hF
        have zro : (u0 (10 + 0) (113 + 4 * n4 + 1)) = ro := hZ
        have hP9 : va_P (dC, dI) vwCl (WC cy ad ks g u0) H := by exact hP
        have hD9 : va_D A (WC cy ad ks g u0) := by exact hD
        rw [hQ]
        exact W.iret (v := (u0 (10 + 0) (113 + 4 * n4 + 1))) hx hb hr (fun t ht hW => ⟨⟨(u0 (10 + 0) (113 + 4 * n4 + 1)), (), rfl, zro, by rw [ht]; exact hP9, hD9⟩, hS.F ht⟩) hS.2.2 dX7_lot_69
      · rw [if_neg c7] at hF
        by_cases c8 : a2 = 2
        · rw [if_pos c8] at hF
          refine my_topi (y := 2) c8 ?_
          refine lv_tableIn (off := 54) (tgt := 70) hx hb dX7_lot_16 (by decide) (by decide) (by decide) (by decide) ?_
          refine lv_aload_n hx hb dX7_lot_70 rfl (lv_at hl 0 rfl) ?_
          obtain ⟨q9, h9⟩ := wc_at (cy := cy) (ad := ad) (ks := ks) (g := g) (u := u0) (κ := (.lo 0 n4)) hk.1 ⟨(Or.inl (by decide)), (ix_lt e5)⟩
          refine va_get (D := (dC, dI)) (ci := 4) (v := .int (u0 (10 + 0) (1100 + 8 * n4 + 1))) (C := RX4) (T := TX4) (N := 12) hx hb hts inlX4 hown hK hP q9 h9 rfl 4 (by decide) (hts _ mw_700) (fun _ h9 => h9) rfl dX7_lot_71 ?_
          clear h9
          have hZ := s3 hF
          have zro : (u0 (10 + 0) (1100 + 8 * n4 + 1)) = ro := hZ
          have hP9 : va_P (dC, dI) vwCl (WC cy ad ks g u0) H := by exact hP
          have hD9 : va_D A (WC cy ad ks g u0) := by exact hD
          rw [hQ]
          exact W.iret (v := (u0 (10 + 0) (1100 + 8 * n4 + 1))) hx hb hr (fun t ht hW => ⟨⟨(u0 (10 + 0) (1100 + 8 * n4 + 1)), (), rfl, zro, by rw [ht]; exact hP9, hD9⟩, hS.F ht⟩) hS.2.2 dX7_lot_74
        · rw [if_neg c8] at hF
          by_cases c9 : a2 = 3
          · rw [if_pos c9] at hF
            refine my_topi (y := 3) c9 ?_
            refine lv_tableIn (off := 59) (tgt := 75) hx hb dX7_lot_16 (by decide) (by decide) (by decide) (by decide) ?_
            refine lv_aload_n hx hb dX7_lot_75 rfl (lv_at hl 0 rfl) ?_
            obtain ⟨q9, h9⟩ := wc_at (cy := cy) (ad := ad) (ks := ks) (g := g) (u := u0) (κ := (.lo 0 n4)) hk.1 ⟨(Or.inl (by decide)), (ix_lt e5)⟩
            refine va_get (D := (dC, dI)) (ci := 4) (v := .int (u0 (10 + 0) (1100 + 8 * n4 + 2))) (C := RX4) (T := TX4) (N := 12) hx hb hts inlX4 hown hK hP q9 h9 rfl 5 (by decide) (hts _ mw_701) (fun _ h9 => h9) rfl dX7_lot_76 ?_
            clear h9
            have hZ := s3 hF
            have zro : (u0 (10 + 0) (1100 + 8 * n4 + 2)) = ro := hZ
            have hP9 : va_P (dC, dI) vwCl (WC cy ad ks g u0) H := by exact hP
            have hD9 : va_D A (WC cy ad ks g u0) := by exact hD
            rw [hQ]
            exact W.iret (v := (u0 (10 + 0) (1100 + 8 * n4 + 2))) hx hb hr (fun t ht hW => ⟨⟨(u0 (10 + 0) (1100 + 8 * n4 + 2)), (), rfl, zro, by rw [ht]; exact hP9, hD9⟩, hS.F ht⟩) hS.2.2 dX7_lot_79
          · rw [if_neg c9] at hF
            by_cases c10 : a2 = 4
            · rw [if_pos c10] at hF
              refine my_topi (y := 4) c10 ?_
              refine lv_tableIn (off := 64) (tgt := 80) hx hb dX7_lot_16 (by decide) (by decide) (by decide) (by decide) ?_
              refine lv_aload_n hx hb dX7_lot_80 rfl (lv_at hl 0 rfl) ?_
              obtain ⟨q9, h9⟩ := wc_at (cy := cy) (ad := ad) (ks := ks) (g := g) (u := u0) (κ := (.lo 0 n4)) hk.1 ⟨(Or.inl (by decide)), (ix_lt e5)⟩
              refine va_get (D := (dC, dI)) (ci := 4) (v := .int (u0 (10 + 0) (1100 + 8 * n4 + 3))) (C := RX4) (T := TX4) (N := 12) hx hb hts inlX4 hown hK hP q9 h9 rfl 6 (by decide) (hts _ mw_702) (fun _ h9 => h9) rfl dX7_lot_81 ?_
              clear h9
              have hZ := s3 hF
              have zro : (u0 (10 + 0) (1100 + 8 * n4 + 3)) = ro := hZ
              have hP9 : va_P (dC, dI) vwCl (WC cy ad ks g u0) H := by exact hP
              have hD9 : va_D A (WC cy ad ks g u0) := by exact hD
              rw [hQ]
              exact W.iret (v := (u0 (10 + 0) (1100 + 8 * n4 + 3))) hx hb hr (fun t ht hW => ⟨⟨(u0 (10 + 0) (1100 + 8 * n4 + 3)), (), rfl, zro, by rw [ht]; exact hP9, hD9⟩, hS.F ht⟩) hS.2.2 dX7_lot_84
            · rw [if_neg c10] at hF
              by_cases c11 : a2 = 5
              · rw [if_pos c11] at hF
                refine my_topi (y := 5) c11 ?_
                refine lv_tableIn (off := 69) (tgt := 85) hx hb dX7_lot_16 (by decide) (by decide) (by decide) (by decide) ?_
                refine lv_aload_n hx hb dX7_lot_85 rfl (lv_at hl 0 rfl) ?_
                obtain ⟨q9, h9⟩ := wc_at (cy := cy) (ad := ad) (ks := ks) (g := g) (u := u0) (κ := (.lo 0 n4)) hk.1 ⟨(Or.inl (by decide)), (ix_lt e5)⟩
                refine va_get (D := (dC, dI)) (ci := 4) (v := .int (u0 (10 + 0) (1100 + 8 * n4 + 4))) (C := RX4) (T := TX4) (N := 12) hx hb hts inlX4 hown hK hP q9 h9 rfl 7 (by decide) (hts _ mw_703) (fun _ h9 => h9) rfl dX7_lot_86 ?_
                clear h9
                have hZ := s3 hF
                have zro : (u0 (10 + 0) (1100 + 8 * n4 + 4)) = ro := hZ
                have hP9 : va_P (dC, dI) vwCl (WC cy ad ks g u0) H := by exact hP
                have hD9 : va_D A (WC cy ad ks g u0) := by exact hD
                rw [hQ]
                exact W.iret (v := (u0 (10 + 0) (1100 + 8 * n4 + 4))) hx hb hr (fun t ht hW => ⟨⟨(u0 (10 + 0) (1100 + 8 * n4 + 4)), (), rfl, zro, by rw [ht]; exact hP9, hD9⟩, hS.F ht⟩) hS.2.2 dX7_lot_89
              · rw [if_neg c11] at hF
                by_cases c12 : a2 = 6
                · rw [if_pos c12] at hF
                  refine my_topi (y := 6) c12 ?_
                  refine lv_tableIn (off := 74) (tgt := 90) hx hb dX7_lot_16 (by decide) (by decide) (by decide) (by decide) ?_
                  refine lv_aload_n hx hb dX7_lot_90 rfl (lv_at hl 0 rfl) ?_
                  obtain ⟨x13, e14, hF⟩ := ob hF
                  have hPc := hP
                  have hDc := hD
                  have hFc := my_free hD hS hA
                  obtain ⟨q8, h8⟩ := wc_at (cy := cy) (ad := ad) (ks := ks) (g := g) (u := u0) (κ := (.lo 0 n4)) hk.1 ⟨(Or.inl (by decide)), (ix_lt e5)⟩
                  refine va_calli (va_runV (As := []) (rest := []) ⟨hx, hb, hml, hown, hts⟩ (c_X4_nextCard l dC dI cy nb ad ks g hk u0 0 n4 (x13) H.size ⟨(Or.inl (by decide)), (ix_lt e5)⟩ e14) (cwV 0 hts (gV mw_708 mw_709 mw_710 mw_52 mw_711) rfl rfl rfl (by decide +kernel) ⟨Nat.le_of_ble_eq_true rfl, Nat.le_of_ble_eq_true rfl⟩) (my_preV hPc hK hDc hE hS hFc (va_recv (q := (RX4, TX4, 12)) hK hP (ci := 4) (q0 := q8) rfl h8)) rfl rfl hl.1 rfl (lv_room (Nat.le_of_ble_eq_true rfl)) dX7_lot_91 ⟨Nat.le_of_ble_eq_true rfl, Nat.le_of_ble_eq_true rfl⟩) hS (fun q _ h => hFc q h) hFc (fun r u t H1 locs ht hvm hw hB hz1 hk1 hS => ?_)
                  clear h8
                  obtain ⟨hP1, hD1⟩ := hB
                  rw [ht] at hP1
                  have hP := hP1
                  have hD := hD1.weaken (fun k q _ h => hFc q.1 h)
                  generalize H1 = H at hP hS ⊢
                  clear hP1 hD1 hPc hDc hFc hk1 hz1 hvm ht
                  obtain rfl := hw.symm
                  have hZ := s3 hF
                  have zro : x13 = ro := hZ
                  have hP9 : va_P (dC, dI) vwCl (WC cy ad ks g u0) H := by exact hP
                  have hD9 : va_D A (WC cy ad ks g u0) := by exact hD
                  rw [hQ]
                  exact W.iret (v := x13) hx hb hr (fun t ht hW => ⟨⟨x13, (), rfl, zro, by rw [ht]; exact hP9, hD9⟩, hS.F ht⟩) hS.2.2 dX7_lot_94
                · rw [if_neg c12] at hF
                  refine lv_tableOut (tgt := 95) hx hb dX7_lot_16 (sw_out (lo := 0) (hi := 6) (fun k h1 h2 => by rcases (show k = 0 ∨ k = 1 ∨ k = 2 ∨ k = 3 ∨ k = 4 ∨ k = 5 ∨ k = 6 by omega) with rfl | rfl | rfl | rfl | rfl | rfl | rfl <;> intro q <;> first | exact c6 (q.trans (by decide)) | exact c7 (q.trans (by decide)) | exact c8 (q.trans (by decide)) | exact c9 (q.trans (by decide)) | exact c10 (q.trans (by decide)) | exact c11 (q.trans (by decide)) | exact c12 (q.trans (by decide)))) (by decide) ?_
                  cases hF
noncomputable def C7_lotsFinishedBefore_L4 (a1 : Int32) (g : CG) (u0 : RS) : Nat → Int32 → Int32 → Option (Int32 × Int32)
  | 0, _, _ => none
  | m8 + 1, y1, y2 => if (u0 (10 + 0) 8) ≤ y1 then (some ((y1, y2))) else ((rd u0 2 6 y1).bind fun x10 => (rd u0 2 6 a1).bind fun x12 => (if x12 ≤ x10 then (some (0 : Int32)) else (some (1 : Int32)) : Option (Int32)).bind fun t15 => (if t15 = 0 then ((rd u0 2 6 y1).bind fun x22 => (rd u0 2 6 a1).bind fun x24 => if x22 = x24 then (if a1 ≤ y1 then (some y2) else (some (y2 + 1))) else (some y2)) else (some (y2 + 1)) : Option (Int32)).bind fun t19 => C7_lotsFinishedBefore_L4 a1 g u0 m8 ((y1 + 1)) (t19))
noncomputable def C7_lotsFinishedBefore (g : CG) (u0 : RS) (a1 : Int32) : Option (Int32) := (C7_lotsFinishedBefore_L4 a1 g u0 FUEL (0 : Int32) (0 : Int32)).bind fun t3 => some (t3.2)
set_option maxHeartbeats 4000000 in
set_option maxRecDepth 100000 in
theorem c_X7_lotsFinishedBefore (l : Launch) (dC : Nat → ClassId) (dI : Nat → Nat → Nat) (cy : Nat → ClassId) (nb : Nat → Nat) (ad : CK → Nat) (ks : List CK) (g : CG) (hk : GA nb ad g ks) (u0 : RS) (a1 : Int32) (ro : Int32) (sz : Nat) (hF : C7_lotsFinishedBefore g u0 a1 = some ro) : Met l yX7_lotsFinishedBefore (wsg yX7_lotsFinishedBefore cX7_lotsFinishedBefore 5 (some .int)) ({ frames := 7, cells := 0, slots := 0, locals := 200 }) (va_Pc [.ref (ad .cl), .int a1] (fun U => U.heap.size = sz ∧ va_P (dC, dI) vwCl (WC cy ad ks g u0) U.heap ∧ va_K (dC, dI) vwCl (tyL cy) U ∧ va_D (fun _ => True) (WC cy ad ks g u0) ∧ GE nb (va_A (WC cy ad ks g u0) sz) U)) (va_Qi (fun (r : Int32) (_ : Unit) => r = ro) (fun _ t => va_P (dC, dI) vwCl (WC cy ad ks g u0) t.heap ∧ va_D (va_A (WC cy ad ks g u0) sz) (WC cy ad ks g u0)) (va_A (WC cy ad ks g u0) sz)) 0 0 (va_A (WC cy ad ks g u0) sz) := by
  refine Met.ofW (cc := cX7_lotsFinishedBefore) (maxL := 5) (ret := (some .int)) pn_X7 rfl ?_
  intro p e s m args below meth c s₁ B hml hv
  obtain ⟨rfl, hsz, hP, hK, hD0, hE⟩ := hv
  have hx := B.exec
  have hb := B.bytes
  have hr := B.returns
  have hts0 := atoms_spec (ws := (wsg yX7_lotsFinishedBefore cX7_lotsFinishedBefore 5 (some .int))) B.pre
  have hts : ∀ w ∈ wsL_law, w.before _ s = true := fun w h => hts0 w (List.mem_cons_of_mem _ h)
  have hown : s.vm.findClass RX7 = some m.cls := by have h9 := findClass_of_methodNamed B.named; exact h9
  have hlocks := B.notSynchronized
  subst hsz
  have hD := hD0.self (sz := s.heap.size)
  generalize hAe : va_A (WC cy ad ks g u0) s.heap.size = A at hD hE ⊢
  have hA : ∀ q : Nat, s.heap.size ≤ q → A q := fun q h => by rw [← hAe]; exact Or.inr h
  have hS : va_S A s.heap s.heap [] := va_S.rf
  have hl := lv_entry ([.ref (ad .cl), .int a1]) (n := 5) (Nat.le_of_ble_eq_true rfl)
  rw [lg_entry_eq]
  generalize (lg_sl ([.ref (ad .cl), .int a1]) ++ List.replicate (5 - (lg_sl ([.ref (ad .cl), .int a1])).length) Slot.unset).toArray = ls at hl ⊢
  have hl : lv_has ls 5 [(0, .ref (ad .cl)), (1, .int a1)] := hl
  generalize hHe : s.heap = H at hP hS ⊢
  have hS : va_S A s.heap H [] := by rw [hHe]; exact hS
  refine my_Q (fun Qn hQ => ?_)
  simp only [C7_lotsFinishedBefore] at hF
  refine lv_iconst (v := 0) hx hb dX7_lotsFinishedBefore_0 (by decide) ?_
  refine lv_istore_n (lv' := [(2, .int 0), (0, .ref (ad .cl)), (1, .int a1)]) hx hb dX7_lotsFinishedBefore_1 rfl hl (by decide) rfl (fun ls hl => ?_)
  refine lv_iconst (v := 0) hx hb dX7_lotsFinishedBefore_2 (by decide) ?_
  refine lv_istore_n (lv' := [(3, .int 0), (2, .int 0), (0, .ref (ad .cl)), (1, .int a1)]) hx hb dX7_lotsFinishedBefore_3 rfl hl (by decide) rfl (fun ls hl => ?_)
  obtain ⟨t3, hL4, hF⟩ := ob hF
  have kx5 : ∀ (H : Heap) (locs : List Loc) (ls : Array Slot), va_P (dC, dI) vwCl (WC cy ad ks g u0) H → va_D A (WC cy ad ks g u0) → va_S A s.heap H locs → lv_has ls 5 [(3, .int (t3.1)), (2, .int (t3.2)), (0, .ref (ad .cl)), (1, .int a1)] → W p l e (headSpec (wsg yX7_lotsFinishedBefore cX7_lotsFinishedBefore 5 (some .int)) ({ frames := 7, cells := 0, slots := 0, locals := 200 })).room s m ([.ref (ad .cl), .int a1] : List Value).toArray below meth c H locs 0 0 Qn (F0 m 71 ls []) := by
    intro H locs ls hP hD hS hl
    refine lv_iload_n hx hb dX7_lotsFinishedBefore_71 rfl (lv_at hl 1 rfl) ?_
    have hZ := s1 hF
    have zro : (t3.2) = ro := hZ
    have hP9 : va_P (dC, dI) vwCl (WC cy ad ks g u0) H := by exact hP
    have hD9 : va_D A (WC cy ad ks g u0) := by exact hD
    rw [hQ]
    exact W.iret (v := (t3.2)) hx hb hr (fun t ht hW => ⟨⟨(t3.2), (), rfl, zro, by rw [ht]; exact hP9, hD9⟩, hS.F ht⟩) hS.2.2 dX7_lotsFinishedBefore_72
  clear hF
  have loop7 : ∀ (m8 : Nat) (y1 : Int32) (y2 : Int32), C7_lotsFinishedBefore_L4 a1 g u0 m8 y1 y2 = some t3 → ∀ (H : Heap) (locs : List Loc) (ls : Array Slot), va_P (dC, dI) vwCl (WC cy ad ks g u0) H → va_D A (WC cy ad ks g u0) → va_S A s.heap H locs → lv_has ls 5 [(3, .int y1), (2, .int y2), (0, .ref (ad .cl)), (1, .int a1)] → W p l e (headSpec (wsg yX7_lotsFinishedBefore cX7_lotsFinishedBefore 5 (some .int)) ({ frames := 7, cells := 0, slots := 0, locals := 200 })).room s m ([.ref (ad .cl), .int a1] : List Value).toArray below meth c H locs 0 0 Qn (F0 m 4 ls []) := by
    intro m8
    induction m8 with
    | zero => intro y1 y2 hF; cases hF
    | succ m8 ih =>
      intro y1 y2 hF H locs ls hP hD hS hl
      simp only [C7_lotsFinishedBefore_L4] at hF
      refine lv_iload_n hx hb dX7_lotsFinishedBefore_4 rfl (lv_at hl 0 rfl) ?_
      refine lv_aload_n hx hb dX7_lotsFinishedBefore_5 rfl (lv_at hl 2 rfl) ?_
      obtain ⟨q9, h9⟩ := wc_at (cy := cy) (ad := ad) (ks := ks) (g := g) (u := u0) (κ := .cl) hk.1 True.intro
      refine va_get (D := (dC, dI)) (ci := 7) (v := .ref (ad (.ln 0))) (C := RX7) (T := TX7) (N := 12) hx hb hts inlX7 hown hK hP q9 h9 rfl 0 (by decide) (hts _ mw_18) (fun _ h9 => h9) rfl dX7_lotsFinishedBefore_6 ?_
      clear h9
      obtain ⟨q9, h9⟩ := wc_at (cy := cy) (ad := ad) (ks := ks) (g := g) (u := u0) (κ := (.ln 0)) hk.1 (Or.inl (by decide))
      refine va_get (D := (dC, dI)) (ci := 3) (v := .int (u0 (10 + 0) 8)) (C := RX3) (T := TX3) (N := 17) hx hb hts inlX3 hown hK hP q9 h9 rfl 8 (by decide) (hts _ mw_571) (fun _ h9 => h9) rfl dX7_lotsFinishedBefore_9 ?_
      clear h9
      refine lv_icmp_ge (tgt := 71) hx hb dX7_lotsFinishedBefore_12 (by decide) (fun c9 => ?_) (fun c9 => ?_)
      · rw [if_pos c9] at hF
        have ht := s1 hF
        subst ht
        exact kx5 _ _ _ hP hD hS (lv_sub hl [0, 1, 2, 3] rfl)
      · rw [if_neg c9] at hF
        refine lv_aload_n hx hb dX7_lotsFinishedBefore_15 rfl (lv_at hl 2 rfl) ?_
        obtain ⟨q9, h9⟩ := wc_at (cy := cy) (ad := ad) (ks := ks) (g := g) (u := u0) (κ := .cl) hk.1 True.intro
        refine va_get (D := (dC, dI)) (ci := 7) (v := .ref (ad .ft)) (C := RX7) (T := TX7) (N := 12) hx hb hts inlX7 hown hK hP q9 h9 rfl 6 (by decide) (hts _ mw_29) (fun _ h9 => h9) rfl dX7_lotsFinishedBefore_16 ?_
        clear h9
        refine lv_iload_n hx hb dX7_lotsFinishedBefore_19 rfl (lv_at hl 0 rfl) ?_
        obtain ⟨x10, e11, hF⟩ := ob hF
        obtain ⟨q9, h9⟩ := wc_at (cy := cy) (ad := ad) (ks := ks) (g := g) (u := u0) (κ := .ft) hk.1 True.intro
        refine va_iald hx hb hK hP q9 1 h9 rfl (rd_in e11) dX7_lotsFinishedBefore_20 ?_
        refine my_topi (y := x10) (rd_eq e11) ?_
        clear h9
        refine lv_aload_n hx hb dX7_lotsFinishedBefore_21 rfl (lv_at hl 2 rfl) ?_
        obtain ⟨q9, h9⟩ := wc_at (cy := cy) (ad := ad) (ks := ks) (g := g) (u := u0) (κ := .cl) hk.1 True.intro
        refine va_get (D := (dC, dI)) (ci := 7) (v := .ref (ad .ft)) (C := RX7) (T := TX7) (N := 12) hx hb hts inlX7 hown hK hP q9 h9 rfl 6 (by decide) (hts _ mw_29) (fun _ h9 => h9) rfl dX7_lotsFinishedBefore_22 ?_
        clear h9
        refine lv_iload_n hx hb dX7_lotsFinishedBefore_25 rfl (lv_at hl 3 rfl) ?_
        obtain ⟨x12, e13, hF⟩ := ob hF
        obtain ⟨q9, h9⟩ := wc_at (cy := cy) (ad := ad) (ks := ks) (g := g) (u := u0) (κ := .ft) hk.1 True.intro
        refine va_iald hx hb hK hP q9 1 h9 rfl (rd_in e13) dX7_lotsFinishedBefore_26 ?_
        refine my_topi (y := x12) (rd_eq e13) ?_
        clear h9
        obtain ⟨t15, hJ16, hF⟩ := ob hF
        have join17 : ∀ (H : Heap) (locs : List Loc) (ls : Array Slot), va_P (dC, dI) vwCl (WC cy ad ks g u0) H → va_D A (WC cy ad ks g u0) → va_S A s.heap H locs → lv_has ls 5 [(3, .int y1), (2, .int y2), (0, .ref (ad .cl)), (1, .int a1)] → W p l e (headSpec (wsg yX7_lotsFinishedBefore cX7_lotsFinishedBefore 5 (some .int)) ({ frames := 7, cells := 0, slots := 0, locals := 200 })).room s m ([.ref (ad .cl), .int a1] : List Value).toArray below meth c H locs 0 0 Qn (F0 m 35 ls [.int t15]) := by
          intro H locs ls hP hD hS hl
          refine lv_istore (lv' := [(4, .int t15), (3, .int y1), (2, .int y2), (0, .ref (ad .cl)), (1, .int a1)]) hx hb dX7_lotsFinishedBefore_35 hl (by decide) rfl (fun ls hl => ?_)
          refine lv_iload hx hb dX7_lotsFinishedBefore_37 (lv_at hl 0 rfl) ?_
          obtain ⟨t19, hJ20, hF⟩ := ob hF
          have join21 : ∀ (H : Heap) (locs : List Loc) (ls : Array Slot), va_P (dC, dI) vwCl (WC cy ad ks g u0) H → va_D A (WC cy ad ks g u0) → va_S A s.heap H locs → lv_has ls 5 [(2, .int t19), (4, .int t15), (3, .int y1), (0, .ref (ad .cl)), (1, .int a1)] → W p l e (headSpec (wsg yX7_lotsFinishedBefore cX7_lotsFinishedBefore 5 (some .int)) ({ frames := 7, cells := 0, slots := 0, locals := 200 })).room s m ([.ref (ad .cl), .int a1] : List Value).toArray below meth c H locs 0 0 Qn (F0 m 65 ls []) := by
            intro H locs ls hP hD hS hl
            refine lv_iinc (v := (y1 + 1)) (lv' := [(3, .int (y1 + 1)), (2, .int t19), (4, .int t15), (0, .ref (ad .cl)), (1, .int a1)]) hx hb dX7_lotsFinishedBefore_65 hl (k := 2) rfl (by rfl) (by decide) rfl (fun ls hl => ?_)
            refine lv_goto (tgt := 4) hx hb dX7_lotsFinishedBefore_68 (by decide) ?_
            exact ih _ _ hF _ _ _ hP hD hS (lv_sub hl [0, 1, 3, 4] rfl)
          clear hF
          have hF := hJ20
          clear hJ20
          refine lv_if_ne (tgt := 62) hx hb dX7_lotsFinishedBefore_39 (by decide) (fun c18 => ?_) (fun c18 => ?_)
          · rw [if_neg c18] at hF
            refine lv_iinc (v := (y2 + 1)) (lv' := [(2, .int (y2 + 1)), (4, .int t15), (3, .int y1), (0, .ref (ad .cl)), (1, .int a1)]) hx hb dX7_lotsFinishedBefore_62 hl (k := 2) rfl (by rfl) (by decide) rfl (fun ls hl => ?_)
            have ht := s1 hF
            subst ht
            exact join21 _ _ _ hP hD hS (lv_sub hl [0, 1, 2, 3, 4] rfl)
          · rw [if_pos c18] at hF
            refine lv_aload_n hx hb dX7_lotsFinishedBefore_42 rfl (lv_at hl 3 rfl) ?_
            obtain ⟨q9, h9⟩ := wc_at (cy := cy) (ad := ad) (ks := ks) (g := g) (u := u0) (κ := .cl) hk.1 True.intro
            refine va_get (D := (dC, dI)) (ci := 7) (v := .ref (ad .ft)) (C := RX7) (T := TX7) (N := 12) hx hb hts inlX7 hown hK hP q9 h9 rfl 6 (by decide) (hts _ mw_29) (fun _ h9 => h9) rfl dX7_lotsFinishedBefore_43 ?_
            clear h9
            refine lv_iload_n hx hb dX7_lotsFinishedBefore_46 rfl (lv_at hl 1 rfl) ?_
            obtain ⟨x22, e23, hF⟩ := ob hF
            obtain ⟨q9, h9⟩ := wc_at (cy := cy) (ad := ad) (ks := ks) (g := g) (u := u0) (κ := .ft) hk.1 True.intro
            refine va_iald hx hb hK hP q9 1 h9 rfl (rd_in e23) dX7_lotsFinishedBefore_47 ?_
            refine my_topi (y := x22) (rd_eq e23) ?_
            clear h9
            refine lv_aload_n hx hb dX7_lotsFinishedBefore_48 rfl (lv_at hl 3 rfl) ?_
            obtain ⟨q9, h9⟩ := wc_at (cy := cy) (ad := ad) (ks := ks) (g := g) (u := u0) (κ := .cl) hk.1 True.intro
            refine va_get (D := (dC, dI)) (ci := 7) (v := .ref (ad .ft)) (C := RX7) (T := TX7) (N := 12) hx hb hts inlX7 hown hK hP q9 h9 rfl 6 (by decide) (hts _ mw_29) (fun _ h9 => h9) rfl dX7_lotsFinishedBefore_49 ?_
            clear h9
            refine lv_iload_n hx hb dX7_lotsFinishedBefore_52 rfl (lv_at hl 4 rfl) ?_
            obtain ⟨x24, e25, hF⟩ := ob hF
            obtain ⟨q9, h9⟩ := wc_at (cy := cy) (ad := ad) (ks := ks) (g := g) (u := u0) (κ := .ft) hk.1 True.intro
            refine va_iald hx hb hK hP q9 1 h9 rfl (rd_in e25) dX7_lotsFinishedBefore_53 ?_
            refine my_topi (y := x24) (rd_eq e25) ?_
            clear h9
            refine lv_icmp_ne (tgt := 65) hx hb dX7_lotsFinishedBefore_54 (by decide) (fun c26 => ?_) (fun c26 => ?_)
            · rw [if_neg c26] at hF
              have ht := s1 hF
              subst ht
              exact join21 _ _ _ hP hD hS (lv_sub hl [2, 0, 1, 3, 4] rfl)
            · rw [if_pos c26] at hF
              refine lv_iload_n hx hb dX7_lotsFinishedBefore_57 rfl (lv_at hl 1 rfl) ?_
              refine lv_iload_n hx hb dX7_lotsFinishedBefore_58 rfl (lv_at hl 4 rfl) ?_
              refine lv_icmp_ge (tgt := 65) hx hb dX7_lotsFinishedBefore_59 (by decide) (fun c27 => ?_) (fun c27 => ?_)
              · rw [if_pos c27] at hF
                have ht := s1 hF
                subst ht
                exact join21 _ _ _ hP hD hS (lv_sub hl [2, 0, 1, 3, 4] rfl)
              · rw [if_neg c27] at hF
                refine lv_iinc (v := (y2 + 1)) (lv' := [(2, .int (y2 + 1)), (4, .int t15), (3, .int y1), (0, .ref (ad .cl)), (1, .int a1)]) hx hb dX7_lotsFinishedBefore_62 hl (k := 2) rfl (by rfl) (by decide) rfl (fun ls hl => ?_)
                have ht := s1 hF
                subst ht
                exact join21 _ _ _ hP hD hS (lv_sub hl [0, 1, 2, 3, 4] rfl)
        clear hF
        have hF := hJ16
        clear hJ16
        refine lv_icmp_ge (tgt := 34) hx hb dX7_lotsFinishedBefore_27 (by decide) (fun c14 => ?_) (fun c14 => ?_)
        · rw [if_pos c14] at hF
          refine lv_iconst (v := 0) hx hb dX7_lotsFinishedBefore_34 (by decide) ?_
          have ht := s1 hF
          subst ht
          exact join17 _ _ _ hP hD hS (lv_sub hl [0, 1, 2, 3] rfl)
        · rw [if_neg c14] at hF
          refine lv_iconst (v := 1) hx hb dX7_lotsFinishedBefore_30 (by decide) ?_
          refine lv_goto (tgt := 35) hx hb dX7_lotsFinishedBefore_31 (by decide) ?_
          have ht := s1 hF
          subst ht
          exact join17 _ _ _ hP hD hS (lv_sub hl [0, 1, 2, 3] rfl)
  exact loop7 FUEL _ _ hL4 _ _ _ hP hD hS (lv_sub hl [0, 1, 2, 3] rfl)
noncomputable def C7_lotBy_L71 (a1 : Int32) (g : CG) (t5 : Int32 × RS) : Nat → Int32 → Option (Sum (Int32 × RS) (Int32))
  | 0, _ => none
  | m16 + 1, y9 => if ((t5.2) (10 + 0) 8) ≤ y9 then (some (.inr y9)) else ((C7_lotsFinishedBefore g (t5.2) (y9)).bind fun x18 => if x18 = a1 then (some (.inl (y9, (t5.2)))) else (C7_lotBy_L71 a1 g t5 m16 ((y9 + 1))))
noncomputable def C7_lotBy_L19 (a1 : Int32) (g : CG) : Nat → Int32 → RS → Option (Int32 × RS)
  | 0, _, _ => none
  | m22 + 1, y3, u4 => if (u4 (10 + 0) 8) ≤ y3 then (some ((y3, u4))) else ((C7_copyOfLine g u4).bind fun t24 => (C7_ticksUntil_e1 g t24 1 (y3) (2000)).bind fun t26 => (if (t26.1) = (-1) then (some (2001 : Int32)) else (some (t26.1)) : Option (Int32)).bind fun t29 => (ws (t26.2) 2 6 y3 t29).bind fun u32 => C7_lotBy_L19 a1 g m22 ((y3 + 1)) u32)
noncomputable def C7_lotBy (g : CG) (u0 : RS) (a1 : Int32) : Option (Int32 × RS) := if a1 < 0 then (some ((-1 : Int32), u0)) else (if a1 < (u0 (10 + 0) 8) then ((C7_lotBy_L19 a1 g FUEL (0 : Int32) u0).bind fun t5 => (C7_lotBy_L71 a1 g t5 FUEL (0 : Int32)).bind fun t10 => match t10 with | .inl r => some r | .inr t14 => some ((-1 : Int32), (t5.2))) else (some ((-1 : Int32), u0)))
set_option maxHeartbeats 4000000 in
set_option maxRecDepth 100000 in
theorem c_X7_lotBy (l : Launch) (dC : Nat → ClassId) (dI : Nat → Nat → Nat) (cy : Nat → ClassId) (nb : Nat → Nat) (ad : CK → Nat) (ks : List CK) (g : CG) (hk : GA nb ad g ks) (u0 : RS) (a1 : Int32) (ro : Int32) (uz : RS) (sz : Nat) (hF : C7_lotBy g u0 a1 = some (ro, uz)) : Met l yX7_lotBy (wsg yX7_lotBy cX7_lotBy 4 (some .int)) ({ frames := 13, cells := 0, slots := 0, locals := 800 }) (va_Pc [.ref (ad .cl), .int a1] (fun U => U.heap.size = sz ∧ va_P (dC, dI) vwCl (WC cy ad ks g u0) U.heap ∧ va_K (dC, dI) vwCl (tyL cy) U ∧ va_D (fun _ => True) (WC cy ad ks g u0) ∧ GE nb (va_A (WC cy ad ks g u0) sz) U)) (va_Qi (fun (r : Int32) (_ : Unit) => r = ro) (fun _ t => va_P (dC, dI) vwCl (WC cy ad ks g uz) t.heap ∧ va_D (va_A (WC cy ad ks g u0) sz) (WC cy ad ks g uz)) (va_A (WC cy ad ks g u0) sz)) 0 0 (va_A (WC cy ad ks g u0) sz) := by
  refine Met.ofW (cc := cX7_lotBy) (maxL := 4) (ret := (some .int)) pn_X7 rfl ?_
  intro p e s m args below meth c s₁ B hml hv
  obtain ⟨rfl, hsz, hP, hK, hD0, hE⟩ := hv
  have hx := B.exec
  have hb := B.bytes
  have hr := B.returns
  have hts0 := atoms_spec (ws := (wsg yX7_lotBy cX7_lotBy 4 (some .int))) B.pre
  have hts : ∀ w ∈ wsL_law, w.before _ s = true := fun w h => hts0 w (List.mem_cons_of_mem _ h)
  have hown : s.vm.findClass RX7 = some m.cls := by have h9 := findClass_of_methodNamed B.named; exact h9
  have hlocks := B.notSynchronized
  subst hsz
  have hD := hD0.self (sz := s.heap.size)
  generalize hAe : va_A (WC cy ad ks g u0) s.heap.size = A at hD hE ⊢
  have hA : ∀ q : Nat, s.heap.size ≤ q → A q := fun q h => by rw [← hAe]; exact Or.inr h
  have hS : va_S A s.heap s.heap [] := va_S.rf
  have hl := lv_entry ([.ref (ad .cl), .int a1]) (n := 4) (Nat.le_of_ble_eq_true rfl)
  rw [lg_entry_eq]
  generalize (lg_sl ([.ref (ad .cl), .int a1]) ++ List.replicate (4 - (lg_sl ([.ref (ad .cl), .int a1])).length) Slot.unset).toArray = ls at hl ⊢
  have hl : lv_has ls 4 [(0, .ref (ad .cl)), (1, .int a1)] := hl
  generalize hHe : s.heap = H at hP hS ⊢
  have hS : va_S A s.heap H [] := by rw [hHe]; exact hS
  refine my_Q (fun Qn hQ => ?_)
  simp only [C7_lotBy] at hF
  refine lv_iload_n hx hb dX7_lotBy_0 rfl (lv_at hl 1 rfl) ?_
  refine lv_if_lt (tgt := 15) hx hb dX7_lotBy_1 (by decide) (fun c1 => ?_) (fun c1 => ?_)
  · rw [if_pos c1] at hF
    refine lv_iconst (v := (-1)) hx hb dX7_lotBy_15 (by decide) ?_
    have hZ := s1 hF
    have zro : (-1 : Int32) = ro := (congrArg (fun q => q.1) hZ)
    have zuz : u0 = uz := (congrArg (fun q => q.2) hZ)
    have hP9 : va_P (dC, dI) vwCl (WC cy ad ks g uz) H := by rw [← zuz]; exact hP
    have hD9 : va_D A (WC cy ad ks g uz) := by rw [← zuz]; exact hD
    rw [hQ]
    exact W.iret (v := (-1 : Int32)) hx hb hr (fun t ht hW => ⟨⟨(-1 : Int32), (), rfl, zro, by rw [ht]; exact hP9, hD9⟩, hS.F ht⟩) hS.2.2 dX7_lotBy_16
  · rw [if_neg c1] at hF
    refine lv_iload_n hx hb dX7_lotBy_4 rfl (lv_at hl 1 rfl) ?_
    refine lv_aload_n hx hb dX7_lotBy_5 rfl (lv_at hl 0 rfl) ?_
    obtain ⟨q9, h9⟩ := wc_at (cy := cy) (ad := ad) (ks := ks) (g := g) (u := u0) (κ := .cl) hk.1 True.intro
    refine va_get (D := (dC, dI)) (ci := 7) (v := .ref (ad (.ln 0))) (C := RX7) (T := TX7) (N := 12) hx hb hts inlX7 hown hK hP q9 h9 rfl 0 (by decide) (hts _ mw_18) (fun _ h9 => h9) rfl dX7_lotBy_6 ?_
    clear h9
    obtain ⟨q9, h9⟩ := wc_at (cy := cy) (ad := ad) (ks := ks) (g := g) (u := u0) (κ := (.ln 0)) hk.1 (Or.inl (by decide))
    refine va_get (D := (dC, dI)) (ci := 3) (v := .int (u0 (10 + 0) 8)) (C := RX3) (T := TX3) (N := 17) hx hb hts inlX3 hown hK hP q9 h9 rfl 8 (by decide) (hts _ mw_571) (fun _ h9 => h9) rfl dX7_lotBy_9 ?_
    clear h9
    refine lv_icmp_lt (tgt := 17) hx hb dX7_lotBy_12 (by decide) (fun c2 => ?_) (fun c2 => ?_)
    · rw [if_pos c2] at hF
      refine lv_iconst (v := 0) hx hb dX7_lotBy_17 (by decide) ?_
      refine lv_istore_n (lv' := [(2, .int 0), (0, .ref (ad .cl)), (1, .int a1)]) hx hb dX7_lotBy_18 rfl hl (by decide) rfl (fun ls hl => ?_)
      obtain ⟨t5, hL6, hF⟩ := ob hF
      have kx7 : ∀ (H : Heap) (locs : List Loc) (ls : Array Slot), va_P (dC, dI) vwCl (WC cy ad ks g (t5.2)) H → va_D A (WC cy ad ks g (t5.2)) → va_S A s.heap H locs → lv_has ls 4 [(2, .int (t5.1)), (0, .ref (ad .cl)), (1, .int a1)] → W p l e (headSpec (wsg yX7_lotBy cX7_lotBy 4 (some .int)) ({ frames := 13, cells := 0, slots := 0, locals := 800 })).room s m ([.ref (ad .cl), .int a1] : List Value).toArray below meth c H locs 0 0 Qn (F0 m 69 ls []) := by
        intro H locs ls hP hD hS hl
        refine lv_iconst (v := 0) hx hb dX7_lotBy_69 (by decide) ?_
        refine lv_istore_n (lv' := [(2, .int 0), (0, .ref (ad .cl)), (1, .int a1)]) hx hb dX7_lotBy_70 rfl hl (by decide) rfl (fun ls hl => ?_)
        obtain ⟨t10, hL11, hF⟩ := ob hF
        have kx12 : ∀ (t14 : Int32), t10 = .inr t14 → ∀ (H : Heap) (locs : List Loc) (ls : Array Slot), va_P (dC, dI) vwCl (WC cy ad ks g (t5.2)) H → va_D A (WC cy ad ks g (t5.2)) → va_S A s.heap H locs → lv_has ls 4 [(2, .int t14), (0, .ref (ad .cl)), (1, .int a1)] → W p l e (headSpec (wsg yX7_lotBy cX7_lotBy 4 (some .int)) ({ frames := 13, cells := 0, slots := 0, locals := 800 })).room s m ([.ref (ad .cl), .int a1] : List Value).toArray below meth c H locs 0 0 Qn (F0 m 99 ls []) := by
          intro t14 he H locs ls hP hD hS hl
          subst he
          refine lv_iconst (v := (-1)) hx hb dX7_lotBy_99 (by decide) ?_
          have hZ := s1 hF
          have zro : (-1 : Int32) = ro := (congrArg (fun q => q.1) hZ)
          have zuz : (t5.2) = uz := (congrArg (fun q => q.2) hZ)
          have hP9 : va_P (dC, dI) vwCl (WC cy ad ks g uz) H := by rw [← zuz]; exact hP
          have hD9 : va_D A (WC cy ad ks g uz) := by rw [← zuz]; exact hD
          rw [hQ]
          exact W.iret (v := (-1 : Int32)) hx hb hr (fun t ht hW => ⟨⟨(-1 : Int32), (), rfl, zro, by rw [ht]; exact hP9, hD9⟩, hS.F ht⟩) hS.2.2 dX7_lotBy_100
        have kr13 : ∀ r : Int32 × RS, t10 = .inl r → some r = some (ro, uz) := by
          intro r he
          subst he
          exact hF
        clear hF
        have loop15 : ∀ (m16 : Nat) (y9 : Int32), C7_lotBy_L71 a1 g t5 m16 y9 = some t10 → ∀ (H : Heap) (locs : List Loc) (ls : Array Slot), va_P (dC, dI) vwCl (WC cy ad ks g (t5.2)) H → va_D A (WC cy ad ks g (t5.2)) → va_S A s.heap H locs → lv_has ls 4 [(2, .int y9), (0, .ref (ad .cl)), (1, .int a1)] → W p l e (headSpec (wsg yX7_lotBy cX7_lotBy 4 (some .int)) ({ frames := 13, cells := 0, slots := 0, locals := 800 })).room s m ([.ref (ad .cl), .int a1] : List Value).toArray below meth c H locs 0 0 Qn (F0 m 71 ls []) := by
          intro m16
          induction m16 with
          | zero => intro y9 hF; cases hF
          | succ m16 ih =>
            intro y9 hF H locs ls hP hD hS hl
            simp only [C7_lotBy_L71] at hF
            refine lv_iload_n hx hb dX7_lotBy_71 rfl (lv_at hl 0 rfl) ?_
            refine lv_aload_n hx hb dX7_lotBy_72 rfl (lv_at hl 1 rfl) ?_
            obtain ⟨q9, h9⟩ := wc_at (cy := cy) (ad := ad) (ks := ks) (g := g) (u := (t5.2)) (κ := .cl) hk.1 True.intro
            refine va_get (D := (dC, dI)) (ci := 7) (v := .ref (ad (.ln 0))) (C := RX7) (T := TX7) (N := 12) hx hb hts inlX7 hown hK hP q9 h9 rfl 0 (by decide) (hts _ mw_18) (fun _ h9 => h9) rfl dX7_lotBy_73 ?_
            clear h9
            obtain ⟨q9, h9⟩ := wc_at (cy := cy) (ad := ad) (ks := ks) (g := g) (u := (t5.2)) (κ := (.ln 0)) hk.1 (Or.inl (by decide))
            refine va_get (D := (dC, dI)) (ci := 3) (v := .int ((t5.2) (10 + 0) 8)) (C := RX3) (T := TX3) (N := 17) hx hb hts inlX3 hown hK hP q9 h9 rfl 8 (by decide) (hts _ mw_571) (fun _ h9 => h9) rfl dX7_lotBy_76 ?_
            clear h9
            refine lv_icmp_ge (tgt := 99) hx hb dX7_lotBy_79 (by decide) (fun c17 => ?_) (fun c17 => ?_)
            · rw [if_pos c17] at hF
              exact kx12 _ (s1 hF).symm _ _ _ hP hD hS (lv_sub hl [0, 1, 2] rfl)
            · rw [if_neg c17] at hF
              refine lv_aload_n hx hb dX7_lotBy_82 rfl (lv_at hl 1 rfl) ?_
              refine lv_iload_n hx hb dX7_lotBy_83 rfl (lv_at hl 0 rfl) ?_
              obtain ⟨x18, e19, hF⟩ := ob hF
              have hPc := hP
              have hDc := hD
              have hFc := my_free hD hS hA
              obtain ⟨q8, h8⟩ := wc_at (cy := cy) (ad := ad) (ks := ks) (g := g) (u := (t5.2)) (κ := .cl) hk.1 True.intro
              refine va_calli (va_runV (As := [.int y9]) (rest := []) ⟨hx, hb, hml, hown, hts⟩ (c_X7_lotsFinishedBefore l dC dI cy nb ad ks g hk (t5.2) (y9) (x18) H.size e19) (cwV 1 hts (gV mw_1421 mw_1422 mw_1423 mw_2 mw_1424) rfl rfl rfl (by decide +kernel) ⟨Nat.le_of_ble_eq_true rfl, Nat.le_of_ble_eq_true rfl⟩) (my_preV hPc hK hDc hE hS hFc (va_recv (q := (RX7, TX7, 12)) hK hP (ci := 7) (q0 := q8) rfl h8)) rfl rfl hl.1 rfl (lv_room (Nat.le_of_ble_eq_true rfl)) dX7_lotBy_84 ⟨Nat.le_of_ble_eq_true rfl, Nat.le_of_ble_eq_true rfl⟩) hS (fun q _ h => hFc q h) hFc (fun r u t H1 locs ht hvm hw hB hz1 hk1 hS => ?_)
              clear h8
              obtain ⟨hP1, hD1⟩ := hB
              rw [ht] at hP1
              have hP := hP1
              have hD := hD1.weaken (fun k q _ h => hFc q.1 h)
              generalize H1 = H at hP hS ⊢
              clear hP1 hD1 hPc hDc hFc hk1 hz1 hvm ht
              obtain rfl := hw.symm
              refine lv_iload_n hx hb dX7_lotBy_87 rfl (lv_at hl 2 rfl) ?_
              refine lv_icmp_ne (tgt := 93) hx hb dX7_lotBy_88 (by decide) (fun c20 => ?_) (fun c20 => ?_)
              · rw [if_neg c20] at hF
                refine lv_iinc (v := (y9 + 1)) (lv' := [(2, .int (y9 + 1)), (0, .ref (ad .cl)), (1, .int a1)]) hx hb dX7_lotBy_93 hl (k := 0) rfl (by rfl) (by decide) rfl (fun ls hl => ?_)
                refine lv_goto (tgt := 71) hx hb dX7_lotBy_96 (by decide) ?_
                exact ih _ hF _ _ _ hP hD hS (lv_sub hl [0, 1, 2] rfl)
              · rw [if_pos c20] at hF
                refine lv_iload_n hx hb dX7_lotBy_91 rfl (lv_at hl 0 rfl) ?_
                have hF := kr13 _ (s1 hF).symm
                have hZ := s1 hF
                have zro : y9 = ro := (congrArg (fun q => q.1) hZ)
                have zuz : (t5.2) = uz := (congrArg (fun q => q.2) hZ)
                have hP9 : va_P (dC, dI) vwCl (WC cy ad ks g uz) H := by rw [← zuz]; exact hP
                have hD9 : va_D A (WC cy ad ks g uz) := by rw [← zuz]; exact hD
                rw [hQ]
                exact W.iret (v := y9) hx hb hr (fun t ht hW => ⟨⟨y9, (), rfl, zro, by rw [ht]; exact hP9, hD9⟩, hS.F ht⟩) hS.2.2 dX7_lotBy_92
        exact loop15 FUEL _ hL11 _ _ _ hP hD hS (lv_sub hl [0, 1, 2] rfl)
      clear hF
      have loop21 : ∀ (m22 : Nat) (y3 : Int32) (u4 : RS), C7_lotBy_L19 a1 g m22 y3 u4 = some t5 → ∀ (H : Heap) (locs : List Loc) (ls : Array Slot), va_P (dC, dI) vwCl (WC cy ad ks g u4) H → va_D A (WC cy ad ks g u4) → va_S A s.heap H locs → lv_has ls 4 [(2, .int y3), (0, .ref (ad .cl)), (1, .int a1)] → W p l e (headSpec (wsg yX7_lotBy cX7_lotBy 4 (some .int)) ({ frames := 13, cells := 0, slots := 0, locals := 800 })).room s m ([.ref (ad .cl), .int a1] : List Value).toArray below meth c H locs 0 0 Qn (F0 m 19 ls []) := by
        intro m22
        induction m22 with
        | zero => intro y3 u4 hF; cases hF
        | succ m22 ih =>
          intro y3 u4 hF H locs ls hP hD hS hl
          simp only [C7_lotBy_L19] at hF
          refine lv_iload_n hx hb dX7_lotBy_19 rfl (lv_at hl 0 rfl) ?_
          refine lv_aload_n hx hb dX7_lotBy_20 rfl (lv_at hl 1 rfl) ?_
          obtain ⟨q9, h9⟩ := wc_at (cy := cy) (ad := ad) (ks := ks) (g := g) (u := u4) (κ := .cl) hk.1 True.intro
          refine va_get (D := (dC, dI)) (ci := 7) (v := .ref (ad (.ln 0))) (C := RX7) (T := TX7) (N := 12) hx hb hts inlX7 hown hK hP q9 h9 rfl 0 (by decide) (hts _ mw_18) (fun _ h9 => h9) rfl dX7_lotBy_21 ?_
          clear h9
          obtain ⟨q9, h9⟩ := wc_at (cy := cy) (ad := ad) (ks := ks) (g := g) (u := u4) (κ := (.ln 0)) hk.1 (Or.inl (by decide))
          refine va_get (D := (dC, dI)) (ci := 3) (v := .int (u4 (10 + 0) 8)) (C := RX3) (T := TX3) (N := 17) hx hb hts inlX3 hown hK hP q9 h9 rfl 8 (by decide) (hts _ mw_571) (fun _ h9 => h9) rfl dX7_lotBy_24 ?_
          clear h9
          refine lv_icmp_ge (tgt := 69) hx hb dX7_lotBy_27 (by decide) (fun c23 => ?_) (fun c23 => ?_)
          · rw [if_pos c23] at hF
            have ht := s1 hF
            subst ht
            exact kx7 _ _ _ hP hD hS (lv_sub hl [0, 1, 2] rfl)
          · rw [if_neg c23] at hF
            refine lv_aload_n hx hb dX7_lotBy_30 rfl (lv_at hl 1 rfl) ?_
            obtain ⟨t24, e25, hF⟩ := ob hF
            have hPc := hP
            have hDc := hD
            have hFc := my_free hD hS hA
            obtain ⟨q8, h8⟩ := wc_at (cy := cy) (ad := ad) (ks := ks) (g := g) (u := u4) (κ := .cl) hk.1 True.intro
            refine va_callr (va_runV (As := []) (rest := []) ⟨hx, hb, hml, hown, hts⟩ (c_X7_copyOfLine l dC dI cy nb ad ks g hk u4 (t24) H.size e25) (cwV 0 hts (gV mw_1298 mw_1299 mw_1300 mw_2 mw_1301) rfl rfl rfl (by decide +kernel) ⟨Nat.le_of_ble_eq_true rfl, Nat.le_of_ble_eq_true rfl⟩) (my_preV hPc hK hDc hE hS hFc (va_recv (q := (RX7, TX7, 12)) hK hP (ci := 7) (q0 := q8) rfl h8)) rfl rfl hl.1 rfl (lv_room (Nat.le_of_ble_eq_true rfl)) dX7_lotBy_31 ⟨Nat.le_of_ble_eq_true rfl, Nat.le_of_ble_eq_true rfl⟩) hS (fun q _ h => hFc q h) hFc (fun u ra t H1 locs ht hvm hw hB hz1 hk1 hS => ?_)
            clear h8
            obtain ⟨hra, hP1, hD1⟩ := hB
            rw [ht] at hP1
            have hP := hP1
            have hD := hD1.weaken (fun k q _ h => hFc q.1 h)
            generalize H1 = H at hP hS ⊢
            clear hP1 hD1 hPc hDc hFc hk1 hz1 hvm ht
            obtain rfl := hra.symm
            refine va_gets (C := RX2) (n := "LOT_FINISHED") (d := "LCardLine$Event;") (ref := "CardLine$Event") (v := .ref (nb (40 + 1))) hx hb (hE.evk 1 rfl).1 hS hown (hts _ mw_1349) (fun _ h9 => h9) dX7_lotBy_34 ?_
            refine lv_iload_n hx hb dX7_lotBy_37 rfl (lv_at hl 0 rfl) ?_
            refine lv_sipush (v := 2000) hx hb dX7_lotBy_38 (by decide) ?_
            obtain ⟨t26, e27, hF⟩ := ob hF
            have hPc := hP
            have hDc := hD
            have hFc := my_free hD hS hA
            refine va_calli (va_runS (As := [.ref (ad (.ln 1)), .ref (nb (40 + 1)), .int y3, .int 2000]) (rest := []) ⟨hx, hb, hml, hown, hts⟩ (c_X7_ticksUntil_e1 l dC dI cy nb ad ks g hk t24 1 (y3) (2000) (t26.1) (t26.2) H.size (Or.inl (by decide)) e27) (va_cwS 4 hts (gS mw_1302 mw_1303 mw_2 mw_1304) rfl rfl rfl (by decide +kernel) ⟨Nat.le_of_ble_eq_true rfl, Nat.le_of_ble_eq_true rfl⟩) (my_preS hPc hK hDc hE hS hFc) rfl rfl hl.1 rfl (lv_room (Nat.le_of_ble_eq_true rfl)) dX7_lotBy_41 ⟨Nat.le_of_ble_eq_true rfl, Nat.le_of_ble_eq_true rfl⟩) hS (fun q _ h => hFc q h) hFc (fun r u t H1 locs ht hvm hw hB hz1 hk1 hS => ?_)
            obtain ⟨hP1, hD1⟩ := hB
            rw [ht] at hP1
            have hP := hP1
            have hD := hD1.weaken (fun k q _ h => hFc q.1 h)
            generalize H1 = H at hP hS ⊢
            clear hP1 hD1 hPc hDc hFc hk1 hz1 hvm ht
            obtain rfl := hw.symm
            refine lv_istore_n (lv' := [(3, .int (t26.1)), (2, .int y3), (0, .ref (ad .cl)), (1, .int a1)]) hx hb dX7_lotBy_44 rfl hl (by decide) rfl (fun ls hl => ?_)
            refine lv_aload_n hx hb dX7_lotBy_45 rfl (lv_at hl 2 rfl) ?_
            obtain ⟨q9, h9⟩ := wc_at (cy := cy) (ad := ad) (ks := ks) (g := g) (u := (t26.2)) (κ := .cl) hk.1 True.intro
            refine va_get (D := (dC, dI)) (ci := 7) (v := .ref (ad .ft)) (C := RX7) (T := TX7) (N := 12) hx hb hts inlX7 hown hK hP q9 h9 rfl 6 (by decide) (hts _ mw_29) (fun _ h9 => h9) rfl dX7_lotBy_46 ?_
            clear h9
            refine lv_iload_n hx hb dX7_lotBy_49 rfl (lv_at hl 1 rfl) ?_
            refine lv_iload_n hx hb dX7_lotBy_50 rfl (lv_at hl 0 rfl) ?_
            refine lv_iconst (v := (-1)) hx hb dX7_lotBy_51 (by decide) ?_
            obtain ⟨t29, hJ30, hF⟩ := ob hF
            have join31 : ∀ (H : Heap) (locs : List Loc) (ls : Array Slot), va_P (dC, dI) vwCl (WC cy ad ks g (t26.2)) H → va_D A (WC cy ad ks g (t26.2)) → va_S A s.heap H locs → lv_has ls 4 [(3, .int (t26.1)), (2, .int y3), (0, .ref (ad .cl)), (1, .int a1)] → W p l e (headSpec (wsg yX7_lotBy cX7_lotBy 4 (some .int)) ({ frames := 13, cells := 0, slots := 0, locals := 800 })).room s m ([.ref (ad .cl), .int a1] : List Value).toArray below meth c H locs 0 0 Qn (F0 m 62 ls [.int t29, .int y3, .ref (ad .ft)]) := by
              intro H locs ls hP hD hS hl
              obtain ⟨u32, e33, hF⟩ := ob hF
              obtain ⟨q9, h9, ez9⟩ := wc_set (cy := cy) (ad := ad) (ks := ks) (g := g) (u := (t26.2)) (κ := .ft) (r := 2) (i := (y3 : Int32).toNatClampNeg) (v := t29) hk.1 True.intro own_ft (sf_ft)
              refine va_iast hx hb hK hP hD hS q9 1 h9 rfl (ws_in e33) dX7_lotBy_62 (fun H locs hP hD hS => ?_)
              have hP : va_P (dC, dI) vwCl (WC cy ad ks g u32) H := by rw [← ws_eq e33, ← ez9]; exact hP
              have hD : va_D A (WC cy ad ks g u32) := by rw [← ws_eq e33, ← ez9]; exact hD
              clear ez9 h9
              refine lv_iinc (v := (y3 + 1)) (lv' := [(2, .int (y3 + 1)), (3, .int (t26.1)), (0, .ref (ad .cl)), (1, .int a1)]) hx hb dX7_lotBy_63 hl (k := 1) rfl (by rfl) (by decide) rfl (fun ls hl => ?_)
              refine lv_goto (tgt := 19) hx hb dX7_lotBy_66 (by decide) ?_
              exact ih _ _ hF _ _ _ hP hD hS (lv_sub hl [0, 2, 3] rfl)
            clear hF
            have hF := hJ30
            clear hJ30
            refine lv_icmp_ne (tgt := 61) hx hb dX7_lotBy_52 (by decide) (fun c28 => ?_) (fun c28 => ?_)
            · rw [if_neg c28] at hF
              refine lv_iload_n hx hb dX7_lotBy_61 rfl (lv_at hl 0 rfl) ?_
              have ht := s1 hF
              subst ht
              exact join31 _ _ _ hP hD hS (lv_sub hl [0, 1, 2, 3] rfl)
            · rw [if_pos c28] at hF
              refine lv_sipush (v := 2001) hx hb dX7_lotBy_55 (by decide) ?_
              refine lv_goto (tgt := 62) hx hb dX7_lotBy_58 (by decide) ?_
              have ht := s1 hF
              subst ht
              exact join31 _ _ _ hP hD hS (lv_sub hl [0, 1, 2, 3] rfl)
      exact loop21 FUEL _ _ hL6 _ _ _ hP hD hS (lv_sub hl [0, 1, 2] rfl)
    · rw [if_neg c2] at hF
      refine lv_iconst (v := (-1)) hx hb dX7_lotBy_15 (by decide) ?_
      have hZ := s1 hF
      have zro : (-1 : Int32) = ro := (congrArg (fun q => q.1) hZ)
      have zuz : u0 = uz := (congrArg (fun q => q.2) hZ)
      have hP9 : va_P (dC, dI) vwCl (WC cy ad ks g uz) H := by rw [← zuz]; exact hP
      have hD9 : va_D A (WC cy ad ks g uz) := by rw [← zuz]; exact hD
      rw [hQ]
      exact W.iret (v := (-1 : Int32)) hx hb hr (fun t ht hW => ⟨⟨(-1 : Int32), (), rfl, zro, by rw [ht]; exact hP9, hD9⟩, hS.F ht⟩) hS.2.2 dX7_lotBy_16
noncomputable def C7_lotIn (g : CG) (u0 : RS) (a1 : Int32) : Option (Sum Int32 (Int32 × RS)) := (C7_needLot g u0 (a1)).bind fun t1 => tr t1 fun t3 => (C7_copyOfLine g u0).bind fun t4 => (C7_ticksUntil_e1 g t4 1 (a1) (2000)).bind fun t6 => some (.inr ((t6.1), (t6.2)))
set_option maxHeartbeats 4000000 in
set_option maxRecDepth 100000 in
theorem c_X7_lotIn (l : Launch) (dC : Nat → ClassId) (dI : Nat → Nat → Nat) (cy : Nat → ClassId) (nb : Nat → Nat) (ad : CK → Nat) (ks : List CK) (g : CG) (hk : GA nb ad g ks) (u0 : RS) (a1 : Int32) (ro : Int32) (uz : RS) (sz : Nat) (hF : C7_lotIn g u0 a1 = some (.inr (ro, uz))) : Met l yX7_lotIn (wsg yX7_lotIn cX7_lotIn 2 (some .int)) ({ frames := 13, cells := 0, slots := 0, locals := 800 }) (va_Pc [.ref (ad .cl), .int a1] (fun U => U.heap.size = sz ∧ va_P (dC, dI) vwCl (WC cy ad ks g u0) U.heap ∧ va_K (dC, dI) vwCl (tyL cy) U ∧ va_D (fun _ => True) (WC cy ad ks g u0) ∧ GE nb (va_A (WC cy ad ks g u0) sz) U)) (va_Qi (fun (r : Int32) (_ : Unit) => r = ro) (fun _ t => va_P (dC, dI) vwCl (WC cy ad ks g uz) t.heap ∧ va_D (va_A (WC cy ad ks g u0) sz) (WC cy ad ks g uz)) (va_A (WC cy ad ks g u0) sz)) 0 0 (va_A (WC cy ad ks g u0) sz) := by
  refine Met.ofW (cc := cX7_lotIn) (maxL := 2) (ret := (some .int)) pn_X7 rfl ?_
  intro p e s m args below meth c s₁ B hml hv
  obtain ⟨rfl, hsz, hP, hK, hD0, hE⟩ := hv
  have hx := B.exec
  have hb := B.bytes
  have hr := B.returns
  have hts0 := atoms_spec (ws := (wsg yX7_lotIn cX7_lotIn 2 (some .int))) B.pre
  have hts : ∀ w ∈ wsL_law, w.before _ s = true := fun w h => hts0 w (List.mem_cons_of_mem _ h)
  have hown : s.vm.findClass RX7 = some m.cls := by have h9 := findClass_of_methodNamed B.named; exact h9
  have hlocks := B.notSynchronized
  subst hsz
  have hD := hD0.self (sz := s.heap.size)
  generalize hAe : va_A (WC cy ad ks g u0) s.heap.size = A at hD hE ⊢
  have hA : ∀ q : Nat, s.heap.size ≤ q → A q := fun q h => by rw [← hAe]; exact Or.inr h
  have hS : va_S A s.heap s.heap [] := va_S.rf
  have hl := lv_entry ([.ref (ad .cl), .int a1]) (n := 2) (Nat.le_of_ble_eq_true rfl)
  rw [lg_entry_eq]
  generalize (lg_sl ([.ref (ad .cl), .int a1]) ++ List.replicate (2 - (lg_sl ([.ref (ad .cl), .int a1])).length) Slot.unset).toArray = ls at hl ⊢
  have hl : lv_has ls 2 [(0, .ref (ad .cl)), (1, .int a1)] := hl
  generalize hHe : s.heap = H at hP hS ⊢
  have hS : va_S A s.heap H [] := by rw [hHe]; exact hS
  refine my_Q (fun Qn hQ => ?_)
  simp only [C7_lotIn] at hF
  refine lv_aload_n hx hb dX7_lotIn_0 rfl (lv_at hl 0 rfl) ?_
  refine lv_iload_n hx hb dX7_lotIn_1 rfl (lv_at hl 1 rfl) ?_
  obtain ⟨t1, e2, hF⟩ := ob hF
  rcases t1 with xz9 | t3
  · have hF : some (Sum.inl xz9) = some (.inr (ro, uz)) := hF
    cases hF
  · dsimp only [tr] at hF
    have hPc := hP
    have hDc := hD
    have hFc := my_free hD hS hA
    obtain ⟨q8, h8⟩ := wc_at (cy := cy) (ad := ad) (ks := ks) (g := g) (u := u0) (κ := .cl) hk.1 True.intro
    refine va_callv (va_runV (As := [.int a1]) (rest := []) ⟨hx, hb, hml, hown, hts⟩ (c_X7_needLot l dC dI cy nb ad ks g hk u0 (a1) H.size e2) (cwV 1 hts (gV mw_704 mw_705 mw_706 mw_2 mw_707) rfl rfl rfl (by decide +kernel) ⟨Nat.le_of_ble_eq_true rfl, Nat.le_of_ble_eq_true rfl⟩) (my_preV hPc hK hDc hE hS hFc (va_recv (q := (RX7, TX7, 12)) hK hP (ci := 7) (q0 := q8) rfl h8)) rfl rfl hl.1 rfl (lv_room (Nat.le_of_ble_eq_true rfl)) dX7_lotIn_2 ⟨Nat.le_of_ble_eq_true rfl, Nat.le_of_ble_eq_true rfl⟩) hS (fun q _ h => hFc q h) hFc (fun u t H1 locs ht hvm hw hB hz1 hk1 hS => ?_)
    clear h8
    obtain ⟨hP1, hD1⟩ := hB
    rw [ht] at hP1
    have hP := hP1
    have hD := hD1.weaken (fun k q _ h => hFc q.1 h)
    generalize H1 = H at hP hS ⊢
    clear hP1 hD1 hPc hDc hFc hk1 hz1 hvm ht
    refine lv_aload_n hx hb dX7_lotIn_5 rfl (lv_at hl 0 rfl) ?_
    obtain ⟨t4, e5, hF⟩ := ob hF
    have hPc := hP
    have hDc := hD
    have hFc := my_free hD hS hA
    obtain ⟨q8, h8⟩ := wc_at (cy := cy) (ad := ad) (ks := ks) (g := g) (u := u0) (κ := .cl) hk.1 True.intro
    refine va_callr (va_runV (As := []) (rest := []) ⟨hx, hb, hml, hown, hts⟩ (c_X7_copyOfLine l dC dI cy nb ad ks g hk u0 (t4) H.size e5) (cwV 0 hts (gV mw_1298 mw_1299 mw_1300 mw_2 mw_1301) rfl rfl rfl (by decide +kernel) ⟨Nat.le_of_ble_eq_true rfl, Nat.le_of_ble_eq_true rfl⟩) (my_preV hPc hK hDc hE hS hFc (va_recv (q := (RX7, TX7, 12)) hK hP (ci := 7) (q0 := q8) rfl h8)) rfl rfl hl.1 rfl (lv_room (Nat.le_of_ble_eq_true rfl)) dX7_lotIn_6 ⟨Nat.le_of_ble_eq_true rfl, Nat.le_of_ble_eq_true rfl⟩) hS (fun q _ h => hFc q h) hFc (fun u ra t H1 locs ht hvm hw hB hz1 hk1 hS => ?_)
    clear h8
    obtain ⟨hra, hP1, hD1⟩ := hB
    rw [ht] at hP1
    have hP := hP1
    have hD := hD1.weaken (fun k q _ h => hFc q.1 h)
    generalize H1 = H at hP hS ⊢
    clear hP1 hD1 hPc hDc hFc hk1 hz1 hvm ht
    obtain rfl := hra.symm
    refine va_gets (C := RX2) (n := "LOT_FINISHED") (d := "LCardLine$Event;") (ref := "CardLine$Event") (v := .ref (nb (40 + 1))) hx hb (hE.evk 1 rfl).1 hS hown (hts _ mw_1349) (fun _ h9 => h9) dX7_lotIn_9 ?_
    refine lv_iload_n hx hb dX7_lotIn_12 rfl (lv_at hl 1 rfl) ?_
    refine lv_sipush (v := 2000) hx hb dX7_lotIn_13 (by decide) ?_
    obtain ⟨t6, e7, hF⟩ := ob hF
    have hPc := hP
    have hDc := hD
    have hFc := my_free hD hS hA
    refine va_calli (va_runS (As := [.ref (ad (.ln 1)), .ref (nb (40 + 1)), .int a1, .int 2000]) (rest := []) ⟨hx, hb, hml, hown, hts⟩ (c_X7_ticksUntil_e1 l dC dI cy nb ad ks g hk t4 1 (a1) (2000) (t6.1) (t6.2) H.size (Or.inl (by decide)) e7) (va_cwS 4 hts (gS mw_1302 mw_1303 mw_2 mw_1304) rfl rfl rfl (by decide +kernel) ⟨Nat.le_of_ble_eq_true rfl, Nat.le_of_ble_eq_true rfl⟩) (my_preS hPc hK hDc hE hS hFc) rfl rfl hl.1 rfl (lv_room (Nat.le_of_ble_eq_true rfl)) dX7_lotIn_16 ⟨Nat.le_of_ble_eq_true rfl, Nat.le_of_ble_eq_true rfl⟩) hS (fun q _ h => hFc q h) hFc (fun r u t H1 locs ht hvm hw hB hz1 hk1 hS => ?_)
    obtain ⟨hP1, hD1⟩ := hB
    rw [ht] at hP1
    have hP := hP1
    have hD := hD1.weaken (fun k q _ h => hFc q.1 h)
    generalize H1 = H at hP hS ⊢
    clear hP1 hD1 hPc hDc hFc hk1 hz1 hvm ht
    obtain rfl := hw.symm
    have hZ := s3 hF
    have zro : (t6.1) = ro := (congrArg (fun q => q.1) hZ)
    have zuz : (t6.2) = uz := (congrArg (fun q => q.2) hZ)
    have hP9 : va_P (dC, dI) vwCl (WC cy ad ks g uz) H := by rw [← zuz]; exact hP
    have hD9 : va_D A (WC cy ad ks g uz) := by rw [← zuz]; exact hD
    rw [hQ]
    exact W.iret (v := (t6.1)) hx hb hr (fun t ht hW => ⟨⟨(t6.1), (), rfl, zro, by rw [ht]; exact hP9, hD9⟩, hS.F ht⟩) hS.2.2 dX7_lotIn_19
noncomputable def C7_meanFails (g : CG) (u0 : RS)  : Option (UInt32) := (if (u0 (10 + 0) 9) = 0 then (some FP.fconst0) else ((fd (FP.i2f (u0 (10 + 0) (12 + 1))) (FP.i2f (u0 (10 + 0) 9))).bind fun x5 => some x5) : Option (UInt32)).bind fun t2 => some t2
set_option maxHeartbeats 4000000 in
set_option maxRecDepth 100000 in
theorem c_X7_meanFails (l : Launch) (dC : Nat → ClassId) (dI : Nat → Nat → Nat) (cy : Nat → ClassId) (nb : Nat → Nat) (ad : CK → Nat) (ks : List CK) (g : CG) (hk : GA nb ad g ks) (u0 : RS)  (ro : UInt32) (sz : Nat) (hF : C7_meanFails g u0  = some ro) : Met l yX7_meanFails (wsg yX7_meanFails cX7_meanFails 2 (some .float)) ({ frames := 7, cells := 0, slots := 0, locals := 200 }) (va_Pc [.ref (ad .cl)] (fun U => U.heap.size = sz ∧ va_P (dC, dI) vwCl (WC cy ad ks g u0) U.heap ∧ va_K (dC, dI) vwCl (tyL cy) U ∧ va_D (fun _ => True) (WC cy ad ks g u0) ∧ GE nb (va_A (WC cy ad ks g u0) sz) U)) (va_Qf (fun (r : UInt32) (_ : Unit) => r = ro) (fun _ t => va_P (dC, dI) vwCl (WC cy ad ks g u0) t.heap ∧ va_D (va_A (WC cy ad ks g u0) sz) (WC cy ad ks g u0)) (va_A (WC cy ad ks g u0) sz)) 0 0 (va_A (WC cy ad ks g u0) sz) := by
  refine Met.ofW (cc := cX7_meanFails) (maxL := 2) (ret := (some .float)) pn_X7 rfl ?_
  intro p e s m args below meth c s₁ B hml hv
  obtain ⟨rfl, hsz, hP, hK, hD0, hE⟩ := hv
  have hx := B.exec
  have hb := B.bytes
  have hr := B.returns
  have hts0 := atoms_spec (ws := (wsg yX7_meanFails cX7_meanFails 2 (some .float))) B.pre
  have hts : ∀ w ∈ wsL_law, w.before _ s = true := fun w h => hts0 w (List.mem_cons_of_mem _ h)
  have hown : s.vm.findClass RX7 = some m.cls := by have h9 := findClass_of_methodNamed B.named; exact h9
  have hlocks := B.notSynchronized
  subst hsz
  have hD := hD0.self (sz := s.heap.size)
  generalize hAe : va_A (WC cy ad ks g u0) s.heap.size = A at hD hE ⊢
  have hA : ∀ q : Nat, s.heap.size ≤ q → A q := fun q h => by rw [← hAe]; exact Or.inr h
  have hS : va_S A s.heap s.heap [] := va_S.rf
  have hl := lv_entry ([.ref (ad .cl)]) (n := 2) (Nat.le_of_ble_eq_true rfl)
  rw [lg_entry_eq]
  generalize (lg_sl ([.ref (ad .cl)]) ++ List.replicate (2 - (lg_sl ([.ref (ad .cl)])).length) Slot.unset).toArray = ls at hl ⊢
  have hl : lv_has ls 2 [(0, .ref (ad .cl))] := hl
  generalize hHe : s.heap = H at hP hS ⊢
  have hS : va_S A s.heap H [] := by rw [hHe]; exact hS
  refine my_Q (fun Qn hQ => ?_)
  simp only [C7_meanFails] at hF
  refine lv_aload_n hx hb dX7_meanFails_0 rfl (lv_at hl 0 rfl) ?_
  obtain ⟨q9, h9⟩ := wc_at (cy := cy) (ad := ad) (ks := ks) (g := g) (u := u0) (κ := .cl) hk.1 True.intro
  refine va_get (D := (dC, dI)) (ci := 7) (v := .ref (ad (.ln 0))) (C := RX7) (T := TX7) (N := 12) hx hb hts inlX7 hown hK hP q9 h9 rfl 0 (by decide) (hts _ mw_18) (fun _ h9 => h9) rfl dX7_meanFails_1 ?_
  clear h9
  obtain ⟨q9, h9⟩ := wc_at (cy := cy) (ad := ad) (ks := ks) (g := g) (u := u0) (κ := (.ln 0)) hk.1 (Or.inl (by decide))
  refine va_get (D := (dC, dI)) (ci := 3) (v := .int (u0 (10 + 0) 9)) (C := RX3) (T := TX3) (N := 17) hx hb hts inlX3 hown hK hP q9 h9 rfl 9 (by decide) (hts _ mw_572) (fun _ h9 => h9) rfl dX7_meanFails_4 ?_
  clear h9
  refine lv_istore_n (lv' := [(1, .int (u0 (10 + 0) 9)), (0, .ref (ad .cl))]) hx hb dX7_meanFails_7 rfl hl (by decide) rfl (fun ls hl => ?_)
  refine lv_iload_n hx hb dX7_meanFails_8 rfl (lv_at hl 0 rfl) ?_
  obtain ⟨t2, hJ3, hF⟩ := ob hF
  have join4 : ∀ (H : Heap) (locs : List Loc) (ls : Array Slot), va_P (dC, dI) vwCl (WC cy ad ks g u0) H → va_D A (WC cy ad ks g u0) → va_S A s.heap H locs → lv_has ls 2 [(1, .int (u0 (10 + 0) 9)), (0, .ref (ad .cl))] → W p l e (headSpec (wsg yX7_meanFails cX7_meanFails 2 (some .float)) ({ frames := 7, cells := 0, slots := 0, locals := 200 })).room s m ([.ref (ad .cl)] : List Value).toArray below meth c H locs 0 0 Qn (F0 m 29 ls [.float t2]) := by
    intro H locs ls hP hD hS hl
    have hZ := s1 hF
    have zro : t2 = ro := hZ
    have hP9 : va_P (dC, dI) vwCl (WC cy ad ks g u0) H := by exact hP
    have hD9 : va_D A (WC cy ad ks g u0) := by exact hD
    rw [hQ]
    exact W.fret (v := t2) hx hb hr (fun t ht hW => ⟨⟨t2, (), rfl, zro, by rw [ht]; exact hP9, hD9⟩, hS.F ht⟩) hS.2.2 dX7_meanFails_29
  clear hF
  have hF := hJ3
  clear hJ3
  refine lv_if_ne (tgt := 16) hx hb dX7_meanFails_9 (by decide) (fun c1 => ?_) (fun c1 => ?_)
  · rw [if_neg c1] at hF
    refine lv_aload_n hx hb dX7_meanFails_16 rfl (lv_at hl 1 rfl) ?_
    obtain ⟨q9, h9⟩ := wc_at (cy := cy) (ad := ad) (ks := ks) (g := g) (u := u0) (κ := .cl) hk.1 True.intro
    refine va_get (D := (dC, dI)) (ci := 7) (v := .ref (ad (.ln 0))) (C := RX7) (T := TX7) (N := 12) hx hb hts inlX7 hown hK hP q9 h9 rfl 0 (by decide) (hts _ mw_18) (fun _ h9 => h9) rfl dX7_meanFails_17 ?_
    clear h9
    obtain ⟨q9, h9⟩ := wc_at (cy := cy) (ad := ad) (ks := ks) (g := g) (u := u0) (κ := (.ln 0)) hk.1 (Or.inl (by decide))
    refine va_get (D := (dC, dI)) (ci := 3) (v := .ref (ad (.tt 0))) (C := RX3) (T := TX3) (N := 17) hx hb hts inlX3 hown hK hP q9 h9 rfl 15 (by decide) (hts _ mw_909) (fun _ h9 => h9) rfl dX7_meanFails_20 ?_
    clear h9
    refine lv_iconst (v := 1) hx hb dX7_meanFails_23 (by decide) ?_
    obtain ⟨q9, h9⟩ := wc_at (cy := cy) (ad := ad) (ks := ks) (g := g) (u := u0) (κ := (.tt 0)) hk.1 (Or.inl (by decide))
    refine va_iald hx hb hK hP q9 1 h9 rfl (vp_in_nI (n := 1) (by decide) (by decide)) dX7_meanFails_24 ?_
    refine my_topi (y := (u0 (10 + 0) (12 + 1))) (by rfl) ?_
    clear h9
    refine lv_i2f hx hb dX7_meanFails_25 ?_
    refine lv_iload_n hx hb dX7_meanFails_26 rfl (lv_at hl 0 rfl) ?_
    refine lv_i2f hx hb dX7_meanFails_27 ?_
    obtain ⟨x5, e6, hF⟩ := ob hF
    refine lv_fdiv hx hb dX7_meanFails_28 (fd_n e6) ?_
    refine my_top (y := .float x5) (by rw [fd_e e6]) ?_
    have ht := s1 hF
    subst ht
    exact join4 _ _ _ hP hD hS (lv_sub hl [0, 1] rfl)
  · rw [if_pos c1] at hF
    refine lv_fconst0 hx hb dX7_meanFails_12 ?_
    refine lv_goto (tgt := 29) hx hb dX7_meanFails_13 (by decide) ?_
    have ht := s1 hF
    subst ht
    exact join4 _ _ _ hP hD hS (lv_sub hl [0, 1] rfl)
noncomputable def C7_nextFed (g : CG) (u0 : RS)  : Option (Int32) := (C3_nextWaiting g u0 0).bind fun x1 => some x1
set_option maxHeartbeats 4000000 in
set_option maxRecDepth 100000 in
theorem c_X7_nextFed (l : Launch) (dC : Nat → ClassId) (dI : Nat → Nat → Nat) (cy : Nat → ClassId) (nb : Nat → Nat) (ad : CK → Nat) (ks : List CK) (g : CG) (hk : GA nb ad g ks) (u0 : RS)  (ro : Int32) (sz : Nat) (hF : C7_nextFed g u0  = some ro) : Met l yX7_nextFed (wsg yX7_nextFed cX7_nextFed 1 (some .int)) ({ frames := 8, cells := 0, slots := 0, locals := 300 }) (va_Pc [.ref (ad .cl)] (fun U => U.heap.size = sz ∧ va_P (dC, dI) vwCl (WC cy ad ks g u0) U.heap ∧ va_K (dC, dI) vwCl (tyL cy) U ∧ va_D (fun _ => True) (WC cy ad ks g u0) ∧ GE nb (va_A (WC cy ad ks g u0) sz) U)) (va_Qi (fun (r : Int32) (_ : Unit) => r = ro) (fun _ t => va_P (dC, dI) vwCl (WC cy ad ks g u0) t.heap ∧ va_D (va_A (WC cy ad ks g u0) sz) (WC cy ad ks g u0)) (va_A (WC cy ad ks g u0) sz)) 0 0 (va_A (WC cy ad ks g u0) sz) := by
  refine Met.ofW (cc := cX7_nextFed) (maxL := 1) (ret := (some .int)) pn_X7 rfl ?_
  intro p e s m args below meth c s₁ B hml hv
  obtain ⟨rfl, hsz, hP, hK, hD0, hE⟩ := hv
  have hx := B.exec
  have hb := B.bytes
  have hr := B.returns
  have hts0 := atoms_spec (ws := (wsg yX7_nextFed cX7_nextFed 1 (some .int))) B.pre
  have hts : ∀ w ∈ wsL_law, w.before _ s = true := fun w h => hts0 w (List.mem_cons_of_mem _ h)
  have hown : s.vm.findClass RX7 = some m.cls := by have h9 := findClass_of_methodNamed B.named; exact h9
  have hlocks := B.notSynchronized
  subst hsz
  have hD := hD0.self (sz := s.heap.size)
  generalize hAe : va_A (WC cy ad ks g u0) s.heap.size = A at hD hE ⊢
  have hA : ∀ q : Nat, s.heap.size ≤ q → A q := fun q h => by rw [← hAe]; exact Or.inr h
  have hS : va_S A s.heap s.heap [] := va_S.rf
  have hl := lv_entry ([.ref (ad .cl)]) (n := 1) (Nat.le_of_ble_eq_true rfl)
  rw [lg_entry_eq]
  generalize (lg_sl ([.ref (ad .cl)]) ++ List.replicate (1 - (lg_sl ([.ref (ad .cl)])).length) Slot.unset).toArray = ls at hl ⊢
  have hl : lv_has ls 1 [(0, .ref (ad .cl))] := hl
  generalize hHe : s.heap = H at hP hS ⊢
  have hS : va_S A s.heap H [] := by rw [hHe]; exact hS
  refine my_Q (fun Qn hQ => ?_)
  simp only [C7_nextFed] at hF
  refine lv_aload_n hx hb dX7_nextFed_0 rfl (lv_at hl 0 rfl) ?_
  obtain ⟨q9, h9⟩ := wc_at (cy := cy) (ad := ad) (ks := ks) (g := g) (u := u0) (κ := .cl) hk.1 True.intro
  refine va_get (D := (dC, dI)) (ci := 7) (v := .ref (ad (.ln 0))) (C := RX7) (T := TX7) (N := 12) hx hb hts inlX7 hown hK hP q9 h9 rfl 0 (by decide) (hts _ mw_18) (fun _ h9 => h9) rfl dX7_nextFed_1 ?_
  clear h9
  obtain ⟨x1, e2, hF⟩ := ob hF
  have hPc := hP
  have hDc := hD
  have hFc := my_free hD hS hA
  obtain ⟨q8, h8⟩ := wc_at (cy := cy) (ad := ad) (ks := ks) (g := g) (u := u0) (κ := (.ln 0)) hk.1 (Or.inl (by decide))
  refine va_calli (va_runV (As := []) (rest := []) ⟨hx, hb, hml, hown, hts⟩ (c_X3_nextWaiting l dC dI cy nb ad ks g hk u0 0 (x1) H.size (Or.inl (by decide)) e2) (cwV 0 hts (gV mw_778 mw_779 mw_780 mw_17 mw_781) rfl rfl rfl (by decide +kernel) ⟨Nat.le_of_ble_eq_true rfl, Nat.le_of_ble_eq_true rfl⟩) (my_preV hPc hK hDc hE hS hFc (va_recv (q := (RX3, TX3, 17)) hK hP (ci := 3) (q0 := q8) rfl h8)) rfl rfl hl.1 rfl (lv_room (Nat.le_of_ble_eq_true rfl)) dX7_nextFed_4 ⟨Nat.le_of_ble_eq_true rfl, Nat.le_of_ble_eq_true rfl⟩) hS (fun q _ h => hFc q h) hFc (fun r u t H1 locs ht hvm hw hB hz1 hk1 hS => ?_)
  clear h8
  obtain ⟨hP1, hD1⟩ := hB
  rw [ht] at hP1
  have hP := hP1
  have hD := hD1.weaken (fun k q _ h => hFc q.1 h)
  generalize H1 = H at hP hS ⊢
  clear hP1 hD1 hPc hDc hFc hk1 hz1 hvm ht
  obtain rfl := hw.symm
  have hZ := s1 hF
  have zro : x1 = ro := hZ
  have hP9 : va_P (dC, dI) vwCl (WC cy ad ks g u0) H := by exact hP
  have hD9 : va_D A (WC cy ad ks g u0) := by exact hD
  rw [hQ]
  exact W.iret (v := x1) hx hb hr (fun t ht hW => ⟨⟨x1, (), rfl, zro, by rw [ht]; exact hP9, hD9⟩, hS.F ht⟩) hS.2.2 dX7_nextFed_7
noncomputable def C7_now (g : CG) (u0 : RS)  : Option (Int32) := some (u0 (10 + 0) 6)
set_option maxHeartbeats 4000000 in
set_option maxRecDepth 100000 in
theorem c_X7_now (l : Launch) (dC : Nat → ClassId) (dI : Nat → Nat → Nat) (cy : Nat → ClassId) (nb : Nat → Nat) (ad : CK → Nat) (ks : List CK) (g : CG) (hk : GA nb ad g ks) (u0 : RS)  (ro : Int32) (sz : Nat) (hF : C7_now g u0  = some ro) : Met l yX7_now (wsg yX7_now cX7_now 1 (some .int)) ({ frames := 7, cells := 0, slots := 0, locals := 200 }) (va_Pc [.ref (ad .cl)] (fun U => U.heap.size = sz ∧ va_P (dC, dI) vwCl (WC cy ad ks g u0) U.heap ∧ va_K (dC, dI) vwCl (tyL cy) U ∧ va_D (fun _ => True) (WC cy ad ks g u0) ∧ GE nb (va_A (WC cy ad ks g u0) sz) U)) (va_Qi (fun (r : Int32) (_ : Unit) => r = ro) (fun _ t => va_P (dC, dI) vwCl (WC cy ad ks g u0) t.heap ∧ va_D (va_A (WC cy ad ks g u0) sz) (WC cy ad ks g u0)) (va_A (WC cy ad ks g u0) sz)) 0 0 (va_A (WC cy ad ks g u0) sz) := by
  refine Met.ofW (cc := cX7_now) (maxL := 1) (ret := (some .int)) pn_X7 rfl ?_
  intro p e s m args below meth c s₁ B hml hv
  obtain ⟨rfl, hsz, hP, hK, hD0, hE⟩ := hv
  have hx := B.exec
  have hb := B.bytes
  have hr := B.returns
  have hts0 := atoms_spec (ws := (wsg yX7_now cX7_now 1 (some .int))) B.pre
  have hts : ∀ w ∈ wsL_law, w.before _ s = true := fun w h => hts0 w (List.mem_cons_of_mem _ h)
  have hown : s.vm.findClass RX7 = some m.cls := by have h9 := findClass_of_methodNamed B.named; exact h9
  have hlocks := B.notSynchronized
  subst hsz
  have hD := hD0.self (sz := s.heap.size)
  generalize hAe : va_A (WC cy ad ks g u0) s.heap.size = A at hD hE ⊢
  have hA : ∀ q : Nat, s.heap.size ≤ q → A q := fun q h => by rw [← hAe]; exact Or.inr h
  have hS : va_S A s.heap s.heap [] := va_S.rf
  have hl := lv_entry ([.ref (ad .cl)]) (n := 1) (Nat.le_of_ble_eq_true rfl)
  rw [lg_entry_eq]
  generalize (lg_sl ([.ref (ad .cl)]) ++ List.replicate (1 - (lg_sl ([.ref (ad .cl)])).length) Slot.unset).toArray = ls at hl ⊢
  have hl : lv_has ls 1 [(0, .ref (ad .cl))] := hl
  generalize hHe : s.heap = H at hP hS ⊢
  have hS : va_S A s.heap H [] := by rw [hHe]; exact hS
  refine my_Q (fun Qn hQ => ?_)
  simp only [C7_now] at hF
  refine lv_aload_n hx hb dX7_now_0 rfl (lv_at hl 0 rfl) ?_
  obtain ⟨q9, h9⟩ := wc_at (cy := cy) (ad := ad) (ks := ks) (g := g) (u := u0) (κ := .cl) hk.1 True.intro
  refine va_get (D := (dC, dI)) (ci := 7) (v := .ref (ad (.ln 0))) (C := RX7) (T := TX7) (N := 12) hx hb hts inlX7 hown hK hP q9 h9 rfl 0 (by decide) (hts _ mw_18) (fun _ h9 => h9) rfl dX7_now_1 ?_
  clear h9
  obtain ⟨q9, h9⟩ := wc_at (cy := cy) (ad := ad) (ks := ks) (g := g) (u := u0) (κ := (.ln 0)) hk.1 (Or.inl (by decide))
  refine va_get (D := (dC, dI)) (ci := 3) (v := .int (u0 (10 + 0) 6)) (C := RX3) (T := TX3) (N := 17) hx hb hts inlX3 hown hK hP q9 h9 rfl 6 (by decide) (hts _ mw_867) (fun _ h9 => h9) rfl dX7_now_4 ?_
  clear h9
  have hZ := s1 hF
  have zro : (u0 (10 + 0) 6) = ro := hZ
  have hP9 : va_P (dC, dI) vwCl (WC cy ad ks g u0) H := by exact hP
  have hD9 : va_D A (WC cy ad ks g u0) := by exact hD
  rw [hQ]
  exact W.iret (v := (u0 (10 + 0) 6)) hx hb hr (fun t ht hW => ⟨⟨(u0 (10 + 0) 6), (), rfl, zro, by rw [ht]; exact hP9, hD9⟩, hS.F ht⟩) hS.2.2 dX7_now_7
noncomputable def C7_order (g : CG) (u0 : RS) (a1 : Int32) : Option (Sum Int32 (Int32 × CG × RS)) := (C7_needLot g u0 (a1)).bind fun t1 => tr t1 fun t3 => (C5_readOrder g u0 ((u0 (10 + 0) 9))).bind fun u4 => (C7_keepResult g u4).bind fun u6 => if (u6 0 1) = 0 then ((C7_remember g u6).bind fun t9 => (C5_textRead (t9.1) (t9.2)).bind fun t15 => (C3_addCard (t15.2.1) (t15.2.2) 0 (a1) t15.1).bind fun u21 => some (.inr (((u21 (10 + 0) 9) - 1), (t15.2.1), u21))) else (some (.inr (((-100) - (u6 0 8)), g, u6)))
set_option maxHeartbeats 4000000 in
set_option maxRecDepth 100000 in
theorem c_X7_order (l : Launch) (dC : Nat → ClassId) (dI : Nat → Nat → Nat) (cy : Nat → ClassId) (nb : Nat → Nat) (ad : CK → Nat) (ks : List CK) (g : CG) (hk : GA nb ad g ks) (u0 : RS) (a1 : Int32) (ro : Int32) (gz : CG) (uz : RS) (sz : Nat) (hF : C7_order g u0 a1 = some (.inr (ro, gz, uz))) : Met l yX7_order (wsg yX7_order cX7_order 2 (some .int)) ({ frames := 11, cells := 68, slots := 847, locals := 600 }) (va_Pc [.ref (ad .cl), .int a1] (fun U => U.heap.size = sz ∧ va_P (dC, dI) vwCl (WC cy ad ks g u0) U.heap ∧ va_K (dC, dI) vwCl (tyL cy) U ∧ va_D (fun _ => True) (WC cy ad ks g u0) ∧ GE nb (va_A (WC cy ad ks g u0) sz) U)) (va_Qi (fun (r : Int32) (_ : Unit) => r = ro) (fun _ t => ∃ (ad' : CK → Nat) (ks' : List CK), GA nb ad' gz ks' ∧ AX g ad gz ad' ∧ va_P (dC, dI) vwCl (WC cy ad' ks' gz uz) t.heap ∧ va_D (va_A (WC cy ad ks g u0) sz) (WC cy ad' ks' gz uz)) (va_A (WC cy ad ks g u0) sz)) 68 847 (va_A (WC cy ad ks g u0) sz) := by
  refine Met.ofW (cc := cX7_order) (maxL := 2) (ret := (some .int)) pn_X7 rfl ?_
  intro p e s m args below meth c s₁ B hml hv
  obtain ⟨rfl, hsz, hP, hK, hD0, hE⟩ := hv
  have hx := B.exec
  have hb := B.bytes
  have hr := B.returns
  have hts0 := atoms_spec (ws := (wsg yX7_order cX7_order 2 (some .int))) B.pre
  have hts : ∀ w ∈ wsL_law, w.before _ s = true := fun w h => hts0 w (List.mem_cons_of_mem _ h)
  have hown : s.vm.findClass RX7 = some m.cls := by have h9 := findClass_of_methodNamed B.named; exact h9
  have hlocks := B.notSynchronized
  subst hsz
  have hD := hD0.self (sz := s.heap.size)
  generalize hAe : va_A (WC cy ad ks g u0) s.heap.size = A at hD hE ⊢
  have hA : ∀ q : Nat, s.heap.size ≤ q → A q := fun q h => by rw [← hAe]; exact Or.inr h
  have hS : va_S A s.heap s.heap [] := va_S.rf
  have hl := lv_entry ([.ref (ad .cl), .int a1]) (n := 2) (Nat.le_of_ble_eq_true rfl)
  rw [lg_entry_eq]
  generalize (lg_sl ([.ref (ad .cl), .int a1]) ++ List.replicate (2 - (lg_sl ([.ref (ad .cl), .int a1])).length) Slot.unset).toArray = ls at hl ⊢
  have hl : lv_has ls 2 [(0, .ref (ad .cl)), (1, .int a1)] := hl
  generalize hHe : s.heap = H at hP hS ⊢
  have hS : va_S A s.heap H [] := by rw [hHe]; exact hS
  refine my_Q (fun Qn hQ => ?_)
  simp only [C7_order] at hF
  refine lv_aload_n hx hb dX7_order_0 rfl (lv_at hl 0 rfl) ?_
  refine lv_iload_n hx hb dX7_order_1 rfl (lv_at hl 1 rfl) ?_
  obtain ⟨t1, e2, hF⟩ := ob hF
  rcases t1 with xz9 | t3
  · have hF : some (Sum.inl xz9) = some (.inr (ro, gz, uz)) := hF
    cases hF
  · dsimp only [tr] at hF
    have hPc := hP
    have hDc := hD
    have hFc := my_free hD hS hA
    obtain ⟨q8, h8⟩ := wc_at (cy := cy) (ad := ad) (ks := ks) (g := g) (u := u0) (κ := .cl) hk.1 True.intro
    refine va_callv (va_runV (As := [.int a1]) (rest := []) ⟨hx, hb, hml, hown, hts⟩ (c_X7_needLot l dC dI cy nb ad ks g hk u0 (a1) H.size e2) (cwV 1 hts (gV mw_704 mw_705 mw_706 mw_2 mw_707) rfl rfl rfl (by decide +kernel) ⟨Nat.le_of_ble_eq_true rfl, Nat.le_of_ble_eq_true rfl⟩) (my_preV hPc hK hDc hE hS hFc (va_recv (q := (RX7, TX7, 12)) hK hP (ci := 7) (q0 := q8) rfl h8)) rfl rfl hl.1 rfl (lv_room (Nat.le_of_ble_eq_true rfl)) dX7_order_2 ⟨Nat.le_of_ble_eq_true rfl, Nat.le_of_ble_eq_true rfl⟩) hS (fun q _ h => hFc q h) hFc (fun u t H1 locs ht hvm hw hB hz1 hk1 hS => ?_)
    clear h8
    obtain ⟨hP1, hD1⟩ := hB
    rw [ht] at hP1
    have hP := hP1
    have hD := hD1.weaken (fun k q _ h => hFc q.1 h)
    generalize H1 = H at hP hS ⊢
    clear hP1 hD1 hPc hDc hFc hk1 hz1 hvm ht
    refine lv_aload_n hx hb dX7_order_5 rfl (lv_at hl 0 rfl) ?_
    obtain ⟨q9, h9⟩ := wc_at (cy := cy) (ad := ad) (ks := ks) (g := g) (u := u0) (κ := .cl) hk.1 True.intro
    refine va_get (D := (dC, dI)) (ci := 7) (v := .ref (ad .rd)) (C := RX7) (T := TX7) (N := 12) hx hb hts inlX7 hown hK hP q9 h9 rfl 2 (by decide) (hts _ mw_23) (fun _ h9 => h9) rfl dX7_order_6 ?_
    clear h9
    refine lv_aload_n hx hb dX7_order_9 rfl (lv_at hl 0 rfl) ?_
    obtain ⟨q9, h9⟩ := wc_at (cy := cy) (ad := ad) (ks := ks) (g := g) (u := u0) (κ := .cl) hk.1 True.intro
    refine va_get (D := (dC, dI)) (ci := 7) (v := .ref (ad (.ln 0))) (C := RX7) (T := TX7) (N := 12) hx hb hts inlX7 hown hK hP q9 h9 rfl 0 (by decide) (hts _ mw_18) (fun _ h9 => h9) rfl dX7_order_10 ?_
    clear h9
    obtain ⟨q9, h9⟩ := wc_at (cy := cy) (ad := ad) (ks := ks) (g := g) (u := u0) (κ := (.ln 0)) hk.1 (Or.inl (by decide))
    refine va_get (D := (dC, dI)) (ci := 3) (v := .int (u0 (10 + 0) 9)) (C := RX3) (T := TX3) (N := 17) hx hb hts inlX3 hown hK hP q9 h9 rfl 9 (by decide) (hts _ mw_572) (fun _ h9 => h9) rfl dX7_order_13 ?_
    clear h9
    obtain ⟨u4, e5, hF⟩ := ob hF
    have hPc := hP
    have hDc := hD
    have hFc := my_free hD hS hA
    obtain ⟨q8, h8⟩ := wc_at (cy := cy) (ad := ad) (ks := ks) (g := g) (u := u0) (κ := .rd) hk.1 True.intro
    refine va_callv (va_runV (As := [.int (u0 (10 + 0) 9)]) (rest := []) ⟨hx, hb, hml, hown, hts⟩ (c_X5_readOrder l dC dI cy nb ad ks g hk u0 ((u0 (10 + 0) 9)) (u4) H.size e5) (cwV 1 hts (gV mw_969 mw_970 mw_971 mw_22 mw_972) rfl rfl rfl (by decide +kernel) ⟨Nat.le_of_ble_eq_true rfl, Nat.le_of_ble_eq_true rfl⟩) (my_preV hPc hK hDc hE hS hFc (va_recv (q := (RX5, TX5, 11)) hK hP (ci := 5) (q0 := q8) rfl h8)) rfl rfl hl.1 rfl (lv_room (Nat.le_of_ble_eq_true rfl)) dX7_order_16 ⟨Nat.le_of_ble_eq_true rfl, Nat.le_of_ble_eq_true rfl⟩) hS (fun q _ h => hFc q h) hFc (fun u t H1 locs ht hvm hw hB hz1 hk1 hS => ?_)
    clear h8
    obtain ⟨hP1, hD1⟩ := hB
    rw [ht] at hP1
    have hP := hP1
    have hD := hD1.weaken (fun k q _ h => hFc q.1 h)
    generalize H1 = H at hP hS ⊢
    clear hP1 hD1 hPc hDc hFc hk1 hz1 hvm ht
    refine lv_aload_n hx hb dX7_order_19 rfl (lv_at hl 0 rfl) ?_
    obtain ⟨u6, e7, hF⟩ := ob hF
    have hPc := hP
    have hDc := hD
    have hFc := my_free hD hS hA
    obtain ⟨q8, h8⟩ := wc_at (cy := cy) (ad := ad) (ks := ks) (g := g) (u := u4) (κ := .cl) hk.1 True.intro
    refine va_callv (va_runV (As := []) (rest := []) ⟨hx, hb, hml, hown, hts⟩ (c_X7_keepResult l dC dI cy nb ad ks g hk u4 (u6) H.size e7) (cwV 0 hts (gV mw_386 mw_387 mw_388 mw_2 mw_389) rfl rfl rfl (by decide +kernel) ⟨Nat.le_of_ble_eq_true rfl, Nat.le_of_ble_eq_true rfl⟩) (my_preV hPc hK hDc hE hS hFc (va_recv (q := (RX7, TX7, 12)) hK hP (ci := 7) (q0 := q8) rfl h8)) rfl rfl hl.1 rfl (lv_room (Nat.le_of_ble_eq_true rfl)) dX7_order_20 ⟨Nat.le_of_ble_eq_true rfl, Nat.le_of_ble_eq_true rfl⟩) hS (fun q _ h => hFc q h) hFc (fun u t H1 locs ht hvm hw hB hz1 hk1 hS => ?_)
    clear h8
    obtain ⟨hP1, hD1⟩ := hB
    rw [ht] at hP1
    have hP := hP1
    have hD := hD1.weaken (fun k q _ h => hFc q.1 h)
    generalize H1 = H at hP hS ⊢
    clear hP1 hD1 hPc hDc hFc hk1 hz1 hvm ht
    refine lv_aload_n hx hb dX7_order_23 rfl (lv_at hl 0 rfl) ?_
    obtain ⟨q9, h9⟩ := wc_at (cy := cy) (ad := ad) (ks := ks) (g := g) (u := u6) (κ := .cl) hk.1 True.intro
    refine va_get (D := (dC, dI)) (ci := 7) (v := .int (u6 0 1)) (C := RX7) (T := TX7) (N := 12) hx hb hts inlX7 hown hK hP q9 h9 rfl 8 (by decide) (hts _ mw_31) (fun _ h9 => h9) rfl dX7_order_24 ?_
    clear h9
    refine lv_if_eq (tgt := 41) hx hb dX7_order_27 (by decide) (fun c8 => ?_) (fun c8 => ?_)
    · rw [if_pos c8] at hF
      refine lv_aload_n hx hb dX7_order_41 rfl (lv_at hl 0 rfl) ?_
      obtain ⟨t9, e10, hF⟩ := ob hF
      have hPc := hP
      have hDc := hD
      have hFc := my_free hD hS hA
      obtain ⟨q8, h8⟩ := wc_at (cy := cy) (ad := ad) (ks := ks) (g := g) (u := u6) (κ := .cl) hk.1 True.intro
      refine va_callv (va_runV (As := []) (rest := []) ⟨hx, hb, hml, hown, hts⟩ (c_X7_remember l dC dI cy nb ad ks g hk u6 (t9.1) (t9.2) H.size e10) (cwV 0 hts (gV mw_973 mw_974 mw_975 mw_2 mw_976) rfl rfl rfl (by decide +kernel) ⟨Nat.le_of_ble_eq_true rfl, Nat.le_of_ble_eq_true rfl⟩) (my_preV hPc hK hDc hE hS hFc (va_recv (q := (RX7, TX7, 12)) hK hP (ci := 7) (q0 := q8) rfl h8)) rfl rfl hl.1 rfl (lv_room (Nat.le_of_ble_eq_true rfl)) dX7_order_42 ⟨Nat.le_of_ble_eq_true rfl, Nat.le_of_ble_eq_true rfl⟩) hS (fun q _ h => hFc q h) hFc (fun u t H1 locs ht hvm hw hB hz1 hk1 hS => ?_)
      clear h8
      obtain ⟨ad11, ks12, hk13, ax14, hP1, hD1⟩ := hB
      rw [ht] at hP1
      have hP := hP1
      have hD := hD1.weaken (fun k q _ h => hFc q.1 h)
      generalize H1 = H at hP hS ⊢
      have hl : lv_has ls 2 [(0, .ref (ad11 .cl)), (1, .int a1)] := by rw [(ax14 .cl True.intro).2]; exact hl
      clear hP1 hD1 hPc hDc hFc hk1 hz1 hvm ht
      refine W.widen (k := 67) (n := 831) (by omega) (by omega) ?_
      refine lv_aload_n hx hb dX7_order_45 rfl (lv_at hl 0 rfl) ?_
      obtain ⟨q9, h9⟩ := wc_at (cy := cy) (ad := ad11) (ks := ks12) (g := (t9.1)) (u := (t9.2)) (κ := .cl) hk13.1 True.intro
      refine va_get (D := (dC, dI)) (ci := 7) (v := .ref (ad11 (.ln 0))) (C := RX7) (T := TX7) (N := 12) hx hb hts inlX7 hown hK hP q9 h9 rfl 0 (by decide) (hts _ mw_18) (fun _ h9 => h9) rfl dX7_order_46 ?_
      clear h9
      refine lv_iload_n hx hb dX7_order_49 rfl (lv_at hl 1 rfl) ?_
      refine lv_aload_n hx hb dX7_order_50 rfl (lv_at hl 0 rfl) ?_
      obtain ⟨q9, h9⟩ := wc_at (cy := cy) (ad := ad11) (ks := ks12) (g := (t9.1)) (u := (t9.2)) (κ := .cl) hk13.1 True.intro
      refine va_get (D := (dC, dI)) (ci := 7) (v := .ref (ad11 .rd)) (C := RX7) (T := TX7) (N := 12) hx hb hts inlX7 hown hK hP q9 h9 rfl 2 (by decide) (hts _ mw_23) (fun _ h9 => h9) rfl dX7_order_51 ?_
      clear h9
      obtain ⟨t15, e16, hF⟩ := ob hF
      have hPc := hP
      have hDc := hD
      have hFc := my_free hD hS hA
      obtain ⟨q8, h8⟩ := wc_at (cy := cy) (ad := ad11) (ks := ks12) (g := (t9.1)) (u := (t9.2)) (κ := .rd) hk13.1 True.intro
      refine va_callr (va_runV (As := []) (rest := [.int a1, .ref (ad11 (.ln 0))]) ⟨hx, hb, hml, hown, hts⟩ (c_X5_textRead l dC dI cy nb ad11 ks12 (t9.1) hk13 (t9.2) (t15.1) (t15.2.1) (t15.2.2) H.size e16) (cwV 0 hts (gV mw_977 mw_306 mw_307 mw_22 mw_308) rfl rfl rfl (by decide +kernel) ⟨Nat.le_of_ble_eq_true rfl, Nat.le_of_ble_eq_true rfl⟩) (my_preV hPc hK hDc hE hS hFc (va_recv (q := (RX5, TX5, 11)) hK hP (ci := 5) (q0 := q8) rfl h8)) rfl rfl hl.1 rfl (lv_room (Nat.le_of_ble_eq_true rfl)) dX7_order_54 ⟨Nat.le_of_ble_eq_true rfl, Nat.le_of_ble_eq_true rfl⟩) hS (fun q _ h => hFc q h) hFc (fun u ra t H1 locs ht hvm hw hB hz1 hk1 hS => ?_)
      clear h8
      obtain ⟨ad17, ks18, hra, hk19, ax20, hP1, hD1⟩ := hB
      rw [ht] at hP1
      have hP := hP1
      have hD := hD1.weaken (fun k q _ h => hFc q.1 h)
      generalize H1 = H at hP hS ⊢
      have hl : lv_has ls 2 [(0, .ref (ad17 .cl)), (1, .int a1)] := by rw [(ax20 .cl True.intro).2]; exact hl
      refine W.eq (g2 := F0 m _ ls [.ref ra, .int a1, .ref (ad17 (.ln 0))]) (by rw [(ax20 (.ln 0) (Or.inl (by decide))).2]) ?_
      clear hP1 hD1 hPc hDc hFc hk1 hz1 hvm ht
      obtain rfl := hra.symm
      refine W.widen (k := 68) (n := 847) (by omega) (by omega) ?_
      obtain ⟨u21, e22, hF⟩ := ob hF
      have hPc := hP
      have hDc := hD
      have hFc := my_free hD hS hA
      obtain ⟨q8, h8⟩ := wc_at (cy := cy) (ad := ad17) (ks := ks18) (g := (t15.2.1)) (u := (t15.2.2)) (κ := (.ln 0)) hk19.1 (Or.inl (by decide))
      refine va_callv (va_runV (As := [.int a1, .ref (ad17 (.tx (t15.1).toNatClampNeg))]) (rest := []) ⟨hx, hb, hml, hown, hts⟩ (c_X3_addCard l dC dI cy nb ad17 ks18 (t15.2.1) hk19 (t15.2.2) 0 (a1) t15.1 (u21) H.size (Or.inl (by decide)) e22) (cwV 2 hts (gV mw_978 mw_321 mw_322 mw_17 mw_323) rfl rfl rfl (by decide +kernel) ⟨Nat.le_of_ble_eq_true rfl, Nat.le_of_ble_eq_true rfl⟩) (my_preV hPc hK hDc hE hS hFc (va_recv (q := (RX3, TX3, 17)) hK hP (ci := 3) (q0 := q8) rfl h8)) rfl rfl hl.1 rfl (lv_room (Nat.le_of_ble_eq_true rfl)) dX7_order_57 ⟨Nat.le_of_ble_eq_true rfl, Nat.le_of_ble_eq_true rfl⟩) hS (fun q _ h => hFc q h) hFc (fun u t H1 locs ht hvm hw hB hz1 hk1 hS => ?_)
      clear h8
      obtain ⟨hP1, hD1⟩ := hB
      rw [ht] at hP1
      have hP := hP1
      have hD := hD1.weaken (fun k q _ h => hFc q.1 h)
      generalize H1 = H at hP hS ⊢
      clear hP1 hD1 hPc hDc hFc hk1 hz1 hvm ht
      refine lv_aload_n hx hb dX7_order_60 rfl (lv_at hl 0 rfl) ?_
      obtain ⟨q9, h9⟩ := wc_at (cy := cy) (ad := ad17) (ks := ks18) (g := (t15.2.1)) (u := u21) (κ := .cl) hk19.1 True.intro
      refine va_get (D := (dC, dI)) (ci := 7) (v := .ref (ad17 (.ln 0))) (C := RX7) (T := TX7) (N := 12) hx hb hts inlX7 hown hK hP q9 h9 rfl 0 (by decide) (hts _ mw_18) (fun _ h9 => h9) rfl dX7_order_61 ?_
      clear h9
      obtain ⟨q9, h9⟩ := wc_at (cy := cy) (ad := ad17) (ks := ks18) (g := (t15.2.1)) (u := u21) (κ := (.ln 0)) hk19.1 (Or.inl (by decide))
      refine va_get (D := (dC, dI)) (ci := 3) (v := .int (u21 (10 + 0) 9)) (C := RX3) (T := TX3) (N := 17) hx hb hts inlX3 hown hK hP q9 h9 rfl 9 (by decide) (hts _ mw_572) (fun _ h9 => h9) rfl dX7_order_64 ?_
      clear h9
      refine lv_iconst (v := 1) hx hb dX7_order_67 (by decide) ?_
      refine lv_isub hx hb dX7_order_68 ?_
      have hZ := s3 hF
      have zro : ((u21 (10 + 0) 9) - 1) = ro := (congrArg (fun q => q.1) hZ)
      have zgz : (t15.2.1) = gz := (congrArg (fun q => q.2.1) hZ)
      have zuz : u21 = uz := (congrArg (fun q => q.2.2) hZ)
      have hP9 : va_P (dC, dI) vwCl (WC cy ad17 ks18 gz uz) H := by rw [← zuz, ← zgz]; exact hP
      have hD9 : va_D A (WC cy ad17 ks18 gz uz) := by rw [← zuz, ← zgz]; exact hD
      have hk9 : GA nb ad17 gz ks18 := by rw [← zgz]; exact hk19
      have ax9 : AX g ad gz ad17 := by rw [← zgz]; exact (ax_trans ax14 ax20)
      refine W.widen (k := 68) (n := 847) (by omega) (by omega) ?_
      rw [hQ]
      exact W.iret (v := ((u21 (10 + 0) 9) - 1)) hx hb hr (fun t ht hW => ⟨⟨((u21 (10 + 0) 9) - 1), (), rfl, zro, ad17, ks18, hk9, ax9, by rw [ht]; exact hP9, hD9⟩, hS.F ht⟩) hS.2.2 dX7_order_69
    · rw [if_neg c8] at hF
      refine lv_bipush (v := (-100)) hx hb dX7_order_30 (by decide) ?_
      refine lv_aload_n hx hb dX7_order_32 rfl (lv_at hl 0 rfl) ?_
      obtain ⟨q9, h9⟩ := wc_at (cy := cy) (ad := ad) (ks := ks) (g := g) (u := u6) (κ := .cl) hk.1 True.intro
      refine va_get (D := (dC, dI)) (ci := 7) (v := .ref (ad .rd)) (C := RX7) (T := TX7) (N := 12) hx hb hts inlX7 hown hK hP q9 h9 rfl 2 (by decide) (hts _ mw_23) (fun _ h9 => h9) rfl dX7_order_33 ?_
      clear h9
      obtain ⟨q9, h9⟩ := wc_at (cy := cy) (ad := ad) (ks := ks) (g := g) (u := u6) (κ := .rd) hk.1 True.intro
      refine va_get (D := (dC, dI)) (ci := 5) (v := .int (u6 0 8)) (C := RX5) (T := TX5) (N := 11) hx hb hts inlX5 hown hK hP q9 h9 rfl 4 (by decide) (hts _ mw_137) (fun _ h9 => h9) rfl dX7_order_36 ?_
      clear h9
      refine lv_isub hx hb dX7_order_39 ?_
      have hZ := s3 hF
      have zro : ((-100) - (u6 0 8)) = ro := (congrArg (fun q => q.1) hZ)
      have zgz : g = gz := (congrArg (fun q => q.2.1) hZ)
      have zuz : u6 = uz := (congrArg (fun q => q.2.2) hZ)
      have hP9 : va_P (dC, dI) vwCl (WC cy ad ks gz uz) H := by rw [← zuz, ← zgz]; exact hP
      have hD9 : va_D A (WC cy ad ks gz uz) := by rw [← zuz, ← zgz]; exact hD
      have hk9 : GA nb ad gz ks := by rw [← zgz]; exact hk
      have ax9 : AX g ad gz ad := by rw [← zgz]; exact ax_refl
      refine W.widen (k := 68) (n := 847) (by omega) (by omega) ?_
      rw [hQ]
      exact W.iret (v := ((-100) - (u6 0 8))) hx hb hr (fun t ht hW => ⟨⟨((-100) - (u6 0 8)), (), rfl, zro, ad, ks, hk9, ax9, by rw [ht]; exact hP9, hD9⟩, hS.F ht⟩) hS.2.2 dX7_order_40
noncomputable def C7_outputByte (g : CG) (u0 : RS) (a1 : Int32) : Option (Int32) := (if a1 < 0 then (some (-1 : Int32)) else (if (u0 0 0) ≤ a1 then (some (-1 : Int32)) else ((rd u0 1 16 a1).bind fun x6 => some x6)) : Option (Int32)).bind fun t2 => some t2
set_option maxHeartbeats 4000000 in
set_option maxRecDepth 100000 in
theorem c_X7_outputByte (l : Launch) (dC : Nat → ClassId) (dI : Nat → Nat → Nat) (cy : Nat → ClassId) (nb : Nat → Nat) (ad : CK → Nat) (ks : List CK) (g : CG) (hk : GA nb ad g ks) (u0 : RS) (a1 : Int32) (ro : Int32) (sz : Nat) (hF : C7_outputByte g u0 a1 = some ro) : Met l yX7_outputByte (wsg yX7_outputByte cX7_outputByte 2 (some .int)) ({ frames := 7, cells := 0, slots := 0, locals := 200 }) (va_Pc [.ref (ad .cl), .int a1] (fun U => U.heap.size = sz ∧ va_P (dC, dI) vwCl (WC cy ad ks g u0) U.heap ∧ va_K (dC, dI) vwCl (tyL cy) U ∧ va_D (fun _ => True) (WC cy ad ks g u0) ∧ GE nb (va_A (WC cy ad ks g u0) sz) U)) (va_Qi (fun (r : Int32) (_ : Unit) => r = ro) (fun _ t => va_P (dC, dI) vwCl (WC cy ad ks g u0) t.heap ∧ va_D (va_A (WC cy ad ks g u0) sz) (WC cy ad ks g u0)) (va_A (WC cy ad ks g u0) sz)) 0 0 (va_A (WC cy ad ks g u0) sz) := by
  refine Met.ofW (cc := cX7_outputByte) (maxL := 2) (ret := (some .int)) pn_X7 rfl ?_
  intro p e s m args below meth c s₁ B hml hv
  obtain ⟨rfl, hsz, hP, hK, hD0, hE⟩ := hv
  have hx := B.exec
  have hb := B.bytes
  have hr := B.returns
  have hts0 := atoms_spec (ws := (wsg yX7_outputByte cX7_outputByte 2 (some .int))) B.pre
  have hts : ∀ w ∈ wsL_law, w.before _ s = true := fun w h => hts0 w (List.mem_cons_of_mem _ h)
  have hown : s.vm.findClass RX7 = some m.cls := by have h9 := findClass_of_methodNamed B.named; exact h9
  have hlocks := B.notSynchronized
  subst hsz
  have hD := hD0.self (sz := s.heap.size)
  generalize hAe : va_A (WC cy ad ks g u0) s.heap.size = A at hD hE ⊢
  have hA : ∀ q : Nat, s.heap.size ≤ q → A q := fun q h => by rw [← hAe]; exact Or.inr h
  have hS : va_S A s.heap s.heap [] := va_S.rf
  have hl := lv_entry ([.ref (ad .cl), .int a1]) (n := 2) (Nat.le_of_ble_eq_true rfl)
  rw [lg_entry_eq]
  generalize (lg_sl ([.ref (ad .cl), .int a1]) ++ List.replicate (2 - (lg_sl ([.ref (ad .cl), .int a1])).length) Slot.unset).toArray = ls at hl ⊢
  have hl : lv_has ls 2 [(0, .ref (ad .cl)), (1, .int a1)] := hl
  generalize hHe : s.heap = H at hP hS ⊢
  have hS : va_S A s.heap H [] := by rw [hHe]; exact hS
  refine my_Q (fun Qn hQ => ?_)
  simp only [C7_outputByte] at hF
  refine lv_iload_n hx hb dX7_outputByte_0 rfl (lv_at hl 1 rfl) ?_
  obtain ⟨t2, hJ3, hF⟩ := ob hF
  have join4 : ∀ (H : Heap) (locs : List Loc) (ls : Array Slot), va_P (dC, dI) vwCl (WC cy ad ks g u0) H → va_D A (WC cy ad ks g u0) → va_S A s.heap H locs → lv_has ls 2 [(0, .ref (ad .cl)), (1, .int a1)] → W p l e (headSpec (wsg yX7_outputByte cX7_outputByte 2 (some .int)) ({ frames := 7, cells := 0, slots := 0, locals := 200 })).room s m ([.ref (ad .cl), .int a1] : List Value).toArray below meth c H locs 0 0 Qn (F0 m 22 ls [.int t2]) := by
    intro H locs ls hP hD hS hl
    have hZ := s1 hF
    have zro : t2 = ro := hZ
    have hP9 : va_P (dC, dI) vwCl (WC cy ad ks g u0) H := by exact hP
    have hD9 : va_D A (WC cy ad ks g u0) := by exact hD
    rw [hQ]
    exact W.iret (v := t2) hx hb hr (fun t ht hW => ⟨⟨t2, (), rfl, zro, by rw [ht]; exact hP9, hD9⟩, hS.F ht⟩) hS.2.2 dX7_outputByte_22
  clear hF
  have hF := hJ3
  clear hJ3
  refine lv_if_lt (tgt := 21) hx hb dX7_outputByte_1 (by decide) (fun c1 => ?_) (fun c1 => ?_)
  · rw [if_pos c1] at hF
    refine lv_iconst (v := (-1)) hx hb dX7_outputByte_21 (by decide) ?_
    have ht := s1 hF
    subst ht
    exact join4 _ _ _ hP hD hS (lv_sub hl [0, 1] rfl)
  · rw [if_neg c1] at hF
    refine lv_iload_n hx hb dX7_outputByte_4 rfl (lv_at hl 1 rfl) ?_
    refine lv_aload_n hx hb dX7_outputByte_5 rfl (lv_at hl 0 rfl) ?_
    obtain ⟨q9, h9⟩ := wc_at (cy := cy) (ad := ad) (ks := ks) (g := g) (u := u0) (κ := .cl) hk.1 True.intro
    refine va_get (D := (dC, dI)) (ci := 7) (v := .int (u0 0 0)) (C := RX7) (T := TX7) (N := 12) hx hb hts inlX7 hown hK hP q9 h9 rfl 7 (by decide) (hts _ mw_30) (fun _ h9 => h9) rfl dX7_outputByte_6 ?_
    clear h9
    refine lv_icmp_ge (tgt := 21) hx hb dX7_outputByte_9 (by decide) (fun c5 => ?_) (fun c5 => ?_)
    · rw [if_pos c5] at hF
      refine lv_iconst (v := (-1)) hx hb dX7_outputByte_21 (by decide) ?_
      have ht := s1 hF
      subst ht
      exact join4 _ _ _ hP hD hS (lv_sub hl [0, 1] rfl)
    · rw [if_neg c5] at hF
      refine lv_aload_n hx hb dX7_outputByte_12 rfl (lv_at hl 0 rfl) ?_
      obtain ⟨q9, h9⟩ := wc_at (cy := cy) (ad := ad) (ks := ks) (g := g) (u := u0) (κ := .cl) hk.1 True.intro
      refine va_get (D := (dC, dI)) (ci := 7) (v := .ref (ad .ou)) (C := RX7) (T := TX7) (N := 12) hx hb hts inlX7 hown hK hP q9 h9 rfl 3 (by decide) (hts _ mw_25) (fun _ h9 => h9) rfl dX7_outputByte_13 ?_
      clear h9
      refine lv_iload_n hx hb dX7_outputByte_16 rfl (lv_at hl 1 rfl) ?_
      obtain ⟨x6, e7, hF⟩ := ob hF
      obtain ⟨q9, h9⟩ := wc_at (cy := cy) (ad := ad) (ks := ks) (g := g) (u := u0) (κ := .ou) hk.1 True.intro
      refine va_bald hx hb hK hP q9 0 h9 rfl (rd_in e7) dX7_outputByte_17 ?_
      refine my_topi (y := x6) (rd_eq e7) ?_
      clear h9
      refine lv_goto (tgt := 22) hx hb dX7_outputByte_18 (by decide) ?_
      have ht := s1 hF
      subst ht
      exact join4 _ _ _ hP hD hS (lv_sub hl [0, 1] rfl)
noncomputable def C7_refill (g : CG) (u0 : RS) (a1 : Int32) : Option (Sum Int32 (Int32 × CG × RS)) := (C7_needRange (a1) (1) (999)).bind fun t1 => tr t1 fun t3 => if ((u0 (10 + 0) 5) + a1) ≤ 9999 then ((C7_remember g u0).bind fun t5 => (pt (t5.2) (10 + 0) 5 (((t5.2) (10 + 0) 5) + a1)).bind fun u11 => (pt u11 (10 + 0) 4 ((u11 (10 + 0) 4) + a1)).bind fun u13 => some (.inr ((u13 (10 + 0) 5), (t5.1), u13))) else (some (.inr ((-2 : Int32), g, u0)))
set_option maxHeartbeats 4000000 in
set_option maxRecDepth 100000 in
theorem c_X7_refill (l : Launch) (dC : Nat → ClassId) (dI : Nat → Nat → Nat) (cy : Nat → ClassId) (nb : Nat → Nat) (ad : CK → Nat) (ks : List CK) (g : CG) (hk : GA nb ad g ks) (u0 : RS) (a1 : Int32) (ro : Int32) (gz : CG) (uz : RS) (sz : Nat) (hF : C7_refill g u0 a1 = some (.inr (ro, gz, uz))) : Met l yX7_refill (wsg yX7_refill cX7_refill 2 (some .int)) ({ frames := 11, cells := 67, slots := 831, locals := 600 }) (va_Pc [.ref (ad .cl), .int a1] (fun U => U.heap.size = sz ∧ va_P (dC, dI) vwCl (WC cy ad ks g u0) U.heap ∧ va_K (dC, dI) vwCl (tyL cy) U ∧ va_D (fun _ => True) (WC cy ad ks g u0) ∧ GE nb (va_A (WC cy ad ks g u0) sz) U)) (va_Qi (fun (r : Int32) (_ : Unit) => r = ro) (fun _ t => ∃ (ad' : CK → Nat) (ks' : List CK), GA nb ad' gz ks' ∧ AX g ad gz ad' ∧ va_P (dC, dI) vwCl (WC cy ad' ks' gz uz) t.heap ∧ va_D (va_A (WC cy ad ks g u0) sz) (WC cy ad' ks' gz uz)) (va_A (WC cy ad ks g u0) sz)) 67 831 (va_A (WC cy ad ks g u0) sz) := by
  refine Met.ofW (cc := cX7_refill) (maxL := 2) (ret := (some .int)) pn_X7 rfl ?_
  intro p e s m args below meth c s₁ B hml hv
  obtain ⟨rfl, hsz, hP, hK, hD0, hE⟩ := hv
  have hx := B.exec
  have hb := B.bytes
  have hr := B.returns
  have hts0 := atoms_spec (ws := (wsg yX7_refill cX7_refill 2 (some .int))) B.pre
  have hts : ∀ w ∈ wsL_law, w.before _ s = true := fun w h => hts0 w (List.mem_cons_of_mem _ h)
  have hown : s.vm.findClass RX7 = some m.cls := by have h9 := findClass_of_methodNamed B.named; exact h9
  have hlocks := B.notSynchronized
  subst hsz
  have hD := hD0.self (sz := s.heap.size)
  generalize hAe : va_A (WC cy ad ks g u0) s.heap.size = A at hD hE ⊢
  have hA : ∀ q : Nat, s.heap.size ≤ q → A q := fun q h => by rw [← hAe]; exact Or.inr h
  have hS : va_S A s.heap s.heap [] := va_S.rf
  have hl := lv_entry ([.ref (ad .cl), .int a1]) (n := 2) (Nat.le_of_ble_eq_true rfl)
  rw [lg_entry_eq]
  generalize (lg_sl ([.ref (ad .cl), .int a1]) ++ List.replicate (2 - (lg_sl ([.ref (ad .cl), .int a1])).length) Slot.unset).toArray = ls at hl ⊢
  have hl : lv_has ls 2 [(0, .ref (ad .cl)), (1, .int a1)] := hl
  generalize hHe : s.heap = H at hP hS ⊢
  have hS : va_S A s.heap H [] := by rw [hHe]; exact hS
  refine my_Q (fun Qn hQ => ?_)
  simp only [C7_refill] at hF
  refine lv_iload_n hx hb dX7_refill_0 rfl (lv_at hl 1 rfl) ?_
  refine lv_iconst (v := 1) hx hb dX7_refill_1 (by decide) ?_
  refine lv_sipush (v := 999) hx hb dX7_refill_2 (by decide) ?_
  obtain ⟨t1, e2, hF⟩ := ob hF
  rcases t1 with xz9 | t3
  · have hF : some (Sum.inl xz9) = some (.inr (ro, gz, uz)) := hF
    cases hF
  · dsimp only [tr] at hF
    have hPc : va_P (dC, dI) vwCl ([] : va_W) H := fun k q h => by simp at h
    have hDc : va_D A ([] : va_W) := ⟨fun i j p q h => by simp at h, fun k q h => by simp at h⟩
    have hFc := my_free0 hS hA
    refine va_callv (va_runS (As := [.int a1, .int 1, .int 999]) (rest := []) ⟨hx, hb, hml, hown, hts⟩ (c_X7_needRange l dC dI cy nb (a1) (1) (999) H.size e2) (va_cwS 3 hts (gS mw_815 mw_816 mw_2 mw_817) rfl rfl rfl (by decide +kernel) ⟨Nat.le_of_ble_eq_true rfl, Nat.le_of_ble_eq_true rfl⟩) (my_preS hPc hK hDc hE hS hFc) rfl rfl hl.1 rfl (lv_room (Nat.le_of_ble_eq_true rfl)) dX7_refill_5 ⟨Nat.le_of_ble_eq_true rfl, Nat.le_of_ble_eq_true rfl⟩) hS (fun q _ h => hFc q h) hFc (fun u t H1 locs ht hvm hw hB hz1 hk1 hS => ?_)
    obtain ⟨hP1, hD1⟩ := hB
    rw [ht] at hP1
    have hP := my_keep hP hk1
    generalize H1 = H at hP hS ⊢
    clear hP1 hD1 hPc hDc hFc hk1 hz1 hvm ht
    refine lv_aload_n hx hb dX7_refill_8 rfl (lv_at hl 0 rfl) ?_
    obtain ⟨q9, h9⟩ := wc_at (cy := cy) (ad := ad) (ks := ks) (g := g) (u := u0) (κ := .cl) hk.1 True.intro
    refine va_get (D := (dC, dI)) (ci := 7) (v := .ref (ad (.ln 0))) (C := RX7) (T := TX7) (N := 12) hx hb hts inlX7 hown hK hP q9 h9 rfl 0 (by decide) (hts _ mw_18) (fun _ h9 => h9) rfl dX7_refill_9 ?_
    clear h9
    obtain ⟨q9, h9⟩ := wc_at (cy := cy) (ad := ad) (ks := ks) (g := g) (u := u0) (κ := (.ln 0)) hk.1 (Or.inl (by decide))
    refine va_get (D := (dC, dI)) (ci := 3) (v := .int (u0 (10 + 0) 5)) (C := RX3) (T := TX3) (N := 17) hx hb hts inlX3 hown hK hP q9 h9 rfl 5 (by decide) (hts _ mw_573) (fun _ h9 => h9) rfl dX7_refill_12 ?_
    clear h9
    refine lv_iload_n hx hb dX7_refill_15 rfl (lv_at hl 1 rfl) ?_
    refine lv_iadd hx hb dX7_refill_16 ?_
    refine lv_sipush (v := 9999) hx hb dX7_refill_17 (by decide) ?_
    refine lv_icmp_le (tgt := 26) hx hb dX7_refill_20 (by decide) (fun c4 => ?_) (fun c4 => ?_)
    · rw [if_pos c4] at hF
      refine lv_aload_n hx hb dX7_refill_26 rfl (lv_at hl 0 rfl) ?_
      obtain ⟨t5, e6, hF⟩ := ob hF
      have hPc := hP
      have hDc := hD
      have hFc := my_free hD hS hA
      obtain ⟨q8, h8⟩ := wc_at (cy := cy) (ad := ad) (ks := ks) (g := g) (u := u0) (κ := .cl) hk.1 True.intro
      refine va_callv (va_runV (As := []) (rest := []) ⟨hx, hb, hml, hown, hts⟩ (c_X7_remember l dC dI cy nb ad ks g hk u0 (t5.1) (t5.2) H.size e6) (cwV 0 hts (gV mw_973 mw_974 mw_975 mw_2 mw_976) rfl rfl rfl (by decide +kernel) ⟨Nat.le_of_ble_eq_true rfl, Nat.le_of_ble_eq_true rfl⟩) (my_preV hPc hK hDc hE hS hFc (va_recv (q := (RX7, TX7, 12)) hK hP (ci := 7) (q0 := q8) rfl h8)) rfl rfl hl.1 rfl (lv_room (Nat.le_of_ble_eq_true rfl)) dX7_refill_27 ⟨Nat.le_of_ble_eq_true rfl, Nat.le_of_ble_eq_true rfl⟩) hS (fun q _ h => hFc q h) hFc (fun u t H1 locs ht hvm hw hB hz1 hk1 hS => ?_)
      clear h8
      obtain ⟨ad7, ks8, hk9, ax10, hP1, hD1⟩ := hB
      rw [ht] at hP1
      have hP := hP1
      have hD := hD1.weaken (fun k q _ h => hFc q.1 h)
      generalize H1 = H at hP hS ⊢
      have hl : lv_has ls 2 [(0, .ref (ad7 .cl)), (1, .int a1)] := by rw [(ax10 .cl True.intro).2]; exact hl
      clear hP1 hD1 hPc hDc hFc hk1 hz1 hvm ht
      refine W.widen (k := 67) (n := 831) (by omega) (by omega) ?_
      refine lv_aload_n hx hb dX7_refill_30 rfl (lv_at hl 0 rfl) ?_
      obtain ⟨q9, h9⟩ := wc_at (cy := cy) (ad := ad7) (ks := ks8) (g := (t5.1)) (u := (t5.2)) (κ := .cl) hk9.1 True.intro
      refine va_get (D := (dC, dI)) (ci := 7) (v := .ref (ad7 (.ln 0))) (C := RX7) (T := TX7) (N := 12) hx hb hts inlX7 hown hK hP q9 h9 rfl 0 (by decide) (hts _ mw_18) (fun _ h9 => h9) rfl dX7_refill_31 ?_
      clear h9
      refine lv_dup hx hb dX7_refill_34 rfl ?_
      obtain ⟨q9, h9⟩ := wc_at (cy := cy) (ad := ad7) (ks := ks8) (g := (t5.1)) (u := (t5.2)) (κ := (.ln 0)) hk9.1 (Or.inl (by decide))
      refine va_get (D := (dC, dI)) (ci := 3) (v := .int ((t5.2) (10 + 0) 5)) (C := RX3) (T := TX3) (N := 17) hx hb hts inlX3 hown hK hP q9 h9 rfl 5 (by decide) (hts _ mw_573) (fun _ h9 => h9) rfl dX7_refill_35 ?_
      clear h9
      refine lv_iload_n hx hb dX7_refill_38 rfl (lv_at hl 1 rfl) ?_
      refine lv_iadd hx hb dX7_refill_39 ?_
      obtain ⟨q9, h9, ez9⟩ := wc_set (cy := cy) (ad := ad7) (ks := ks8) (g := (t5.1)) (u := (t5.2)) (κ := (.ln 0)) (r := (10 + 0)) (i := 5) (v := (((t5.2) (10 + 0) 5) + a1)) hk9.1 (Or.inl (by decide)) (own_ln (show 0 < 12 by decide) (by decide)) (sf_ln_5)
      refine va_put (D := (dC, dI)) (ci := 3) (v := .int (((t5.2) (10 + 0) 5) + a1)) (ty := .int) (C := RX3) (T := TX3) (N := 17) hx hb hts inlX3 tyX3 tyX3_ok nmX3 hown hK hP hD hS q9 h9 rfl 5 (by decide) (hts _ mw_573) (fun _ h9 => h9) rfl (by decide +kernel) rfl rfl (Nat.le_of_ble_eq_true rfl) dX7_refill_40 (fun H locs hP hD hS => ?_)
      obtain ⟨u11, e12, hF⟩ := ob hF
      have hP : va_P (dC, dI) vwCl (WC cy ad7 ks8 (t5.1) u11) H := by rw [← pt_eq e12, ← ez9]; exact hP
      have hD : va_D A (WC cy ad7 ks8 (t5.1) u11) := by rw [← pt_eq e12, ← ez9]; exact hD
      clear ez9 h9
      refine lv_aload_n hx hb dX7_refill_43 rfl (lv_at hl 0 rfl) ?_
      obtain ⟨q9, h9⟩ := wc_at (cy := cy) (ad := ad7) (ks := ks8) (g := (t5.1)) (u := u11) (κ := .cl) hk9.1 True.intro
      refine va_get (D := (dC, dI)) (ci := 7) (v := .ref (ad7 (.ln 0))) (C := RX7) (T := TX7) (N := 12) hx hb hts inlX7 hown hK hP q9 h9 rfl 0 (by decide) (hts _ mw_18) (fun _ h9 => h9) rfl dX7_refill_44 ?_
      clear h9
      refine lv_dup hx hb dX7_refill_47 rfl ?_
      obtain ⟨q9, h9⟩ := wc_at (cy := cy) (ad := ad7) (ks := ks8) (g := (t5.1)) (u := u11) (κ := (.ln 0)) hk9.1 (Or.inl (by decide))
      refine va_get (D := (dC, dI)) (ci := 3) (v := .int (u11 (10 + 0) 4)) (C := RX3) (T := TX3) (N := 17) hx hb hts inlX3 hown hK hP q9 h9 rfl 4 (by decide) (hts _ mw_603) (fun _ h9 => h9) rfl dX7_refill_48 ?_
      clear h9
      refine lv_iload_n hx hb dX7_refill_51 rfl (lv_at hl 1 rfl) ?_
      refine lv_iadd hx hb dX7_refill_52 ?_
      obtain ⟨q9, h9, ez9⟩ := wc_set (cy := cy) (ad := ad7) (ks := ks8) (g := (t5.1)) (u := u11) (κ := (.ln 0)) (r := (10 + 0)) (i := 4) (v := ((u11 (10 + 0) 4) + a1)) hk9.1 (Or.inl (by decide)) (own_ln (show 0 < 12 by decide) (by decide)) (sf_ln_4)
      refine va_put (D := (dC, dI)) (ci := 3) (v := .int ((u11 (10 + 0) 4) + a1)) (ty := .int) (C := RX3) (T := TX3) (N := 17) hx hb hts inlX3 tyX3 tyX3_ok nmX3 hown hK hP hD hS q9 h9 rfl 4 (by decide) (hts _ mw_603) (fun _ h9 => h9) rfl (by decide +kernel) rfl rfl (Nat.le_of_ble_eq_true rfl) dX7_refill_53 (fun H locs hP hD hS => ?_)
      obtain ⟨u13, e14, hF⟩ := ob hF
      have hP : va_P (dC, dI) vwCl (WC cy ad7 ks8 (t5.1) u13) H := by rw [← pt_eq e14, ← ez9]; exact hP
      have hD : va_D A (WC cy ad7 ks8 (t5.1) u13) := by rw [← pt_eq e14, ← ez9]; exact hD
      clear ez9 h9
      refine lv_aload_n hx hb dX7_refill_56 rfl (lv_at hl 0 rfl) ?_
      obtain ⟨q9, h9⟩ := wc_at (cy := cy) (ad := ad7) (ks := ks8) (g := (t5.1)) (u := u13) (κ := .cl) hk9.1 True.intro
      refine va_get (D := (dC, dI)) (ci := 7) (v := .ref (ad7 (.ln 0))) (C := RX7) (T := TX7) (N := 12) hx hb hts inlX7 hown hK hP q9 h9 rfl 0 (by decide) (hts _ mw_18) (fun _ h9 => h9) rfl dX7_refill_57 ?_
      clear h9
      obtain ⟨q9, h9⟩ := wc_at (cy := cy) (ad := ad7) (ks := ks8) (g := (t5.1)) (u := u13) (κ := (.ln 0)) hk9.1 (Or.inl (by decide))
      refine va_get (D := (dC, dI)) (ci := 3) (v := .int (u13 (10 + 0) 5)) (C := RX3) (T := TX3) (N := 17) hx hb hts inlX3 hown hK hP q9 h9 rfl 5 (by decide) (hts _ mw_573) (fun _ h9 => h9) rfl dX7_refill_60 ?_
      clear h9
      have hZ := s3 hF
      have zro : (u13 (10 + 0) 5) = ro := (congrArg (fun q => q.1) hZ)
      have zgz : (t5.1) = gz := (congrArg (fun q => q.2.1) hZ)
      have zuz : u13 = uz := (congrArg (fun q => q.2.2) hZ)
      have hP9 : va_P (dC, dI) vwCl (WC cy ad7 ks8 gz uz) H := by rw [← zuz, ← zgz]; exact hP
      have hD9 : va_D A (WC cy ad7 ks8 gz uz) := by rw [← zuz, ← zgz]; exact hD
      have hk9 : GA nb ad7 gz ks8 := by rw [← zgz]; exact hk9
      have ax9 : AX g ad gz ad7 := by rw [← zgz]; exact ax10
      refine W.widen (k := 67) (n := 831) (by omega) (by omega) ?_
      rw [hQ]
      exact W.iret (v := (u13 (10 + 0) 5)) hx hb hr (fun t ht hW => ⟨⟨(u13 (10 + 0) 5), (), rfl, zro, ad7, ks8, hk9, ax9, by rw [ht]; exact hP9, hD9⟩, hS.F ht⟩) hS.2.2 dX7_refill_63
    · rw [if_neg c4] at hF
      refine lv_bipush (v := (-2)) hx hb dX7_refill_23 (by decide) ?_
      have hZ := s3 hF
      have zro : (-2 : Int32) = ro := (congrArg (fun q => q.1) hZ)
      have zgz : g = gz := (congrArg (fun q => q.2.1) hZ)
      have zuz : u0 = uz := (congrArg (fun q => q.2.2) hZ)
      have hP9 : va_P (dC, dI) vwCl (WC cy ad ks gz uz) H := by rw [← zuz, ← zgz]; exact hP
      have hD9 : va_D A (WC cy ad ks gz uz) := by rw [← zuz, ← zgz]; exact hD
      have hk9 : GA nb ad gz ks := by rw [← zgz]; exact hk
      have ax9 : AX g ad gz ad := by rw [← zgz]; exact ax_refl
      refine W.widen (k := 67) (n := 831) (by omega) (by omega) ?_
      rw [hQ]
      exact W.iret (v := (-2 : Int32)) hx hb hr (fun t ht hW => ⟨⟨(-2 : Int32), (), rfl, zro, ad, ks, hk9, ax9, by rw [ht]; exact hP9, hD9⟩, hS.F ht⟩) hS.2.2 dX7_refill_25
noncomputable def C7_restIn (g : CG) (u0 : RS) (a1 : Int32) : Option (Sum Int32 (Int32 × RS)) := (C7_needStation g u0 (a1)).bind fun t1 => tr t1 fun t3 => (C7_copyOfLine g u0).bind fun t4 => (C7_ticksUntil_e4 g t4 1 (a1) (2000)).bind fun t6 => some (.inr ((t6.1), (t6.2)))
set_option maxHeartbeats 4000000 in
set_option maxRecDepth 100000 in
theorem c_X7_restIn (l : Launch) (dC : Nat → ClassId) (dI : Nat → Nat → Nat) (cy : Nat → ClassId) (nb : Nat → Nat) (ad : CK → Nat) (ks : List CK) (g : CG) (hk : GA nb ad g ks) (u0 : RS) (a1 : Int32) (ro : Int32) (uz : RS) (sz : Nat) (hF : C7_restIn g u0 a1 = some (.inr (ro, uz))) : Met l yX7_restIn (wsg yX7_restIn cX7_restIn 2 (some .int)) ({ frames := 13, cells := 0, slots := 0, locals := 800 }) (va_Pc [.ref (ad .cl), .int a1] (fun U => U.heap.size = sz ∧ va_P (dC, dI) vwCl (WC cy ad ks g u0) U.heap ∧ va_K (dC, dI) vwCl (tyL cy) U ∧ va_D (fun _ => True) (WC cy ad ks g u0) ∧ GE nb (va_A (WC cy ad ks g u0) sz) U)) (va_Qi (fun (r : Int32) (_ : Unit) => r = ro) (fun _ t => va_P (dC, dI) vwCl (WC cy ad ks g uz) t.heap ∧ va_D (va_A (WC cy ad ks g u0) sz) (WC cy ad ks g uz)) (va_A (WC cy ad ks g u0) sz)) 0 0 (va_A (WC cy ad ks g u0) sz) := by
  refine Met.ofW (cc := cX7_restIn) (maxL := 2) (ret := (some .int)) pn_X7 rfl ?_
  intro p e s m args below meth c s₁ B hml hv
  obtain ⟨rfl, hsz, hP, hK, hD0, hE⟩ := hv
  have hx := B.exec
  have hb := B.bytes
  have hr := B.returns
  have hts0 := atoms_spec (ws := (wsg yX7_restIn cX7_restIn 2 (some .int))) B.pre
  have hts : ∀ w ∈ wsL_law, w.before _ s = true := fun w h => hts0 w (List.mem_cons_of_mem _ h)
  have hown : s.vm.findClass RX7 = some m.cls := by have h9 := findClass_of_methodNamed B.named; exact h9
  have hlocks := B.notSynchronized
  subst hsz
  have hD := hD0.self (sz := s.heap.size)
  generalize hAe : va_A (WC cy ad ks g u0) s.heap.size = A at hD hE ⊢
  have hA : ∀ q : Nat, s.heap.size ≤ q → A q := fun q h => by rw [← hAe]; exact Or.inr h
  have hS : va_S A s.heap s.heap [] := va_S.rf
  have hl := lv_entry ([.ref (ad .cl), .int a1]) (n := 2) (Nat.le_of_ble_eq_true rfl)
  rw [lg_entry_eq]
  generalize (lg_sl ([.ref (ad .cl), .int a1]) ++ List.replicate (2 - (lg_sl ([.ref (ad .cl), .int a1])).length) Slot.unset).toArray = ls at hl ⊢
  have hl : lv_has ls 2 [(0, .ref (ad .cl)), (1, .int a1)] := hl
  generalize hHe : s.heap = H at hP hS ⊢
  have hS : va_S A s.heap H [] := by rw [hHe]; exact hS
  refine my_Q (fun Qn hQ => ?_)
  simp only [C7_restIn] at hF
  refine lv_aload_n hx hb dX7_restIn_0 rfl (lv_at hl 0 rfl) ?_
  refine lv_iload_n hx hb dX7_restIn_1 rfl (lv_at hl 1 rfl) ?_
  obtain ⟨t1, e2, hF⟩ := ob hF
  rcases t1 with xz9 | t3
  · have hF : some (Sum.inl xz9) = some (.inr (ro, uz)) := hF
    cases hF
  · dsimp only [tr] at hF
    have hPc := hP
    have hDc := hD
    have hFc := my_free hD hS hA
    obtain ⟨q8, h8⟩ := wc_at (cy := cy) (ad := ad) (ks := ks) (g := g) (u := u0) (κ := .cl) hk.1 True.intro
    refine va_callv (va_runV (As := [.int a1]) (rest := []) ⟨hx, hb, hml, hown, hts⟩ (c_X7_needStation l dC dI cy nb ad ks g hk u0 (a1) H.size e2) (cwV 1 hts (gV mw_631 mw_632 mw_633 mw_2 mw_634) rfl rfl rfl (by decide +kernel) ⟨Nat.le_of_ble_eq_true rfl, Nat.le_of_ble_eq_true rfl⟩) (my_preV hPc hK hDc hE hS hFc (va_recv (q := (RX7, TX7, 12)) hK hP (ci := 7) (q0 := q8) rfl h8)) rfl rfl hl.1 rfl (lv_room (Nat.le_of_ble_eq_true rfl)) dX7_restIn_2 ⟨Nat.le_of_ble_eq_true rfl, Nat.le_of_ble_eq_true rfl⟩) hS (fun q _ h => hFc q h) hFc (fun u t H1 locs ht hvm hw hB hz1 hk1 hS => ?_)
    clear h8
    obtain ⟨hP1, hD1⟩ := hB
    rw [ht] at hP1
    have hP := hP1
    have hD := hD1.weaken (fun k q _ h => hFc q.1 h)
    generalize H1 = H at hP hS ⊢
    clear hP1 hD1 hPc hDc hFc hk1 hz1 hvm ht
    refine lv_aload_n hx hb dX7_restIn_5 rfl (lv_at hl 0 rfl) ?_
    obtain ⟨t4, e5, hF⟩ := ob hF
    have hPc := hP
    have hDc := hD
    have hFc := my_free hD hS hA
    obtain ⟨q8, h8⟩ := wc_at (cy := cy) (ad := ad) (ks := ks) (g := g) (u := u0) (κ := .cl) hk.1 True.intro
    refine va_callr (va_runV (As := []) (rest := []) ⟨hx, hb, hml, hown, hts⟩ (c_X7_copyOfLine l dC dI cy nb ad ks g hk u0 (t4) H.size e5) (cwV 0 hts (gV mw_1298 mw_1299 mw_1300 mw_2 mw_1301) rfl rfl rfl (by decide +kernel) ⟨Nat.le_of_ble_eq_true rfl, Nat.le_of_ble_eq_true rfl⟩) (my_preV hPc hK hDc hE hS hFc (va_recv (q := (RX7, TX7, 12)) hK hP (ci := 7) (q0 := q8) rfl h8)) rfl rfl hl.1 rfl (lv_room (Nat.le_of_ble_eq_true rfl)) dX7_restIn_6 ⟨Nat.le_of_ble_eq_true rfl, Nat.le_of_ble_eq_true rfl⟩) hS (fun q _ h => hFc q h) hFc (fun u ra t H1 locs ht hvm hw hB hz1 hk1 hS => ?_)
    clear h8
    obtain ⟨hra, hP1, hD1⟩ := hB
    rw [ht] at hP1
    have hP := hP1
    have hD := hD1.weaken (fun k q _ h => hFc q.1 h)
    generalize H1 = H at hP hS ⊢
    clear hP1 hD1 hPc hDc hFc hk1 hz1 hvm ht
    obtain rfl := hra.symm
    refine va_gets (C := RX2) (n := "STATION_RESTS") (d := "LCardLine$Event;") (ref := "CardLine$Event") (v := .ref (nb (40 + 4))) hx hb (hE.evk 4 rfl).1 hS hown (hts _ mw_1412) (fun _ h9 => h9) dX7_restIn_9 ?_
    refine lv_iload_n hx hb dX7_restIn_12 rfl (lv_at hl 1 rfl) ?_
    refine lv_sipush (v := 2000) hx hb dX7_restIn_13 (by decide) ?_
    obtain ⟨t6, e7, hF⟩ := ob hF
    have hPc := hP
    have hDc := hD
    have hFc := my_free hD hS hA
    refine va_calli (va_runS (As := [.ref (ad (.ln 1)), .ref (nb (40 + 4)), .int a1, .int 2000]) (rest := []) ⟨hx, hb, hml, hown, hts⟩ (c_X7_ticksUntil_e4 l dC dI cy nb ad ks g hk t4 1 (a1) (2000) (t6.1) (t6.2) H.size (Or.inl (by decide)) e7) (va_cwS 4 hts (gS mw_1302 mw_1303 mw_2 mw_1304) rfl rfl rfl (by decide +kernel) ⟨Nat.le_of_ble_eq_true rfl, Nat.le_of_ble_eq_true rfl⟩) (my_preS hPc hK hDc hE hS hFc) rfl rfl hl.1 rfl (lv_room (Nat.le_of_ble_eq_true rfl)) dX7_restIn_16 ⟨Nat.le_of_ble_eq_true rfl, Nat.le_of_ble_eq_true rfl⟩) hS (fun q _ h => hFc q h) hFc (fun r u t H1 locs ht hvm hw hB hz1 hk1 hS => ?_)
    obtain ⟨hP1, hD1⟩ := hB
    rw [ht] at hP1
    have hP := hP1
    have hD := hD1.weaken (fun k q _ h => hFc q.1 h)
    generalize H1 = H at hP hS ⊢
    clear hP1 hD1 hPc hDc hFc hk1 hz1 hvm ht
    obtain rfl := hw.symm
    have hZ := s3 hF
    have zro : (t6.1) = ro := (congrArg (fun q => q.1) hZ)
    have zuz : (t6.2) = uz := (congrArg (fun q => q.2) hZ)
    have hP9 : va_P (dC, dI) vwCl (WC cy ad ks g uz) H := by rw [← zuz]; exact hP
    have hD9 : va_D A (WC cy ad ks g uz) := by rw [← zuz]; exact hD
    rw [hQ]
    exact W.iret (v := (t6.1)) hx hb hr (fun t ht hW => ⟨⟨(t6.1), (), rfl, zro, by rw [ht]; exact hP9, hD9⟩, hS.F ht⟩) hS.2.2 dX7_restIn_19
noncomputable def C7_restoreSnapshot (g : CG) (u0 : RS) (a1 : Int32) : Option (Sum Int32 (Int32 × RS)) := (C7_needRange (a1) (0) (1)).bind fun t1 => tr t1 fun t3 => (ix 2 a1).bind fun n4 => if g.pl (10 + n4) = true then ((C3_copyFrom g u0 0 (10 + n4)).bind fun u7 => (pt u7 0 4 (0)).bind fun u9 => some (.inr ((u9 (10 + 0) 6), u9))) else (some (.inr ((-1 : Int32), u0)))
set_option maxHeartbeats 4000000 in
set_option maxRecDepth 100000 in
theorem c_X7_restoreSnapshot (l : Launch) (dC : Nat → ClassId) (dI : Nat → Nat → Nat) (cy : Nat → ClassId) (nb : Nat → Nat) (ad : CK → Nat) (ks : List CK) (g : CG) (hk : GA nb ad g ks) (u0 : RS) (a1 : Int32) (ro : Int32) (uz : RS) (sz : Nat) (hF : C7_restoreSnapshot g u0 a1 = some (.inr (ro, uz))) : Met l yX7_restoreSnapshot (wsg yX7_restoreSnapshot cX7_restoreSnapshot 2 (some .int)) ({ frames := 9, cells := 0, slots := 0, locals := 400 }) (va_Pc [.ref (ad .cl), .int a1] (fun U => U.heap.size = sz ∧ va_P (dC, dI) vwCl (WC cy ad ks g u0) U.heap ∧ va_K (dC, dI) vwCl (tyL cy) U ∧ va_D (fun _ => True) (WC cy ad ks g u0) ∧ GE nb (va_A (WC cy ad ks g u0) sz) U)) (va_Qi (fun (r : Int32) (_ : Unit) => r = ro) (fun _ t => va_P (dC, dI) vwCl (WC cy ad ks g uz) t.heap ∧ va_D (va_A (WC cy ad ks g u0) sz) (WC cy ad ks g uz)) (va_A (WC cy ad ks g u0) sz)) 0 0 (va_A (WC cy ad ks g u0) sz) := by
  refine Met.ofW (cc := cX7_restoreSnapshot) (maxL := 2) (ret := (some .int)) pn_X7 rfl ?_
  intro p e s m args below meth c s₁ B hml hv
  obtain ⟨rfl, hsz, hP, hK, hD0, hE⟩ := hv
  have hx := B.exec
  have hb := B.bytes
  have hr := B.returns
  have hts0 := atoms_spec (ws := (wsg yX7_restoreSnapshot cX7_restoreSnapshot 2 (some .int))) B.pre
  have hts : ∀ w ∈ wsL_law, w.before _ s = true := fun w h => hts0 w (List.mem_cons_of_mem _ h)
  have hown : s.vm.findClass RX7 = some m.cls := by have h9 := findClass_of_methodNamed B.named; exact h9
  have hlocks := B.notSynchronized
  subst hsz
  have hD := hD0.self (sz := s.heap.size)
  generalize hAe : va_A (WC cy ad ks g u0) s.heap.size = A at hD hE ⊢
  have hA : ∀ q : Nat, s.heap.size ≤ q → A q := fun q h => by rw [← hAe]; exact Or.inr h
  have hS : va_S A s.heap s.heap [] := va_S.rf
  have hl := lv_entry ([.ref (ad .cl), .int a1]) (n := 2) (Nat.le_of_ble_eq_true rfl)
  rw [lg_entry_eq]
  generalize (lg_sl ([.ref (ad .cl), .int a1]) ++ List.replicate (2 - (lg_sl ([.ref (ad .cl), .int a1])).length) Slot.unset).toArray = ls at hl ⊢
  have hl : lv_has ls 2 [(0, .ref (ad .cl)), (1, .int a1)] := hl
  generalize hHe : s.heap = H at hP hS ⊢
  have hS : va_S A s.heap H [] := by rw [hHe]; exact hS
  refine my_Q (fun Qn hQ => ?_)
  simp only [C7_restoreSnapshot] at hF
  refine lv_iload_n hx hb dX7_restoreSnapshot_0 rfl (lv_at hl 1 rfl) ?_
  refine lv_iconst (v := 0) hx hb dX7_restoreSnapshot_1 (by decide) ?_
  refine lv_iconst (v := 1) hx hb dX7_restoreSnapshot_2 (by decide) ?_
  obtain ⟨t1, e2, hF⟩ := ob hF
  rcases t1 with xz9 | t3
  · have hF : some (Sum.inl xz9) = some (.inr (ro, uz)) := hF
    cases hF
  · dsimp only [tr] at hF
    have hPc : va_P (dC, dI) vwCl ([] : va_W) H := fun k q h => by simp at h
    have hDc : va_D A ([] : va_W) := ⟨fun i j p q h => by simp at h, fun k q h => by simp at h⟩
    have hFc := my_free0 hS hA
    refine va_callv (va_runS (As := [.int a1, .int 0, .int 1]) (rest := []) ⟨hx, hb, hml, hown, hts⟩ (c_X7_needRange l dC dI cy nb (a1) (0) (1) H.size e2) (va_cwS 3 hts (gS mw_815 mw_816 mw_2 mw_817) rfl rfl rfl (by decide +kernel) ⟨Nat.le_of_ble_eq_true rfl, Nat.le_of_ble_eq_true rfl⟩) (my_preS hPc hK hDc hE hS hFc) rfl rfl hl.1 rfl (lv_room (Nat.le_of_ble_eq_true rfl)) dX7_restoreSnapshot_3 ⟨Nat.le_of_ble_eq_true rfl, Nat.le_of_ble_eq_true rfl⟩) hS (fun q _ h => hFc q h) hFc (fun u t H1 locs ht hvm hw hB hz1 hk1 hS => ?_)
    obtain ⟨hP1, hD1⟩ := hB
    rw [ht] at hP1
    have hP := my_keep hP hk1
    generalize H1 = H at hP hS ⊢
    clear hP1 hD1 hPc hDc hFc hk1 hz1 hvm ht
    refine lv_aload_n hx hb dX7_restoreSnapshot_6 rfl (lv_at hl 0 rfl) ?_
    obtain ⟨q9, h9⟩ := wc_at (cy := cy) (ad := ad) (ks := ks) (g := g) (u := u0) (κ := .cl) hk.1 True.intro
    refine va_get (D := (dC, dI)) (ci := 7) (v := .ref (ad .sa)) (C := RX7) (T := TX7) (N := 12) hx hb hts inlX7 hown hK hP q9 h9 rfl 5 (by decide) (hts _ mw_27) (fun _ h9 => h9) rfl dX7_restoreSnapshot_7 ?_
    clear h9
    refine lv_iload_n hx hb dX7_restoreSnapshot_10 rfl (lv_at hl 1 rfl) ?_
    obtain ⟨n4, e5, hF⟩ := ob hF
    by_cases c6 : g.pl (10 + n4) = true
    · rw [if_pos c6] at hF
      obtain ⟨q9, h9⟩ := wc_at (cy := cy) (ad := ad) (ks := ks) (g := g) (u := u0) (κ := .sa) hk.1 True.intro
      refine va_aldq hx hb hK hP q9 5 h9 rfl (ix_in e5) dX7_restoreSnapshot_11 ?_
      refine my_top (y := .ref (ad (.ln (10 + n4)))) (plv (F := fun j => ad (.ln (10 + j))) e5 c6) ?_
      clear h9
      refine lv_ifnonnull (tgt := 17) hx hb dX7_restoreSnapshot_12 (by decide) ?_
      refine lv_aload_n hx hb dX7_restoreSnapshot_17 rfl (lv_at hl 0 rfl) ?_
      obtain ⟨q9, h9⟩ := wc_at (cy := cy) (ad := ad) (ks := ks) (g := g) (u := u0) (κ := .cl) hk.1 True.intro
      refine va_get (D := (dC, dI)) (ci := 7) (v := .ref (ad (.ln 0))) (C := RX7) (T := TX7) (N := 12) hx hb hts inlX7 hown hK hP q9 h9 rfl 0 (by decide) (hts _ mw_18) (fun _ h9 => h9) rfl dX7_restoreSnapshot_18 ?_
      clear h9
      refine lv_aload_n hx hb dX7_restoreSnapshot_21 rfl (lv_at hl 0 rfl) ?_
      obtain ⟨q9, h9⟩ := wc_at (cy := cy) (ad := ad) (ks := ks) (g := g) (u := u0) (κ := .cl) hk.1 True.intro
      refine va_get (D := (dC, dI)) (ci := 7) (v := .ref (ad .sa)) (C := RX7) (T := TX7) (N := 12) hx hb hts inlX7 hown hK hP q9 h9 rfl 5 (by decide) (hts _ mw_27) (fun _ h9 => h9) rfl dX7_restoreSnapshot_22 ?_
      clear h9
      refine lv_iload_n hx hb dX7_restoreSnapshot_25 rfl (lv_at hl 1 rfl) ?_
      obtain ⟨q9, h9⟩ := wc_at (cy := cy) (ad := ad) (ks := ks) (g := g) (u := u0) (κ := .sa) hk.1 True.intro
      refine va_aldq hx hb hK hP q9 5 h9 rfl (ix_in e5) dX7_restoreSnapshot_26 ?_
      refine my_top (y := .ref (ad (.ln (10 + n4)))) (plv (F := fun j => ad (.ln (10 + j))) e5 c6) ?_
      clear h9
      obtain ⟨u7, e8, hF⟩ := ob hF
      have hPc := hP
      have hDc := hD
      have hFc := my_free hD hS hA
      obtain ⟨q8, h8⟩ := wc_at (cy := cy) (ad := ad) (ks := ks) (g := g) (u := u0) (κ := (.ln 0)) hk.1 (Or.inl (by decide))
      refine va_callv (va_runV (As := [.ref (ad (.ln (10 + n4)))]) (rest := []) ⟨hx, hb, hml, hown, hts⟩ (c_X3_copyFrom l dC dI cy nb ad ks g hk u0 0 (10 + n4) (u7) H.size (Or.inl (by decide)) (Or.inr ⟨by have := ix_lt e5; omega, c6⟩) e8) (cwV 1 hts (gV mw_392 mw_393 mw_394 mw_17 mw_395) rfl rfl rfl (by decide +kernel) ⟨Nat.le_of_ble_eq_true rfl, Nat.le_of_ble_eq_true rfl⟩) (my_preV hPc hK hDc hE hS hFc (va_recv (q := (RX3, TX3, 17)) hK hP (ci := 3) (q0 := q8) rfl h8)) rfl rfl hl.1 rfl (lv_room (Nat.le_of_ble_eq_true rfl)) dX7_restoreSnapshot_27 ⟨Nat.le_of_ble_eq_true rfl, Nat.le_of_ble_eq_true rfl⟩) hS (fun q _ h => hFc q h) hFc (fun u t H1 locs ht hvm hw hB hz1 hk1 hS => ?_)
      clear h8
      obtain ⟨hP1, hD1⟩ := hB
      rw [ht] at hP1
      have hP := hP1
      have hD := hD1.weaken (fun k q _ h => hFc q.1 h)
      generalize H1 = H at hP hS ⊢
      clear hP1 hD1 hPc hDc hFc hk1 hz1 hvm ht
      refine lv_aload_n hx hb dX7_restoreSnapshot_30 rfl (lv_at hl 0 rfl) ?_
      refine lv_iconst (v := 0) hx hb dX7_restoreSnapshot_31 (by decide) ?_
      obtain ⟨q9, h9, ez9⟩ := wc_set (cy := cy) (ad := ad) (ks := ks) (g := g) (u := u7) (κ := .cl) (r := 0) (i := 4) (v := (0)) hk.1 True.intro (own_cl (by decide)) (sf_cl_11)
      refine va_put (D := (dC, dI)) (ci := 7) (v := .int 0) (ty := .int) (C := RX7) (T := TX7) (N := 12) hx hb hts inlX7 tyX7 tyX7_ok nmX7 hown hK hP hD hS q9 h9 rfl 11 (by decide) (hts _ mw_34) (fun _ h9 => h9) rfl (by decide +kernel) rfl rfl (Nat.le_of_ble_eq_true rfl) dX7_restoreSnapshot_32 (fun H locs hP hD hS => ?_)
      obtain ⟨u9, e10, hF⟩ := ob hF
      have hP : va_P (dC, dI) vwCl (WC cy ad ks g u9) H := by rw [← pt_eq e10, ← ez9]; exact hP
      have hD : va_D A (WC cy ad ks g u9) := by rw [← pt_eq e10, ← ez9]; exact hD
      clear ez9 h9
      refine lv_aload_n hx hb dX7_restoreSnapshot_35 rfl (lv_at hl 0 rfl) ?_
      obtain ⟨q9, h9⟩ := wc_at (cy := cy) (ad := ad) (ks := ks) (g := g) (u := u9) (κ := .cl) hk.1 True.intro
      refine va_get (D := (dC, dI)) (ci := 7) (v := .ref (ad (.ln 0))) (C := RX7) (T := TX7) (N := 12) hx hb hts inlX7 hown hK hP q9 h9 rfl 0 (by decide) (hts _ mw_18) (fun _ h9 => h9) rfl dX7_restoreSnapshot_36 ?_
      clear h9
      obtain ⟨q9, h9⟩ := wc_at (cy := cy) (ad := ad) (ks := ks) (g := g) (u := u9) (κ := (.ln 0)) hk.1 (Or.inl (by decide))
      refine va_get (D := (dC, dI)) (ci := 3) (v := .int (u9 (10 + 0) 6)) (C := RX3) (T := TX3) (N := 17) hx hb hts inlX3 hown hK hP q9 h9 rfl 6 (by decide) (hts _ mw_867) (fun _ h9 => h9) rfl dX7_restoreSnapshot_39 ?_
      clear h9
      have hZ := s3 hF
      have zro : (u9 (10 + 0) 6) = ro := (congrArg (fun q => q.1) hZ)
      have zuz : u9 = uz := (congrArg (fun q => q.2) hZ)
      have hP9 : va_P (dC, dI) vwCl (WC cy ad ks g uz) H := by rw [← zuz]; exact hP
      have hD9 : va_D A (WC cy ad ks g uz) := by rw [← zuz]; exact hD
      rw [hQ]
      exact W.iret (v := (u9 (10 + 0) 6)) hx hb hr (fun t ht hW => ⟨⟨(u9 (10 + 0) 6), (), rfl, zro, by rw [ht]; exact hP9, hD9⟩, hS.F ht⟩) hS.2.2 dX7_restoreSnapshot_42
    · rw [if_neg c6] at hF
      obtain ⟨q9, h9⟩ := wc_at (cy := cy) (ad := ad) (ks := ks) (g := g) (u := u0) (κ := .sa) hk.1 True.intro
      refine va_aldq hx hb hK hP q9 5 h9 rfl (ix_in e5) dX7_restoreSnapshot_11 ?_
      refine my_top (y := .null) (plv_n (F := fun j => ad (.ln (10 + j))) e5 c6) ?_
      clear h9
      refine lv_ifnonnullN hx hb dX7_restoreSnapshot_12 ?_
      refine lv_iconst (v := (-1)) hx hb dX7_restoreSnapshot_15 (by decide) ?_
      have hZ := s3 hF
      have zro : (-1 : Int32) = ro := (congrArg (fun q => q.1) hZ)
      have zuz : u0 = uz := (congrArg (fun q => q.2) hZ)
      have hP9 : va_P (dC, dI) vwCl (WC cy ad ks g uz) H := by rw [← zuz]; exact hP
      have hD9 : va_D A (WC cy ad ks g uz) := by rw [← zuz]; exact hD
      rw [hQ]
      exact W.iret (v := (-1 : Int32)) hx hb hr (fun t ht hW => ⟨⟨(-1 : Int32), (), rfl, zro, by rw [ht]; exact hP9, hD9⟩, hS.F ht⟩) hS.2.2 dX7_restoreSnapshot_16
