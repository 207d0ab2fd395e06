noncomputable def C7_run_L14 (a1 : Int32) (t4 : CG × RS) : Nat → Int32 → RS → Option (Int32 × RS)
  | 0, _, _ => none
  | m17 + 1, y10, u11 => if a1 ≤ y10 then (some ((y10, u11))) else ((C3_tick (t4.1) u11 0).bind fun t19 => C7_run_L14 a1 t4 m17 ((y10 + 1)) (t19.2))
noncomputable def C7_run (g : CG) (u0 : RS) (a1 : Int32) : Option (Sum Int32 (Int32 × CG × RS)) := (C7_needRange (a1) (1) (2000)).bind fun t1 => tr t1 fun t3 => (C7_remember g u0).bind fun t4 => (C7_run_L14 a1 t4 FUEL (0 : Int32) (t4.2)).bind fun t12 => some (.inr (((t12.2) (400 + 0) 3), (t4.1), (t12.2)))
set_option maxHeartbeats 4000000 in
set_option maxRecDepth 100000 in
theorem c_X7_run (l : Launch) (dC : Nat → ClassId) (dI : Nat → Nat → Nat) (cy : Nat → ClassId) (nb : Nat → Nat) (ad : CK → Nat) (ks : List CK) (g : CG) (hk : GA nb ad g ks) (u0 : RS) (a1 : Int32) (ro : Int32) (gz : CG) (uz : RS) (sz : Nat) (hF : C7_run g u0 a1 = some (.inr (ro, gz, uz))) : Met l yX7_run (wsg yX7_run cX7_run 3 (some .int)) ({ frames := 12, cells := 67, slots := 831, locals := 700 }) (va_Pc [.ref (ad .cl), .int a1] (fun U => U.heap.size = sz ∧ va_P (dC, dI) vwCl (WC cy ad ks g u0) U.heap ∧ va_K (dC, dI) vwCl (tyL cy) U ∧ va_D (fun _ => True) (WC cy ad ks g u0) ∧ GE nb (va_A (WC cy ad ks g u0) sz) U)) (va_Qi (fun (r : Int32) (_ : Unit) => r = ro) (fun _ t => ∃ (ad' : CK → Nat) (ks' : List CK), GA nb ad' gz ks' ∧ AX g ad gz ad' ∧ va_P (dC, dI) vwCl (WC cy ad' ks' gz uz) t.heap ∧ va_D (va_A (WC cy ad ks g u0) sz) (WC cy ad' ks' gz uz)) (va_A (WC cy ad ks g u0) sz)) 67 831 (va_A (WC cy ad ks g u0) sz) := by
  refine Met.ofW (cc := cX7_run) (maxL := 3) (ret := (some .int)) pn_X7 rfl ?_
  intro p e s m args below meth c s₁ B hml hv
  obtain ⟨rfl, hsz, hP, hK, hD0, hE⟩ := hv
  have hx := B.exec
  have hb := B.bytes
  have hr := B.returns
  have hts0 := atoms_spec (ws := (wsg yX7_run cX7_run 3 (some .int))) B.pre
  have hts : ∀ w ∈ wsL_law, w.before _ s = true := fun w h => hts0 w (List.mem_cons_of_mem _ h)
  have hown : s.vm.findClass RX7 = some m.cls := by have h9 := findClass_of_methodNamed B.named; exact h9
  have hlocks := B.notSynchronized
  subst hsz
  have hD := hD0.self (sz := s.heap.size)
  generalize hAe : va_A (WC cy ad ks g u0) s.heap.size = A at hD hE ⊢
  have hA : ∀ q : Nat, s.heap.size ≤ q → A q := fun q h => by rw [← hAe]; exact Or.inr h
  have hS : va_S A s.heap s.heap [] := va_S.rf
  have hl := lv_entry ([.ref (ad .cl), .int a1]) (n := 3) (Nat.le_of_ble_eq_true rfl)
  rw [lg_entry_eq]
  generalize (lg_sl ([.ref (ad .cl), .int a1]) ++ List.replicate (3 - (lg_sl ([.ref (ad .cl), .int a1])).length) Slot.unset).toArray = ls at hl ⊢
  have hl : lv_has ls 3 [(0, .ref (ad .cl)), (1, .int a1)] := hl
  generalize hHe : s.heap = H at hP hS ⊢
  have hS : va_S A s.heap H [] := by rw [hHe]; exact hS
  refine my_Q (fun Qn hQ => ?_)
  simp only [C7_run] at hF
  refine lv_iload_n hx hb dX7_run_0 rfl (lv_at hl 1 rfl) ?_
  refine lv_iconst (v := 1) hx hb dX7_run_1 (by decide) ?_
  refine lv_sipush (v := 2000) hx hb dX7_run_2 (by decide) ?_
  obtain ⟨t1, e2, hF⟩ := ob hF
  rcases t1 with xz9 | t3
  · have hF : some (Sum.inl xz9) = some (.inr (ro, gz, uz)) := hF
    cases hF
  · dsimp only [tr] at hF
    have hPc : va_P (dC, dI) vwCl ([] : va_W) H := fun k q h => by simp at h
    have hDc : va_D A ([] : va_W) := ⟨fun i j p q h => by simp at h, fun k q h => by simp at h⟩
    have hFc := my_free0 hS hA
    refine va_callv (va_runS (As := [.int a1, .int 1, .int 2000]) (rest := []) ⟨hx, hb, hml, hown, hts⟩ (c_X7_needRange l dC dI cy nb (a1) (1) (2000) H.size e2) (va_cwS 3 hts (gS mw_815 mw_816 mw_2 mw_817) rfl rfl rfl (by decide +kernel) ⟨Nat.le_of_ble_eq_true rfl, Nat.le_of_ble_eq_true rfl⟩) (my_preS hPc hK hDc hE hS hFc) rfl rfl hl.1 rfl (lv_room (Nat.le_of_ble_eq_true rfl)) dX7_run_5 ⟨Nat.le_of_ble_eq_true rfl, Nat.le_of_ble_eq_true rfl⟩) hS (fun q _ h => hFc q h) hFc (fun u t H1 locs ht hvm hw hB hz1 hk1 hS => ?_)
    obtain ⟨hP1, hD1⟩ := hB
    rw [ht] at hP1
    have hP := my_keep hP hk1
    generalize H1 = H at hP hS ⊢
    clear hP1 hD1 hPc hDc hFc hk1 hz1 hvm ht
    refine lv_aload_n hx hb dX7_run_8 rfl (lv_at hl 0 rfl) ?_
    obtain ⟨t4, e5, hF⟩ := ob hF
    have hPc := hP
    have hDc := hD
    have hFc := my_free hD hS hA
    obtain ⟨q8, h8⟩ := wc_at (cy := cy) (ad := ad) (ks := ks) (g := g) (u := u0) (κ := .cl) hk.1 True.intro
    refine va_callv (va_runV (As := []) (rest := []) ⟨hx, hb, hml, hown, hts⟩ (c_X7_remember l dC dI cy nb ad ks g hk u0 (t4.1) (t4.2) H.size e5) (cwV 0 hts (gV mw_973 mw_974 mw_975 mw_2 mw_976) rfl rfl rfl (by decide +kernel) ⟨Nat.le_of_ble_eq_true rfl, Nat.le_of_ble_eq_true rfl⟩) (my_preV hPc hK hDc hE hS hFc (va_recv (q := (RX7, TX7, 12)) hK hP (ci := 7) (q0 := q8) rfl h8)) rfl rfl hl.1 rfl (lv_room (Nat.le_of_ble_eq_true rfl)) dX7_run_9 ⟨Nat.le_of_ble_eq_true rfl, Nat.le_of_ble_eq_true rfl⟩) hS (fun q _ h => hFc q h) hFc (fun u t H1 locs ht hvm hw hB hz1 hk1 hS => ?_)
    clear h8
    obtain ⟨ad6, ks7, hk8, ax9, hP1, hD1⟩ := hB
    rw [ht] at hP1
    have hP := hP1
    have hD := hD1.weaken (fun k q _ h => hFc q.1 h)
    generalize H1 = H at hP hS ⊢
    have hl : lv_has ls 3 [(0, .ref (ad6 .cl)), (1, .int a1)] := by rw [(ax9 .cl True.intro).2]; exact hl
    clear hP1 hD1 hPc hDc hFc hk1 hz1 hvm ht
    refine W.widen (k := 67) (n := 831) (by omega) (by omega) ?_
    refine lv_iconst (v := 0) hx hb dX7_run_12 (by decide) ?_
    refine lv_istore_n (lv' := [(2, .int 0), (0, .ref (ad6 .cl)), (1, .int a1)]) hx hb dX7_run_13 rfl hl (by decide) rfl (fun ls hl => ?_)
    obtain ⟨t12, hL13, hF⟩ := ob hF
    have kx14 : ∀ (H : Heap) (locs : List Loc) (ls : Array Slot), va_P (dC, dI) vwCl (WC cy ad6 ks7 (t4.1) (t12.2)) H → va_D A (WC cy ad6 ks7 (t4.1) (t12.2)) → va_S A s.heap H locs → lv_has ls 3 [(2, .int (t12.1)), (0, .ref (ad6 .cl)), (1, .int a1)] → W p l e (headSpec (wsg yX7_run cX7_run 3 (some .int)) ({ frames := 12, cells := 67, slots := 831, locals := 700 })).room s m ([.ref (ad .cl), .int a1] : List Value).toArray below meth c H locs 67 831 Qn (F0 m 33 ls []) := by
      intro H locs ls hP hD hS hl
      refine lv_aload_n hx hb dX7_run_33 rfl (lv_at hl 1 rfl) ?_
      obtain ⟨q9, h9⟩ := wc_at (cy := cy) (ad := ad6) (ks := ks7) (g := (t4.1)) (u := (t12.2)) (κ := .cl) hk8.1 True.intro
      refine va_get (D := (dC, dI)) (ci := 7) (v := .ref (ad6 (.ln 0))) (C := RX7) (T := TX7) (N := 12) hx hb hts inlX7 hown hK hP q9 h9 rfl 0 (by decide) (hts _ mw_18) (fun _ h9 => h9) rfl dX7_run_34 ?_
      clear h9
      obtain ⟨q9, h9⟩ := wc_at (cy := cy) (ad := ad6) (ks := ks7) (g := (t4.1)) (u := (t12.2)) (κ := (.ln 0)) hk8.1 (Or.inl (by decide))
      refine va_get (D := (dC, dI)) (ci := 3) (v := .ref (ad6 (.is 0))) (C := RX3) (T := TX3) (N := 17) hx hb hts inlX3 hown hK hP q9 h9 rfl 13 (by decide) (hts _ mw_574) (fun _ h9 => h9) rfl dX7_run_37 ?_
      clear h9
      refine lv_iconst (v := 3) hx hb dX7_run_40 (by decide) ?_
      obtain ⟨q9, h9⟩ := wc_at (cy := cy) (ad := ad6) (ks := ks7) (g := (t4.1)) (u := (t12.2)) (κ := (.is 0)) hk8.1 (Or.inl (by decide))
      refine va_iald hx hb hK hP q9 1 h9 rfl (vp_in_nI (n := 3) (by decide) (by decide)) dX7_run_41 ?_
      refine my_topi (y := ((t12.2) (400 + 0) 3)) (by rfl) ?_
      clear h9
      have hZ := s3 hF
      have zro : ((t12.2) (400 + 0) 3) = ro := (congrArg (fun q => q.1) hZ)
      have zgz : (t4.1) = gz := (congrArg (fun q => q.2.1) hZ)
      have zuz : (t12.2) = uz := (congrArg (fun q => q.2.2) hZ)
      have hP9 : va_P (dC, dI) vwCl (WC cy ad6 ks7 gz uz) H := by rw [← zuz, ← zgz]; exact hP
      have hD9 : va_D A (WC cy ad6 ks7 gz uz) := by rw [← zuz, ← zgz]; exact hD
      have hk9 : GA nb ad6 gz ks7 := by rw [← zgz]; exact hk8
      have ax9 : AX g ad gz ad6 := by rw [← zgz]; exact ax9
      refine W.widen (k := 67) (n := 831) (by omega) (by omega) ?_
      rw [hQ]
      exact W.iret (v := ((t12.2) (400 + 0) 3)) hx hb hr (fun t ht hW => ⟨⟨((t12.2) (400 + 0) 3), (), rfl, zro, ad6, ks7, hk9, ax9, by rw [ht]; exact hP9, hD9⟩, hS.F ht⟩) hS.2.2 dX7_run_42
    clear hF
    have loop16 : ∀ (m17 : Nat) (y10 : Int32) (u11 : RS), C7_run_L14 a1 t4 m17 y10 u11 = some t12 → ∀ (H : Heap) (locs : List Loc) (ls : Array Slot), va_P (dC, dI) vwCl (WC cy ad6 ks7 (t4.1) u11) H → va_D A (WC cy ad6 ks7 (t4.1) u11) → va_S A s.heap H locs → lv_has ls 3 [(2, .int y10), (0, .ref (ad6 .cl)), (1, .int a1)] → W p l e (headSpec (wsg yX7_run cX7_run 3 (some .int)) ({ frames := 12, cells := 67, slots := 831, locals := 700 })).room s m ([.ref (ad .cl), .int a1] : List Value).toArray below meth c H locs 67 831 Qn (F0 m 14 ls []) := by
      intro m17
      induction m17 with
      | zero => intro y10 u11 hF; cases hF
      | succ m17 ih =>
        intro y10 u11 hF H locs ls hP hD hS hl
        simp only [C7_run_L14] at hF
        refine lv_iload_n hx hb dX7_run_14 rfl (lv_at hl 0 rfl) ?_
        refine lv_iload_n hx hb dX7_run_15 rfl (lv_at hl 2 rfl) ?_
        refine lv_icmp_ge (tgt := 33) hx hb dX7_run_16 (by decide) (fun c18 => ?_) (fun c18 => ?_)
        · rw [if_pos c18] at hF
          have ht := s1 hF
          subst ht
          exact kx14 _ _ _ hP hD hS (lv_sub hl [0, 1, 2] rfl)
        · rw [if_neg c18] at hF
          refine lv_aload_n hx hb dX7_run_19 rfl (lv_at hl 1 rfl) ?_
          obtain ⟨q9, h9⟩ := wc_at (cy := cy) (ad := ad6) (ks := ks7) (g := (t4.1)) (u := u11) (κ := .cl) hk8.1 True.intro
          refine va_get (D := (dC, dI)) (ci := 7) (v := .ref (ad6 (.ln 0))) (C := RX7) (T := TX7) (N := 12) hx hb hts inlX7 hown hK hP q9 h9 rfl 0 (by decide) (hts _ mw_18) (fun _ h9 => h9) rfl dX7_run_20 ?_
          clear h9
          obtain ⟨t19, e20, hF⟩ := ob hF
          have hPc := hP
          have hDc := hD
          have hFc := my_free hD hS hA
          obtain ⟨q8, h8⟩ := wc_at (cy := cy) (ad := ad6) (ks := ks7) (g := (t4.1)) (u := u11) (κ := (.ln 0)) hk8.1 (Or.inl (by decide))
          refine va_calli (va_runV (As := []) (rest := []) ⟨hx, hb, hml, hown, hts⟩ (c_X3_tick l dC dI cy nb ad6 ks7 (t4.1) hk8 u11 0 (t19.1) (t19.2) H.size (Or.inl (by decide)) e20) (cwV 0 hts (gV mw_1137 mw_1138 mw_1139 mw_17 mw_1140) rfl rfl rfl (by decide +kernel) ⟨Nat.le_of_ble_eq_true rfl, Nat.le_of_ble_eq_true rfl⟩) (my_preV hPc hK hDc hE hS hFc (va_recv (q := (RX3, TX3, 17)) hK hP (ci := 3) (q0 := q8) rfl h8)) rfl rfl hl.1 rfl (lv_room (Nat.le_of_ble_eq_true rfl)) dX7_run_23 ⟨Nat.le_of_ble_eq_true rfl, Nat.le_of_ble_eq_true rfl⟩) hS (fun q _ h => hFc q h) hFc (fun r u t H1 locs ht hvm hw hB hz1 hk1 hS => ?_)
          clear h8
          obtain ⟨hP1, hD1⟩ := hB
          rw [ht] at hP1
          have hP := hP1
          have hD := hD1.weaken (fun k q _ h => hFc q.1 h)
          generalize H1 = H at hP hS ⊢
          clear hP1 hD1 hPc hDc hFc hk1 hz1 hvm ht
          obtain rfl := hw.symm
          refine lv_pop hx hb dX7_run_26 rfl ?_
          refine lv_iinc (v := (y10 + 1)) (lv' := [(2, .int (y10 + 1)), (0, .ref (ad6 .cl)), (1, .int a1)]) hx hb dX7_run_27 hl (k := 0) rfl (by rfl) (by decide) rfl (fun ls hl => ?_)
          refine lv_goto (tgt := 14) hx hb dX7_run_30 (by decide) ?_
          exact ih _ _ hF _ _ _ hP hD hS (lv_sub hl [0, 1, 2] rfl)
    exact loop16 FUEL _ _ hL13 _ _ _ hP hD hS (lv_sub hl [0, 1, 2] rfl)
noncomputable def C7_runToLeave_L24 (t4 : CG × RS) (a1 : Int32) : Nat → Int32 → RS → Option (Sum (Sum Int32 (Int32 × CG × RS)) (Int32 × RS))
  | 0, _, _ => none
  | m18 + 1, y10, u11 => if a1 < y10 then (some (.inr (y10, u11))) else ((C3_tick (t4.1) u11 0).bind fun t20 => if ((t20.2) (400 + 0) 3) ≤ ((t4.2) (400 + 0) 3) then (C7_runToLeave_L24 t4 a1 m18 ((y10 + 1)) (t20.2)) else (some (.inl (.inr (y10, (t4.1), (t20.2))))))
noncomputable def C7_runToLeave (g : CG) (u0 : RS) (a1 : Int32) : Option (Sum Int32 (Int32 × CG × RS)) := (C7_needRange (a1) (1) (2000)).bind fun t1 => tr t1 fun t3 => (C7_remember g u0).bind fun t4 => (C7_runToLeave_L24 t4 a1 FUEL (1 : Int32) (t4.2)).bind fun t12 => match t12 with | .inl r => some r | .inr t16 => some (.inr ((-1 : Int32), (t4.1), (t16.2)))
set_option maxHeartbeats 4000000 in
set_option maxRecDepth 100000 in
theorem c_X7_runToLeave (l : Launch) (dC : Nat → ClassId) (dI : Nat → Nat → Nat) (cy : Nat → ClassId) (nb : Nat → Nat) (ad : CK → Nat) (ks : List CK) (g : CG) (hk : GA nb ad g ks) (u0 : RS) (a1 : Int32) (ro : Int32) (gz : CG) (uz : RS) (sz : Nat) (hF : C7_runToLeave g u0 a1 = some (.inr (ro, gz, uz))) : Met l yX7_runToLeave (wsg yX7_runToLeave cX7_runToLeave 4 (some .int)) ({ frames := 12, cells := 67, slots := 831, locals := 700 }) (va_Pc [.ref (ad .cl), .int a1] (fun U => U.heap.size = sz ∧ va_P (dC, dI) vwCl (WC cy ad ks g u0) U.heap ∧ va_K (dC, dI) vwCl (tyL cy) U ∧ va_D (fun _ => True) (WC cy ad ks g u0) ∧ GE nb (va_A (WC cy ad ks g u0) sz) U)) (va_Qi (fun (r : Int32) (_ : Unit) => r = ro) (fun _ t => ∃ (ad' : CK → Nat) (ks' : List CK), GA nb ad' gz ks' ∧ AX g ad gz ad' ∧ va_P (dC, dI) vwCl (WC cy ad' ks' gz uz) t.heap ∧ va_D (va_A (WC cy ad ks g u0) sz) (WC cy ad' ks' gz uz)) (va_A (WC cy ad ks g u0) sz)) 67 831 (va_A (WC cy ad ks g u0) sz) := by
  refine Met.ofW (cc := cX7_runToLeave) (maxL := 4) (ret := (some .int)) pn_X7 rfl ?_
  intro p e s m args below meth c s₁ B hml hv
  obtain ⟨rfl, hsz, hP, hK, hD0, hE⟩ := hv
  have hx := B.exec
  have hb := B.bytes
  have hr := B.returns
  have hts0 := atoms_spec (ws := (wsg yX7_runToLeave cX7_runToLeave 4 (some .int))) B.pre
  have hts : ∀ w ∈ wsL_law, w.before _ s = true := fun w h => hts0 w (List.mem_cons_of_mem _ h)
  have hown : s.vm.findClass RX7 = some m.cls := by have h9 := findClass_of_methodNamed B.named; exact h9
  have hlocks := B.notSynchronized
  subst hsz
  have hD := hD0.self (sz := s.heap.size)
  generalize hAe : va_A (WC cy ad ks g u0) s.heap.size = A at hD hE ⊢
  have hA : ∀ q : Nat, s.heap.size ≤ q → A q := fun q h => by rw [← hAe]; exact Or.inr h
  have hS : va_S A s.heap s.heap [] := va_S.rf
  have hl := lv_entry ([.ref (ad .cl), .int a1]) (n := 4) (Nat.le_of_ble_eq_true rfl)
  rw [lg_entry_eq]
  generalize (lg_sl ([.ref (ad .cl), .int a1]) ++ List.replicate (4 - (lg_sl ([.ref (ad .cl), .int a1])).length) Slot.unset).toArray = ls at hl ⊢
  have hl : lv_has ls 4 [(0, .ref (ad .cl)), (1, .int a1)] := hl
  generalize hHe : s.heap = H at hP hS ⊢
  have hS : va_S A s.heap H [] := by rw [hHe]; exact hS
  refine my_Q (fun Qn hQ => ?_)
  simp only [C7_runToLeave] at hF
  refine lv_iload_n hx hb dX7_runToLeave_0 rfl (lv_at hl 1 rfl) ?_
  refine lv_iconst (v := 1) hx hb dX7_runToLeave_1 (by decide) ?_
  refine lv_sipush (v := 2000) hx hb dX7_runToLeave_2 (by decide) ?_
  obtain ⟨t1, e2, hF⟩ := ob hF
  rcases t1 with xz9 | t3
  · have hF : some (Sum.inl xz9) = some (.inr (ro, gz, uz)) := hF
    cases hF
  · dsimp only [tr] at hF
    have hPc : va_P (dC, dI) vwCl ([] : va_W) H := fun k q h => by simp at h
    have hDc : va_D A ([] : va_W) := ⟨fun i j p q h => by simp at h, fun k q h => by simp at h⟩
    have hFc := my_free0 hS hA
    refine va_callv (va_runS (As := [.int a1, .int 1, .int 2000]) (rest := []) ⟨hx, hb, hml, hown, hts⟩ (c_X7_needRange l dC dI cy nb (a1) (1) (2000) H.size e2) (va_cwS 3 hts (gS mw_815 mw_816 mw_2 mw_817) rfl rfl rfl (by decide +kernel) ⟨Nat.le_of_ble_eq_true rfl, Nat.le_of_ble_eq_true rfl⟩) (my_preS hPc hK hDc hE hS hFc) rfl rfl hl.1 rfl (lv_room (Nat.le_of_ble_eq_true rfl)) dX7_runToLeave_5 ⟨Nat.le_of_ble_eq_true rfl, Nat.le_of_ble_eq_true rfl⟩) hS (fun q _ h => hFc q h) hFc (fun u t H1 locs ht hvm hw hB hz1 hk1 hS => ?_)
    obtain ⟨hP1, hD1⟩ := hB
    rw [ht] at hP1
    have hP := my_keep hP hk1
    generalize H1 = H at hP hS ⊢
    clear hP1 hD1 hPc hDc hFc hk1 hz1 hvm ht
    refine lv_aload_n hx hb dX7_runToLeave_8 rfl (lv_at hl 0 rfl) ?_
    obtain ⟨t4, e5, hF⟩ := ob hF
    have hPc := hP
    have hDc := hD
    have hFc := my_free hD hS hA
    obtain ⟨q8, h8⟩ := wc_at (cy := cy) (ad := ad) (ks := ks) (g := g) (u := u0) (κ := .cl) hk.1 True.intro
    refine va_callv (va_runV (As := []) (rest := []) ⟨hx, hb, hml, hown, hts⟩ (c_X7_remember l dC dI cy nb ad ks g hk u0 (t4.1) (t4.2) H.size e5) (cwV 0 hts (gV mw_973 mw_974 mw_975 mw_2 mw_976) rfl rfl rfl (by decide +kernel) ⟨Nat.le_of_ble_eq_true rfl, Nat.le_of_ble_eq_true rfl⟩) (my_preV hPc hK hDc hE hS hFc (va_recv (q := (RX7, TX7, 12)) hK hP (ci := 7) (q0 := q8) rfl h8)) rfl rfl hl.1 rfl (lv_room (Nat.le_of_ble_eq_true rfl)) dX7_runToLeave_9 ⟨Nat.le_of_ble_eq_true rfl, Nat.le_of_ble_eq_true rfl⟩) hS (fun q _ h => hFc q h) hFc (fun u t H1 locs ht hvm hw hB hz1 hk1 hS => ?_)
    clear h8
    obtain ⟨ad6, ks7, hk8, ax9, hP1, hD1⟩ := hB
    rw [ht] at hP1
    have hP := hP1
    have hD := hD1.weaken (fun k q _ h => hFc q.1 h)
    generalize H1 = H at hP hS ⊢
    have hl : lv_has ls 4 [(0, .ref (ad6 .cl)), (1, .int a1)] := by rw [(ax9 .cl True.intro).2]; exact hl
    clear hP1 hD1 hPc hDc hFc hk1 hz1 hvm ht
    refine W.widen (k := 67) (n := 831) (by omega) (by omega) ?_
    refine lv_aload_n hx hb dX7_runToLeave_12 rfl (lv_at hl 0 rfl) ?_
    obtain ⟨q9, h9⟩ := wc_at (cy := cy) (ad := ad6) (ks := ks7) (g := (t4.1)) (u := (t4.2)) (κ := .cl) hk8.1 True.intro
    refine va_get (D := (dC, dI)) (ci := 7) (v := .ref (ad6 (.ln 0))) (C := RX7) (T := TX7) (N := 12) hx hb hts inlX7 hown hK hP q9 h9 rfl 0 (by decide) (hts _ mw_18) (fun _ h9 => h9) rfl dX7_runToLeave_13 ?_
    clear h9
    obtain ⟨q9, h9⟩ := wc_at (cy := cy) (ad := ad6) (ks := ks7) (g := (t4.1)) (u := (t4.2)) (κ := (.ln 0)) hk8.1 (Or.inl (by decide))
    refine va_get (D := (dC, dI)) (ci := 3) (v := .ref (ad6 (.is 0))) (C := RX3) (T := TX3) (N := 17) hx hb hts inlX3 hown hK hP q9 h9 rfl 13 (by decide) (hts _ mw_574) (fun _ h9 => h9) rfl dX7_runToLeave_16 ?_
    clear h9
    refine lv_iconst (v := 3) hx hb dX7_runToLeave_19 (by decide) ?_
    obtain ⟨q9, h9⟩ := wc_at (cy := cy) (ad := ad6) (ks := ks7) (g := (t4.1)) (u := (t4.2)) (κ := (.is 0)) hk8.1 (Or.inl (by decide))
    refine va_iald hx hb hK hP q9 1 h9 rfl (vp_in_nI (n := 3) (by decide) (by decide)) dX7_runToLeave_20 ?_
    refine my_topi (y := ((t4.2) (400 + 0) 3)) (by rfl) ?_
    clear h9
    refine lv_istore_n (lv' := [(2, .int ((t4.2) (400 + 0) 3)), (0, .ref (ad6 .cl)), (1, .int a1)]) hx hb dX7_runToLeave_21 rfl hl (by decide) rfl (fun ls hl => ?_)
    refine lv_iconst (v := 1) hx hb dX7_runToLeave_22 (by decide) ?_
    refine lv_istore_n (lv' := [(3, .int 1), (2, .int ((t4.2) (400 + 0) 3)), (0, .ref (ad6 .cl)), (1, .int a1)]) hx hb dX7_runToLeave_23 rfl hl (by decide) rfl (fun ls hl => ?_)
    obtain ⟨t12, hL13, hF⟩ := ob hF
    have kx14 : ∀ (t16 : Int32 × RS), t12 = .inr t16 → ∀ (H : Heap) (locs : List Loc) (ls : Array Slot), va_P (dC, dI) vwCl (WC cy ad6 ks7 (t4.1) (t16.2)) H → va_D A (WC cy ad6 ks7 (t4.1) (t16.2)) → va_S A s.heap H locs → lv_has ls 4 [(3, .int (t16.1)), (2, .int ((t4.2) (400 + 0) 3)), (0, .ref (ad6 .cl)), (1, .int a1)] → W p l e (headSpec (wsg yX7_runToLeave cX7_runToLeave 4 (some .int)) ({ frames := 12, cells := 67, slots := 831, locals := 700 })).room s m ([.ref (ad .cl), .int a1] : List Value).toArray below meth c H locs 67 831 Qn (F0 m 58 ls []) := by
      intro t16 he H locs ls hP hD hS hl
      subst he
      refine lv_iconst (v := (-1)) hx hb dX7_runToLeave_58 (by decide) ?_
      have hZ := s3 hF
      have zro : (-1 : Int32) = ro := (congrArg (fun q => q.1) hZ)
      have zgz : (t4.1) = gz := (congrArg (fun q => q.2.1) hZ)
      have zuz : (t16.2) = uz := (congrArg (fun q => q.2.2) hZ)
      have hP9 : va_P (dC, dI) vwCl (WC cy ad6 ks7 gz uz) H := by rw [← zuz, ← zgz]; exact hP
      have hD9 : va_D A (WC cy ad6 ks7 gz uz) := by rw [← zuz, ← zgz]; exact hD
      have hk9 : GA nb ad6 gz ks7 := by rw [← zgz]; exact hk8
      have ax9 : AX g ad gz ad6 := by rw [← zgz]; exact ax9
      refine W.widen (k := 67) (n := 831) (by omega) (by omega) ?_
      rw [hQ]
      exact W.iret (v := (-1 : Int32)) hx hb hr (fun t ht hW => ⟨⟨(-1 : Int32), (), rfl, zro, ad6, ks7, hk9, ax9, by rw [ht]; exact hP9, hD9⟩, hS.F ht⟩) hS.2.2 dX7_runToLeave_59
    have kr15 : ∀ r : Sum Int32 (Int32 × CG × RS), t12 = .inl r → some r = some (.inr (ro, gz, uz)) := by
      intro r he
      subst he
      exact hF
    clear hF
    have loop17 : ∀ (m18 : Nat) (y10 : Int32) (u11 : RS), C7_runToLeave_L24 t4 a1 m18 y10 u11 = some t12 → ∀ (H : Heap) (locs : List Loc) (ls : Array Slot), va_P (dC, dI) vwCl (WC cy ad6 ks7 (t4.1) u11) H → va_D A (WC cy ad6 ks7 (t4.1) u11) → va_S A s.heap H locs → lv_has ls 4 [(3, .int y10), (2, .int ((t4.2) (400 + 0) 3)), (0, .ref (ad6 .cl)), (1, .int a1)] → W p l e (headSpec (wsg yX7_runToLeave cX7_runToLeave 4 (some .int)) ({ frames := 12, cells := 67, slots := 831, locals := 700 })).room s m ([.ref (ad .cl), .int a1] : List Value).toArray below meth c H locs 67 831 Qn (F0 m 24 ls []) := by
      intro m18
      induction m18 with
      | zero => intro y10 u11 hF; cases hF
      | succ m18 ih =>
        intro y10 u11 hF H locs ls hP hD hS hl
        simp only [C7_runToLeave_L24] at hF
        refine lv_iload_n hx hb dX7_runToLeave_24 rfl (lv_at hl 0 rfl) ?_
        refine lv_iload_n hx hb dX7_runToLeave_25 rfl (lv_at hl 3 rfl) ?_
        refine lv_icmp_gt (tgt := 58) hx hb dX7_runToLeave_26 (by decide) (fun c19 => ?_) (fun c19 => ?_)
        · rw [if_pos c19] at hF
          exact kx14 _ (s1 hF).symm _ _ _ hP hD hS (lv_sub hl [0, 1, 2, 3] rfl)
        · rw [if_neg c19] at hF
          refine lv_aload_n hx hb dX7_runToLeave_29 rfl (lv_at hl 2 rfl) ?_
          obtain ⟨q9, h9⟩ := wc_at (cy := cy) (ad := ad6) (ks := ks7) (g := (t4.1)) (u := u11) (κ := .cl) hk8.1 True.intro
          refine va_get (D := (dC, dI)) (ci := 7) (v := .ref (ad6 (.ln 0))) (C := RX7) (T := TX7) (N := 12) hx hb hts inlX7 hown hK hP q9 h9 rfl 0 (by decide) (hts _ mw_18) (fun _ h9 => h9) rfl dX7_runToLeave_30 ?_
          clear h9
          obtain ⟨t20, e21, hF⟩ := ob hF
          have hPc := hP
          have hDc := hD
          have hFc := my_free hD hS hA
          obtain ⟨q8, h8⟩ := wc_at (cy := cy) (ad := ad6) (ks := ks7) (g := (t4.1)) (u := u11) (κ := (.ln 0)) hk8.1 (Or.inl (by decide))
          refine va_calli (va_runV (As := []) (rest := []) ⟨hx, hb, hml, hown, hts⟩ (c_X3_tick l dC dI cy nb ad6 ks7 (t4.1) hk8 u11 0 (t20.1) (t20.2) H.size (Or.inl (by decide)) e21) (cwV 0 hts (gV mw_1137 mw_1138 mw_1139 mw_17 mw_1140) rfl rfl rfl (by decide +kernel) ⟨Nat.le_of_ble_eq_true rfl, Nat.le_of_ble_eq_true rfl⟩) (my_preV hPc hK hDc hE hS hFc (va_recv (q := (RX3, TX3, 17)) hK hP (ci := 3) (q0 := q8) rfl h8)) rfl rfl hl.1 rfl (lv_room (Nat.le_of_ble_eq_true rfl)) dX7_runToLeave_33 ⟨Nat.le_of_ble_eq_true rfl, Nat.le_of_ble_eq_true rfl⟩) hS (fun q _ h => hFc q h) hFc (fun r u t H1 locs ht hvm hw hB hz1 hk1 hS => ?_)
          clear h8
          obtain ⟨hP1, hD1⟩ := hB
          rw [ht] at hP1
          have hP := hP1
          have hD := hD1.weaken (fun k q _ h => hFc q.1 h)
          generalize H1 = H at hP hS ⊢
          clear hP1 hD1 hPc hDc hFc hk1 hz1 hvm ht
          obtain rfl := hw.symm
          refine lv_pop hx hb dX7_runToLeave_36 rfl ?_
          refine lv_aload_n hx hb dX7_runToLeave_37 rfl (lv_at hl 2 rfl) ?_
          obtain ⟨q9, h9⟩ := wc_at (cy := cy) (ad := ad6) (ks := ks7) (g := (t4.1)) (u := (t20.2)) (κ := .cl) hk8.1 True.intro
          refine va_get (D := (dC, dI)) (ci := 7) (v := .ref (ad6 (.ln 0))) (C := RX7) (T := TX7) (N := 12) hx hb hts inlX7 hown hK hP q9 h9 rfl 0 (by decide) (hts _ mw_18) (fun _ h9 => h9) rfl dX7_runToLeave_38 ?_
          clear h9
          obtain ⟨q9, h9⟩ := wc_at (cy := cy) (ad := ad6) (ks := ks7) (g := (t4.1)) (u := (t20.2)) (κ := (.ln 0)) hk8.1 (Or.inl (by decide))
          refine va_get (D := (dC, dI)) (ci := 3) (v := .ref (ad6 (.is 0))) (C := RX3) (T := TX3) (N := 17) hx hb hts inlX3 hown hK hP q9 h9 rfl 13 (by decide) (hts _ mw_574) (fun _ h9 => h9) rfl dX7_runToLeave_41 ?_
          clear h9
          refine lv_iconst (v := 3) hx hb dX7_runToLeave_44 (by decide) ?_
          obtain ⟨q9, h9⟩ := wc_at (cy := cy) (ad := ad6) (ks := ks7) (g := (t4.1)) (u := (t20.2)) (κ := (.is 0)) hk8.1 (Or.inl (by decide))
          refine va_iald hx hb hK hP q9 1 h9 rfl (vp_in_nI (n := 3) (by decide) (by decide)) dX7_runToLeave_45 ?_
          refine my_topi (y := ((t20.2) (400 + 0) 3)) (by rfl) ?_
          clear h9
          refine lv_iload_n hx hb dX7_runToLeave_46 rfl (lv_at hl 1 rfl) ?_
          refine lv_icmp_le (tgt := 52) hx hb dX7_runToLeave_47 (by decide) (fun c22 => ?_) (fun c22 => ?_)
          · rw [if_pos c22] at hF
            refine lv_iinc (v := (y10 + 1)) (lv' := [(3, .int (y10 + 1)), (2, .int ((t4.2) (400 + 0) 3)), (0, .ref (ad6 .cl)), (1, .int a1)]) hx hb dX7_runToLeave_52 hl (k := 0) rfl (by rfl) (by decide) rfl (fun ls hl => ?_)
            refine lv_goto (tgt := 24) hx hb dX7_runToLeave_55 (by decide) ?_
            exact ih _ _ hF _ _ _ hP hD hS (lv_sub hl [0, 1, 2, 3] rfl)
          · rw [if_neg c22] at hF
            refine lv_iload_n hx hb dX7_runToLeave_50 rfl (lv_at hl 0 rfl) ?_
            have hF := kr15 _ (s1 hF).symm
            have hZ := s3 hF
            have zro : y10 = ro := (congrArg (fun q => q.1) hZ)
            have zgz : (t4.1) = gz := (congrArg (fun q => q.2.1) hZ)
            have zuz : (t20.2) = uz := (congrArg (fun q => q.2.2) hZ)
            have hP9 : va_P (dC, dI) vwCl (WC cy ad6 ks7 gz uz) H := by rw [← zuz, ← zgz]; exact hP
            have hD9 : va_D A (WC cy ad6 ks7 gz uz) := by rw [← zuz, ← zgz]; exact hD
            have hk9 : GA nb ad6 gz ks7 := by rw [← zgz]; exact hk8
            have ax9 : AX g ad gz ad6 := by rw [← zgz]; exact ax9
            refine W.widen (k := 67) (n := 831) (by omega) (by omega) ?_
            rw [hQ]
            exact W.iret (v := y10) hx hb hr (fun t ht hW => ⟨⟨y10, (), rfl, zro, ad6, ks7, hk9, ax9, by rw [ht]; exact hP9, hD9⟩, hS.F ht⟩) hS.2.2 dX7_runToLeave_51
    exact loop17 FUEL _ _ hL13 _ _ _ hP hD hS (lv_sub hl [0, 1, 2, 3] rfl)
noncomputable def C7_rush_L37 (a1 : Int32) (t7 : CG × RS) (u15 : RS) : Nat → Int32 → Int32 → Option (Int32 × Int32)
  | 0, _, _ => none
  | m24 + 1, y17, y18 => if (u15 (10 + 0) 9) ≤ y17 then (some ((y17, y18))) else ((ix 30 y17).bind fun n26 => (if (u15 (10 + 0) (137 + 25 * n26 + 8)) = 0 then (some y18) else (some (y18 + 1)) : Option (Int32)).bind fun t29 => C7_rush_L37 a1 t7 u15 m24 ((y17 + 1)) (t29))
noncomputable def C7_rush (g : CG) (u0 : RS) (a1 : Int32) : Option (Sum Int32 (Int32 × CG × RS)) := (C7_needCard g u0 (a1)).bind fun t1 => tr t1 fun t3 => (C7_waits g u0 (a1)).bind fun x4 => if x4 = 0 then (some (.inr ((-3 : Int32), g, u0))) else ((C7_remember g u0).bind fun t7 => (ix 30 a1).bind fun n13 => (pt (t7.2) (10 + 0) (137 + 25 * n13 + 8) (1)).bind fun u15 => (C7_rush_L37 a1 t7 u15 FUEL (0 : Int32) (0 : Int32)).bind fun t19 => some (.inr ((t19.2), (t7.1), u15)))
set_option maxHeartbeats 4000000 in
set_option maxRecDepth 100000 in
theorem c_X7_rush (l : Launch) (dC : Nat → ClassId) (dI : Nat → Nat → Nat) (cy : Nat → ClassId) (nb : Nat → Nat) (ad : CK → Nat) (ks : List CK) (g : CG) (hk : GA nb ad g ks) (u0 : RS) (a1 : Int32) (ro : Int32) (gz : CG) (uz : RS) (sz : Nat) (hF : C7_rush g u0 a1 = some (.inr (ro, gz, uz))) : Met l yX7_rush (wsg yX7_rush cX7_rush 4 (some .int)) ({ frames := 11, cells := 67, slots := 831, locals := 600 }) (va_Pc [.ref (ad .cl), .int a1] (fun U => U.heap.size = sz ∧ va_P (dC, dI) vwCl (WC cy ad ks g u0) U.heap ∧ va_K (dC, dI) vwCl (tyL cy) U ∧ va_D (fun _ => True) (WC cy ad ks g u0) ∧ GE nb (va_A (WC cy ad ks g u0) sz) U)) (va_Qi (fun (r : Int32) (_ : Unit) => r = ro) (fun _ t => ∃ (ad' : CK → Nat) (ks' : List CK), GA nb ad' gz ks' ∧ AX g ad gz ad' ∧ va_P (dC, dI) vwCl (WC cy ad' ks' gz uz) t.heap ∧ va_D (va_A (WC cy ad ks g u0) sz) (WC cy ad' ks' gz uz)) (va_A (WC cy ad ks g u0) sz)) 67 831 (va_A (WC cy ad ks g u0) sz) := by
  refine Met.ofW (cc := cX7_rush) (maxL := 4) (ret := (some .int)) pn_X7 rfl ?_
  intro p e s m args below meth c s₁ B hml hv
  obtain ⟨rfl, hsz, hP, hK, hD0, hE⟩ := hv
  have hx := B.exec
  have hb := B.bytes
  have hr := B.returns
  have hts0 := atoms_spec (ws := (wsg yX7_rush cX7_rush 4 (some .int))) B.pre
  have hts : ∀ w ∈ wsL_law, w.before _ s = true := fun w h => hts0 w (List.mem_cons_of_mem _ h)
  have hown : s.vm.findClass RX7 = some m.cls := by have h9 := findClass_of_methodNamed B.named; exact h9
  have hlocks := B.notSynchronized
  subst hsz
  have hD := hD0.self (sz := s.heap.size)
  generalize hAe : va_A (WC cy ad ks g u0) s.heap.size = A at hD hE ⊢
  have hA : ∀ q : Nat, s.heap.size ≤ q → A q := fun q h => by rw [← hAe]; exact Or.inr h
  have hS : va_S A s.heap s.heap [] := va_S.rf
  have hl := lv_entry ([.ref (ad .cl), .int a1]) (n := 4) (Nat.le_of_ble_eq_true rfl)
  rw [lg_entry_eq]
  generalize (lg_sl ([.ref (ad .cl), .int a1]) ++ List.replicate (4 - (lg_sl ([.ref (ad .cl), .int a1])).length) Slot.unset).toArray = ls at hl ⊢
  have hl : lv_has ls 4 [(0, .ref (ad .cl)), (1, .int a1)] := hl
  generalize hHe : s.heap = H at hP hS ⊢
  have hS : va_S A s.heap H [] := by rw [hHe]; exact hS
  refine my_Q (fun Qn hQ => ?_)
  simp only [C7_rush] at hF
  refine lv_aload_n hx hb dX7_rush_0 rfl (lv_at hl 0 rfl) ?_
  refine lv_iload_n hx hb dX7_rush_1 rfl (lv_at hl 1 rfl) ?_
  obtain ⟨t1, e2, hF⟩ := ob hF
  rcases t1 with xz9 | t3
  · have hF : some (Sum.inl xz9) = some (.inr (ro, gz, uz)) := hF
    cases hF
  · dsimp only [tr] at hF
    have hPc := hP
    have hDc := hD
    have hFc := my_free hD hS hA
    obtain ⟨q8, h8⟩ := wc_at (cy := cy) (ad := ad) (ks := ks) (g := g) (u := u0) (κ := .cl) hk.1 True.intro
    refine va_callv (va_runV (As := [.int a1]) (rest := []) ⟨hx, hb, hml, hown, hts⟩ (c_X7_needCard l dC dI cy nb ad ks g hk u0 (a1) H.size e2) (cwV 1 hts (gV mw_666 mw_667 mw_668 mw_2 mw_669) rfl rfl rfl (by decide +kernel) ⟨Nat.le_of_ble_eq_true rfl, Nat.le_of_ble_eq_true rfl⟩) (my_preV hPc hK hDc hE hS hFc (va_recv (q := (RX7, TX7, 12)) hK hP (ci := 7) (q0 := q8) rfl h8)) rfl rfl hl.1 rfl (lv_room (Nat.le_of_ble_eq_true rfl)) dX7_rush_2 ⟨Nat.le_of_ble_eq_true rfl, Nat.le_of_ble_eq_true rfl⟩) hS (fun q _ h => hFc q h) hFc (fun u t H1 locs ht hvm hw hB hz1 hk1 hS => ?_)
    clear h8
    obtain ⟨hP1, hD1⟩ := hB
    rw [ht] at hP1
    have hP := hP1
    have hD := hD1.weaken (fun k q _ h => hFc q.1 h)
    generalize H1 = H at hP hS ⊢
    clear hP1 hD1 hPc hDc hFc hk1 hz1 hvm ht
    refine lv_aload_n hx hb dX7_rush_5 rfl (lv_at hl 0 rfl) ?_
    refine lv_iload_n hx hb dX7_rush_6 rfl (lv_at hl 1 rfl) ?_
    obtain ⟨x4, e5, hF⟩ := ob hF
    have hPc := hP
    have hDc := hD
    have hFc := my_free hD hS hA
    obtain ⟨q8, h8⟩ := wc_at (cy := cy) (ad := ad) (ks := ks) (g := g) (u := u0) (κ := .cl) hk.1 True.intro
    refine va_calli (va_runV (As := [.int a1]) (rest := []) ⟨hx, hb, hml, hown, hts⟩ (c_X7_waits l dC dI cy nb ad ks g hk u0 (a1) (x4) H.size e5) (cwV 1 hts (gV mw_994 mw_995 mw_996 mw_2 mw_997) rfl rfl rfl (by decide +kernel) ⟨Nat.le_of_ble_eq_true rfl, Nat.le_of_ble_eq_true rfl⟩) (my_preV hPc hK hDc hE hS hFc (va_recv (q := (RX7, TX7, 12)) hK hP (ci := 7) (q0 := q8) rfl h8)) rfl rfl hl.1 rfl (lv_room (Nat.le_of_ble_eq_true rfl)) dX7_rush_7 ⟨Nat.le_of_ble_eq_true rfl, Nat.le_of_ble_eq_true rfl⟩) hS (fun q _ h => hFc q h) hFc (fun r u t H1 locs ht hvm hw hB hz1 hk1 hS => ?_)
    clear h8
    obtain ⟨hP1, hD1⟩ := hB
    rw [ht] at hP1
    have hP := hP1
    have hD := hD1.weaken (fun k q _ h => hFc q.1 h)
    generalize H1 = H at hP hS ⊢
    clear hP1 hD1 hPc hDc hFc hk1 hz1 hvm ht
    obtain rfl := hw.symm
    refine lv_if_ne (tgt := 16) hx hb dX7_rush_10 (by decide) (fun c6 => ?_) (fun c6 => ?_)
    · rw [if_neg c6] at hF
      refine lv_aload_n hx hb dX7_rush_16 rfl (lv_at hl 0 rfl) ?_
      obtain ⟨t7, e8, hF⟩ := ob hF
      have hPc := hP
      have hDc := hD
      have hFc := my_free hD hS hA
      obtain ⟨q8, h8⟩ := wc_at (cy := cy) (ad := ad) (ks := ks) (g := g) (u := u0) (κ := .cl) hk.1 True.intro
      refine va_callv (va_runV (As := []) (rest := []) ⟨hx, hb, hml, hown, hts⟩ (c_X7_remember l dC dI cy nb ad ks g hk u0 (t7.1) (t7.2) H.size e8) (cwV 0 hts (gV mw_973 mw_974 mw_975 mw_2 mw_976) rfl rfl rfl (by decide +kernel) ⟨Nat.le_of_ble_eq_true rfl, Nat.le_of_ble_eq_true rfl⟩) (my_preV hPc hK hDc hE hS hFc (va_recv (q := (RX7, TX7, 12)) hK hP (ci := 7) (q0 := q8) rfl h8)) rfl rfl hl.1 rfl (lv_room (Nat.le_of_ble_eq_true rfl)) dX7_rush_17 ⟨Nat.le_of_ble_eq_true rfl, Nat.le_of_ble_eq_true rfl⟩) hS (fun q _ h => hFc q h) hFc (fun u t H1 locs ht hvm hw hB hz1 hk1 hS => ?_)
      clear h8
      obtain ⟨ad9, ks10, hk11, ax12, hP1, hD1⟩ := hB
      rw [ht] at hP1
      have hP := hP1
      have hD := hD1.weaken (fun k q _ h => hFc q.1 h)
      generalize H1 = H at hP hS ⊢
      have hl : lv_has ls 4 [(0, .ref (ad9 .cl)), (1, .int a1)] := by rw [(ax12 .cl True.intro).2]; exact hl
      clear hP1 hD1 hPc hDc hFc hk1 hz1 hvm ht
      refine W.widen (k := 67) (n := 831) (by omega) (by omega) ?_
      refine lv_aload_n hx hb dX7_rush_20 rfl (lv_at hl 0 rfl) ?_
      obtain ⟨q9, h9⟩ := wc_at (cy := cy) (ad := ad9) (ks := ks10) (g := (t7.1)) (u := (t7.2)) (κ := .cl) hk11.1 True.intro
      refine va_get (D := (dC, dI)) (ci := 7) (v := .ref (ad9 (.ln 0))) (C := RX7) (T := TX7) (N := 12) hx hb hts inlX7 hown hK hP q9 h9 rfl 0 (by decide) (hts _ mw_18) (fun _ h9 => h9) rfl dX7_rush_21 ?_
      clear h9
      obtain ⟨q9, h9⟩ := wc_at (cy := cy) (ad := ad9) (ks := ks10) (g := (t7.1)) (u := (t7.2)) (κ := (.ln 0)) hk11.1 (Or.inl (by decide))
      refine va_get (D := (dC, dI)) (ci := 3) (v := .ref (ad9 (.cs 0))) (C := RX3) (T := TX3) (N := 17) hx hb hts inlX3 hown hK hP q9 h9 rfl 12 (by decide) (hts _ mw_657) (fun _ h9 => h9) rfl dX7_rush_24 ?_
      clear h9
      refine lv_iload_n hx hb dX7_rush_27 rfl (lv_at hl 1 rfl) ?_
      obtain ⟨n13, e14, hF⟩ := ob hF
      obtain ⟨q9, h9⟩ := wc_at (cy := cy) (ad := ad9) (ks := ks10) (g := (t7.1)) (u := (t7.2)) (κ := (.cs 0)) hk11.1 (Or.inl (by decide))
      refine va_aldq hx hb hK hP q9 8 h9 rfl (ix_in e14) dX7_rush_28 ?_
      refine my_top (y := .ref (ad9 (.cd 0 n13))) (ixv (F := fun j => ad9 (.cd 0 j)) e14) ?_
      clear h9
      refine lv_iconst (v := 1) hx hb dX7_rush_29 (by decide) ?_
      obtain ⟨q9, h9, ez9⟩ := wc_set (cy := cy) (ad := ad9) (ks := ks10) (g := (t7.1)) (u := (t7.2)) (κ := (.cd 0 n13)) (r := (10 + 0)) (i := (137 + 25 * n13 + 8)) (v := (1)) hk11.1 ⟨(Or.inl (by decide)), (ix_lt e14)⟩ (own_cd (show 0 < 12 by decide) (ix_lt e14) (by decide)) (sf_cd_8)
      refine va_put (D := (dC, dI)) (ci := 2) (v := .int 1) (ty := .boolean) (C := RX1) (T := TX1) (N := 9) hx hb hts inlX1 tyX1 tyX1_ok nmX1 hown hK hP hD hS q9 h9 rfl 8 (by decide) (hts _ mw_1086) (fun _ h9 => h9) rfl (by decide +kernel) rfl rfl (Nat.le_of_ble_eq_true rfl) dX7_rush_30 (fun H locs hP hD hS => ?_)
      obtain ⟨u15, e16, hF⟩ := ob hF
      have hP : va_P (dC, dI) vwCl (WC cy ad9 ks10 (t7.1) u15) H := by rw [← pt_eq e16, ← ez9]; exact hP
      have hD : va_D A (WC cy ad9 ks10 (t7.1) u15) := by rw [← pt_eq e16, ← ez9]; exact hD
      clear ez9 h9
      refine lv_iconst (v := 0) hx hb dX7_rush_33 (by decide) ?_
      refine lv_istore_n (lv' := [(2, .int 0), (0, .ref (ad9 .cl)), (1, .int a1)]) hx hb dX7_rush_34 rfl hl (by decide) rfl (fun ls hl => ?_)
      refine lv_iconst (v := 0) hx hb dX7_rush_35 (by decide) ?_
      refine lv_istore_n (lv' := [(3, .int 0), (2, .int 0), (0, .ref (ad9 .cl)), (1, .int a1)]) hx hb dX7_rush_36 rfl hl (by decide) rfl (fun ls hl => ?_)
      obtain ⟨t19, hL20, hF⟩ := ob hF
      have kx21 : ∀ (H : Heap) (locs : List Loc) (ls : Array Slot), va_P (dC, dI) vwCl (WC cy ad9 ks10 (t7.1) u15) H → va_D A (WC cy ad9 ks10 (t7.1) u15) → va_S A s.heap H locs → lv_has ls 4 [(3, .int (t19.1)), (2, .int (t19.2)), (0, .ref (ad9 .cl)), (1, .int a1)] → W p l e (headSpec (wsg yX7_rush cX7_rush 4 (some .int)) ({ frames := 11, cells := 67, slots := 831, locals := 600 })).room s m ([.ref (ad .cl), .int a1] : List Value).toArray below meth c H locs 67 831 Qn (F0 m 72 ls []) := by
        intro H locs ls hP hD hS hl
        refine lv_iload_n hx hb dX7_rush_72 rfl (lv_at hl 1 rfl) ?_
        have hZ := s3 hF
        have zro : (t19.2) = ro := (congrArg (fun q => q.1) hZ)
        have zgz : (t7.1) = gz := (congrArg (fun q => q.2.1) hZ)
        have zuz : u15 = uz := (congrArg (fun q => q.2.2) hZ)
        have hP9 : va_P (dC, dI) vwCl (WC cy ad9 ks10 gz uz) H := by rw [← zuz, ← zgz]; exact hP
        have hD9 : va_D A (WC cy ad9 ks10 gz uz) := by rw [← zuz, ← zgz]; exact hD
        have hk9 : GA nb ad9 gz ks10 := by rw [← zgz]; exact hk11
        have ax9 : AX g ad gz ad9 := by rw [← zgz]; exact ax12
        refine W.widen (k := 67) (n := 831) (by omega) (by omega) ?_
        rw [hQ]
        exact W.iret (v := (t19.2)) hx hb hr (fun t ht hW => ⟨⟨(t19.2), (), rfl, zro, ad9, ks10, hk9, ax9, by rw [ht]; exact hP9, hD9⟩, hS.F ht⟩) hS.2.2 dX7_rush_73
      clear hF
      have loop23 : ∀ (m24 : Nat) (y17 : Int32) (y18 : Int32), C7_rush_L37 a1 t7 u15 m24 y17 y18 = some t19 → ∀ (H : Heap) (locs : List Loc) (ls : Array Slot), va_P (dC, dI) vwCl (WC cy ad9 ks10 (t7.1) u15) H → va_D A (WC cy ad9 ks10 (t7.1) u15) → va_S A s.heap H locs → lv_has ls 4 [(3, .int y17), (2, .int y18), (0, .ref (ad9 .cl)), (1, .int a1)] → W p l e (headSpec (wsg yX7_rush cX7_rush 4 (some .int)) ({ frames := 11, cells := 67, slots := 831, locals := 600 })).room s m ([.ref (ad .cl), .int a1] : List Value).toArray below meth c H locs 67 831 Qn (F0 m 37 ls []) := by
        intro m24
        induction m24 with
        | zero => intro y17 y18 hF; cases hF
        | succ m24 ih =>
          intro y17 y18 hF H locs ls hP hD hS hl
          simp only [C7_rush_L37] at hF
          refine lv_iload_n hx hb dX7_rush_37 rfl (lv_at hl 0 rfl) ?_
          refine lv_aload_n hx hb dX7_rush_38 rfl (lv_at hl 2 rfl) ?_
          obtain ⟨q9, h9⟩ := wc_at (cy := cy) (ad := ad9) (ks := ks10) (g := (t7.1)) (u := u15) (κ := .cl) hk11.1 True.intro
          refine va_get (D := (dC, dI)) (ci := 7) (v := .ref (ad9 (.ln 0))) (C := RX7) (T := TX7) (N := 12) hx hb hts inlX7 hown hK hP q9 h9 rfl 0 (by decide) (hts _ mw_18) (fun _ h9 => h9) rfl dX7_rush_39 ?_
          clear h9
          obtain ⟨q9, h9⟩ := wc_at (cy := cy) (ad := ad9) (ks := ks10) (g := (t7.1)) (u := u15) (κ := (.ln 0)) hk11.1 (Or.inl (by decide))
          refine va_get (D := (dC, dI)) (ci := 3) (v := .int (u15 (10 + 0) 9)) (C := RX3) (T := TX3) (N := 17) hx hb hts inlX3 hown hK hP q9 h9 rfl 9 (by decide) (hts _ mw_572) (fun _ h9 => h9) rfl dX7_rush_42 ?_
          clear h9
          refine lv_icmp_ge (tgt := 72) hx hb dX7_rush_45 (by decide) (fun c25 => ?_) (fun c25 => ?_)
          · rw [if_pos c25] at hF
            have ht := s1 hF
            subst ht
            exact kx21 _ _ _ hP hD hS (lv_sub hl [0, 1, 2, 3] rfl)
          · rw [if_neg c25] at hF
            refine lv_aload_n hx hb dX7_rush_48 rfl (lv_at hl 2 rfl) ?_
            obtain ⟨q9, h9⟩ := wc_at (cy := cy) (ad := ad9) (ks := ks10) (g := (t7.1)) (u := u15) (κ := .cl) hk11.1 True.intro
            refine va_get (D := (dC, dI)) (ci := 7) (v := .ref (ad9 (.ln 0))) (C := RX7) (T := TX7) (N := 12) hx hb hts inlX7 hown hK hP q9 h9 rfl 0 (by decide) (hts _ mw_18) (fun _ h9 => h9) rfl dX7_rush_49 ?_
            clear h9
            obtain ⟨q9, h9⟩ := wc_at (cy := cy) (ad := ad9) (ks := ks10) (g := (t7.1)) (u := u15) (κ := (.ln 0)) hk11.1 (Or.inl (by decide))
            refine va_get (D := (dC, dI)) (ci := 3) (v := .ref (ad9 (.cs 0))) (C := RX3) (T := TX3) (N := 17) hx hb hts inlX3 hown hK hP q9 h9 rfl 12 (by decide) (hts _ mw_657) (fun _ h9 => h9) rfl dX7_rush_52 ?_
            clear h9
            refine lv_iload_n hx hb dX7_rush_55 rfl (lv_at hl 0 rfl) ?_
            obtain ⟨n26, e27, hF⟩ := ob hF
            obtain ⟨q9, h9⟩ := wc_at (cy := cy) (ad := ad9) (ks := ks10) (g := (t7.1)) (u := u15) (κ := (.cs 0)) hk11.1 (Or.inl (by decide))
            refine va_aldq hx hb hK hP q9 8 h9 rfl (ix_in e27) dX7_rush_56 ?_
            refine my_top (y := .ref (ad9 (.cd 0 n26))) (ixv (F := fun j => ad9 (.cd 0 j)) e27) ?_
            clear h9
            obtain ⟨q9, h9⟩ := wc_at (cy := cy) (ad := ad9) (ks := ks10) (g := (t7.1)) (u := u15) (κ := (.cd 0 n26)) hk11.1 ⟨(Or.inl (by decide)), (ix_lt e27)⟩
            refine va_get (D := (dC, dI)) (ci := 2) (v := .int (u15 (10 + 0) (137 + 25 * n26 + 8))) (C := RX1) (T := TX1) (N := 9) hx hb hts inlX1 hown hK hP q9 h9 rfl 8 (by decide) (hts _ mw_1086) (fun _ h9 => h9) rfl dX7_rush_57 ?_
            clear h9
            obtain ⟨t29, hJ30, hF⟩ := ob hF
            have join31 : ∀ (H : Heap) (locs : List Loc) (ls : Array Slot), va_P (dC, dI) vwCl (WC cy ad9 ks10 (t7.1) u15) H → va_D A (WC cy ad9 ks10 (t7.1) u15) → va_S A s.heap H locs → lv_has ls 4 [(3, .int y17), (2, .int t29), (0, .ref (ad9 .cl)), (1, .int a1)] → W p l e (headSpec (wsg yX7_rush cX7_rush 4 (some .int)) ({ frames := 11, cells := 67, slots := 831, locals := 600 })).room s m ([.ref (ad .cl), .int a1] : List Value).toArray below meth c H locs 67 831 Qn (F0 m 66 ls []) := by
              intro H locs ls hP hD hS hl
              refine lv_iinc (v := (y17 + 1)) (lv' := [(3, .int (y17 + 1)), (2, .int t29), (0, .ref (ad9 .cl)), (1, .int a1)]) hx hb dX7_rush_66 hl (k := 0) rfl (by rfl) (by decide) rfl (fun ls hl => ?_)
              refine lv_goto (tgt := 37) hx hb dX7_rush_69 (by decide) ?_
              exact ih _ _ hF _ _ _ hP hD hS (lv_sub hl [0, 1, 2, 3] rfl)
            clear hF
            have hF := hJ30
            clear hJ30
            refine lv_if_eq (tgt := 66) hx hb dX7_rush_60 (by decide) (fun c28 => ?_) (fun c28 => ?_)
            · rw [if_pos c28] at hF
              have ht := s1 hF
              subst ht
              exact join31 _ _ _ hP hD hS (lv_sub hl [0, 1, 2, 3] rfl)
            · rw [if_neg c28] at hF
              refine lv_iinc (v := (y18 + 1)) (lv' := [(2, .int (y18 + 1)), (3, .int y17), (0, .ref (ad9 .cl)), (1, .int a1)]) hx hb dX7_rush_63 hl (k := 1) rfl (by rfl) (by decide) rfl (fun ls hl => ?_)
              have ht := s1 hF
              subst ht
              exact join31 _ _ _ hP hD hS (lv_sub hl [1, 0, 2, 3] rfl)
      exact loop23 FUEL _ _ hL20 _ _ _ hP hD hS (lv_sub hl [0, 1, 2, 3] rfl)
    · rw [if_pos c6] at hF
      refine lv_bipush (v := (-3)) hx hb dX7_rush_13 (by decide) ?_
      have hZ := s3 hF
      have zro : (-3 : Int32) = ro := (congrArg (fun q => q.1) hZ)
      have zgz : g = gz := (congrArg (fun q => q.2.1) hZ)
      have zuz : u0 = uz := (congrArg (fun q => q.2.2) hZ)
      have hP9 : va_P (dC, dI) vwCl (WC cy ad ks gz uz) H := by rw [← zuz, ← zgz]; exact hP
      have hD9 : va_D A (WC cy ad ks gz uz) := by rw [← zuz, ← zgz]; exact hD
      have hk9 : GA nb ad gz ks := by rw [← zgz]; exact hk
      have ax9 : AX g ad gz ad := by rw [← zgz]; exact ax_refl
      refine W.widen (k := 67) (n := 831) (by omega) (by omega) ?_
      rw [hQ]
      exact W.iret (v := (-3 : Int32)) hx hb hr (fun t ht hW => ⟨⟨(-3 : Int32), (), rfl, zro, ad, ks, hk9, ax9, by rw [ht]; exact hP9, hD9⟩, hS.F ht⟩) hS.2.2 dX7_rush_15
noncomputable def C7_saveSnapshot (g : CG) (u0 : RS) (a1 : Int32) : Option (Sum Int32 (Int32 × CG × RS)) := (C7_needRange (a1) (0) (1)).bind fun t1 => tr t1 fun t3 => (ix 2 a1).bind fun n4 => if g.pl (10 + n4) = true then ((C3_copyFrom g u0 (10 + n4) 0).bind fun u7 => some (.inr ((u7 (10 + 0) 6), g, u7))) else ((some (gl g (10 + n4))).bind fun g16 => (some (ul u0 (10 + n4))).bind fun u14 => (C3_copyFrom g16 u14 (10 + n4) 0).bind fun u18 => some (.inr ((u18 (10 + 0) 6), g16, u18)))
set_option maxHeartbeats 4000000 in
set_option maxRecDepth 100000 in
theorem c_X7_saveSnapshot (l : Launch) (dC : Nat → ClassId) (dI : Nat → Nat → Nat) (cy : Nat → ClassId) (nb : Nat → Nat) (ad : CK → Nat) (ks : List CK) (g : CG) (hk : GA nb ad g ks) (u0 : RS) (a1 : Int32) (ro : Int32) (gz : CG) (uz : RS) (sz : Nat) (hF : C7_saveSnapshot g u0 a1 = some (.inr (ro, gz, uz))) : Met l yX7_saveSnapshot (wsg yX7_saveSnapshot cX7_saveSnapshot 2 (some .int)) ({ frames := 10, cells := 67, slots := 831, locals := 500 }) (va_Pc [.ref (ad .cl), .int a1] (fun U => U.heap.size = sz ∧ va_P (dC, dI) vwCl (WC cy ad ks g u0) U.heap ∧ va_K (dC, dI) vwCl (tyL cy) U ∧ va_D (fun _ => True) (WC cy ad ks g u0) ∧ GE nb (va_A (WC cy ad ks g u0) sz) U)) (va_Qi (fun (r : Int32) (_ : Unit) => r = ro) (fun _ t => ∃ (ad' : CK → Nat) (ks' : List CK), GA nb ad' gz ks' ∧ AX g ad gz ad' ∧ va_P (dC, dI) vwCl (WC cy ad' ks' gz uz) t.heap ∧ va_D (va_A (WC cy ad ks g u0) sz) (WC cy ad' ks' gz uz)) (va_A (WC cy ad ks g u0) sz)) 67 831 (va_A (WC cy ad ks g u0) sz) := by
  refine Met.ofW (cc := cX7_saveSnapshot) (maxL := 2) (ret := (some .int)) pn_X7 rfl ?_
  intro p e s m args below meth c s₁ B hml hv
  obtain ⟨rfl, hsz, hP, hK, hD0, hE⟩ := hv
  have hx := B.exec
  have hb := B.bytes
  have hr := B.returns
  have hts0 := atoms_spec (ws := (wsg yX7_saveSnapshot cX7_saveSnapshot 2 (some .int))) B.pre
  have hts : ∀ w ∈ wsL_law, w.before _ s = true := fun w h => hts0 w (List.mem_cons_of_mem _ h)
  have hown : s.vm.findClass RX7 = some m.cls := by have h9 := findClass_of_methodNamed B.named; exact h9
  have hlocks := B.notSynchronized
  subst hsz
  have hD := hD0.self (sz := s.heap.size)
  generalize hAe : va_A (WC cy ad ks g u0) s.heap.size = A at hD hE ⊢
  have hA : ∀ q : Nat, s.heap.size ≤ q → A q := fun q h => by rw [← hAe]; exact Or.inr h
  have hS : va_S A s.heap s.heap [] := va_S.rf
  have hl := lv_entry ([.ref (ad .cl), .int a1]) (n := 2) (Nat.le_of_ble_eq_true rfl)
  rw [lg_entry_eq]
  generalize (lg_sl ([.ref (ad .cl), .int a1]) ++ List.replicate (2 - (lg_sl ([.ref (ad .cl), .int a1])).length) Slot.unset).toArray = ls at hl ⊢
  have hl : lv_has ls 2 [(0, .ref (ad .cl)), (1, .int a1)] := hl
  generalize hHe : s.heap = H at hP hS ⊢
  have hS : va_S A s.heap H [] := by rw [hHe]; exact hS
  refine my_Q (fun Qn hQ => ?_)
  simp only [C7_saveSnapshot] at hF
  refine lv_iload_n hx hb dX7_saveSnapshot_0 rfl (lv_at hl 1 rfl) ?_
  refine lv_iconst (v := 0) hx hb dX7_saveSnapshot_1 (by decide) ?_
  refine lv_iconst (v := 1) hx hb dX7_saveSnapshot_2 (by decide) ?_
  obtain ⟨t1, e2, hF⟩ := ob hF
  rcases t1 with xz9 | t3
  · have hF : some (Sum.inl xz9) = some (.inr (ro, gz, uz)) := hF
    cases hF
  · dsimp only [tr] at hF
    have hPc : va_P (dC, dI) vwCl ([] : va_W) H := fun k q h => by simp at h
    have hDc : va_D A ([] : va_W) := ⟨fun i j p q h => by simp at h, fun k q h => by simp at h⟩
    have hFc := my_free0 hS hA
    refine va_callv (va_runS (As := [.int a1, .int 0, .int 1]) (rest := []) ⟨hx, hb, hml, hown, hts⟩ (c_X7_needRange l dC dI cy nb (a1) (0) (1) H.size e2) (va_cwS 3 hts (gS mw_815 mw_816 mw_2 mw_817) rfl rfl rfl (by decide +kernel) ⟨Nat.le_of_ble_eq_true rfl, Nat.le_of_ble_eq_true rfl⟩) (my_preS hPc hK hDc hE hS hFc) rfl rfl hl.1 rfl (lv_room (Nat.le_of_ble_eq_true rfl)) dX7_saveSnapshot_3 ⟨Nat.le_of_ble_eq_true rfl, Nat.le_of_ble_eq_true rfl⟩) hS (fun q _ h => hFc q h) hFc (fun u t H1 locs ht hvm hw hB hz1 hk1 hS => ?_)
    obtain ⟨hP1, hD1⟩ := hB
    rw [ht] at hP1
    have hP := my_keep hP hk1
    generalize H1 = H at hP hS ⊢
    clear hP1 hD1 hPc hDc hFc hk1 hz1 hvm ht
    refine lv_aload_n hx hb dX7_saveSnapshot_6 rfl (lv_at hl 0 rfl) ?_
    obtain ⟨q9, h9⟩ := wc_at (cy := cy) (ad := ad) (ks := ks) (g := g) (u := u0) (κ := .cl) hk.1 True.intro
    refine va_get (D := (dC, dI)) (ci := 7) (v := .ref (ad .sa)) (C := RX7) (T := TX7) (N := 12) hx hb hts inlX7 hown hK hP q9 h9 rfl 5 (by decide) (hts _ mw_27) (fun _ h9 => h9) rfl dX7_saveSnapshot_7 ?_
    clear h9
    refine lv_iload_n hx hb dX7_saveSnapshot_10 rfl (lv_at hl 1 rfl) ?_
    obtain ⟨n4, e5, hF⟩ := ob hF
    by_cases c6 : g.pl (10 + n4) = true
    · rw [if_pos c6] at hF
      obtain ⟨q9, h9⟩ := wc_at (cy := cy) (ad := ad) (ks := ks) (g := g) (u := u0) (κ := .sa) hk.1 True.intro
      refine va_aldq hx hb hK hP q9 5 h9 rfl (ix_in e5) dX7_saveSnapshot_11 ?_
      refine my_top (y := .ref (ad (.ln (10 + n4)))) (plv (F := fun j => ad (.ln (10 + j))) e5 c6) ?_
      clear h9
      refine lv_ifnonnull (tgt := 28) hx hb dX7_saveSnapshot_12 (by decide) ?_
      refine lv_aload_n hx hb dX7_saveSnapshot_28 rfl (lv_at hl 0 rfl) ?_
      obtain ⟨q9, h9⟩ := wc_at (cy := cy) (ad := ad) (ks := ks) (g := g) (u := u0) (κ := .cl) hk.1 True.intro
      refine va_get (D := (dC, dI)) (ci := 7) (v := .ref (ad .sa)) (C := RX7) (T := TX7) (N := 12) hx hb hts inlX7 hown hK hP q9 h9 rfl 5 (by decide) (hts _ mw_27) (fun _ h9 => h9) rfl dX7_saveSnapshot_29 ?_
      clear h9
      refine lv_iload_n hx hb dX7_saveSnapshot_32 rfl (lv_at hl 1 rfl) ?_
      obtain ⟨q9, h9⟩ := wc_at (cy := cy) (ad := ad) (ks := ks) (g := g) (u := u0) (κ := .sa) hk.1 True.intro
      refine va_aldq hx hb hK hP q9 5 h9 rfl (ix_in e5) dX7_saveSnapshot_33 ?_
      refine my_top (y := .ref (ad (.ln (10 + n4)))) (plv (F := fun j => ad (.ln (10 + j))) e5 c6) ?_
      clear h9
      refine lv_aload_n hx hb dX7_saveSnapshot_34 rfl (lv_at hl 0 rfl) ?_
      obtain ⟨q9, h9⟩ := wc_at (cy := cy) (ad := ad) (ks := ks) (g := g) (u := u0) (κ := .cl) hk.1 True.intro
      refine va_get (D := (dC, dI)) (ci := 7) (v := .ref (ad (.ln 0))) (C := RX7) (T := TX7) (N := 12) hx hb hts inlX7 hown hK hP q9 h9 rfl 0 (by decide) (hts _ mw_18) (fun _ h9 => h9) rfl dX7_saveSnapshot_35 ?_
      clear h9
      obtain ⟨u7, e8, hF⟩ := ob hF
      have hPc := hP
      have hDc := hD
      have hFc := my_free hD hS hA
      obtain ⟨q8, h8⟩ := wc_at (cy := cy) (ad := ad) (ks := ks) (g := g) (u := u0) (κ := (.ln (10 + n4))) hk.1 (Or.inr ⟨by have := ix_lt e5; omega, c6⟩)
      refine va_callv (va_runV (As := [.ref (ad (.ln 0))]) (rest := []) ⟨hx, hb, hml, hown, hts⟩ (c_X3_copyFrom l dC dI cy nb ad ks g hk u0 (10 + n4) 0 (u7) H.size (Or.inr ⟨by have := ix_lt e5; omega, c6⟩) (Or.inl (by decide)) e8) (cwV 1 hts (gV mw_392 mw_393 mw_394 mw_17 mw_395) rfl rfl rfl (by decide +kernel) ⟨Nat.le_of_ble_eq_true rfl, Nat.le_of_ble_eq_true rfl⟩) (my_preV hPc hK hDc hE hS hFc (va_recv (q := (RX3, TX3, 17)) hK hP (ci := 3) (q0 := q8) rfl h8)) rfl rfl hl.1 rfl (lv_room (Nat.le_of_ble_eq_true rfl)) dX7_saveSnapshot_38 ⟨Nat.le_of_ble_eq_true rfl, Nat.le_of_ble_eq_true rfl⟩) hS (fun q _ h => hFc q h) hFc (fun u t H1 locs ht hvm hw hB hz1 hk1 hS => ?_)
      clear h8
      obtain ⟨hP1, hD1⟩ := hB
      rw [ht] at hP1
      have hP := hP1
      have hD := hD1.weaken (fun k q _ h => hFc q.1 h)
      generalize H1 = H at hP hS ⊢
      clear hP1 hD1 hPc hDc hFc hk1 hz1 hvm ht
      refine lv_aload_n hx hb dX7_saveSnapshot_41 rfl (lv_at hl 0 rfl) ?_
      obtain ⟨q9, h9⟩ := wc_at (cy := cy) (ad := ad) (ks := ks) (g := g) (u := u7) (κ := .cl) hk.1 True.intro
      refine va_get (D := (dC, dI)) (ci := 7) (v := .ref (ad (.ln 0))) (C := RX7) (T := TX7) (N := 12) hx hb hts inlX7 hown hK hP q9 h9 rfl 0 (by decide) (hts _ mw_18) (fun _ h9 => h9) rfl dX7_saveSnapshot_42 ?_
      clear h9
      obtain ⟨q9, h9⟩ := wc_at (cy := cy) (ad := ad) (ks := ks) (g := g) (u := u7) (κ := (.ln 0)) hk.1 (Or.inl (by decide))
      refine va_get (D := (dC, dI)) (ci := 3) (v := .int (u7 (10 + 0) 6)) (C := RX3) (T := TX3) (N := 17) hx hb hts inlX3 hown hK hP q9 h9 rfl 6 (by decide) (hts _ mw_867) (fun _ h9 => h9) rfl dX7_saveSnapshot_45 ?_
      clear h9
      have hZ := s3 hF
      have zro : (u7 (10 + 0) 6) = ro := (congrArg (fun q => q.1) hZ)
      have zgz : g = gz := (congrArg (fun q => q.2.1) hZ)
      have zuz : u7 = uz := (congrArg (fun q => q.2.2) hZ)
      have hP9 : va_P (dC, dI) vwCl (WC cy ad ks gz uz) H := by rw [← zuz, ← zgz]; exact hP
      have hD9 : va_D A (WC cy ad ks gz uz) := by rw [← zuz, ← zgz]; exact hD
      have hk9 : GA nb ad gz ks := by rw [← zgz]; exact hk
      have ax9 : AX g ad gz ad := by rw [← zgz]; exact ax_refl
      refine W.widen (k := 67) (n := 831) (by omega) (by omega) ?_
      rw [hQ]
      exact W.iret (v := (u7 (10 + 0) 6)) hx hb hr (fun t ht hW => ⟨⟨(u7 (10 + 0) 6), (), rfl, zro, ad, ks, hk9, ax9, by rw [ht]; exact hP9, hD9⟩, hS.F ht⟩) hS.2.2 dX7_saveSnapshot_48
    · rw [if_neg c6] at hF
      obtain ⟨q9, h9⟩ := wc_at (cy := cy) (ad := ad) (ks := ks) (g := g) (u := u0) (κ := .sa) hk.1 True.intro
      refine va_aldq hx hb hK hP q9 5 h9 rfl (ix_in e5) dX7_saveSnapshot_11 ?_
      refine my_top (y := .null) (plv_n (F := fun j => ad (.ln (10 + j))) e5 c6) ?_
      clear h9
      refine lv_ifnonnullN hx hb dX7_saveSnapshot_12 ?_
      refine lv_aload_n hx hb dX7_saveSnapshot_15 rfl (lv_at hl 0 rfl) ?_
      obtain ⟨q9, h9⟩ := wc_at (cy := cy) (ad := ad) (ks := ks) (g := g) (u := u0) (κ := .cl) hk.1 True.intro
      refine va_get (D := (dC, dI)) (ci := 7) (v := .ref (ad .sa)) (C := RX7) (T := TX7) (N := 12) hx hb hts inlX7 hown hK hP q9 h9 rfl 5 (by decide) (hts _ mw_27) (fun _ h9 => h9) rfl dX7_saveSnapshot_16 ?_
      clear h9
      refine lv_iload_n hx hb dX7_saveSnapshot_19 rfl (lv_at hl 1 rfl) ?_
      obtain ⟨qp9, hq9, hp9⟩ := wc_pos (cy := cy) (ad := ad) (ks := ks) (g := g) (u := u0) (κ := .sa) hk.1 True.intro
      refine va_new (ci := 3) (fs := [.int 0, .int 0, .int 0, .int 0, .int 0, .int 0, .int 0, .int 0, .int 0, .int 0, .null, .null, .null, .null, .null, .null, .int 0]) (C := RX3) (T := TX3) (N := 17) hx hb hts inlX3 tyX3 tyX3_ok hown (hts _ mw_15) (hts _ mw_16) (hts _ mw_17) hK hP hD hS hA rfl (fun j hj => by match j, hj with | 0, _ => rfl | 1, _ => rfl | 2, _ => rfl | 3, _ => rfl | 4, _ => rfl | 5, _ => rfl | 6, _ => rfl | 7, _ => rfl | 8, _ => rfl | 9, _ => rfl | 10, _ => rfl | 11, _ => rfl | 12, _ => rfl | 13, _ => rfl | 14, _ => rfl | 15, _ => rfl | 16, _ => rfl | (n+17), h => omega) (Nat.le_of_ble_eq_true rfl) (Nat.le_of_ble_eq_true rfl) dX7_saveSnapshot_20 (fun qn9 H hP hD hS => ?_)
      have hPc := my_lastP hP
      have hDc := my_lastD hD
      have hFc := my_free hDc hS hA
      refine lv_dup hx hb dX7_saveSnapshot_23 rfl ?_
      refine va_callv (va_runI (As := []) (rest := [.ref qn9, .int a1, .ref (ad .sa)]) ⟨hx, hb, hml, hown, hts⟩ (c_X3_init l dC dI cy nb qn9 H.size) (cwI 0 hts (gI mw_37) rfl rfl rfl (hts _ mw_17) (hts _ mw_35) (hts _ mw_36) rfl (by decide +kernel) ⟨Nat.le_of_ble_eq_true rfl, Nat.le_of_ble_eq_true rfl⟩) (my_preS hPc hK hDc hE hS hFc) rfl rfl hl.1 rfl (lv_room (Nat.le_of_ble_eq_true rfl)) dX7_saveSnapshot_24 ⟨Nat.le_of_ble_eq_true rfl, Nat.le_of_ble_eq_true rfl⟩) hS (fun q _ h => hFc q h) hFc (fun u t H1 locs ht hvm hw hB hz1 hk1 hS => ?_)
      obtain ⟨qn1, qn2, qn3, qn4, qn5, qn6, fa, fb, fc, fd, ff, fk, hP1, hD1⟩ := hB
      rw [ht] at hP1
      obtain ⟨hP, hD⟩ := my_join hP hD hk1 hFc hP1 hD1
      generalize H1 = H at hP hS ⊢
      clear hP1 hD1 hPc hDc hFc hk1 hz1 hvm ht
      refine va_astq hx hb hK hP hD hS qp9 5 (WC cy ad ks g u0).length 3 (hp9 _) rfl (by rw [List.getElem?_append_right (Nat.le_refl _), Nat.sub_self]; rfl) rfl (ix_in e5) dX7_saveSnapshot_27 (fun H locs hP hD hS => ?_)
      rw [nl_sa e5 c6 hk hq9] at hP hD
      obtain ⟨hk11, ax12⟩ := nl_ga (h0 := qn9) (q1 := qn1) (q2 := qn2) (q3 := qn3) (q4 := qn4) (q5 := qn5) (q6 := qn6) (a := fa) (b := fb) (c := fc) (d := fd) (f := ff) (k := fk) (L := (10 + n4)) (by have := ix_lt e5; omega) (by omega) c6 hk
      have c13 : (gl g (10 + n4)).pl (10 + n4) = true := gl_pl
      generalize adl ad (10 + n4) qn9 qn1 qn2 qn3 qn4 qn5 qn6 fa fb fc fd ff fk = ad9 at hP hD hk11 ax12
      generalize ks ++ NK (10 + n4) = ks10 at hP hD hk11
      obtain ⟨g16, e17, hF⟩ := ob hF
      obtain ⟨u14, e15, hF⟩ := ob hF
      rw [s1 e15, s1 e17] at hP hD
      rw [s1 e17] at hk11 ax12 c13
      clear hp9 hq9
      refine W.widen (k := 67) (n := 831) (by omega) (by omega) ?_
      have hl : lv_has ls 2 [(0, .ref (ad9 .cl)), (1, .int a1)] := by rw [(ax12 .cl True.intro).2]; exact hl
      refine lv_aload_n hx hb dX7_saveSnapshot_28 rfl (lv_at hl 0 rfl) ?_
      obtain ⟨q9, h9⟩ := wc_at (cy := cy) (ad := ad9) (ks := ks10) (g := g16) (u := u14) (κ := .cl) hk11.1 True.intro
      refine va_get (D := (dC, dI)) (ci := 7) (v := .ref (ad9 .sa)) (C := RX7) (T := TX7) (N := 12) hx hb hts inlX7 hown hK hP q9 h9 rfl 5 (by decide) (hts _ mw_27) (fun _ h9 => h9) rfl dX7_saveSnapshot_29 ?_
      clear h9
      refine lv_iload_n hx hb dX7_saveSnapshot_32 rfl (lv_at hl 1 rfl) ?_
      obtain ⟨q9, h9⟩ := wc_at (cy := cy) (ad := ad9) (ks := ks10) (g := g16) (u := u14) (κ := .sa) hk11.1 True.intro
      refine va_aldq hx hb hK hP q9 5 h9 rfl (ix_in e5) dX7_saveSnapshot_33 ?_
      refine my_top (y := .ref (ad9 (.ln (10 + n4)))) (plv (F := fun j => ad9 (.ln (10 + j))) e5 c13) ?_
      clear h9
      refine lv_aload_n hx hb dX7_saveSnapshot_34 rfl (lv_at hl 0 rfl) ?_
      obtain ⟨q9, h9⟩ := wc_at (cy := cy) (ad := ad9) (ks := ks10) (g := g16) (u := u14) (κ := .cl) hk11.1 True.intro
      refine va_get (D := (dC, dI)) (ci := 7) (v := .ref (ad9 (.ln 0))) (C := RX7) (T := TX7) (N := 12) hx hb hts inlX7 hown hK hP q9 h9 rfl 0 (by decide) (hts _ mw_18) (fun _ h9 => h9) rfl dX7_saveSnapshot_35 ?_
      clear h9
      obtain ⟨u18, e19, hF⟩ := ob hF
      have hPc := hP
      have hDc := hD
      have hFc := my_free hD hS hA
      obtain ⟨q8, h8⟩ := wc_at (cy := cy) (ad := ad9) (ks := ks10) (g := g16) (u := u14) (κ := (.ln (10 + n4))) hk11.1 (Or.inr ⟨by have := ix_lt e5; omega, c13⟩)
      refine va_callv (va_runV (As := [.ref (ad9 (.ln 0))]) (rest := []) ⟨hx, hb, hml, hown, hts⟩ (c_X3_copyFrom l dC dI cy nb ad9 ks10 g16 hk11 u14 (10 + n4) 0 (u18) H.size (Or.inr ⟨by have := ix_lt e5; omega, c13⟩) (Or.inl (by decide)) e19) (cwV 1 hts (gV mw_392 mw_393 mw_394 mw_17 mw_395) rfl rfl rfl (by decide +kernel) ⟨Nat.le_of_ble_eq_true rfl, Nat.le_of_ble_eq_true rfl⟩) (my_preV hPc hK hDc hE hS hFc (va_recv (q := (RX3, TX3, 17)) hK hP (ci := 3) (q0 := q8) rfl h8)) rfl rfl hl.1 rfl (lv_room (Nat.le_of_ble_eq_true rfl)) dX7_saveSnapshot_38 ⟨Nat.le_of_ble_eq_true rfl, Nat.le_of_ble_eq_true rfl⟩) hS (fun q _ h => hFc q h) hFc (fun u t H1 locs ht hvm hw hB hz1 hk1 hS => ?_)
      clear h8
      obtain ⟨hP1, hD1⟩ := hB
      rw [ht] at hP1
      have hP := hP1
      have hD := hD1.weaken (fun k q _ h => hFc q.1 h)
      generalize H1 = H at hP hS ⊢
      clear hP1 hD1 hPc hDc hFc hk1 hz1 hvm ht
      refine lv_aload_n hx hb dX7_saveSnapshot_41 rfl (lv_at hl 0 rfl) ?_
      obtain ⟨q9, h9⟩ := wc_at (cy := cy) (ad := ad9) (ks := ks10) (g := g16) (u := u18) (κ := .cl) hk11.1 True.intro
      refine va_get (D := (dC, dI)) (ci := 7) (v := .ref (ad9 (.ln 0))) (C := RX7) (T := TX7) (N := 12) hx hb hts inlX7 hown hK hP q9 h9 rfl 0 (by decide) (hts _ mw_18) (fun _ h9 => h9) rfl dX7_saveSnapshot_42 ?_
      clear h9
      obtain ⟨q9, h9⟩ := wc_at (cy := cy) (ad := ad9) (ks := ks10) (g := g16) (u := u18) (κ := (.ln 0)) hk11.1 (Or.inl (by decide))
      refine va_get (D := (dC, dI)) (ci := 3) (v := .int (u18 (10 + 0) 6)) (C := RX3) (T := TX3) (N := 17) hx hb hts inlX3 hown hK hP q9 h9 rfl 6 (by decide) (hts _ mw_867) (fun _ h9 => h9) rfl dX7_saveSnapshot_45 ?_
      clear h9
      have hZ := s3 hF
      have zro : (u18 (10 + 0) 6) = ro := (congrArg (fun q => q.1) hZ)
      have zgz : g16 = gz := (congrArg (fun q => q.2.1) hZ)
      have zuz : u18 = uz := (congrArg (fun q => q.2.2) hZ)
      have hP9 : va_P (dC, dI) vwCl (WC cy ad9 ks10 gz uz) H := by rw [← zuz, ← zgz]; exact hP
      have hD9 : va_D A (WC cy ad9 ks10 gz uz) := by rw [← zuz, ← zgz]; exact hD
      have hk9 : GA nb ad9 gz ks10 := by rw [← zgz]; exact hk11
      have ax9 : AX g ad gz ad9 := by rw [← zgz]; exact ax12
      refine W.widen (k := 67) (n := 831) (by omega) (by omega) ?_
      rw [hQ]
      exact W.iret (v := (u18 (10 + 0) 6)) hx hb hr (fun t ht hW => ⟨⟨(u18 (10 + 0) 6), (), rfl, zro, ad9, ks10, hk9, ax9, by rw [ht]; exact hP9, hD9⟩, hS.F ht⟩) hS.2.2 dX7_saveSnapshot_48
noncomputable def C7_setPace (g : CG) (u0 : RS) (a1 : Int32) (a2 : Int32) : Option (Sum Int32 (Int32 × CG × RS)) := (C7_needStation g u0 (a1)).bind fun t1 => tr t1 fun t3 => (ix 6 a1).bind fun n4 => (C7_mostPace ((u0 (10 + 0) (17 + 16 * n4 + 0)))).bind fun x6 => (C7_needRange (a2) (1) (x6)).bind fun t8 => tr t8 fun t10 => (C7_remember g u0).bind fun t11 => (pt (t11.2) (10 + 0) (17 + 16 * n4 + 1) a2).bind fun u17 => some (.inr (((t11.2) (10 + 0) (17 + 16 * n4 + 1)), (t11.1), u17))
set_option maxHeartbeats 4000000 in
set_option maxRecDepth 100000 in
theorem c_X7_setPace (l : Launch) (dC : Nat → ClassId) (dI : Nat → Nat → Nat) (cy : Nat → ClassId) (nb : Nat → Nat) (ad : CK → Nat) (ks : List CK) (g : CG) (hk : GA nb ad g ks) (u0 : RS) (a1 : Int32) (a2 : Int32) (ro : Int32) (gz : CG) (uz : RS) (sz : Nat) (hF : C7_setPace g u0 a1 a2 = some (.inr (ro, gz, uz))) : Met l yX7_setPace (wsg yX7_setPace cX7_setPace 5 (some .int)) ({ frames := 11, cells := 67, slots := 831, locals := 600 }) (va_Pc [.ref (ad .cl), .int a1, .int a2] (fun U => U.heap.size = sz ∧ va_P (dC, dI) vwCl (WC cy ad ks g u0) U.heap ∧ va_K (dC, dI) vwCl (tyL cy) U ∧ va_D (fun _ => True) (WC cy ad ks g u0) ∧ GE nb (va_A (WC cy ad ks g u0) sz) U)) (va_Qi (fun (r : Int32) (_ : Unit) => r = ro) (fun _ t => ∃ (ad' : CK → Nat) (ks' : List CK), GA nb ad' gz ks' ∧ AX g ad gz ad' ∧ va_P (dC, dI) vwCl (WC cy ad' ks' gz uz) t.heap ∧ va_D (va_A (WC cy ad ks g u0) sz) (WC cy ad' ks' gz uz)) (va_A (WC cy ad ks g u0) sz)) 67 831 (va_A (WC cy ad ks g u0) sz) := by
  refine Met.ofW (cc := cX7_setPace) (maxL := 5) (ret := (some .int)) pn_X7 rfl ?_
  intro p e s m args below meth c s₁ B hml hv
  obtain ⟨rfl, hsz, hP, hK, hD0, hE⟩ := hv
  have hx := B.exec
  have hb := B.bytes
  have hr := B.returns
  have hts0 := atoms_spec (ws := (wsg yX7_setPace cX7_setPace 5 (some .int))) B.pre
  have hts : ∀ w ∈ wsL_law, w.before _ s = true := fun w h => hts0 w (List.mem_cons_of_mem _ h)
  have hown : s.vm.findClass RX7 = some m.cls := by have h9 := findClass_of_methodNamed B.named; exact h9
  have hlocks := B.notSynchronized
  subst hsz
  have hD := hD0.self (sz := s.heap.size)
  generalize hAe : va_A (WC cy ad ks g u0) s.heap.size = A at hD hE ⊢
  have hA : ∀ q : Nat, s.heap.size ≤ q → A q := fun q h => by rw [← hAe]; exact Or.inr h
  have hS : va_S A s.heap s.heap [] := va_S.rf
  have hl := lv_entry ([.ref (ad .cl), .int a1, .int a2]) (n := 5) (Nat.le_of_ble_eq_true rfl)
  rw [lg_entry_eq]
  generalize (lg_sl ([.ref (ad .cl), .int a1, .int a2]) ++ List.replicate (5 - (lg_sl ([.ref (ad .cl), .int a1, .int a2])).length) Slot.unset).toArray = ls at hl ⊢
  have hl : lv_has ls 5 [(0, .ref (ad .cl)), (1, .int a1), (2, .int a2)] := hl
  generalize hHe : s.heap = H at hP hS ⊢
  have hS : va_S A s.heap H [] := by rw [hHe]; exact hS
  refine my_Q (fun Qn hQ => ?_)
  simp only [C7_setPace] at hF
  refine lv_aload_n hx hb dX7_setPace_0 rfl (lv_at hl 0 rfl) ?_
  refine lv_iload_n hx hb dX7_setPace_1 rfl (lv_at hl 1 rfl) ?_
  obtain ⟨t1, e2, hF⟩ := ob hF
  rcases t1 with xz9 | t3
  · have hF : some (Sum.inl xz9) = some (.inr (ro, gz, uz)) := hF
    cases hF
  · dsimp only [tr] at hF
    have hPc := hP
    have hDc := hD
    have hFc := my_free hD hS hA
    obtain ⟨q8, h8⟩ := wc_at (cy := cy) (ad := ad) (ks := ks) (g := g) (u := u0) (κ := .cl) hk.1 True.intro
    refine va_callv (va_runV (As := [.int a1]) (rest := []) ⟨hx, hb, hml, hown, hts⟩ (c_X7_needStation l dC dI cy nb ad ks g hk u0 (a1) H.size e2) (cwV 1 hts (gV mw_631 mw_632 mw_633 mw_2 mw_634) rfl rfl rfl (by decide +kernel) ⟨Nat.le_of_ble_eq_true rfl, Nat.le_of_ble_eq_true rfl⟩) (my_preV hPc hK hDc hE hS hFc (va_recv (q := (RX7, TX7, 12)) hK hP (ci := 7) (q0 := q8) rfl h8)) rfl rfl hl.1 rfl (lv_room (Nat.le_of_ble_eq_true rfl)) dX7_setPace_2 ⟨Nat.le_of_ble_eq_true rfl, Nat.le_of_ble_eq_true rfl⟩) hS (fun q _ h => hFc q h) hFc (fun u t H1 locs ht hvm hw hB hz1 hk1 hS => ?_)
    clear h8
    obtain ⟨hP1, hD1⟩ := hB
    rw [ht] at hP1
    have hP := hP1
    have hD := hD1.weaken (fun k q _ h => hFc q.1 h)
    generalize H1 = H at hP hS ⊢
    clear hP1 hD1 hPc hDc hFc hk1 hz1 hvm ht
    refine lv_aload_n hx hb dX7_setPace_5 rfl (lv_at hl 0 rfl) ?_
    obtain ⟨q9, h9⟩ := wc_at (cy := cy) (ad := ad) (ks := ks) (g := g) (u := u0) (κ := .cl) hk.1 True.intro
    refine va_get (D := (dC, dI)) (ci := 7) (v := .ref (ad (.ln 0))) (C := RX7) (T := TX7) (N := 12) hx hb hts inlX7 hown hK hP q9 h9 rfl 0 (by decide) (hts _ mw_18) (fun _ h9 => h9) rfl dX7_setPace_6 ?_
    clear h9
    obtain ⟨q9, h9⟩ := wc_at (cy := cy) (ad := ad) (ks := ks) (g := g) (u := u0) (κ := (.ln 0)) hk.1 (Or.inl (by decide))
    refine va_get (D := (dC, dI)) (ci := 3) (v := .ref (ad (.ss 0))) (C := RX3) (T := TX3) (N := 17) hx hb hts inlX3 hown hK hP q9 h9 rfl 10 (by decide) (hts _ mw_617) (fun _ h9 => h9) rfl dX7_setPace_9 ?_
    clear h9
    refine lv_iload_n hx hb dX7_setPace_12 rfl (lv_at hl 1 rfl) ?_
    obtain ⟨n4, e5, hF⟩ := ob hF
    obtain ⟨q9, h9⟩ := wc_at (cy := cy) (ad := ad) (ks := ks) (g := g) (u := u0) (κ := (.ss 0)) hk.1 (Or.inl (by decide))
    refine va_aldq hx hb hK hP q9 6 h9 rfl (ix_in e5) dX7_setPace_13 ?_
    refine my_top (y := .ref (ad (.st 0 n4))) (ixv (F := fun j => ad (.st 0 j)) e5) ?_
    clear h9
    refine lv_astore_n (lv' := [(3, .ref (ad (.st 0 n4))), (0, .ref (ad .cl)), (1, .int a1), (2, .int a2)]) hx hb dX7_setPace_14 rfl hl (by decide) rfl (fun ls hl => ?_)
    refine lv_iload_n hx hb dX7_setPace_15 rfl (lv_at hl 3 rfl) ?_
    refine lv_iconst (v := 1) hx hb dX7_setPace_16 (by decide) ?_
    refine lv_aload_n hx hb dX7_setPace_17 rfl (lv_at hl 0 rfl) ?_
    obtain ⟨q9, h9⟩ := wc_at (cy := cy) (ad := ad) (ks := ks) (g := g) (u := u0) (κ := (.st 0 n4)) hk.1 ⟨(Or.inl (by decide)), (ix_lt e5)⟩
    refine va_get (D := (dC, dI)) (ci := 6) (v := .int (u0 (10 + 0) (17 + 16 * n4 + 0))) (C := RX6) (T := TX6) (N := 15) hx hb hts inlX6 hown hK hP q9 h9 rfl 0 (by decide) (hts _ mw_618) (fun _ h9 => h9) rfl dX7_setPace_18 ?_
    clear h9
    obtain ⟨x6, e7, hF⟩ := ob hF
    have hPc : va_P (dC, dI) vwCl ([] : va_W) H := fun k q h => by simp at h
    have hDc : va_D A ([] : va_W) := ⟨fun i j p q h => by simp at h, fun k q h => by simp at h⟩
    have hFc := my_free0 hS hA
    refine va_calli (va_runS (As := [.int (u0 (10 + 0) (17 + 16 * n4 + 0))]) (rest := [.int 1, .int a2]) ⟨hx, hb, hml, hown, hts⟩ (c_X7_mostPace l dC dI cy nb ((u0 (10 + 0) (17 + 16 * n4 + 0))) (x6) H.size e7) (va_cwS 1 hts (gS mw_1051 mw_342 mw_2 mw_343) rfl rfl rfl (by decide +kernel) ⟨Nat.le_of_ble_eq_true rfl, Nat.le_of_ble_eq_true rfl⟩) (my_preS hPc hK hDc hE hS hFc) rfl rfl hl.1 rfl (lv_room (Nat.le_of_ble_eq_true rfl)) dX7_setPace_21 ⟨Nat.le_of_ble_eq_true rfl, Nat.le_of_ble_eq_true rfl⟩) hS (fun q _ h => hFc q h) hFc (fun r u t H1 locs ht hvm hw hB hz1 hk1 hS => ?_)
    obtain ⟨hP1, hD1⟩ := hB
    rw [ht] at hP1
    have hP := my_keep hP hk1
    generalize H1 = H at hP hS ⊢
    clear hP1 hD1 hPc hDc hFc hk1 hz1 hvm ht
    obtain rfl := hw.symm
    obtain ⟨t8, e9, hF⟩ := ob hF
    rcases t8 with xz9 | t10
    · have hF : some (Sum.inl xz9) = some (.inr (ro, gz, uz)) := hF
      cases hF
    · dsimp only [tr] at hF
      have hPc : va_P (dC, dI) vwCl ([] : va_W) H := fun k q h => by simp at h
      have hDc : va_D A ([] : va_W) := ⟨fun i j p q h => by simp at h, fun k q h => by simp at h⟩
      have hFc := my_free0 hS hA
      refine va_callv (va_runS (As := [.int a2, .int 1, .int x6]) (rest := []) ⟨hx, hb, hml, hown, hts⟩ (c_X7_needRange l dC dI cy nb (a2) (1) (x6) H.size e9) (va_cwS 3 hts (gS mw_815 mw_816 mw_2 mw_817) rfl rfl rfl (by decide +kernel) ⟨Nat.le_of_ble_eq_true rfl, Nat.le_of_ble_eq_true rfl⟩) (my_preS hPc hK hDc hE hS hFc) rfl rfl hl.1 rfl (lv_room (Nat.le_of_ble_eq_true rfl)) dX7_setPace_24 ⟨Nat.le_of_ble_eq_true rfl, Nat.le_of_ble_eq_true rfl⟩) hS (fun q _ h => hFc q h) hFc (fun u t H1 locs ht hvm hw hB hz1 hk1 hS => ?_)
      obtain ⟨hP1, hD1⟩ := hB
      rw [ht] at hP1
      have hP := my_keep hP hk1
      generalize H1 = H at hP hS ⊢
      clear hP1 hD1 hPc hDc hFc hk1 hz1 hvm ht
      refine lv_aload_n hx hb dX7_setPace_27 rfl (lv_at hl 1 rfl) ?_
      obtain ⟨t11, e12, hF⟩ := ob hF
      have hPc := hP
      have hDc := hD
      have hFc := my_free hD hS hA
      obtain ⟨q8, h8⟩ := wc_at (cy := cy) (ad := ad) (ks := ks) (g := g) (u := u0) (κ := .cl) hk.1 True.intro
      refine va_callv (va_runV (As := []) (rest := []) ⟨hx, hb, hml, hown, hts⟩ (c_X7_remember l dC dI cy nb ad ks g hk u0 (t11.1) (t11.2) H.size e12) (cwV 0 hts (gV mw_973 mw_974 mw_975 mw_2 mw_976) rfl rfl rfl (by decide +kernel) ⟨Nat.le_of_ble_eq_true rfl, Nat.le_of_ble_eq_true rfl⟩) (my_preV hPc hK hDc hE hS hFc (va_recv (q := (RX7, TX7, 12)) hK hP (ci := 7) (q0 := q8) rfl h8)) rfl rfl hl.1 rfl (lv_room (Nat.le_of_ble_eq_true rfl)) dX7_setPace_28 ⟨Nat.le_of_ble_eq_true rfl, Nat.le_of_ble_eq_true rfl⟩) hS (fun q _ h => hFc q h) hFc (fun u t H1 locs ht hvm hw hB hz1 hk1 hS => ?_)
      clear h8
      obtain ⟨ad13, ks14, hk15, ax16, hP1, hD1⟩ := hB
      rw [ht] at hP1
      have hP := hP1
      have hD := hD1.weaken (fun k q _ h => hFc q.1 h)
      generalize H1 = H at hP hS ⊢
      have hl : lv_has ls 5 [(3, .ref (ad13 (.st 0 n4))), (0, .ref (ad13 .cl)), (1, .int a1), (2, .int a2)] := by rw [(ax16 (.st 0 n4) ⟨(Or.inl (by decide)), (ix_lt e5)⟩).2, (ax16 .cl True.intro).2]; exact hl
      clear hP1 hD1 hPc hDc hFc hk1 hz1 hvm ht
      refine W.widen (k := 67) (n := 831) (by omega) (by omega) ?_
      refine lv_aload_n hx hb dX7_setPace_31 rfl (lv_at hl 0 rfl) ?_
      obtain ⟨q9, h9⟩ := wc_at (cy := cy) (ad := ad13) (ks := ks14) (g := (t11.1)) (u := (t11.2)) (κ := (.st 0 n4)) hk15.1 ⟨(Or.inl (by decide)), (ix_lt e5)⟩
      refine va_get (D := (dC, dI)) (ci := 6) (v := .int ((t11.2) (10 + 0) (17 + 16 * n4 + 1))) (C := RX6) (T := TX6) (N := 15) hx hb hts inlX6 hown hK hP q9 h9 rfl 1 (by decide) (hts _ mw_619) (fun _ h9 => h9) rfl dX7_setPace_32 ?_
      clear h9
      refine lv_istore (lv' := [(4, .int ((t11.2) (10 + 0) (17 + 16 * n4 + 1))), (3, .ref (ad13 (.st 0 n4))), (0, .ref (ad13 .cl)), (1, .int a1), (2, .int a2)]) hx hb dX7_setPace_35 hl (by decide) rfl (fun ls hl => ?_)
      refine lv_aload_n hx hb dX7_setPace_37 rfl (lv_at hl 1 rfl) ?_
      refine lv_iload_n hx hb dX7_setPace_38 rfl (lv_at hl 4 rfl) ?_
      obtain ⟨q9, h9, ez9⟩ := wc_set (cy := cy) (ad := ad13) (ks := ks14) (g := (t11.1)) (u := (t11.2)) (κ := (.st 0 n4)) (r := (10 + 0)) (i := (17 + 16 * n4 + 1)) (v := a2) hk15.1 ⟨(Or.inl (by decide)), (ix_lt e5)⟩ (own_st (show 0 < 12 by decide) (ix_lt e5) (by decide)) (sf_st_1)
      refine va_put (D := (dC, dI)) (ci := 6) (v := .int a2) (ty := .int) (C := RX6) (T := TX6) (N := 15) hx hb hts inlX6 tyX6 tyX6_ok nmX6 hown hK hP hD hS q9 h9 rfl 1 (by decide) (hts _ mw_619) (fun _ h9 => h9) rfl (by decide +kernel) rfl rfl (Nat.le_of_ble_eq_true rfl) dX7_setPace_39 (fun H locs hP hD hS => ?_)
      obtain ⟨u17, e18, hF⟩ := ob hF
      have hP : va_P (dC, dI) vwCl (WC cy ad13 ks14 (t11.1) u17) H := by rw [← pt_eq e18, ← ez9]; exact hP
      have hD : va_D A (WC cy ad13 ks14 (t11.1) u17) := by rw [← pt_eq e18, ← ez9]; exact hD
      clear ez9 h9
      refine lv_iload hx hb dX7_setPace_42 (lv_at hl 0 rfl) ?_
      have hZ := s3 hF
      have zro : ((t11.2) (10 + 0) (17 + 16 * n4 + 1)) = ro := (congrArg (fun q => q.1) hZ)
      have zgz : (t11.1) = gz := (congrArg (fun q => q.2.1) hZ)
      have zuz : u17 = uz := (congrArg (fun q => q.2.2) hZ)
      have hP9 : va_P (dC, dI) vwCl (WC cy ad13 ks14 gz uz) H := by rw [← zuz, ← zgz]; exact hP
      have hD9 : va_D A (WC cy ad13 ks14 gz uz) := by rw [← zuz, ← zgz]; exact hD
      have hk9 : GA nb ad13 gz ks14 := by rw [← zgz]; exact hk15
      have ax9 : AX g ad gz ad13 := by rw [← zgz]; exact ax16
      refine W.widen (k := 67) (n := 831) (by omega) (by omega) ?_
      rw [hQ]
      exact W.iret (v := ((t11.2) (10 + 0) (17 + 16 * n4 + 1))) hx hb hr (fun t ht hW => ⟨⟨((t11.2) (10 + 0) (17 + 16 * n4 + 1)), (), rfl, zro, ad13, ks14, hk9, ax9, by rw [ht]; exact hP9, hD9⟩, hS.F ht⟩) hS.2.2 dX7_setPace_44
noncomputable def C7_setRank (g : CG) (u0 : RS) (a1 : Int32) (a2 : Int32) : Option (Sum Int32 (Int32 × CG × RS)) := (C7_needLot g u0 (a1)).bind fun t1 => tr t1 fun t3 => (C7_needRange (a2) (0) (9)).bind fun t4 => tr t4 fun t6 => (C7_remember g u0).bind fun t7 => (ix 6 a1).bind fun n13 => (ix 6 a1).bind fun n15 => (pt (t7.2) (10 + 0) (113 + 4 * n15 + 0) a2).bind fun u17 => some (.inr (((t7.2) (10 + 0) (113 + 4 * n13 + 0)), (t7.1), u17))
set_option maxHeartbeats 4000000 in
set_option maxRecDepth 100000 in
theorem c_X7_setRank (l : Launch) (dC : Nat → ClassId) (dI : Nat → Nat → Nat) (cy : Nat → ClassId) (nb : Nat → Nat) (ad : CK → Nat) (ks : List CK) (g : CG) (hk : GA nb ad g ks) (u0 : RS) (a1 : Int32) (a2 : Int32) (ro : Int32) (gz : CG) (uz : RS) (sz : Nat) (hF : C7_setRank g u0 a1 a2 = some (.inr (ro, gz, uz))) : Met l yX7_setRank (wsg yX7_setRank cX7_setRank 4 (some .int)) ({ frames := 11, cells := 67, slots := 831, locals := 600 }) (va_Pc [.ref (ad .cl), .int a1, .int a2] (fun U => U.heap.size = sz ∧ va_P (dC, dI) vwCl (WC cy ad ks g u0) U.heap ∧ va_K (dC, dI) vwCl (tyL cy) U ∧ va_D (fun _ => True) (WC cy ad ks g u0) ∧ GE nb (va_A (WC cy ad ks g u0) sz) U)) (va_Qi (fun (r : Int32) (_ : Unit) => r = ro) (fun _ t => ∃ (ad' : CK → Nat) (ks' : List CK), GA nb ad' gz ks' ∧ AX g ad gz ad' ∧ va_P (dC, dI) vwCl (WC cy ad' ks' gz uz) t.heap ∧ va_D (va_A (WC cy ad ks g u0) sz) (WC cy ad' ks' gz uz)) (va_A (WC cy ad ks g u0) sz)) 67 831 (va_A (WC cy ad ks g u0) sz) := by
  refine Met.ofW (cc := cX7_setRank) (maxL := 4) (ret := (some .int)) pn_X7 rfl ?_
  intro p e s m args below meth c s₁ B hml hv
  obtain ⟨rfl, hsz, hP, hK, hD0, hE⟩ := hv
  have hx := B.exec
  have hb := B.bytes
  have hr := B.returns
  have hts0 := atoms_spec (ws := (wsg yX7_setRank cX7_setRank 4 (some .int))) B.pre
  have hts : ∀ w ∈ wsL_law, w.before _ s = true := fun w h => hts0 w (List.mem_cons_of_mem _ h)
  have hown : s.vm.findClass RX7 = some m.cls := by have h9 := findClass_of_methodNamed B.named; exact h9
  have hlocks := B.notSynchronized
  subst hsz
  have hD := hD0.self (sz := s.heap.size)
  generalize hAe : va_A (WC cy ad ks g u0) s.heap.size = A at hD hE ⊢
  have hA : ∀ q : Nat, s.heap.size ≤ q → A q := fun q h => by rw [← hAe]; exact Or.inr h
  have hS : va_S A s.heap s.heap [] := va_S.rf
  have hl := lv_entry ([.ref (ad .cl), .int a1, .int a2]) (n := 4) (Nat.le_of_ble_eq_true rfl)
  rw [lg_entry_eq]
  generalize (lg_sl ([.ref (ad .cl), .int a1, .int a2]) ++ List.replicate (4 - (lg_sl ([.ref (ad .cl), .int a1, .int a2])).length) Slot.unset).toArray = ls at hl ⊢
  have hl : lv_has ls 4 [(0, .ref (ad .cl)), (1, .int a1), (2, .int a2)] := hl
  generalize hHe : s.heap = H at hP hS ⊢
  have hS : va_S A s.heap H [] := by rw [hHe]; exact hS
  refine my_Q (fun Qn hQ => ?_)
  simp only [C7_setRank] at hF
  refine lv_aload_n hx hb dX7_setRank_0 rfl (lv_at hl 0 rfl) ?_
  refine lv_iload_n hx hb dX7_setRank_1 rfl (lv_at hl 1 rfl) ?_
  obtain ⟨t1, e2, hF⟩ := ob hF
  rcases t1 with xz9 | t3
  · have hF : some (Sum.inl xz9) = some (.inr (ro, gz, uz)) := hF
    cases hF
  · dsimp only [tr] at hF
    have hPc := hP
    have hDc := hD
    have hFc := my_free hD hS hA
    obtain ⟨q8, h8⟩ := wc_at (cy := cy) (ad := ad) (ks := ks) (g := g) (u := u0) (κ := .cl) hk.1 True.intro
    refine va_callv (va_runV (As := [.int a1]) (rest := []) ⟨hx, hb, hml, hown, hts⟩ (c_X7_needLot l dC dI cy nb ad ks g hk u0 (a1) H.size e2) (cwV 1 hts (gV mw_704 mw_705 mw_706 mw_2 mw_707) rfl rfl rfl (by decide +kernel) ⟨Nat.le_of_ble_eq_true rfl, Nat.le_of_ble_eq_true rfl⟩) (my_preV hPc hK hDc hE hS hFc (va_recv (q := (RX7, TX7, 12)) hK hP (ci := 7) (q0 := q8) rfl h8)) rfl rfl hl.1 rfl (lv_room (Nat.le_of_ble_eq_true rfl)) dX7_setRank_2 ⟨Nat.le_of_ble_eq_true rfl, Nat.le_of_ble_eq_true rfl⟩) hS (fun q _ h => hFc q h) hFc (fun u t H1 locs ht hvm hw hB hz1 hk1 hS => ?_)
    clear h8
    obtain ⟨hP1, hD1⟩ := hB
    rw [ht] at hP1
    have hP := hP1
    have hD := hD1.weaken (fun k q _ h => hFc q.1 h)
    generalize H1 = H at hP hS ⊢
    clear hP1 hD1 hPc hDc hFc hk1 hz1 hvm ht
    refine lv_iload_n hx hb dX7_setRank_5 rfl (lv_at hl 2 rfl) ?_
    refine lv_iconst (v := 0) hx hb dX7_setRank_6 (by decide) ?_
    refine lv_bipush (v := 9) hx hb dX7_setRank_7 (by decide) ?_
    obtain ⟨t4, e5, hF⟩ := ob hF
    rcases t4 with xz9 | t6
    · have hF : some (Sum.inl xz9) = some (.inr (ro, gz, uz)) := hF
      cases hF
    · dsimp only [tr] at hF
      have hPc : va_P (dC, dI) vwCl ([] : va_W) H := fun k q h => by simp at h
      have hDc : va_D A ([] : va_W) := ⟨fun i j p q h => by simp at h, fun k q h => by simp at h⟩
      have hFc := my_free0 hS hA
      refine va_callv (va_runS (As := [.int a2, .int 0, .int 9]) (rest := []) ⟨hx, hb, hml, hown, hts⟩ (c_X7_needRange l dC dI cy nb (a2) (0) (9) H.size e5) (va_cwS 3 hts (gS mw_815 mw_816 mw_2 mw_817) rfl rfl rfl (by decide +kernel) ⟨Nat.le_of_ble_eq_true rfl, Nat.le_of_ble_eq_true rfl⟩) (my_preS hPc hK hDc hE hS hFc) rfl rfl hl.1 rfl (lv_room (Nat.le_of_ble_eq_true rfl)) dX7_setRank_9 ⟨Nat.le_of_ble_eq_true rfl, Nat.le_of_ble_eq_true rfl⟩) hS (fun q _ h => hFc q h) hFc (fun u t H1 locs ht hvm hw hB hz1 hk1 hS => ?_)
      obtain ⟨hP1, hD1⟩ := hB
      rw [ht] at hP1
      have hP := my_keep hP hk1
      generalize H1 = H at hP hS ⊢
      clear hP1 hD1 hPc hDc hFc hk1 hz1 hvm ht
      refine lv_aload_n hx hb dX7_setRank_12 rfl (lv_at hl 0 rfl) ?_
      obtain ⟨t7, e8, hF⟩ := ob hF
      have hPc := hP
      have hDc := hD
      have hFc := my_free hD hS hA
      obtain ⟨q8, h8⟩ := wc_at (cy := cy) (ad := ad) (ks := ks) (g := g) (u := u0) (κ := .cl) hk.1 True.intro
      refine va_callv (va_runV (As := []) (rest := []) ⟨hx, hb, hml, hown, hts⟩ (c_X7_remember l dC dI cy nb ad ks g hk u0 (t7.1) (t7.2) H.size e8) (cwV 0 hts (gV mw_973 mw_974 mw_975 mw_2 mw_976) rfl rfl rfl (by decide +kernel) ⟨Nat.le_of_ble_eq_true rfl, Nat.le_of_ble_eq_true rfl⟩) (my_preV hPc hK hDc hE hS hFc (va_recv (q := (RX7, TX7, 12)) hK hP (ci := 7) (q0 := q8) rfl h8)) rfl rfl hl.1 rfl (lv_room (Nat.le_of_ble_eq_true rfl)) dX7_setRank_13 ⟨Nat.le_of_ble_eq_true rfl, Nat.le_of_ble_eq_true rfl⟩) hS (fun q _ h => hFc q h) hFc (fun u t H1 locs ht hvm hw hB hz1 hk1 hS => ?_)
      clear h8
      obtain ⟨ad9, ks10, hk11, ax12, hP1, hD1⟩ := hB
      rw [ht] at hP1
      have hP := hP1
      have hD := hD1.weaken (fun k q _ h => hFc q.1 h)
      generalize H1 = H at hP hS ⊢
      have hl : lv_has ls 4 [(0, .ref (ad9 .cl)), (1, .int a1), (2, .int a2)] := by rw [(ax12 .cl True.intro).2]; exact hl
      clear hP1 hD1 hPc hDc hFc hk1 hz1 hvm ht
      refine W.widen (k := 67) (n := 831) (by omega) (by omega) ?_
      refine lv_aload_n hx hb dX7_setRank_16 rfl (lv_at hl 0 rfl) ?_
      obtain ⟨q9, h9⟩ := wc_at (cy := cy) (ad := ad9) (ks := ks10) (g := (t7.1)) (u := (t7.2)) (κ := .cl) hk11.1 True.intro
      refine va_get (D := (dC, dI)) (ci := 7) (v := .ref (ad9 (.ln 0))) (C := RX7) (T := TX7) (N := 12) hx hb hts inlX7 hown hK hP q9 h9 rfl 0 (by decide) (hts _ mw_18) (fun _ h9 => h9) rfl dX7_setRank_17 ?_
      clear h9
      obtain ⟨q9, h9⟩ := wc_at (cy := cy) (ad := ad9) (ks := ks10) (g := (t7.1)) (u := (t7.2)) (κ := (.ln 0)) hk11.1 (Or.inl (by decide))
      refine va_get (D := (dC, dI)) (ci := 3) (v := .ref (ad9 (.ls 0))) (C := RX3) (T := TX3) (N := 17) hx hb hts inlX3 hown hK hP q9 h9 rfl 11 (by decide) (hts _ mw_697) (fun _ h9 => h9) rfl dX7_setRank_20 ?_
      clear h9
      refine lv_iload_n hx hb dX7_setRank_23 rfl (lv_at hl 1 rfl) ?_
      obtain ⟨n13, e14, hF⟩ := ob hF
      obtain ⟨q9, h9⟩ := wc_at (cy := cy) (ad := ad9) (ks := ks10) (g := (t7.1)) (u := (t7.2)) (κ := (.ls 0)) hk11.1 (Or.inl (by decide))
      refine va_aldq hx hb hK hP q9 7 h9 rfl (ix_in e14) dX7_setRank_24 ?_
      refine my_top (y := .ref (ad9 (.lo 0 n13))) (ixv (F := fun j => ad9 (.lo 0 j)) e14) ?_
      clear h9
      obtain ⟨q9, h9⟩ := wc_at (cy := cy) (ad := ad9) (ks := ks10) (g := (t7.1)) (u := (t7.2)) (κ := (.lo 0 n13)) hk11.1 ⟨(Or.inl (by decide)), (ix_lt e14)⟩
      refine va_get (D := (dC, dI)) (ci := 4) (v := .int ((t7.2) (10 + 0) (113 + 4 * n13 + 0))) (C := RX4) (T := TX4) (N := 12) hx hb hts inlX4 hown hK hP q9 h9 rfl 0 (by decide) (hts _ mw_698) (fun _ h9 => h9) rfl dX7_setRank_25 ?_
      clear h9
      refine lv_istore_n (lv' := [(3, .int ((t7.2) (10 + 0) (113 + 4 * n13 + 0))), (0, .ref (ad9 .cl)), (1, .int a1), (2, .int a2)]) hx hb dX7_setRank_28 rfl hl (by decide) rfl (fun ls hl => ?_)
      refine lv_aload_n hx hb dX7_setRank_29 rfl (lv_at hl 1 rfl) ?_
      obtain ⟨q9, h9⟩ := wc_at (cy := cy) (ad := ad9) (ks := ks10) (g := (t7.1)) (u := (t7.2)) (κ := .cl) hk11.1 True.intro
      refine va_get (D := (dC, dI)) (ci := 7) (v := .ref (ad9 (.ln 0))) (C := RX7) (T := TX7) (N := 12) hx hb hts inlX7 hown hK hP q9 h9 rfl 0 (by decide) (hts _ mw_18) (fun _ h9 => h9) rfl dX7_setRank_30 ?_
      clear h9
      obtain ⟨q9, h9⟩ := wc_at (cy := cy) (ad := ad9) (ks := ks10) (g := (t7.1)) (u := (t7.2)) (κ := (.ln 0)) hk11.1 (Or.inl (by decide))
      refine va_get (D := (dC, dI)) (ci := 3) (v := .ref (ad9 (.ls 0))) (C := RX3) (T := TX3) (N := 17) hx hb hts inlX3 hown hK hP q9 h9 rfl 11 (by decide) (hts _ mw_697) (fun _ h9 => h9) rfl dX7_setRank_33 ?_
      clear h9
      refine lv_iload_n hx hb dX7_setRank_36 rfl (lv_at hl 2 rfl) ?_
      obtain ⟨n15, e16, hF⟩ := ob hF
      obtain ⟨q9, h9⟩ := wc_at (cy := cy) (ad := ad9) (ks := ks10) (g := (t7.1)) (u := (t7.2)) (κ := (.ls 0)) hk11.1 (Or.inl (by decide))
      refine va_aldq hx hb hK hP q9 7 h9 rfl (ix_in e16) dX7_setRank_37 ?_
      refine my_top (y := .ref (ad9 (.lo 0 n15))) (ixv (F := fun j => ad9 (.lo 0 j)) e16) ?_
      clear h9
      refine lv_iload_n hx hb dX7_setRank_38 rfl (lv_at hl 3 rfl) ?_
      obtain ⟨q9, h9, ez9⟩ := wc_set (cy := cy) (ad := ad9) (ks := ks10) (g := (t7.1)) (u := (t7.2)) (κ := (.lo 0 n15)) (r := (10 + 0)) (i := (113 + 4 * n15 + 0)) (v := a2) hk11.1 ⟨(Or.inl (by decide)), (ix_lt e16)⟩ (own_lo (show 0 < 12 by decide) (ix_lt e16) (by decide)) (sf_lo_0)
      refine va_put (D := (dC, dI)) (ci := 4) (v := .int a2) (ty := .int) (C := RX4) (T := TX4) (N := 12) hx hb hts inlX4 tyX4 tyX4_ok nmX4 hown hK hP hD hS q9 h9 rfl 0 (by decide) (hts _ mw_698) (fun _ h9 => h9) rfl (by decide +kernel) rfl rfl (Nat.le_of_ble_eq_true rfl) dX7_setRank_39 (fun H locs hP hD hS => ?_)
      obtain ⟨u17, e18, hF⟩ := ob hF
      have hP : va_P (dC, dI) vwCl (WC cy ad9 ks10 (t7.1) u17) H := by rw [← pt_eq e18, ← ez9]; exact hP
      have hD : va_D A (WC cy ad9 ks10 (t7.1) u17) := by rw [← pt_eq e18, ← ez9]; exact hD
      clear ez9 h9
      refine lv_iload_n hx hb dX7_setRank_42 rfl (lv_at hl 0 rfl) ?_
      have hZ := s3 hF
      have zro : ((t7.2) (10 + 0) (113 + 4 * n13 + 0)) = ro := (congrArg (fun q => q.1) hZ)
      have zgz : (t7.1) = gz := (congrArg (fun q => q.2.1) hZ)
      have zuz : u17 = uz := (congrArg (fun q => q.2.2) hZ)
      have hP9 : va_P (dC, dI) vwCl (WC cy ad9 ks10 gz uz) H := by rw [← zuz, ← zgz]; exact hP
      have hD9 : va_D A (WC cy ad9 ks10 gz uz) := by rw [← zuz, ← zgz]; exact hD
      have hk9 : GA nb ad9 gz ks10 := by rw [← zgz]; exact hk11
      have ax9 : AX g ad gz ad9 := by rw [← zgz]; exact ax12
      refine W.widen (k := 67) (n := 831) (by omega) (by omega) ?_
      rw [hQ]
      exact W.iret (v := ((t7.2) (10 + 0) (113 + 4 * n13 + 0))) hx hb hr (fun t ht hW => ⟨⟨((t7.2) (10 + 0) (113 + 4 * n13 + 0)), (), rfl, zro, ad9, ks10, hk9, ax9, by rw [ht]; exact hP9, hD9⟩, hS.F ht⟩) hS.2.2 dX7_setRank_43
noncomputable def C7_setRest (g : CG) (u0 : RS) (a1 : Int32) (a2 : Int32) (a3 : Int32) : Option (Sum Int32 (Int32 × CG × RS)) := (C7_needStation g u0 (a1)).bind fun t1 => tr t1 fun t3 => (C7_needRange (a2) (0) (99)).bind fun t4 => tr t4 fun t6 => if a2 ≤ 0 then ((C7_remember g u0).bind fun t8 => (ix 6 a1).bind fun n14 => (pt (t8.2) (10 + 0) (17 + 16 * n14 + 9) a2).bind fun u16 => (if a2 ≤ 0 then (some (0 : Int32)) else (some a3) : Option (Int32)).bind fun t19 => (pt u16 (10 + 0) (17 + 16 * n14 + 10) t19).bind fun u22 => some (.inr (((t8.2) (10 + 0) (17 + 16 * n14 + 9)), (t8.1), u22))) else ((C7_needRange (a3) (1) (99)).bind fun t24 => tr t24 fun t26 => (C7_remember g u0).bind fun t27 => (ix 6 a1).bind fun n33 => (pt (t27.2) (10 + 0) (17 + 16 * n33 + 9) a2).bind fun u35 => (if a2 ≤ 0 then (some (0 : Int32)) else (some a3) : Option (Int32)).bind fun t38 => (pt u35 (10 + 0) (17 + 16 * n33 + 10) t38).bind fun u41 => some (.inr (((t27.2) (10 + 0) (17 + 16 * n33 + 9)), (t27.1), u41)))
set_option maxHeartbeats 4000000 in
set_option maxRecDepth 100000 in
theorem c_X7_setRest (l : Launch) (dC : Nat → ClassId) (dI : Nat → Nat → Nat) (cy : Nat → ClassId) (nb : Nat → Nat) (ad : CK → Nat) (ks : List CK) (g : CG) (hk : GA nb ad g ks) (u0 : RS) (a1 : Int32) (a2 : Int32) (a3 : Int32) (ro : Int32) (gz : CG) (uz : RS) (sz : Nat) (hF : C7_setRest g u0 a1 a2 a3 = some (.inr (ro, gz, uz))) : Met l yX7_setRest (wsg yX7_setRest cX7_setRest 6 (some .int)) ({ frames := 11, cells := 67, slots := 831, locals := 600 }) (va_Pc [.ref (ad .cl), .int a1, .int a2, .int a3] (fun U => U.heap.size = sz ∧ va_P (dC, dI) vwCl (WC cy ad ks g u0) U.heap ∧ va_K (dC, dI) vwCl (tyL cy) U ∧ va_D (fun _ => True) (WC cy ad ks g u0) ∧ GE nb (va_A (WC cy ad ks g u0) sz) U)) (va_Qi (fun (r : Int32) (_ : Unit) => r = ro) (fun _ t => ∃ (ad' : CK → Nat) (ks' : List CK), GA nb ad' gz ks' ∧ AX g ad gz ad' ∧ va_P (dC, dI) vwCl (WC cy ad' ks' gz uz) t.heap ∧ va_D (va_A (WC cy ad ks g u0) sz) (WC cy ad' ks' gz uz)) (va_A (WC cy ad ks g u0) sz)) 67 831 (va_A (WC cy ad ks g u0) sz) := by
  refine Met.ofW (cc := cX7_setRest) (maxL := 6) (ret := (some .int)) pn_X7 rfl ?_
  intro p e s m args below meth c s₁ B hml hv
  obtain ⟨rfl, hsz, hP, hK, hD0, hE⟩ := hv
  have hx := B.exec
  have hb := B.bytes
  have hr := B.returns
  have hts0 := atoms_spec (ws := (wsg yX7_setRest cX7_setRest 6 (some .int))) B.pre
  have hts : ∀ w ∈ wsL_law, w.before _ s = true := fun w h => hts0 w (List.mem_cons_of_mem _ h)
  have hown : s.vm.findClass RX7 = some m.cls := by have h9 := findClass_of_methodNamed B.named; exact h9
  have hlocks := B.notSynchronized
  subst hsz
  have hD := hD0.self (sz := s.heap.size)
  generalize hAe : va_A (WC cy ad ks g u0) s.heap.size = A at hD hE ⊢
  have hA : ∀ q : Nat, s.heap.size ≤ q → A q := fun q h => by rw [← hAe]; exact Or.inr h
  have hS : va_S A s.heap s.heap [] := va_S.rf
  have hl := lv_entry ([.ref (ad .cl), .int a1, .int a2, .int a3]) (n := 6) (Nat.le_of_ble_eq_true rfl)
  rw [lg_entry_eq]
  generalize (lg_sl ([.ref (ad .cl), .int a1, .int a2, .int a3]) ++ List.replicate (6 - (lg_sl ([.ref (ad .cl), .int a1, .int a2, .int a3])).length) Slot.unset).toArray = ls at hl ⊢
  have hl : lv_has ls 6 [(0, .ref (ad .cl)), (1, .int a1), (2, .int a2), (3, .int a3)] := hl
  generalize hHe : s.heap = H at hP hS ⊢
  have hS : va_S A s.heap H [] := by rw [hHe]; exact hS
  refine my_Q (fun Qn hQ => ?_)
  simp only [C7_setRest] at hF
  refine lv_aload_n hx hb dX7_setRest_0 rfl (lv_at hl 0 rfl) ?_
  refine lv_iload_n hx hb dX7_setRest_1 rfl (lv_at hl 1 rfl) ?_
  obtain ⟨t1, e2, hF⟩ := ob hF
  rcases t1 with xz9 | t3
  · have hF : some (Sum.inl xz9) = some (.inr (ro, gz, uz)) := hF
    cases hF
  · dsimp only [tr] at hF
    have hPc := hP
    have hDc := hD
    have hFc := my_free hD hS hA
    obtain ⟨q8, h8⟩ := wc_at (cy := cy) (ad := ad) (ks := ks) (g := g) (u := u0) (κ := .cl) hk.1 True.intro
    refine va_callv (va_runV (As := [.int a1]) (rest := []) ⟨hx, hb, hml, hown, hts⟩ (c_X7_needStation l dC dI cy nb ad ks g hk u0 (a1) H.size e2) (cwV 1 hts (gV mw_631 mw_632 mw_633 mw_2 mw_634) rfl rfl rfl (by decide +kernel) ⟨Nat.le_of_ble_eq_true rfl, Nat.le_of_ble_eq_true rfl⟩) (my_preV hPc hK hDc hE hS hFc (va_recv (q := (RX7, TX7, 12)) hK hP (ci := 7) (q0 := q8) rfl h8)) rfl rfl hl.1 rfl (lv_room (Nat.le_of_ble_eq_true rfl)) dX7_setRest_2 ⟨Nat.le_of_ble_eq_true rfl, Nat.le_of_ble_eq_true rfl⟩) hS (fun q _ h => hFc q h) hFc (fun u t H1 locs ht hvm hw hB hz1 hk1 hS => ?_)
    clear h8
    obtain ⟨hP1, hD1⟩ := hB
    rw [ht] at hP1
    have hP := hP1
    have hD := hD1.weaken (fun k q _ h => hFc q.1 h)
    generalize H1 = H at hP hS ⊢
    clear hP1 hD1 hPc hDc hFc hk1 hz1 hvm ht
    refine lv_iload_n hx hb dX7_setRest_5 rfl (lv_at hl 2 rfl) ?_
    refine lv_iconst (v := 0) hx hb dX7_setRest_6 (by decide) ?_
    refine lv_bipush (v := 99) hx hb dX7_setRest_7 (by decide) ?_
    obtain ⟨t4, e5, hF⟩ := ob hF
    rcases t4 with xz9 | t6
    · have hF : some (Sum.inl xz9) = some (.inr (ro, gz, uz)) := hF
      cases hF
    · dsimp only [tr] at hF
      have hPc : va_P (dC, dI) vwCl ([] : va_W) H := fun k q h => by simp at h
      have hDc : va_D A ([] : va_W) := ⟨fun i j p q h => by simp at h, fun k q h => by simp at h⟩
      have hFc := my_free0 hS hA
      refine va_callv (va_runS (As := [.int a2, .int 0, .int 99]) (rest := []) ⟨hx, hb, hml, hown, hts⟩ (c_X7_needRange l dC dI cy nb (a2) (0) (99) H.size e5) (va_cwS 3 hts (gS mw_815 mw_816 mw_2 mw_817) rfl rfl rfl (by decide +kernel) ⟨Nat.le_of_ble_eq_true rfl, Nat.le_of_ble_eq_true rfl⟩) (my_preS hPc hK hDc hE hS hFc) rfl rfl hl.1 rfl (lv_room (Nat.le_of_ble_eq_true rfl)) dX7_setRest_9 ⟨Nat.le_of_ble_eq_true rfl, Nat.le_of_ble_eq_true rfl⟩) hS (fun q _ h => hFc q h) hFc (fun u t H1 locs ht hvm hw hB hz1 hk1 hS => ?_)
      obtain ⟨hP1, hD1⟩ := hB
      rw [ht] at hP1
      have hP := my_keep hP hk1
      generalize H1 = H at hP hS ⊢
      clear hP1 hD1 hPc hDc hFc hk1 hz1 hvm ht
      refine lv_iload_n hx hb dX7_setRest_12 rfl (lv_at hl 2 rfl) ?_
      refine lv_if_le (tgt := 23) hx hb dX7_setRest_13 (by decide) (fun c7 => ?_) (fun c7 => ?_)
      · rw [if_pos c7] at hF
        refine lv_aload_n hx hb dX7_setRest_23 rfl (lv_at hl 0 rfl) ?_
        obtain ⟨t8, e9, hF⟩ := ob hF
        have hPc := hP
        have hDc := hD
        have hFc := my_free hD hS hA
        obtain ⟨q8, h8⟩ := wc_at (cy := cy) (ad := ad) (ks := ks) (g := g) (u := u0) (κ := .cl) hk.1 True.intro
        refine va_callv (va_runV (As := []) (rest := []) ⟨hx, hb, hml, hown, hts⟩ (c_X7_remember l dC dI cy nb ad ks g hk u0 (t8.1) (t8.2) H.size e9) (cwV 0 hts (gV mw_973 mw_974 mw_975 mw_2 mw_976) rfl rfl rfl (by decide +kernel) ⟨Nat.le_of_ble_eq_true rfl, Nat.le_of_ble_eq_true rfl⟩) (my_preV hPc hK hDc hE hS hFc (va_recv (q := (RX7, TX7, 12)) hK hP (ci := 7) (q0 := q8) rfl h8)) rfl rfl hl.1 rfl (lv_room (Nat.le_of_ble_eq_true rfl)) dX7_setRest_24 ⟨Nat.le_of_ble_eq_true rfl, Nat.le_of_ble_eq_true rfl⟩) hS (fun q _ h => hFc q h) hFc (fun u t H1 locs ht hvm hw hB hz1 hk1 hS => ?_)
        clear h8
        obtain ⟨ad10, ks11, hk12, ax13, hP1, hD1⟩ := hB
        rw [ht] at hP1
        have hP := hP1
        have hD := hD1.weaken (fun k q _ h => hFc q.1 h)
        generalize H1 = H at hP hS ⊢
        have hl : lv_has ls 6 [(0, .ref (ad10 .cl)), (1, .int a1), (2, .int a2), (3, .int a3)] := by rw [(ax13 .cl True.intro).2]; exact hl
        clear hP1 hD1 hPc hDc hFc hk1 hz1 hvm ht
        refine W.widen (k := 67) (n := 831) (by omega) (by omega) ?_
        refine lv_aload_n hx hb dX7_setRest_27 rfl (lv_at hl 0 rfl) ?_
        obtain ⟨q9, h9⟩ := wc_at (cy := cy) (ad := ad10) (ks := ks11) (g := (t8.1)) (u := (t8.2)) (κ := .cl) hk12.1 True.intro
        refine va_get (D := (dC, dI)) (ci := 7) (v := .ref (ad10 (.ln 0))) (C := RX7) (T := TX7) (N := 12) hx hb hts inlX7 hown hK hP q9 h9 rfl 0 (by decide) (hts _ mw_18) (fun _ h9 => h9) rfl dX7_setRest_28 ?_
        clear h9
        obtain ⟨q9, h9⟩ := wc_at (cy := cy) (ad := ad10) (ks := ks11) (g := (t8.1)) (u := (t8.2)) (κ := (.ln 0)) hk12.1 (Or.inl (by decide))
        refine va_get (D := (dC, dI)) (ci := 3) (v := .ref (ad10 (.ss 0))) (C := RX3) (T := TX3) (N := 17) hx hb hts inlX3 hown hK hP q9 h9 rfl 10 (by decide) (hts _ mw_617) (fun _ h9 => h9) rfl dX7_setRest_31 ?_
        clear h9
        refine lv_iload_n hx hb dX7_setRest_34 rfl (lv_at hl 1 rfl) ?_
        obtain ⟨n14, e15, hF⟩ := ob hF
        obtain ⟨q9, h9⟩ := wc_at (cy := cy) (ad := ad10) (ks := ks11) (g := (t8.1)) (u := (t8.2)) (κ := (.ss 0)) hk12.1 (Or.inl (by decide))
        refine va_aldq hx hb hK hP q9 6 h9 rfl (ix_in e15) dX7_setRest_35 ?_
        refine my_top (y := .ref (ad10 (.st 0 n14))) (ixv (F := fun j => ad10 (.st 0 j)) e15) ?_
        clear h9
        refine lv_astore (lv' := [(4, .ref (ad10 (.st 0 n14))), (0, .ref (ad10 .cl)), (1, .int a1), (2, .int a2), (3, .int a3)]) hx hb dX7_setRest_36 hl (by decide) rfl (fun ls hl => ?_)
        refine lv_aload hx hb dX7_setRest_38 (lv_at hl 0 rfl) ?_
        obtain ⟨q9, h9⟩ := wc_at (cy := cy) (ad := ad10) (ks := ks11) (g := (t8.1)) (u := (t8.2)) (κ := (.st 0 n14)) hk12.1 ⟨(Or.inl (by decide)), (ix_lt e15)⟩
        refine va_get (D := (dC, dI)) (ci := 6) (v := .int ((t8.2) (10 + 0) (17 + 16 * n14 + 9))) (C := RX6) (T := TX6) (N := 15) hx hb hts inlX6 hown hK hP q9 h9 rfl 11 (by decide) (hts _ mw_627) (fun _ h9 => h9) rfl dX7_setRest_40 ?_
        clear h9
        refine lv_istore (lv' := [(5, .int ((t8.2) (10 + 0) (17 + 16 * n14 + 9))), (4, .ref (ad10 (.st 0 n14))), (0, .ref (ad10 .cl)), (1, .int a1), (2, .int a2), (3, .int a3)]) hx hb dX7_setRest_43 hl (by decide) rfl (fun ls hl => ?_)
        refine lv_aload hx hb dX7_setRest_45 (lv_at hl 1 rfl) ?_
        refine lv_iload_n hx hb dX7_setRest_47 rfl (lv_at hl 4 rfl) ?_
        obtain ⟨q9, h9, ez9⟩ := wc_set (cy := cy) (ad := ad10) (ks := ks11) (g := (t8.1)) (u := (t8.2)) (κ := (.st 0 n14)) (r := (10 + 0)) (i := (17 + 16 * n14 + 9)) (v := a2) hk12.1 ⟨(Or.inl (by decide)), (ix_lt e15)⟩ (own_st (show 0 < 12 by decide) (ix_lt e15) (by decide)) (sf_st_11)
        refine va_put (D := (dC, dI)) (ci := 6) (v := .int a2) (ty := .int) (C := RX6) (T := TX6) (N := 15) hx hb hts inlX6 tyX6 tyX6_ok nmX6 hown hK hP hD hS q9 h9 rfl 11 (by decide) (hts _ mw_627) (fun _ h9 => h9) rfl (by decide +kernel) rfl rfl (Nat.le_of_ble_eq_true rfl) dX7_setRest_48 (fun H locs hP hD hS => ?_)
        obtain ⟨u16, e17, hF⟩ := ob hF
        have hP : va_P (dC, dI) vwCl (WC cy ad10 ks11 (t8.1) u16) H := by rw [← pt_eq e17, ← ez9]; exact hP
        have hD : va_D A (WC cy ad10 ks11 (t8.1) u16) := by rw [← pt_eq e17, ← ez9]; exact hD
        clear ez9 h9
        refine lv_aload hx hb dX7_setRest_51 (lv_at hl 1 rfl) ?_
        refine lv_iload_n hx hb dX7_setRest_53 rfl (lv_at hl 4 rfl) ?_
        obtain ⟨t19, hJ20, hF⟩ := ob hF
        have join21 : ∀ (H : Heap) (locs : List Loc) (ls : Array Slot), va_P (dC, dI) vwCl (WC cy ad10 ks11 (t8.1) u16) H → va_D A (WC cy ad10 ks11 (t8.1) u16) → va_S A s.heap H locs → lv_has ls 6 [(5, .int ((t8.2) (10 + 0) (17 + 16 * n14 + 9))), (4, .ref (ad10 (.st 0 n14))), (0, .ref (ad10 .cl)), (1, .int a1), (2, .int a2), (3, .int a3)] → W p l e (headSpec (wsg yX7_setRest cX7_setRest 6 (some .int)) ({ frames := 11, cells := 67, slots := 831, locals := 600 })).room s m ([.ref (ad .cl), .int a1, .int a2, .int a3] : List Value).toArray below meth c H locs 67 831 Qn (F0 m 62 ls [.int t19, .ref (ad10 (.st 0 n14))]) := by
          intro H locs ls hP hD hS hl
          obtain ⟨q9, h9, ez9⟩ := wc_set (cy := cy) (ad := ad10) (ks := ks11) (g := (t8.1)) (u := u16) (κ := (.st 0 n14)) (r := (10 + 0)) (i := (17 + 16 * n14 + 10)) (v := t19) hk12.1 ⟨(Or.inl (by decide)), (ix_lt e15)⟩ (own_st (show 0 < 12 by decide) (ix_lt e15) (by decide)) (sf_st_12)
          refine va_put (D := (dC, dI)) (ci := 6) (v := .int t19) (ty := .int) (C := RX6) (T := TX6) (N := 15) hx hb hts inlX6 tyX6 tyX6_ok nmX6 hown hK hP hD hS q9 h9 rfl 12 (by decide) (hts _ mw_628) (fun _ h9 => h9) rfl (by decide +kernel) rfl rfl (Nat.le_of_ble_eq_true rfl) dX7_setRest_62 (fun H locs hP hD hS => ?_)
          obtain ⟨u22, e23, hF⟩ := ob hF
          have hP : va_P (dC, dI) vwCl (WC cy ad10 ks11 (t8.1) u22) H := by rw [← pt_eq e23, ← ez9]; exact hP
          have hD : va_D A (WC cy ad10 ks11 (t8.1) u22) := by rw [← pt_eq e23, ← ez9]; exact hD
          clear ez9 h9
          refine lv_iload hx hb dX7_setRest_65 (lv_at hl 0 rfl) ?_
          have hZ := s3 hF
          have zro : ((t8.2) (10 + 0) (17 + 16 * n14 + 9)) = ro := (congrArg (fun q => q.1) hZ)
          have zgz : (t8.1) = gz := (congrArg (fun q => q.2.1) hZ)
          have zuz : u22 = uz := (congrArg (fun q => q.2.2) hZ)
          have hP9 : va_P (dC, dI) vwCl (WC cy ad10 ks11 gz uz) H := by rw [← zuz, ← zgz]; exact hP
          have hD9 : va_D A (WC cy ad10 ks11 gz uz) := by rw [← zuz, ← zgz]; exact hD
          have hk9 : GA nb ad10 gz ks11 := by rw [← zgz]; exact hk12
          have ax9 : AX g ad gz ad10 := by rw [← zgz]; exact ax13
          refine W.widen (k := 67) (n := 831) (by omega) (by omega) ?_
          rw [hQ]
          exact W.iret (v := ((t8.2) (10 + 0) (17 + 16 * n14 + 9))) hx hb hr (fun t ht hW => ⟨⟨((t8.2) (10 + 0) (17 + 16 * n14 + 9)), (), rfl, zro, ad10, ks11, hk9, ax9, by rw [ht]; exact hP9, hD9⟩, hS.F ht⟩) hS.2.2 dX7_setRest_67
        clear hF
        have hF := hJ20
        clear hJ20
        refine lv_if_le (tgt := 61) hx hb dX7_setRest_54 (by decide) (fun c18 => ?_) (fun c18 => ?_)
        · rw [if_pos c18] at hF
          refine lv_iconst (v := 0) hx hb dX7_setRest_61 (by decide) ?_
          have ht := s1 hF
          subst ht
          exact join21 _ _ _ hP hD hS (lv_sub hl [0, 1, 2, 3, 4, 5] rfl)
        · rw [if_neg c18] at hF
          refine lv_iload_n hx hb dX7_setRest_57 rfl (lv_at hl 5 rfl) ?_
          refine lv_goto (tgt := 62) hx hb dX7_setRest_58 (by decide) ?_
          have ht := s1 hF
          subst ht
          exact join21 _ _ _ hP hD hS (lv_sub hl [0, 1, 2, 3, 4, 5] rfl)
      · rw [if_neg c7] at hF
        refine lv_iload_n hx hb dX7_setRest_16 rfl (lv_at hl 3 rfl) ?_
        refine lv_iconst (v := 1) hx hb dX7_setRest_17 (by decide) ?_
        refine lv_bipush (v := 99) hx hb dX7_setRest_18 (by decide) ?_
        obtain ⟨t24, e25, hF⟩ := ob hF
        rcases t24 with xz9 | t26
        · have hF : some (Sum.inl xz9) = some (.inr (ro, gz, uz)) := hF
          cases hF
        · dsimp only [tr] at hF
          have hPc : va_P (dC, dI) vwCl ([] : va_W) H := fun k q h => by simp at h
          have hDc : va_D A ([] : va_W) := ⟨fun i j p q h => by simp at h, fun k q h => by simp at h⟩
          have hFc := my_free0 hS hA
          refine va_callv (va_runS (As := [.int a3, .int 1, .int 99]) (rest := []) ⟨hx, hb, hml, hown, hts⟩ (c_X7_needRange l dC dI cy nb (a3) (1) (99) H.size e25) (va_cwS 3 hts (gS mw_815 mw_816 mw_2 mw_817) rfl rfl rfl (by decide +kernel) ⟨Nat.le_of_ble_eq_true rfl, Nat.le_of_ble_eq_true rfl⟩) (my_preS hPc hK hDc hE hS hFc) rfl rfl hl.1 rfl (lv_room (Nat.le_of_ble_eq_true rfl)) dX7_setRest_20 ⟨Nat.le_of_ble_eq_true rfl, Nat.le_of_ble_eq_true rfl⟩) hS (fun q _ h => hFc q h) hFc (fun u t H1 locs ht hvm hw hB hz1 hk1 hS => ?_)
          obtain ⟨hP1, hD1⟩ := hB
          rw [ht] at hP1
          have hP := my_keep hP hk1
          generalize H1 = H at hP hS ⊢
          clear hP1 hD1 hPc hDc hFc hk1 hz1 hvm ht
          refine lv_aload_n hx hb dX7_setRest_23 rfl (lv_at hl 0 rfl) ?_
          obtain ⟨t27, e28, hF⟩ := ob hF
          have hPc := hP
          have hDc := hD
          have hFc := my_free hD hS hA
          obtain ⟨q8, h8⟩ := wc_at (cy := cy) (ad := ad) (ks := ks) (g := g) (u := u0) (κ := .cl) hk.1 True.intro
          refine va_callv (va_runV (As := []) (rest := []) ⟨hx, hb, hml, hown, hts⟩ (c_X7_remember l dC dI cy nb ad ks g hk u0 (t27.1) (t27.2) H.size e28) (cwV 0 hts (gV mw_973 mw_974 mw_975 mw_2 mw_976) rfl rfl rfl (by decide +kernel) ⟨Nat.le_of_ble_eq_true rfl, Nat.le_of_ble_eq_true rfl⟩) (my_preV hPc hK hDc hE hS hFc (va_recv (q := (RX7, TX7, 12)) hK hP (ci := 7) (q0 := q8) rfl h8)) rfl rfl hl.1 rfl (lv_room (Nat.le_of_ble_eq_true rfl)) dX7_setRest_24 ⟨Nat.le_of_ble_eq_true rfl, Nat.le_of_ble_eq_true rfl⟩) hS (fun q _ h => hFc q h) hFc (fun u t H1 locs ht hvm hw hB hz1 hk1 hS => ?_)
          clear h8
          obtain ⟨ad29, ks30, hk31, ax32, hP1, hD1⟩ := hB
          rw [ht] at hP1
          have hP := hP1
          have hD := hD1.weaken (fun k q _ h => hFc q.1 h)
          generalize H1 = H at hP hS ⊢
          have hl : lv_has ls 6 [(0, .ref (ad29 .cl)), (1, .int a1), (2, .int a2), (3, .int a3)] := by rw [(ax32 .cl True.intro).2]; exact hl
          clear hP1 hD1 hPc hDc hFc hk1 hz1 hvm ht
          refine W.widen (k := 67) (n := 831) (by omega) (by omega) ?_
          refine lv_aload_n hx hb dX7_setRest_27 rfl (lv_at hl 0 rfl) ?_
          obtain ⟨q9, h9⟩ := wc_at (cy := cy) (ad := ad29) (ks := ks30) (g := (t27.1)) (u := (t27.2)) (κ := .cl) hk31.1 True.intro
          refine va_get (D := (dC, dI)) (ci := 7) (v := .ref (ad29 (.ln 0))) (C := RX7) (T := TX7) (N := 12) hx hb hts inlX7 hown hK hP q9 h9 rfl 0 (by decide) (hts _ mw_18) (fun _ h9 => h9) rfl dX7_setRest_28 ?_
          clear h9
          obtain ⟨q9, h9⟩ := wc_at (cy := cy) (ad := ad29) (ks := ks30) (g := (t27.1)) (u := (t27.2)) (κ := (.ln 0)) hk31.1 (Or.inl (by decide))
          refine va_get (D := (dC, dI)) (ci := 3) (v := .ref (ad29 (.ss 0))) (C := RX3) (T := TX3) (N := 17) hx hb hts inlX3 hown hK hP q9 h9 rfl 10 (by decide) (hts _ mw_617) (fun _ h9 => h9) rfl dX7_setRest_31 ?_
          clear h9
          refine lv_iload_n hx hb dX7_setRest_34 rfl (lv_at hl 1 rfl) ?_
          obtain ⟨n33, e34, hF⟩ := ob hF
          obtain ⟨q9, h9⟩ := wc_at (cy := cy) (ad := ad29) (ks := ks30) (g := (t27.1)) (u := (t27.2)) (κ := (.ss 0)) hk31.1 (Or.inl (by decide))
          refine va_aldq hx hb hK hP q9 6 h9 rfl (ix_in e34) dX7_setRest_35 ?_
          refine my_top (y := .ref (ad29 (.st 0 n33))) (ixv (F := fun j => ad29 (.st 0 j)) e34) ?_
          clear h9
          refine lv_astore (lv' := [(4, .ref (ad29 (.st 0 n33))), (0, .ref (ad29 .cl)), (1, .int a1), (2, .int a2), (3, .int a3)]) hx hb dX7_setRest_36 hl (by decide) rfl (fun ls hl => ?_)
          refine lv_aload hx hb dX7_setRest_38 (lv_at hl 0 rfl) ?_
          obtain ⟨q9, h9⟩ := wc_at (cy := cy) (ad := ad29) (ks := ks30) (g := (t27.1)) (u := (t27.2)) (κ := (.st 0 n33)) hk31.1 ⟨(Or.inl (by decide)), (ix_lt e34)⟩
          refine va_get (D := (dC, dI)) (ci := 6) (v := .int ((t27.2) (10 + 0) (17 + 16 * n33 + 9))) (C := RX6) (T := TX6) (N := 15) hx hb hts inlX6 hown hK hP q9 h9 rfl 11 (by decide) (hts _ mw_627) (fun _ h9 => h9) rfl dX7_setRest_40 ?_
          clear h9
          refine lv_istore (lv' := [(5, .int ((t27.2) (10 + 0) (17 + 16 * n33 + 9))), (4, .ref (ad29 (.st 0 n33))), (0, .ref (ad29 .cl)), (1, .int a1), (2, .int a2), (3, .int a3)]) hx hb dX7_setRest_43 hl (by decide) rfl (fun ls hl => ?_)
          refine lv_aload hx hb dX7_setRest_45 (lv_at hl 1 rfl) ?_
          refine lv_iload_n hx hb dX7_setRest_47 rfl (lv_at hl 4 rfl) ?_
          obtain ⟨q9, h9, ez9⟩ := wc_set (cy := cy) (ad := ad29) (ks := ks30) (g := (t27.1)) (u := (t27.2)) (κ := (.st 0 n33)) (r := (10 + 0)) (i := (17 + 16 * n33 + 9)) (v := a2) hk31.1 ⟨(Or.inl (by decide)), (ix_lt e34)⟩ (own_st (show 0 < 12 by decide) (ix_lt e34) (by decide)) (sf_st_11)
          refine va_put (D := (dC, dI)) (ci := 6) (v := .int a2) (ty := .int) (C := RX6) (T := TX6) (N := 15) hx hb hts inlX6 tyX6 tyX6_ok nmX6 hown hK hP hD hS q9 h9 rfl 11 (by decide) (hts _ mw_627) (fun _ h9 => h9) rfl (by decide +kernel) rfl rfl (Nat.le_of_ble_eq_true rfl) dX7_setRest_48 (fun H locs hP hD hS => ?_)
          obtain ⟨u35, e36, hF⟩ := ob hF
          have hP : va_P (dC, dI) vwCl (WC cy ad29 ks30 (t27.1) u35) H := by rw [← pt_eq e36, ← ez9]; exact hP
          have hD : va_D A (WC cy ad29 ks30 (t27.1) u35) := by rw [← pt_eq e36, ← ez9]; exact hD
          clear ez9 h9
          refine lv_aload hx hb dX7_setRest_51 (lv_at hl 1 rfl) ?_
          refine lv_iload_n hx hb dX7_setRest_53 rfl (lv_at hl 4 rfl) ?_
          obtain ⟨t38, hJ39, hF⟩ := ob hF
          have join40 : ∀ (H : Heap) (locs : List Loc) (ls : Array Slot), va_P (dC, dI) vwCl (WC cy ad29 ks30 (t27.1) u35) H → va_D A (WC cy ad29 ks30 (t27.1) u35) → va_S A s.heap H locs → lv_has ls 6 [(5, .int ((t27.2) (10 + 0) (17 + 16 * n33 + 9))), (4, .ref (ad29 (.st 0 n33))), (0, .ref (ad29 .cl)), (1, .int a1), (2, .int a2), (3, .int a3)] → W p l e (headSpec (wsg yX7_setRest cX7_setRest 6 (some .int)) ({ frames := 11, cells := 67, slots := 831, locals := 600 })).room s m ([.ref (ad .cl), .int a1, .int a2, .int a3] : List Value).toArray below meth c H locs 67 831 Qn (F0 m 62 ls [.int t38, .ref (ad29 (.st 0 n33))]) := by
            intro H locs ls hP hD hS hl
            obtain ⟨q9, h9, ez9⟩ := wc_set (cy := cy) (ad := ad29) (ks := ks30) (g := (t27.1)) (u := u35) (κ := (.st 0 n33)) (r := (10 + 0)) (i := (17 + 16 * n33 + 10)) (v := t38) hk31.1 ⟨(Or.inl (by decide)), (ix_lt e34)⟩ (own_st (show 0 < 12 by decide) (ix_lt e34) (by decide)) (sf_st_12)
            refine va_put (D := (dC, dI)) (ci := 6) (v := .int t38) (ty := .int) (C := RX6) (T := TX6) (N := 15) hx hb hts inlX6 tyX6 tyX6_ok nmX6 hown hK hP hD hS q9 h9 rfl 12 (by decide) (hts _ mw_628) (fun _ h9 => h9) rfl (by decide +kernel) rfl rfl (Nat.le_of_ble_eq_true rfl) dX7_setRest_62 (fun H locs hP hD hS => ?_)
            obtain ⟨u41, e42, hF⟩ := ob hF
            have hP : va_P (dC, dI) vwCl (WC cy ad29 ks30 (t27.1) u41) H := by rw [← pt_eq e42, ← ez9]; exact hP
            have hD : va_D A (WC cy ad29 ks30 (t27.1) u41) := by rw [← pt_eq e42, ← ez9]; exact hD
            clear ez9 h9
            refine lv_iload hx hb dX7_setRest_65 (lv_at hl 0 rfl) ?_
            have hZ := s3 hF
            have zro : ((t27.2) (10 + 0) (17 + 16 * n33 + 9)) = ro := (congrArg (fun q => q.1) hZ)
            have zgz : (t27.1) = gz := (congrArg (fun q => q.2.1) hZ)
            have zuz : u41 = uz := (congrArg (fun q => q.2.2) hZ)
            have hP9 : va_P (dC, dI) vwCl (WC cy ad29 ks30 gz uz) H := by rw [← zuz, ← zgz]; exact hP
            have hD9 : va_D A (WC cy ad29 ks30 gz uz) := by rw [← zuz, ← zgz]; exact hD
            have hk9 : GA nb ad29 gz ks30 := by rw [← zgz]; exact hk31
            have ax9 : AX g ad gz ad29 := by rw [← zgz]; exact ax32
            refine W.widen (k := 67) (n := 831) (by omega) (by omega) ?_
            rw [hQ]
            exact W.iret (v := ((t27.2) (10 + 0) (17 + 16 * n33 + 9))) hx hb hr (fun t ht hW => ⟨⟨((t27.2) (10 + 0) (17 + 16 * n33 + 9)), (), rfl, zro, ad29, ks30, hk9, ax9, by rw [ht]; exact hP9, hD9⟩, hS.F ht⟩) hS.2.2 dX7_setRest_67
          clear hF
          have hF := hJ39
          clear hJ39
          refine lv_if_le (tgt := 61) hx hb dX7_setRest_54 (by decide) (fun c37 => ?_) (fun c37 => ?_)
          · rw [if_pos c37] at hF
            refine lv_iconst (v := 0) hx hb dX7_setRest_61 (by decide) ?_
            have ht := s1 hF
            subst ht
            exact join40 _ _ _ hP hD hS (lv_sub hl [0, 1, 2, 3, 4, 5] rfl)
          · rw [if_neg c37] at hF
            refine lv_iload_n hx hb dX7_setRest_57 rfl (lv_at hl 5 rfl) ?_
            refine lv_goto (tgt := 62) hx hb dX7_setRest_58 (by decide) ?_
            have ht := s1 hF
            subst ht
            exact join40 _ _ _ hP hD hS (lv_sub hl [0, 1, 2, 3, 4, 5] rfl)
noncomputable def C7_setTray (g : CG) (u0 : RS) (a1 : Int32) : Option (Sum Int32 (Int32 × CG × RS)) := (C7_needRange (a1) (1) (20)).bind fun t1 => tr t1 fun t3 => (C7_remember g u0).bind fun t4 => (pt (t4.2) (10 + 0) 1 a1).bind fun u10 => some (.inr (((t4.2) (10 + 0) 1), (t4.1), u10))
set_option maxHeartbeats 4000000 in
set_option maxRecDepth 100000 in
theorem c_X7_setTray (l : Launch) (dC : Nat → ClassId) (dI : Nat → Nat → Nat) (cy : Nat → ClassId) (nb : Nat → Nat) (ad : CK → Nat) (ks : List CK) (g : CG) (hk : GA nb ad g ks) (u0 : RS) (a1 : Int32) (ro : Int32) (gz : CG) (uz : RS) (sz : Nat) (hF : C7_setTray g u0 a1 = some (.inr (ro, gz, uz))) : Met l yX7_setTray (wsg yX7_setTray cX7_setTray 3 (some .int)) ({ frames := 11, cells := 67, slots := 831, locals := 600 }) (va_Pc [.ref (ad .cl), .int a1] (fun U => U.heap.size = sz ∧ va_P (dC, dI) vwCl (WC cy ad ks g u0) U.heap ∧ va_K (dC, dI) vwCl (tyL cy) U ∧ va_D (fun _ => True) (WC cy ad ks g u0) ∧ GE nb (va_A (WC cy ad ks g u0) sz) U)) (va_Qi (fun (r : Int32) (_ : Unit) => r = ro) (fun _ t => ∃ (ad' : CK → Nat) (ks' : List CK), GA nb ad' gz ks' ∧ AX g ad gz ad' ∧ va_P (dC, dI) vwCl (WC cy ad' ks' gz uz) t.heap ∧ va_D (va_A (WC cy ad ks g u0) sz) (WC cy ad' ks' gz uz)) (va_A (WC cy ad ks g u0) sz)) 67 831 (va_A (WC cy ad ks g u0) sz) := by
  refine Met.ofW (cc := cX7_setTray) (maxL := 3) (ret := (some .int)) pn_X7 rfl ?_
  intro p e s m args below meth c s₁ B hml hv
  obtain ⟨rfl, hsz, hP, hK, hD0, hE⟩ := hv
  have hx := B.exec
  have hb := B.bytes
  have hr := B.returns
  have hts0 := atoms_spec (ws := (wsg yX7_setTray cX7_setTray 3 (some .int))) B.pre
  have hts : ∀ w ∈ wsL_law, w.before _ s = true := fun w h => hts0 w (List.mem_cons_of_mem _ h)
  have hown : s.vm.findClass RX7 = some m.cls := by have h9 := findClass_of_methodNamed B.named; exact h9
  have hlocks := B.notSynchronized
  subst hsz
  have hD := hD0.self (sz := s.heap.size)
  generalize hAe : va_A (WC cy ad ks g u0) s.heap.size = A at hD hE ⊢
  have hA : ∀ q : Nat, s.heap.size ≤ q → A q := fun q h => by rw [← hAe]; exact Or.inr h
  have hS : va_S A s.heap s.heap [] := va_S.rf
  have hl := lv_entry ([.ref (ad .cl), .int a1]) (n := 3) (Nat.le_of_ble_eq_true rfl)
  rw [lg_entry_eq]
  generalize (lg_sl ([.ref (ad .cl), .int a1]) ++ List.replicate (3 - (lg_sl ([.ref (ad .cl), .int a1])).length) Slot.unset).toArray = ls at hl ⊢
  have hl : lv_has ls 3 [(0, .ref (ad .cl)), (1, .int a1)] := hl
  generalize hHe : s.heap = H at hP hS ⊢
  have hS : va_S A s.heap H [] := by rw [hHe]; exact hS
  refine my_Q (fun Qn hQ => ?_)
  simp only [C7_setTray] at hF
  refine lv_iload_n hx hb dX7_setTray_0 rfl (lv_at hl 1 rfl) ?_
  refine lv_iconst (v := 1) hx hb dX7_setTray_1 (by decide) ?_
  refine lv_bipush (v := 20) hx hb dX7_setTray_2 (by decide) ?_
  obtain ⟨t1, e2, hF⟩ := ob hF
  rcases t1 with xz9 | t3
  · have hF : some (Sum.inl xz9) = some (.inr (ro, gz, uz)) := hF
    cases hF
  · dsimp only [tr] at hF
    have hPc : va_P (dC, dI) vwCl ([] : va_W) H := fun k q h => by simp at h
    have hDc : va_D A ([] : va_W) := ⟨fun i j p q h => by simp at h, fun k q h => by simp at h⟩
    have hFc := my_free0 hS hA
    refine va_callv (va_runS (As := [.int a1, .int 1, .int 20]) (rest := []) ⟨hx, hb, hml, hown, hts⟩ (c_X7_needRange l dC dI cy nb (a1) (1) (20) H.size e2) (va_cwS 3 hts (gS mw_815 mw_816 mw_2 mw_817) rfl rfl rfl (by decide +kernel) ⟨Nat.le_of_ble_eq_true rfl, Nat.le_of_ble_eq_true rfl⟩) (my_preS hPc hK hDc hE hS hFc) rfl rfl hl.1 rfl (lv_room (Nat.le_of_ble_eq_true rfl)) dX7_setTray_4 ⟨Nat.le_of_ble_eq_true rfl, Nat.le_of_ble_eq_true rfl⟩) hS (fun q _ h => hFc q h) hFc (fun u t H1 locs ht hvm hw hB hz1 hk1 hS => ?_)
    obtain ⟨hP1, hD1⟩ := hB
    rw [ht] at hP1
    have hP := my_keep hP hk1
    generalize H1 = H at hP hS ⊢
    clear hP1 hD1 hPc hDc hFc hk1 hz1 hvm ht
    refine lv_aload_n hx hb dX7_setTray_7 rfl (lv_at hl 0 rfl) ?_
    obtain ⟨t4, e5, hF⟩ := ob hF
    have hPc := hP
    have hDc := hD
    have hFc := my_free hD hS hA
    obtain ⟨q8, h8⟩ := wc_at (cy := cy) (ad := ad) (ks := ks) (g := g) (u := u0) (κ := .cl) hk.1 True.intro
    refine va_callv (va_runV (As := []) (rest := []) ⟨hx, hb, hml, hown, hts⟩ (c_X7_remember l dC dI cy nb ad ks g hk u0 (t4.1) (t4.2) H.size e5) (cwV 0 hts (gV mw_973 mw_974 mw_975 mw_2 mw_976) rfl rfl rfl (by decide +kernel) ⟨Nat.le_of_ble_eq_true rfl, Nat.le_of_ble_eq_true rfl⟩) (my_preV hPc hK hDc hE hS hFc (va_recv (q := (RX7, TX7, 12)) hK hP (ci := 7) (q0 := q8) rfl h8)) rfl rfl hl.1 rfl (lv_room (Nat.le_of_ble_eq_true rfl)) dX7_setTray_8 ⟨Nat.le_of_ble_eq_true rfl, Nat.le_of_ble_eq_true rfl⟩) hS (fun q _ h => hFc q h) hFc (fun u t H1 locs ht hvm hw hB hz1 hk1 hS => ?_)
    clear h8
    obtain ⟨ad6, ks7, hk8, ax9, hP1, hD1⟩ := hB
    rw [ht] at hP1
    have hP := hP1
    have hD := hD1.weaken (fun k q _ h => hFc q.1 h)
    generalize H1 = H at hP hS ⊢
    have hl : lv_has ls 3 [(0, .ref (ad6 .cl)), (1, .int a1)] := by rw [(ax9 .cl True.intro).2]; exact hl
    clear hP1 hD1 hPc hDc hFc hk1 hz1 hvm ht
    refine W.widen (k := 67) (n := 831) (by omega) (by omega) ?_
    refine lv_aload_n hx hb dX7_setTray_11 rfl (lv_at hl 0 rfl) ?_
    obtain ⟨q9, h9⟩ := wc_at (cy := cy) (ad := ad6) (ks := ks7) (g := (t4.1)) (u := (t4.2)) (κ := .cl) hk8.1 True.intro
    refine va_get (D := (dC, dI)) (ci := 7) (v := .ref (ad6 (.ln 0))) (C := RX7) (T := TX7) (N := 12) hx hb hts inlX7 hown hK hP q9 h9 rfl 0 (by decide) (hts _ mw_18) (fun _ h9 => h9) rfl dX7_setTray_12 ?_
    clear h9
    obtain ⟨q9, h9⟩ := wc_at (cy := cy) (ad := ad6) (ks := ks7) (g := (t4.1)) (u := (t4.2)) (κ := (.ln 0)) hk8.1 (Or.inl (by decide))
    refine va_get (D := (dC, dI)) (ci := 3) (v := .int ((t4.2) (10 + 0) 1)) (C := RX3) (T := TX3) (N := 17) hx hb hts inlX3 hown hK hP q9 h9 rfl 1 (by decide) (hts _ mw_600) (fun _ h9 => h9) rfl dX7_setTray_15 ?_
    clear h9
    refine lv_istore_n (lv' := [(2, .int ((t4.2) (10 + 0) 1)), (0, .ref (ad6 .cl)), (1, .int a1)]) hx hb dX7_setTray_18 rfl hl (by decide) rfl (fun ls hl => ?_)
    refine lv_aload_n hx hb dX7_setTray_19 rfl (lv_at hl 1 rfl) ?_
    obtain ⟨q9, h9⟩ := wc_at (cy := cy) (ad := ad6) (ks := ks7) (g := (t4.1)) (u := (t4.2)) (κ := .cl) hk8.1 True.intro
    refine va_get (D := (dC, dI)) (ci := 7) (v := .ref (ad6 (.ln 0))) (C := RX7) (T := TX7) (N := 12) hx hb hts inlX7 hown hK hP q9 h9 rfl 0 (by decide) (hts _ mw_18) (fun _ h9 => h9) rfl dX7_setTray_20 ?_
    clear h9
    refine lv_iload_n hx hb dX7_setTray_23 rfl (lv_at hl 2 rfl) ?_
    obtain ⟨q9, h9, ez9⟩ := wc_set (cy := cy) (ad := ad6) (ks := ks7) (g := (t4.1)) (u := (t4.2)) (κ := (.ln 0)) (r := (10 + 0)) (i := 1) (v := a1) hk8.1 (Or.inl (by decide)) (own_ln (show 0 < 12 by decide) (by decide)) (sf_ln_1)
    refine va_put (D := (dC, dI)) (ci := 3) (v := .int a1) (ty := .int) (C := RX3) (T := TX3) (N := 17) hx hb hts inlX3 tyX3 tyX3_ok nmX3 hown hK hP hD hS q9 h9 rfl 1 (by decide) (hts _ mw_600) (fun _ h9 => h9) rfl (by decide +kernel) rfl rfl (Nat.le_of_ble_eq_true rfl) dX7_setTray_24 (fun H locs hP hD hS => ?_)
    obtain ⟨u10, e11, hF⟩ := ob hF
    have hP : va_P (dC, dI) vwCl (WC cy ad6 ks7 (t4.1) u10) H := by rw [← pt_eq e11, ← ez9]; exact hP
    have hD : va_D A (WC cy ad6 ks7 (t4.1) u10) := by rw [← pt_eq e11, ← ez9]; exact hD
    clear ez9 h9
    refine lv_iload_n hx hb dX7_setTray_27 rfl (lv_at hl 0 rfl) ?_
    have hZ := s3 hF
    have zro : ((t4.2) (10 + 0) 1) = ro := (congrArg (fun q => q.1) hZ)
    have zgz : (t4.1) = gz := (congrArg (fun q => q.2.1) hZ)
    have zuz : u10 = uz := (congrArg (fun q => q.2.2) hZ)
    have hP9 : va_P (dC, dI) vwCl (WC cy ad6 ks7 gz uz) H := by rw [← zuz, ← zgz]; exact hP
    have hD9 : va_D A (WC cy ad6 ks7 gz uz) := by rw [← zuz, ← zgz]; exact hD
    have hk9 : GA nb ad6 gz ks7 := by rw [← zgz]; exact hk8
    have ax9 : AX g ad gz ad6 := by rw [← zgz]; exact ax9
    refine W.widen (k := 67) (n := 831) (by omega) (by omega) ?_
    rw [hQ]
    exact W.iret (v := ((t4.2) (10 + 0) 1)) hx hb hr (fun t ht hW => ⟨⟨((t4.2) (10 + 0) 1), (), rfl, zro, ad6, ks7, hk9, ax9, by rw [ht]; exact hP9, hD9⟩, hS.F ht⟩) hS.2.2 dX7_setTray_28
noncomputable def C7_setTries (g : CG) (u0 : RS) (a1 : Int32) : Option (Sum Int32 (Int32 × CG × RS)) := (C7_needRange (a1) (1) (9)).bind fun t1 => tr t1 fun t3 => (C7_remember g u0).bind fun t4 => (pt (t4.2) (10 + 0) 2 a1).bind fun u10 => some (.inr (((t4.2) (10 + 0) 2), (t4.1), u10))
set_option maxHeartbeats 4000000 in
set_option maxRecDepth 100000 in
theorem c_X7_setTries (l : Launch) (dC : Nat → ClassId) (dI : Nat → Nat → Nat) (cy : Nat → ClassId) (nb : Nat → Nat) (ad : CK → Nat) (ks : List CK) (g : CG) (hk : GA nb ad g ks) (u0 : RS) (a1 : Int32) (ro : Int32) (gz : CG) (uz : RS) (sz : Nat) (hF : C7_setTries g u0 a1 = some (.inr (ro, gz, uz))) : Met l yX7_setTries (wsg yX7_setTries cX7_setTries 3 (some .int)) ({ frames := 11, cells := 67, slots := 831, locals := 600 }) (va_Pc [.ref (ad .cl), .int a1] (fun U => U.heap.size = sz ∧ va_P (dC, dI) vwCl (WC cy ad ks g u0) U.heap ∧ va_K (dC, dI) vwCl (tyL cy) U ∧ va_D (fun _ => True) (WC cy ad ks g u0) ∧ GE nb (va_A (WC cy ad ks g u0) sz) U)) (va_Qi (fun (r : Int32) (_ : Unit) => r = ro) (fun _ t => ∃ (ad' : CK → Nat) (ks' : List CK), GA nb ad' gz ks' ∧ AX g ad gz ad' ∧ va_P (dC, dI) vwCl (WC cy ad' ks' gz uz) t.heap ∧ va_D (va_A (WC cy ad ks g u0) sz) (WC cy ad' ks' gz uz)) (va_A (WC cy ad ks g u0) sz)) 67 831 (va_A (WC cy ad ks g u0) sz) := by
  refine Met.ofW (cc := cX7_setTries) (maxL := 3) (ret := (some .int)) pn_X7 rfl ?_
  intro p e s m args below meth c s₁ B hml hv
  obtain ⟨rfl, hsz, hP, hK, hD0, hE⟩ := hv
  have hx := B.exec
  have hb := B.bytes
  have hr := B.returns
  have hts0 := atoms_spec (ws := (wsg yX7_setTries cX7_setTries 3 (some .int))) B.pre
  have hts : ∀ w ∈ wsL_law, w.before _ s = true := fun w h => hts0 w (List.mem_cons_of_mem _ h)
  have hown : s.vm.findClass RX7 = some m.cls := by have h9 := findClass_of_methodNamed B.named; exact h9
  have hlocks := B.notSynchronized
  subst hsz
  have hD := hD0.self (sz := s.heap.size)
  generalize hAe : va_A (WC cy ad ks g u0) s.heap.size = A at hD hE ⊢
  have hA : ∀ q : Nat, s.heap.size ≤ q → A q := fun q h => by rw [← hAe]; exact Or.inr h
  have hS : va_S A s.heap s.heap [] := va_S.rf
  have hl := lv_entry ([.ref (ad .cl), .int a1]) (n := 3) (Nat.le_of_ble_eq_true rfl)
  rw [lg_entry_eq]
  generalize (lg_sl ([.ref (ad .cl), .int a1]) ++ List.replicate (3 - (lg_sl ([.ref (ad .cl), .int a1])).length) Slot.unset).toArray = ls at hl ⊢
  have hl : lv_has ls 3 [(0, .ref (ad .cl)), (1, .int a1)] := hl
  generalize hHe : s.heap = H at hP hS ⊢
  have hS : va_S A s.heap H [] := by rw [hHe]; exact hS
  refine my_Q (fun Qn hQ => ?_)
  simp only [C7_setTries] at hF
  refine lv_iload_n hx hb dX7_setTries_0 rfl (lv_at hl 1 rfl) ?_
  refine lv_iconst (v := 1) hx hb dX7_setTries_1 (by decide) ?_
  refine lv_bipush (v := 9) hx hb dX7_setTries_2 (by decide) ?_
  obtain ⟨t1, e2, hF⟩ := ob hF
  rcases t1 with xz9 | t3
  · have hF : some (Sum.inl xz9) = some (.inr (ro, gz, uz)) := hF
    cases hF
  · dsimp only [tr] at hF
    have hPc : va_P (dC, dI) vwCl ([] : va_W) H := fun k q h => by simp at h
    have hDc : va_D A ([] : va_W) := ⟨fun i j p q h => by simp at h, fun k q h => by simp at h⟩
    have hFc := my_free0 hS hA
    refine va_callv (va_runS (As := [.int a1, .int 1, .int 9]) (rest := []) ⟨hx, hb, hml, hown, hts⟩ (c_X7_needRange l dC dI cy nb (a1) (1) (9) H.size e2) (va_cwS 3 hts (gS mw_815 mw_816 mw_2 mw_817) rfl rfl rfl (by decide +kernel) ⟨Nat.le_of_ble_eq_true rfl, Nat.le_of_ble_eq_true rfl⟩) (my_preS hPc hK hDc hE hS hFc) rfl rfl hl.1 rfl (lv_room (Nat.le_of_ble_eq_true rfl)) dX7_setTries_4 ⟨Nat.le_of_ble_eq_true rfl, Nat.le_of_ble_eq_true rfl⟩) hS (fun q _ h => hFc q h) hFc (fun u t H1 locs ht hvm hw hB hz1 hk1 hS => ?_)
    obtain ⟨hP1, hD1⟩ := hB
    rw [ht] at hP1
    have hP := my_keep hP hk1
    generalize H1 = H at hP hS ⊢
    clear hP1 hD1 hPc hDc hFc hk1 hz1 hvm ht
    refine lv_aload_n hx hb dX7_setTries_7 rfl (lv_at hl 0 rfl) ?_
    obtain ⟨t4, e5, hF⟩ := ob hF
    have hPc := hP
    have hDc := hD
    have hFc := my_free hD hS hA
    obtain ⟨q8, h8⟩ := wc_at (cy := cy) (ad := ad) (ks := ks) (g := g) (u := u0) (κ := .cl) hk.1 True.intro
    refine va_callv (va_runV (As := []) (rest := []) ⟨hx, hb, hml, hown, hts⟩ (c_X7_remember l dC dI cy nb ad ks g hk u0 (t4.1) (t4.2) H.size e5) (cwV 0 hts (gV mw_973 mw_974 mw_975 mw_2 mw_976) rfl rfl rfl (by decide +kernel) ⟨Nat.le_of_ble_eq_true rfl, Nat.le_of_ble_eq_true rfl⟩) (my_preV hPc hK hDc hE hS hFc (va_recv (q := (RX7, TX7, 12)) hK hP (ci := 7) (q0 := q8) rfl h8)) rfl rfl hl.1 rfl (lv_room (Nat.le_of_ble_eq_true rfl)) dX7_setTries_8 ⟨Nat.le_of_ble_eq_true rfl, Nat.le_of_ble_eq_true rfl⟩) hS (fun q _ h => hFc q h) hFc (fun u t H1 locs ht hvm hw hB hz1 hk1 hS => ?_)
    clear h8
    obtain ⟨ad6, ks7, hk8, ax9, hP1, hD1⟩ := hB
    rw [ht] at hP1
    have hP := hP1
    have hD := hD1.weaken (fun k q _ h => hFc q.1 h)
    generalize H1 = H at hP hS ⊢
    have hl : lv_has ls 3 [(0, .ref (ad6 .cl)), (1, .int a1)] := by rw [(ax9 .cl True.intro).2]; exact hl
    clear hP1 hD1 hPc hDc hFc hk1 hz1 hvm ht
    refine W.widen (k := 67) (n := 831) (by omega) (by omega) ?_
    refine lv_aload_n hx hb dX7_setTries_11 rfl (lv_at hl 0 rfl) ?_
    obtain ⟨q9, h9⟩ := wc_at (cy := cy) (ad := ad6) (ks := ks7) (g := (t4.1)) (u := (t4.2)) (κ := .cl) hk8.1 True.intro
    refine va_get (D := (dC, dI)) (ci := 7) (v := .ref (ad6 (.ln 0))) (C := RX7) (T := TX7) (N := 12) hx hb hts inlX7 hown hK hP q9 h9 rfl 0 (by decide) (hts _ mw_18) (fun _ h9 => h9) rfl dX7_setTries_12 ?_
    clear h9
    obtain ⟨q9, h9⟩ := wc_at (cy := cy) (ad := ad6) (ks := ks7) (g := (t4.1)) (u := (t4.2)) (κ := (.ln 0)) hk8.1 (Or.inl (by decide))
    refine va_get (D := (dC, dI)) (ci := 3) (v := .int ((t4.2) (10 + 0) 2)) (C := RX3) (T := TX3) (N := 17) hx hb hts inlX3 hown hK hP q9 h9 rfl 2 (by decide) (hts _ mw_601) (fun _ h9 => h9) rfl dX7_setTries_15 ?_
    clear h9
    refine lv_istore_n (lv' := [(2, .int ((t4.2) (10 + 0) 2)), (0, .ref (ad6 .cl)), (1, .int a1)]) hx hb dX7_setTries_18 rfl hl (by decide) rfl (fun ls hl => ?_)
    refine lv_aload_n hx hb dX7_setTries_19 rfl (lv_at hl 1 rfl) ?_
    obtain ⟨q9, h9⟩ := wc_at (cy := cy) (ad := ad6) (ks := ks7) (g := (t4.1)) (u := (t4.2)) (κ := .cl) hk8.1 True.intro
    refine va_get (D := (dC, dI)) (ci := 7) (v := .ref (ad6 (.ln 0))) (C := RX7) (T := TX7) (N := 12) hx hb hts inlX7 hown hK hP q9 h9 rfl 0 (by decide) (hts _ mw_18) (fun _ h9 => h9) rfl dX7_setTries_20 ?_
    clear h9
    refine lv_iload_n hx hb dX7_setTries_23 rfl (lv_at hl 2 rfl) ?_
    obtain ⟨q9, h9, ez9⟩ := wc_set (cy := cy) (ad := ad6) (ks := ks7) (g := (t4.1)) (u := (t4.2)) (κ := (.ln 0)) (r := (10 + 0)) (i := 2) (v := a1) hk8.1 (Or.inl (by decide)) (own_ln (show 0 < 12 by decide) (by decide)) (sf_ln_2)
    refine va_put (D := (dC, dI)) (ci := 3) (v := .int a1) (ty := .int) (C := RX3) (T := TX3) (N := 17) hx hb hts inlX3 tyX3 tyX3_ok nmX3 hown hK hP hD hS q9 h9 rfl 2 (by decide) (hts _ mw_601) (fun _ h9 => h9) rfl (by decide +kernel) rfl rfl (Nat.le_of_ble_eq_true rfl) dX7_setTries_24 (fun H locs hP hD hS => ?_)
    obtain ⟨u10, e11, hF⟩ := ob hF
    have hP : va_P (dC, dI) vwCl (WC cy ad6 ks7 (t4.1) u10) H := by rw [← pt_eq e11, ← ez9]; exact hP
    have hD : va_D A (WC cy ad6 ks7 (t4.1) u10) := by rw [← pt_eq e11, ← ez9]; exact hD
    clear ez9 h9
    refine lv_iload_n hx hb dX7_setTries_27 rfl (lv_at hl 0 rfl) ?_
    have hZ := s3 hF
    have zro : ((t4.2) (10 + 0) 2) = ro := (congrArg (fun q => q.1) hZ)
    have zgz : (t4.1) = gz := (congrArg (fun q => q.2.1) hZ)
    have zuz : u10 = uz := (congrArg (fun q => q.2.2) hZ)
    have hP9 : va_P (dC, dI) vwCl (WC cy ad6 ks7 gz uz) H := by rw [← zuz, ← zgz]; exact hP
    have hD9 : va_D A (WC cy ad6 ks7 gz uz) := by rw [← zuz, ← zgz]; exact hD
    have hk9 : GA nb ad6 gz ks7 := by rw [← zgz]; exact hk8
    have ax9 : AX g ad gz ad6 := by rw [← zgz]; exact ax9
    refine W.widen (k := 67) (n := 831) (by omega) (by omega) ?_
    rw [hQ]
    exact W.iret (v := ((t4.2) (10 + 0) 2)) hx hb hr (fun t ht hW => ⟨⟨((t4.2) (10 + 0) 2), (), rfl, zro, ad6, ks7, hk9, ax9, by rw [ht]; exact hP9, hD9⟩, hS.F ht⟩) hS.2.2 dX7_setTries_28
noncomputable def C7_setting (g : CG) (u0 : RS) (a1 : Int32) : Option (Sum Int32 (Int32)) := if a1 = 0 then (some (.inr (u0 (10 + 0) 0))) else (if a1 = 1 then (some (.inr (u0 (10 + 0) 1))) else (if a1 = 2 then (some (.inr (u0 (10 + 0) 2))) else (if a1 = 3 then (some (.inr (u0 (10 + 0) 3))) else (if a1 = 4 then (some (.inr (u0 (10 + 0) 4))) else (some (.inl (2 : Int32)))))))
set_option maxHeartbeats 4000000 in
set_option maxRecDepth 100000 in
theorem c_X7_setting (l : Launch) (dC : Nat → ClassId) (dI : Nat → Nat → Nat) (cy : Nat → ClassId) (nb : Nat → Nat) (ad : CK → Nat) (ks : List CK) (g : CG) (hk : GA nb ad g ks) (u0 : RS) (a1 : Int32) (ro : Int32) (sz : Nat) (hF : C7_setting g u0 a1 = some (.inr ro)) : Met l yX7_setting (wsg yX7_setting cX7_setting 2 (some .int)) ({ frames := 7, cells := 0, slots := 0, locals := 200 }) (va_Pc [.ref (ad .cl), .int a1] (fun U => U.heap.size = sz ∧ va_P (dC, dI) vwCl (WC cy ad ks g u0) U.heap ∧ va_K (dC, dI) vwCl (tyL cy) U ∧ va_D (fun _ => True) (WC cy ad ks g u0) ∧ GE nb (va_A (WC cy ad ks g u0) sz) U)) (va_Qi (fun (r : Int32) (_ : Unit) => r = ro) (fun _ t => va_P (dC, dI) vwCl (WC cy ad ks g u0) t.heap ∧ va_D (va_A (WC cy ad ks g u0) sz) (WC cy ad ks g u0)) (va_A (WC cy ad ks g u0) sz)) 0 0 (va_A (WC cy ad ks g u0) sz) := by
  refine Met.ofW (cc := cX7_setting) (maxL := 2) (ret := (some .int)) pn_X7 rfl ?_
  intro p e s m args below meth c s₁ B hml hv
  obtain ⟨rfl, hsz, hP, hK, hD0, hE⟩ := hv
  have hx := B.exec
  have hb := B.bytes
  have hr := B.returns
  have hts0 := atoms_spec (ws := (wsg yX7_setting cX7_setting 2 (some .int))) B.pre
  have hts : ∀ w ∈ wsL_law, w.before _ s = true := fun w h => hts0 w (List.mem_cons_of_mem _ h)
  have hown : s.vm.findClass RX7 = some m.cls := by have h9 := findClass_of_methodNamed B.named; exact h9
  have hlocks := B.notSynchronized
  subst hsz
  have hD := hD0.self (sz := s.heap.size)
  generalize hAe : va_A (WC cy ad ks g u0) s.heap.size = A at hD hE ⊢
  have hA : ∀ q : Nat, s.heap.size ≤ q → A q := fun q h => by rw [← hAe]; exact Or.inr h
  have hS : va_S A s.heap s.heap [] := va_S.rf
  have hl := lv_entry ([.ref (ad .cl), .int a1]) (n := 2) (Nat.le_of_ble_eq_true rfl)
  rw [lg_entry_eq]
  generalize (lg_sl ([.ref (ad .cl), .int a1]) ++ List.replicate (2 - (lg_sl ([.ref (ad .cl), .int a1])).length) Slot.unset).toArray = ls at hl ⊢
  have hl : lv_has ls 2 [(0, .ref (ad .cl)), (1, .int a1)] := hl
  generalize hHe : s.heap = H at hP hS ⊢
  have hS : va_S A s.heap H [] := by rw [hHe]; exact hS
  refine my_Q (fun Qn hQ => ?_)
  simp only [C7_setting] at hF
  refine lv_iload_n hx hb dX7_setting_0 rfl (lv_at hl 1 rfl) ?_
  by_cases c1 : a1 = 0
  · rw [if_pos c1] at hF
    refine my_topi (y := 0) c1 ?_
    refine lv_tableIn (off := 35) (tgt := 36) hx hb dX7_setting_1 (by decide) (by decide) (by decide) (by decide) ?_
    refine lv_aload_n hx hb dX7_setting_36 rfl (lv_at hl 0 rfl) ?_
    obtain ⟨q9, h9⟩ := wc_at (cy := cy) (ad := ad) (ks := ks) (g := g) (u := u0) (κ := .cl) hk.1 True.intro
    refine va_get (D := (dC, dI)) (ci := 7) (v := .ref (ad (.ln 0))) (C := RX7) (T := TX7) (N := 12) hx hb hts inlX7 hown hK hP q9 h9 rfl 0 (by decide) (hts _ mw_18) (fun _ h9 => h9) rfl dX7_setting_37 ?_
    clear h9
    obtain ⟨q9, h9⟩ := wc_at (cy := cy) (ad := ad) (ks := ks) (g := g) (u := u0) (κ := (.ln 0)) hk.1 (Or.inl (by decide))
    refine va_get (D := (dC, dI)) (ci := 3) (v := .int (u0 (10 + 0) 0)) (C := RX3) (T := TX3) (N := 17) hx hb hts inlX3 hown hK hP q9 h9 rfl 0 (by decide) (hts _ mw_599) (fun _ h9 => h9) rfl dX7_setting_40 ?_
    clear h9
    have hZ := s3 hF
    have zro : (u0 (10 + 0) 0) = ro := hZ
    have hP9 : va_P (dC, dI) vwCl (WC cy ad ks g u0) H := by exact hP
    have hD9 : va_D A (WC cy ad ks g u0) := by exact hD
    rw [hQ]
    exact W.iret (v := (u0 (10 + 0) 0)) hx hb hr (fun t ht hW => ⟨⟨(u0 (10 + 0) 0), (), rfl, zro, by rw [ht]; exact hP9, hD9⟩, hS.F ht⟩) hS.2.2 dX7_setting_43
  · rw [if_neg c1] at hF
    by_cases c2 : a1 = 1
    · rw [if_pos c2] at hF
      refine my_topi (y := 1) c2 ?_
      refine lv_tableIn (off := 43) (tgt := 44) hx hb dX7_setting_1 (by decide) (by decide) (by decide) (by decide) ?_
      refine lv_aload_n hx hb dX7_setting_44 rfl (lv_at hl 0 rfl) ?_
      obtain ⟨q9, h9⟩ := wc_at (cy := cy) (ad := ad) (ks := ks) (g := g) (u := u0) (κ := .cl) hk.1 True.intro
      refine va_get (D := (dC, dI)) (ci := 7) (v := .ref (ad (.ln 0))) (C := RX7) (T := TX7) (N := 12) hx hb hts inlX7 hown hK hP q9 h9 rfl 0 (by decide) (hts _ mw_18) (fun _ h9 => h9) rfl dX7_setting_45 ?_
      clear h9
      obtain ⟨q9, h9⟩ := wc_at (cy := cy) (ad := ad) (ks := ks) (g := g) (u := u0) (κ := (.ln 0)) hk.1 (Or.inl (by decide))
      refine va_get (D := (dC, dI)) (ci := 3) (v := .int (u0 (10 + 0) 1)) (C := RX3) (T := TX3) (N := 17) hx hb hts inlX3 hown hK hP q9 h9 rfl 1 (by decide) (hts _ mw_600) (fun _ h9 => h9) rfl dX7_setting_48 ?_
      clear h9
      have hZ := s3 hF
      have zro : (u0 (10 + 0) 1) = ro := hZ
      have hP9 : va_P (dC, dI) vwCl (WC cy ad ks g u0) H := by exact hP
      have hD9 : va_D A (WC cy ad ks g u0) := by exact hD
      rw [hQ]
      exact W.iret (v := (u0 (10 + 0) 1)) hx hb hr (fun t ht hW => ⟨⟨(u0 (10 + 0) 1), (), rfl, zro, by rw [ht]; exact hP9, hD9⟩, hS.F ht⟩) hS.2.2 dX7_setting_51
    · rw [if_neg c2] at hF
      by_cases c3 : a1 = 2
      · rw [if_pos c3] at hF
        refine my_topi (y := 2) c3 ?_
        refine lv_tableIn (off := 51) (tgt := 52) hx hb dX7_setting_1 (by decide) (by decide) (by decide) (by decide) ?_
        refine lv_aload_n hx hb dX7_setting_52 rfl (lv_at hl 0 rfl) ?_
        obtain ⟨q9, h9⟩ := wc_at (cy := cy) (ad := ad) (ks := ks) (g := g) (u := u0) (κ := .cl) hk.1 True.intro
        refine va_get (D := (dC, dI)) (ci := 7) (v := .ref (ad (.ln 0))) (C := RX7) (T := TX7) (N := 12) hx hb hts inlX7 hown hK hP q9 h9 rfl 0 (by decide) (hts _ mw_18) (fun _ h9 => h9) rfl dX7_setting_53 ?_
        clear h9
        obtain ⟨q9, h9⟩ := wc_at (cy := cy) (ad := ad) (ks := ks) (g := g) (u := u0) (κ := (.ln 0)) hk.1 (Or.inl (by decide))
        refine va_get (D := (dC, dI)) (ci := 3) (v := .int (u0 (10 + 0) 2)) (C := RX3) (T := TX3) (N := 17) hx hb hts inlX3 hown hK hP q9 h9 rfl 2 (by decide) (hts _ mw_601) (fun _ h9 => h9) rfl dX7_setting_56 ?_
        clear h9
        have hZ := s3 hF
        have zro : (u0 (10 + 0) 2) = ro := hZ
        have hP9 : va_P (dC, dI) vwCl (WC cy ad ks g u0) H := by exact hP
        have hD9 : va_D A (WC cy ad ks g u0) := by exact hD
        rw [hQ]
        exact W.iret (v := (u0 (10 + 0) 2)) hx hb hr (fun t ht hW => ⟨⟨(u0 (10 + 0) 2), (), rfl, zro, by rw [ht]; exact hP9, hD9⟩, hS.F ht⟩) hS.2.2 dX7_setting_59
      · rw [if_neg c3] at hF
        by_cases c4 : a1 = 3
        · rw [if_pos c4] at hF
          refine my_topi (y := 3) c4 ?_
          refine lv_tableIn (off := 59) (tgt := 60) hx hb dX7_setting_1 (by decide) (by decide) (by decide) (by decide) ?_
          refine lv_aload_n hx hb dX7_setting_60 rfl (lv_at hl 0 rfl) ?_
          obtain ⟨q9, h9⟩ := wc_at (cy := cy) (ad := ad) (ks := ks) (g := g) (u := u0) (κ := .cl) hk.1 True.intro
          refine va_get (D := (dC, dI)) (ci := 7) (v := .ref (ad (.ln 0))) (C := RX7) (T := TX7) (N := 12) hx hb hts inlX7 hown hK hP q9 h9 rfl 0 (by decide) (hts _ mw_18) (fun _ h9 => h9) rfl dX7_setting_61 ?_
          clear h9
          obtain ⟨q9, h9⟩ := wc_at (cy := cy) (ad := ad) (ks := ks) (g := g) (u := u0) (κ := (.ln 0)) hk.1 (Or.inl (by decide))
          refine va_get (D := (dC, dI)) (ci := 3) (v := .int (u0 (10 + 0) 3)) (C := RX3) (T := TX3) (N := 17) hx hb hts inlX3 hown hK hP q9 h9 rfl 3 (by decide) (hts _ mw_602) (fun _ h9 => h9) rfl dX7_setting_64 ?_
          clear h9
          have hZ := s3 hF
          have zro : (u0 (10 + 0) 3) = ro := hZ
          have hP9 : va_P (dC, dI) vwCl (WC cy ad ks g u0) H := by exact hP
          have hD9 : va_D A (WC cy ad ks g u0) := by exact hD
          rw [hQ]
          exact W.iret (v := (u0 (10 + 0) 3)) hx hb hr (fun t ht hW => ⟨⟨(u0 (10 + 0) 3), (), rfl, zro, by rw [ht]; exact hP9, hD9⟩, hS.F ht⟩) hS.2.2 dX7_setting_67
        · rw [if_neg c4] at hF
          by_cases c5 : a1 = 4
          · rw [if_pos c5] at hF
            refine my_topi (y := 4) c5 ?_
            refine lv_tableIn (off := 67) (tgt := 68) hx hb dX7_setting_1 (by decide) (by decide) (by decide) (by decide) ?_
            refine lv_aload_n hx hb dX7_setting_68 rfl (lv_at hl 0 rfl) ?_
            obtain ⟨q9, h9⟩ := wc_at (cy := cy) (ad := ad) (ks := ks) (g := g) (u := u0) (κ := .cl) hk.1 True.intro
            refine va_get (D := (dC, dI)) (ci := 7) (v := .ref (ad (.ln 0))) (C := RX7) (T := TX7) (N := 12) hx hb hts inlX7 hown hK hP q9 h9 rfl 0 (by decide) (hts _ mw_18) (fun _ h9 => h9) rfl dX7_setting_69 ?_
            clear h9
            obtain ⟨q9, h9⟩ := wc_at (cy := cy) (ad := ad) (ks := ks) (g := g) (u := u0) (κ := (.ln 0)) hk.1 (Or.inl (by decide))
            refine va_get (D := (dC, dI)) (ci := 3) (v := .int (u0 (10 + 0) 4)) (C := RX3) (T := TX3) (N := 17) hx hb hts inlX3 hown hK hP q9 h9 rfl 4 (by decide) (hts _ mw_603) (fun _ h9 => h9) rfl dX7_setting_72 ?_
            clear h9
            have hZ := s3 hF
            have zro : (u0 (10 + 0) 4) = ro := hZ
            have hP9 : va_P (dC, dI) vwCl (WC cy ad ks g u0) H := by exact hP
            have hD9 : va_D A (WC cy ad ks g u0) := by exact hD
            rw [hQ]
            exact W.iret (v := (u0 (10 + 0) 4)) hx hb hr (fun t ht hW => ⟨⟨(u0 (10 + 0) 4), (), rfl, zro, by rw [ht]; exact hP9, hD9⟩, hS.F ht⟩) hS.2.2 dX7_setting_75
          · rw [if_neg c5] at hF
            refine lv_tableOut (tgt := 76) hx hb dX7_setting_1 (sw_out (lo := 0) (hi := 4) (fun k h1 h2 => by rcases (show k = 0 ∨ k = 1 ∨ k = 2 ∨ k = 3 ∨ k = 4 by omega) with rfl | rfl | rfl | rfl | rfl <;> intro q <;> first | exact c1 (q.trans (by decide)) | exact c2 (q.trans (by decide)) | exact c3 (q.trans (by decide)) | exact c4 (q.trans (by decide)) | exact c5 (q.trans (by decide)))) (by decide) ?_
            cases hF
