noncomputable def H_X9_leave (a0 : Nat) (a1 : Int32) : MH Unit := mb (rR (a0) 9 10) fun x1 => mb (mg fun n E => fO n E (x1) 14) fun _ => mb (H_Jx4a65c_get_915e3 (x1) (a1)) fun x5 => mb (mg fun n E => fO n E (x5) 8) fun _ => mb (wI (x5) 8 3 (3)) fun _ => mb (wI (x5) 8 4 ((-1))) fun _ => mb (rI (a0) 9 6) fun x18 => mb (wI (x5) 8 7 (x18)) fun _ => mb (rR (a0) 9 9) fun x22 => mb (H_J6_valueOf_2dffe (a1)) fun x25 => mb (mg fun n E => fO n E (x22) 14) fun _ => mb (H_Jx4a65c_add_9ea2d (x22) (x25)) fun x34 => mb (rR (a0) 9 12) fun x40 => mb (rI (x5) 8 0) fun x43 => mb (rA (x40) 1 ((2 * x43))) fun x45 => mb (wA (x40) 1 ((2 * x43)) ((x45 + 1))) fun _ => mr ()
set_option maxHeartbeats 4000000 in
set_option maxRecDepth 100000 in
theorem h_X9_leave (l : Launch) (dC : Nat → ClassId) (dI : Nat → Nat → Nat) (cy : Nat → ClassId) (nb : Nat → Nat) (ad0 : Nat → Nat) (n0 s0 : Nat) (E0 : HE) (hC : clo n0 E0) (a0 Aa0 : Nat) (ha0 : rf nb ad0 n0 a0 Aa0) (a1 : Int32) (sz : Nat) (nz sz9 : Nat) (Ez : HE) (hF : (H_X9_leave a0 a1).1 (n0, s0, E0) = some ((), nz, sz9, Ez)) : Met l yX9_leave (wsg yX9_leave cX9_leave 3 none) ({ frames := 14, cells := nz - n0, slots := sz9 - s0, locals := 900 }) (va_Pc [.ref Aa0, .int a1] (fun U => U.heap.size = sz ∧ va_P (dC, dI) vwCl (CH cy nb ad0 n0 E0) U.heap ∧ va_K (dC, dI) vwCl (tyL cy) U ∧ va_D (fun _ => True) (CH cy nb ad0 n0 E0) ∧ GL nb (va_A (CH cy nb ad0 n0 E0) sz) U)) (va_Qv (fun (_ : Unit) => True) (fun _ t => ∃ ad2 : Nat → Nat, axh n0 ad0 nz ad2 ∧ va_P (dC, dI) vwCl (CH cy nb ad2 nz Ez) t.heap ∧ va_D (va_A (CH cy nb ad0 n0 E0) sz) (CH cy nb ad2 nz Ez)) (va_A (CH cy nb ad0 n0 E0) sz)) (nz - n0) (sz9 - s0) (va_A (CH cy nb ad0 n0 E0) sz) := by
  refine Met.ofW (cc := cX9_leave) (maxL := 3) (ret := none) (by decide) rfl ?_
  intro p e s m args below meth c s₁ B hml hv
  obtain ⟨rfl, hsz, hP, hK, hD0, hE⟩ := hv
  have hx := B.exec
  have hb := B.bytes
  have hr := B.returns
  have hts0 := atoms_spec (ws := (wsg yX9_leave cX9_leave 3 none)) B.pre
  have hts : ∀ w ∈ wsL_law, w.before _ s = true := fun w h => hts0 w (List.mem_cons_of_mem _ h)
  have hown : s.vm.findClass RX9 = some m.cls := by have h9 := findClass_of_methodNamed B.named; exact h9
  subst hsz
  have hD := hD0.self (sz := s.heap.size)
  generalize hAe : va_A (CH cy nb ad0 n0 E0) s.heap.size = A at hD hE ⊢
  have hA : ∀ q : Nat, s.heap.size ≤ q → A q := fun q h => by rw [← hAe]; exact Or.inr h
  have hS : va_S A s.heap s.heap [] := va_S.rf
  have hl := lv_entry ([.ref Aa0, .int a1]) (n := 3) (Nat.le_of_ble_eq_true rfl)
  rw [lg_entry_eq]
  generalize (lg_sl ([.ref Aa0, .int a1]) ++ List.replicate (3 - (lg_sl ([.ref Aa0, .int a1])).length) Slot.unset).toArray = ls at hl ⊢
  have hl : lv_has ls 3 [(0, .ref Aa0), (1, .int a1)] := hl
  generalize hHe : s.heap = H at hP hS ⊢
  have hS : va_S A s.heap H [] := by rw [hHe]; exact hS
  refine my_Q (fun Qn hQ => ?_)
  simp only [H_X9_leave] at hF
  have hX : axh n0 ad0 n0 ad0 := axh_refl
  have hN : n0 ≤ n0 := Nat.le_refl _
  have hT : s0 ≤ s0 := Nat.le_refl _
  refine W.widen (k := n0 - n0) (n := s0 - s0) (by omega) (by omega) ?_
  refine lv_aload_n hx hb dX9_leave_0 rfl (lv_at hl 0 rfl) ?_
  obtain ⟨x1, e2, hF⟩ := mg_o hF
  obtain ⟨hr3, fs9, h9, g9⟩ := rdR hP hC ha0 e2
  refine va_get (D := (dC, dI)) (ci := 9) (v := .ref (AD nb ad0 x1)) (C := RX9) (T := TX9) (N := 14) hx hb hts inlX9 hown hK h9 0 rfl rfl 10 (by decide) (hts _ mw_108) (fun _ h9 => h9) g9 dX9_leave_1 ?_
  clear h9 g9
  refine lv_iload_n hx hb dX9_leave_4 rfl (lv_at hl 1 rfl) ?_
  obtain ⟨fs9, e4, hF⟩ := mg_o hF
  obtain ⟨x5, n7, s8, E9, e6, hF⟩ := mb_o hF
  have hm := mle e6
  have hM1 := mle1 hF
  have hM2 := mle2 hF
  have hm1 := hm.1
  have hm2 := hm.2.1
  have hFc := my_free hD hS hA
  refine va_callr (va_runV (C := RJx4a65c) (As := [.int a1]) (rest := []) ⟨hx, hb, hml, hown, hts⟩ (h_Jx4a65c_get_915e3 l dC dI cy nb ad0 n0 s0 E0 hC (x1) (AD nb ad0 x1) hr3 (a1) H.size x5 n7 s8 E9 e6) (cwV 1 hts (gV mw_347 mw_235 mw_236 mw_12 mw_237) rfl rfl rfl (by decide +kernel) ⟨Nat.le_of_ble_eq_true rfl, Nat.le_of_ble_eq_true rfl⟩) (hl_preV hP hK hD hE hS hFc (va_recv hK (rdO_ hP hC hr3 e4) (ci := 14) (q0 := 0) rfl rfl)) rfl rfl hl.1 rfl (lv_room (Nat.le_of_ble_eq_true rfl)) dX9_leave_5 ⟨show n0 - n0 + (n7 - n0) ≤ nz - n0 by omega, show s0 - s0 + (s8 - s0) ≤ sz9 - s0 by omega⟩) hS (fun q _ h => hFc q h) hFc (fun u ra t H1 locs ht hvm hw hB hz1 hk1 hS => ?_)
  obtain ⟨ad10, hax, hr11, hP1, hD1⟩ := hB
  rw [ht] at hP1
  have hP := hP1
  have hD := hD1.weaken (fun k q _ h => hFc q.1 h)
  generalize H1 = H at hP hS ⊢
  have ha0 := ha0.mv hC.1 hax
  have hX := hX.trans hax
  have hC := hm.2.2 hC
  have hN : n0 ≤ n7 := Nat.le_trans hN hm1
  have hT : s0 ≤ s8 := Nat.le_trans hT hm2
  refine W.widen (k := n7 - n0) (n := s8 - s0) (by omega) (by omega) ?_
  clear hP1 hD1 hFc hk1 hz1 hvm ht hax hm hm1 hm2 hM1 hM2
  refine my_top (y := .ref (AD nb ad10 x5)) (congrArg Value.ref hr11.2.symm) ?_
  have hr11 := rf_self hr11
  obtain ⟨fs9, e13, hF⟩ := mg_o hF
  refine va_castS hx hb hown (hts _ mw_174) (hK.1 8 _ rfl).2 (va_recv hK (rdO_ hP hC hr11 e13) (ci := 8) (q0 := 0) rfl rfl) dX9_leave_8 ?_
  refine lv_astore_n (lv' := [(2, .ref (AD nb ad10 x5)), (0, .ref Aa0), (1, .int a1)]) hx hb dX9_leave_11 rfl hl (by decide) rfl (fun ls hl => ?_)
  refine lv_aload_n hx hb dX9_leave_12 rfl (lv_at hl 0 rfl) ?_
  refine lv_iconst (v := 3) hx hb dX9_leave_13 (by decide) ?_
  obtain ⟨E14, e15, hF⟩ := mw_o hF
  obtain ⟨q9, fs9, h9, ez9⟩ := wrI (cy := cy) hC hr11 e15
  refine va_put (D := (dC, dI)) (ci := 8) (v := .int 3) (ty := .int) (C := RX8) (T := TX8) (N := 9) hx hb hts inlX8 tyX8 tyX8_ok nmX8 hown hK hP hD hS q9 h9 rfl 3 (by decide) (hts _ mw_175) (fun _ h9 => h9) rfl (by decide +kernel) rfl rfl (Nat.le_of_ble_eq_true rfl) dX9_leave_14 (fun H locs hP hD hS => ?_)
  rw [ez9] at hP hD
  clear ez9 h9
  have hC := sI_clo e15 hC
  refine lv_aload_n hx hb dX9_leave_17 rfl (lv_at hl 0 rfl) ?_
  refine lv_iconst (v := (-1)) hx hb dX9_leave_18 (by decide) ?_
  obtain ⟨E16, e17, hF⟩ := mw_o hF
  obtain ⟨q9, fs9, h9, ez9⟩ := wrI (cy := cy) hC hr11 e17
  refine va_put (D := (dC, dI)) (ci := 8) (v := .int (-1)) (ty := .int) (C := RX8) (T := TX8) (N := 9) hx hb hts inlX8 tyX8 tyX8_ok nmX8 hown hK hP hD hS q9 h9 rfl 4 (by decide) (hts _ mw_1328) (fun _ h9 => h9) rfl (by decide +kernel) rfl rfl (Nat.le_of_ble_eq_true rfl) dX9_leave_19 (fun H locs hP hD hS => ?_)
  rw [ez9] at hP hD
  clear ez9 h9
  have hC := sI_clo e17 hC
  refine lv_aload_n hx hb dX9_leave_22 rfl (lv_at hl 0 rfl) ?_
  refine lv_aload_n hx hb dX9_leave_23 rfl (lv_at hl 1 rfl) ?_
  obtain ⟨x18, e19, hF⟩ := mg_o hF
  obtain ⟨fs9, h9, g9⟩ := rdI hP hC ha0 e19
  refine va_get (D := (dC, dI)) (ci := 9) (v := .int x18) (C := RX9) (T := TX9) (N := 14) hx hb hts inlX9 hown hK h9 0 rfl rfl 6 (by decide) (hts _ mw_1265) (fun _ h9 => h9) g9 dX9_leave_24 ?_
  clear h9 g9
  obtain ⟨E20, e21, hF⟩ := mw_o hF
  obtain ⟨q9, fs9, h9, ez9⟩ := wrI (cy := cy) hC hr11 e21
  refine va_put (D := (dC, dI)) (ci := 8) (v := .int x18) (ty := .int) (C := RX8) (T := TX8) (N := 9) hx hb hts inlX8 tyX8 tyX8_ok nmX8 hown hK hP hD hS q9 h9 rfl 7 (by decide) (hts _ mw_1370) (fun _ h9 => h9) rfl (by decide +kernel) rfl rfl (Nat.le_of_ble_eq_true rfl) dX9_leave_27 (fun H locs hP hD hS => ?_)
  rw [ez9] at hP hD
  clear ez9 h9
  have hC := sI_clo e21 hC
  refine lv_aload_n hx hb dX9_leave_30 rfl (lv_at hl 1 rfl) ?_
  obtain ⟨x22, e23, hF⟩ := mg_o hF
  obtain ⟨hr24, fs9, h9, g9⟩ := rdR hP hC ha0 e23
  refine va_get (D := (dC, dI)) (ci := 9) (v := .ref (AD nb ad10 x22)) (C := RX9) (T := TX9) (N := 14) hx hb hts inlX9 hown hK h9 0 rfl rfl 9 (by decide) (hts _ mw_107) (fun _ h9 => h9) g9 dX9_leave_31 ?_
  clear h9 g9
  refine lv_iload_n hx hb dX9_leave_34 rfl (lv_at hl 2 rfl) ?_
  obtain ⟨x25, n27, s28, E29, e26, hF⟩ := mb_o hF
  have hm := mle e26
  have hM1 := mle1 hF
  have hM2 := mle2 hF
  have hm1 := hm.1
  have hm2 := hm.2.1
  have hFc := my_free hD hS hA
  refine va_callr (va_runS (As := [.int a1]) (rest := [.ref (AD nb ad10 x22)]) ⟨hx, hb, hml, hown, hts⟩ (h_J6_valueOf_2dffe l dC dI cy nb ad10 n7 s8 E20 hC (a1) H.size x25 n27 s28 E29 e26) (va_cwS 1 hts (gS mw_1371 mw_976 mw_311 mw_977) rfl rfl rfl (by decide +kernel) ⟨Nat.le_of_ble_eq_true rfl, Nat.le_of_ble_eq_true rfl⟩) (hl_preS hP hK hD hE hS hFc) rfl rfl hl.1 rfl (lv_room (Nat.le_of_ble_eq_true rfl)) dX9_leave_35 ⟨show n7 - n0 + (n27 - n7) ≤ nz - n0 by omega, show s8 - s0 + (s28 - s8) ≤ sz9 - s0 by omega⟩) hS (fun q _ h => hFc q h) hFc (fun u ra t H1 locs ht hvm hw hB hz1 hk1 hS => ?_)
  obtain ⟨ad30, hax, hr31, hP1, hD1⟩ := hB
  rw [ht] at hP1
  have hP := hP1
  have hD := hD1.weaken (fun k q _ h => hFc q.1 h)
  generalize H1 = H at hP hS ⊢
  have hr11 := hr11.mv hC.1 hax
  have ha0 := ha0.mv hC.1 hax
  have hr24 := hr24.mv hC.1 hax
  have hX := hX.trans hax
  have hC := hm.2.2 hC
  have hN : n0 ≤ n27 := Nat.le_trans hN hm1
  have hT : s0 ≤ s28 := Nat.le_trans hT hm2
  refine W.widen (k := n27 - n0) (n := s28 - s0) (by omega) (by omega) ?_
  clear hP1 hD1 hFc hk1 hz1 hvm ht hax hm hm1 hm2 hM1 hM2
  refine my_top (y := .ref (AD nb ad30 x25)) (congrArg Value.ref hr31.2.symm) ?_
  have hr31 := rf_self hr31
  obtain ⟨fs9, e33, hF⟩ := mg_o hF
  obtain ⟨x34, n36, s37, E38, e35, hF⟩ := mb_o hF
  have hm := mle e35
  have hM1 := mle1 hF
  have hM2 := mle2 hF
  have hm1 := hm.1
  have hm2 := hm.2.1
  have hFc := my_free hD hS hA
  refine va_calli (va_runV (C := RJx4a65c) (As := [.ref (AD nb ad30 x25)]) (rest := []) ⟨hx, hb, hml, hown, hts⟩ (h_Jx4a65c_add_9ea2d l dC dI cy nb ad30 n27 s28 E29 hC (x22) (AD nb ad10 x22) hr24 (x25) (AD nb ad30 x25) hr31 H.size x34 n36 s37 E38 e35) (cwV 1 hts (gV mw_1289 mw_841 mw_842 mw_12 mw_843) rfl rfl rfl (by decide +kernel) ⟨Nat.le_of_ble_eq_true rfl, Nat.le_of_ble_eq_true rfl⟩) (hl_preV hP hK hD hE hS hFc (va_recv hK (rdO_ hP hC hr24 e33) (ci := 14) (q0 := 0) rfl rfl)) rfl rfl hl.1 rfl (lv_room (Nat.le_of_ble_eq_true rfl)) dX9_leave_38 ⟨show n27 - n0 + (n36 - n27) ≤ nz - n0 by omega, show s28 - s0 + (s37 - s28) ≤ sz9 - s0 by omega⟩) hS (fun q _ h => hFc q h) hFc (fun r9 u t H1 locs ht hvm hw hB hz1 hk1 hS => ?_)
  obtain ⟨ad39, hax, hP1, hD1⟩ := hB
  rw [ht] at hP1
  have hP := hP1
  have hD := hD1.weaken (fun k q _ h => hFc q.1 h)
  generalize H1 = H at hP hS ⊢
  have hr11 := hr11.mv hC.1 hax
  have ha0 := ha0.mv hC.1 hax
  have hX := hX.trans hax
  have hC := hm.2.2 hC
  have hN : n0 ≤ n36 := Nat.le_trans hN hm1
  have hT : s0 ≤ s37 := Nat.le_trans hT hm2
  refine W.widen (k := n36 - n0) (n := s37 - s0) (by omega) (by omega) ?_
  clear hP1 hD1 hFc hk1 hz1 hvm ht hax hm hm1 hm2 hM1 hM2
  obtain rfl := hw.symm
  refine lv_pop hx hb dX9_leave_41 rfl ?_
  refine lv_aload_n hx hb dX9_leave_42 rfl (lv_at hl 1 rfl) ?_
  obtain ⟨x40, e41, hF⟩ := mg_o hF
  obtain ⟨hr42, fs9, h9, g9⟩ := rdR hP hC ha0 e41
  refine va_get (D := (dC, dI)) (ci := 9) (v := .ref (AD nb ad39 x40)) (C := RX9) (T := TX9) (N := 14) hx hb hts inlX9 hown hK h9 0 rfl rfl 12 (by decide) (hts _ mw_110) (fun _ h9 => h9) g9 dX9_leave_43 ?_
  clear h9 g9
  refine lv_iconst (v := 2) hx hb dX9_leave_46 (by decide) ?_
  refine lv_aload_n hx hb dX9_leave_47 rfl (lv_at hl 0 rfl) ?_
  obtain ⟨x43, e44, hF⟩ := mg_o hF
  obtain ⟨fs9, h9, g9⟩ := rdI hP hC hr11 e44
  refine va_get (D := (dC, dI)) (ci := 8) (v := .int x43) (C := RX8) (T := TX8) (N := 9) hx hb hts inlX8 hown hK h9 0 rfl rfl 0 (by decide) (hts _ mw_344) (fun _ h9 => h9) g9 dX9_leave_48 ?_
  clear h9 g9
  refine lv_imul hx hb dX9_leave_51 ?_
  refine lv_dup2_11 hx hb dX9_leave_52 rfl rfl ?_
  obtain ⟨x45, e46, hF⟩ := mg_o hF
  obtain ⟨m9, f9, h9, i9, g9⟩ := rdA hP hC hr42 e46
  refine va_iald hx hb hK h9 0 1 rfl rfl i9 dX9_leave_53 ?_
  refine my_topi (y := x45) g9 ?_
  clear h9 i9 g9
  refine lv_iconst (v := 1) hx hb dX9_leave_54 (by decide) ?_
  refine lv_iadd hx hb dX9_leave_55 ?_
  obtain ⟨E47, e48, hF⟩ := mw_o hF
  obtain ⟨q9, m9, f9, h9, i9, ez9⟩ := wrA (cy := cy) hC hr42 e48
  refine va_iast hx hb hK hP hD hS q9 1 h9 rfl i9 dX9_leave_56 (fun H locs hP hD hS => ?_)
  clear i9
  rw [ez9] at hP hD
  clear ez9 h9
  have hC := sA_clo e48 hC
  obtain ⟨ht9, hn9, hs9, hE9⟩ := mr_o hF
  subst hn9 hs9 hE9
  have hX9 := hX
  rw [hQ]
  exact W.vret hx hb hr (fun t ht hW => ⟨⟨(), rfl, trivial, _, hX, by rw [ht]; exact hP, hD⟩, hS.F ht⟩) hS.2.2 dX9_leave_57
noncomputable def H_X9_enter (a0 : Nat) (a1 : Int32) (a2 : Int32) : MH Unit := mb (rR (a0) 9 7) fun x1 => mb (mg fun n E => fO n E (x1) 14) fun _ => mb (H_Jx4a65c_get_915e3 (x1) (a1)) fun x5 => mb (mg fun n E => fO n E (x5) 10) fun _ => mb (rR (a0) 9 10) fun x14 => mb (mg fun n E => fO n E (x14) 14) fun _ => mb (H_Jx4a65c_get_915e3 (x14) (a2)) fun x18 => mb (mg fun n E => fO n E (x18) 8) fun _ => mb (mg fun n E => fO n E (x5) 10) fun _ => mb (H_X10_ticksFor (x5) (x18)) fun x28 => mb (wI (x5) 10 4 (x28)) fun _ => mb (wI (x5) 10 3 (a2)) fun _ => mb (wI (x18) 8 3 (1)) fun _ => mb (wI (x18) 8 4 (a1)) fun _ => mb (rI (x5) 10 0) fun x42 => if 3 ≤ x42 then (mb (rR (a0) 9 13) fun x45 => mb (rA (x45) 1 (3)) fun x48 => mb (rI (x5) 10 8) fun x50 => mb (mg fun n E => fO n E (x18) 8) fun _ => mb (H_X8_turns (x18) (x50)) fun x53 => mb (wA (x45) 1 (3) ((x48 + x53))) fun _ => mb (rR (x18) 8 1) fun x61 => mb (rR (x18) 8 1) fun x64 => mb (mg fun n E => sOk n E (x64)) fun _ => mb (H_J0_length_8abf5 (x64)) fun x68 => mb (mg fun n E => sOk n E (x61)) fun _ => mb (H_J0_charAt_5068e (x61) ((x68 - 1))) fun x75 => mb (wI (x5) 10 8 ((x75 - 97))) fun _ => mr ()) else (mr ())
set_option maxHeartbeats 4000000 in
set_option maxRecDepth 100000 in
theorem h_X9_enter (l : Launch) (dC : Nat → ClassId) (dI : Nat → Nat → Nat) (cy : Nat → ClassId) (nb : Nat → Nat) (ad0 : Nat → Nat) (n0 s0 : Nat) (E0 : HE) (hC : clo n0 E0) (a0 Aa0 : Nat) (ha0 : rf nb ad0 n0 a0 Aa0) (a1 : Int32) (a2 : Int32) (sz : Nat) (nz sz9 : Nat) (Ez : HE) (hF : (H_X9_enter a0 a1 a2).1 (n0, s0, E0) = some ((), nz, sz9, Ez)) : Met l yX9_enter (wsg yX9_enter cX9_enter 5 none) ({ frames := 14, cells := nz - n0, slots := sz9 - s0, locals := 900 }) (va_Pc [.ref Aa0, .int a1, .int a2] (fun U => U.heap.size = sz ∧ va_P (dC, dI) vwCl (CH cy nb ad0 n0 E0) U.heap ∧ va_K (dC, dI) vwCl (tyL cy) U ∧ va_D (fun _ => True) (CH cy nb ad0 n0 E0) ∧ GL nb (va_A (CH cy nb ad0 n0 E0) sz) U)) (va_Qv (fun (_ : Unit) => True) (fun _ t => ∃ ad2 : Nat → Nat, axh n0 ad0 nz ad2 ∧ va_P (dC, dI) vwCl (CH cy nb ad2 nz Ez) t.heap ∧ va_D (va_A (CH cy nb ad0 n0 E0) sz) (CH cy nb ad2 nz Ez)) (va_A (CH cy nb ad0 n0 E0) sz)) (nz - n0) (sz9 - s0) (va_A (CH cy nb ad0 n0 E0) sz) := by
  refine Met.ofW (cc := cX9_enter) (maxL := 5) (ret := none) (by decide) rfl ?_
  intro p e s m args below meth c s₁ B hml hv
  obtain ⟨rfl, hsz, hP, hK, hD0, hE⟩ := hv
  have hx := B.exec
  have hb := B.bytes
  have hr := B.returns
  have hts0 := atoms_spec (ws := (wsg yX9_enter cX9_enter 5 none)) B.pre
  have hts : ∀ w ∈ wsL_law, w.before _ s = true := fun w h => hts0 w (List.mem_cons_of_mem _ h)
  have hown : s.vm.findClass RX9 = some m.cls := by have h9 := findClass_of_methodNamed B.named; exact h9
  subst hsz
  have hD := hD0.self (sz := s.heap.size)
  generalize hAe : va_A (CH cy nb ad0 n0 E0) s.heap.size = A at hD hE ⊢
  have hA : ∀ q : Nat, s.heap.size ≤ q → A q := fun q h => by rw [← hAe]; exact Or.inr h
  have hS : va_S A s.heap s.heap [] := va_S.rf
  have hl := lv_entry ([.ref Aa0, .int a1, .int a2]) (n := 5) (Nat.le_of_ble_eq_true rfl)
  rw [lg_entry_eq]
  generalize (lg_sl ([.ref Aa0, .int a1, .int a2]) ++ List.replicate (5 - (lg_sl ([.ref Aa0, .int a1, .int a2])).length) Slot.unset).toArray = ls at hl ⊢
  have hl : lv_has ls 5 [(0, .ref Aa0), (1, .int a1), (2, .int a2)] := hl
  generalize hHe : s.heap = H at hP hS ⊢
  have hS : va_S A s.heap H [] := by rw [hHe]; exact hS
  refine my_Q (fun Qn hQ => ?_)
  simp only [H_X9_enter] at hF
  have hX : axh n0 ad0 n0 ad0 := axh_refl
  have hN : n0 ≤ n0 := Nat.le_refl _
  have hT : s0 ≤ s0 := Nat.le_refl _
  refine W.widen (k := n0 - n0) (n := s0 - s0) (by omega) (by omega) ?_
  refine lv_aload_n hx hb dX9_enter_0 rfl (lv_at hl 0 rfl) ?_
  obtain ⟨x1, e2, hF⟩ := mg_o hF
  obtain ⟨hr3, fs9, h9, g9⟩ := rdR hP hC ha0 e2
  refine va_get (D := (dC, dI)) (ci := 9) (v := .ref (AD nb ad0 x1)) (C := RX9) (T := TX9) (N := 14) hx hb hts inlX9 hown hK h9 0 rfl rfl 7 (by decide) (hts _ mw_105) (fun _ h9 => h9) g9 dX9_enter_1 ?_
  clear h9 g9
  refine lv_iload_n hx hb dX9_enter_4 rfl (lv_at hl 1 rfl) ?_
  obtain ⟨fs9, e4, hF⟩ := mg_o hF
  obtain ⟨x5, n7, s8, E9, e6, hF⟩ := mb_o hF
  have hm := mle e6
  have hM1 := mle1 hF
  have hM2 := mle2 hF
  have hm1 := hm.1
  have hm2 := hm.2.1
  have hFc := my_free hD hS hA
  refine va_callr (va_runV (C := RJx4a65c) (As := [.int a1]) (rest := []) ⟨hx, hb, hml, hown, hts⟩ (h_Jx4a65c_get_915e3 l dC dI cy nb ad0 n0 s0 E0 hC (x1) (AD nb ad0 x1) hr3 (a1) H.size x5 n7 s8 E9 e6) (cwV 1 hts (gV mw_347 mw_235 mw_236 mw_12 mw_237) rfl rfl rfl (by decide +kernel) ⟨Nat.le_of_ble_eq_true rfl, Nat.le_of_ble_eq_true rfl⟩) (hl_preV hP hK hD hE hS hFc (va_recv hK (rdO_ hP hC hr3 e4) (ci := 14) (q0 := 0) rfl rfl)) rfl rfl hl.1 rfl (lv_room (Nat.le_of_ble_eq_true rfl)) dX9_enter_5 ⟨show n0 - n0 + (n7 - n0) ≤ nz - n0 by omega, show s0 - s0 + (s8 - s0) ≤ sz9 - s0 by omega⟩) hS (fun q _ h => hFc q h) hFc (fun u ra t H1 locs ht hvm hw hB hz1 hk1 hS => ?_)
  obtain ⟨ad10, hax, hr11, hP1, hD1⟩ := hB
  rw [ht] at hP1
  have hP := hP1
  have hD := hD1.weaken (fun k q _ h => hFc q.1 h)
  generalize H1 = H at hP hS ⊢
  have ha0 := ha0.mv hC.1 hax
  have hX := hX.trans hax
  have hC := hm.2.2 hC
  have hN : n0 ≤ n7 := Nat.le_trans hN hm1
  have hT : s0 ≤ s8 := Nat.le_trans hT hm2
  refine W.widen (k := n7 - n0) (n := s8 - s0) (by omega) (by omega) ?_
  clear hP1 hD1 hFc hk1 hz1 hvm ht hax hm hm1 hm2 hM1 hM2
  refine my_top (y := .ref (AD nb ad10 x5)) (congrArg Value.ref hr11.2.symm) ?_
  have hr11 := rf_self hr11
  obtain ⟨fs9, e13, hF⟩ := mg_o hF
  refine va_castS hx hb hown (hts _ mw_1266) (hK.1 10 _ rfl).2 (va_recv hK (rdO_ hP hC hr11 e13) (ci := 10) (q0 := 0) rfl rfl) dX9_enter_8 ?_
  refine lv_astore_n (lv' := [(3, .ref (AD nb ad10 x5)), (0, .ref Aa0), (1, .int a1), (2, .int a2)]) hx hb dX9_enter_11 rfl hl (by decide) rfl (fun ls hl => ?_)
  refine lv_aload_n hx hb dX9_enter_12 rfl (lv_at hl 1 rfl) ?_
  obtain ⟨x14, e15, hF⟩ := mg_o hF
  obtain ⟨hr16, fs9, h9, g9⟩ := rdR hP hC ha0 e15
  refine va_get (D := (dC, dI)) (ci := 9) (v := .ref (AD nb ad10 x14)) (C := RX9) (T := TX9) (N := 14) hx hb hts inlX9 hown hK h9 0 rfl rfl 10 (by decide) (hts _ mw_108) (fun _ h9 => h9) g9 dX9_enter_13 ?_
  clear h9 g9
  refine lv_iload_n hx hb dX9_enter_16 rfl (lv_at hl 3 rfl) ?_
  obtain ⟨fs9, e17, hF⟩ := mg_o hF
  obtain ⟨x18, n20, s21, E22, e19, hF⟩ := mb_o hF
  have hm := mle e19
  have hM1 := mle1 hF
  have hM2 := mle2 hF
  have hm1 := hm.1
  have hm2 := hm.2.1
  have hFc := my_free hD hS hA
  refine va_callr (va_runV (C := RJx4a65c) (As := [.int a2]) (rest := []) ⟨hx, hb, hml, hown, hts⟩ (h_Jx4a65c_get_915e3 l dC dI cy nb ad10 n7 s8 E9 hC (x14) (AD nb ad10 x14) hr16 (a2) H.size x18 n20 s21 E22 e19) (cwV 1 hts (gV mw_347 mw_235 mw_236 mw_12 mw_237) rfl rfl rfl (by decide +kernel) ⟨Nat.le_of_ble_eq_true rfl, Nat.le_of_ble_eq_true rfl⟩) (hl_preV hP hK hD hE hS hFc (va_recv hK (rdO_ hP hC hr16 e17) (ci := 14) (q0 := 0) rfl rfl)) rfl rfl hl.1 rfl (lv_room (Nat.le_of_ble_eq_true rfl)) dX9_enter_17 ⟨show n7 - n0 + (n20 - n7) ≤ nz - n0 by omega, show s8 - s0 + (s21 - s8) ≤ sz9 - s0 by omega⟩) hS (fun q _ h => hFc q h) hFc (fun u ra t H1 locs ht hvm hw hB hz1 hk1 hS => ?_)
  obtain ⟨ad23, hax, hr24, hP1, hD1⟩ := hB
  rw [ht] at hP1
  have hP := hP1
  have hD := hD1.weaken (fun k q _ h => hFc q.1 h)
  generalize H1 = H at hP hS ⊢
  have hr11 := hr11.mv hC.1 hax
  have ha0 := ha0.mv hC.1 hax
  have hX := hX.trans hax
  have hC := hm.2.2 hC
  have hN : n0 ≤ n20 := Nat.le_trans hN hm1
  have hT : s0 ≤ s21 := Nat.le_trans hT hm2
  refine W.widen (k := n20 - n0) (n := s21 - s0) (by omega) (by omega) ?_
  clear hP1 hD1 hFc hk1 hz1 hvm ht hax hm hm1 hm2 hM1 hM2
  refine my_top (y := .ref (AD nb ad23 x18)) (congrArg Value.ref hr24.2.symm) ?_
  have hr24 := rf_self hr24
  obtain ⟨fs9, e26, hF⟩ := mg_o hF
  refine va_castS hx hb hown (hts _ mw_174) (hK.1 8 _ rfl).2 (va_recv hK (rdO_ hP hC hr24 e26) (ci := 8) (q0 := 0) rfl rfl) dX9_enter_20 ?_
  refine lv_astore (lv' := [(4, .ref (AD nb ad23 x18)), (3, .ref (AD nb ad10 x5)), (0, .ref Aa0), (1, .int a1), (2, .int a2)]) hx hb dX9_enter_23 hl (by decide) rfl (fun ls hl => ?_)
  refine lv_aload_n hx hb dX9_enter_25 rfl (lv_at hl 1 rfl) ?_
  refine lv_aload_n hx hb dX9_enter_26 rfl (lv_at hl 1 rfl) ?_
  refine lv_aload hx hb dX9_enter_27 (lv_at hl 0 rfl) ?_
  obtain ⟨fs9, e27, hF⟩ := mg_o hF
  obtain ⟨x28, n30, s31, E32, e29, hF⟩ := mb_o hF
  have hm := mle e29
  have hM1 := mle1 hF
  have hM2 := mle2 hF
  have hm1 := hm.1
  have hm2 := hm.2.1
  have hFc := my_free hD hS hA
  refine va_calli (va_runV (C := RX10) (As := [.ref (AD nb ad23 x18)]) (rest := [.ref (AD nb ad10 x5)]) ⟨hx, hb, hml, hown, hts⟩ (h_X10_ticksFor l dC dI cy nb ad23 n20 s21 E22 hC (x5) (AD nb ad10 x5) hr11 (x18) (AD nb ad23 x18) hr24 H.size x28 n30 s31 E32 e29) (cwV 1 hts (gV mw_1343 mw_1344 mw_1345 mw_607 mw_1346) rfl rfl rfl (by decide +kernel) ⟨Nat.le_of_ble_eq_true rfl, Nat.le_of_ble_eq_true rfl⟩) (hl_preV hP hK hD hE hS hFc (va_recv hK (rdO_ hP hC hr11 e27) (ci := 10) (q0 := 0) rfl rfl)) rfl rfl hl.1 rfl (lv_room (Nat.le_of_ble_eq_true rfl)) dX9_enter_29 ⟨show n20 - n0 + (n30 - n20) ≤ nz - n0 by omega, show s21 - s0 + (s31 - s21) ≤ sz9 - s0 by omega⟩) hS (fun q _ h => hFc q h) hFc (fun r9 u t H1 locs ht hvm hw hB hz1 hk1 hS => ?_)
  obtain ⟨ad33, hax, hP1, hD1⟩ := hB
  rw [ht] at hP1
  have hP := hP1
  have hD := hD1.weaken (fun k q _ h => hFc q.1 h)
  generalize H1 = H at hP hS ⊢
  have hr24 := hr24.mv hC.1 hax
  have hr11 := hr11.mv hC.1 hax
  have ha0 := ha0.mv hC.1 hax
  have hX := hX.trans hax
  have hC := hm.2.2 hC
  have hN : n0 ≤ n30 := Nat.le_trans hN hm1
  have hT : s0 ≤ s31 := Nat.le_trans hT hm2
  refine W.widen (k := n30 - n0) (n := s31 - s0) (by omega) (by omega) ?_
  clear hP1 hD1 hFc hk1 hz1 hvm ht hax hm hm1 hm2 hM1 hM2
  obtain rfl := hw.symm
  obtain ⟨E34, e35, hF⟩ := mw_o hF
  obtain ⟨q9, fs9, h9, ez9⟩ := wrI (cy := cy) hC hr11 e35
  refine va_put (D := (dC, dI)) (ci := 10) (v := .int x28) (ty := .int) (C := RX10) (T := TX10) (N := 15) hx hb hts inlX10 tyX10 tyX10_ok nmX10 hown hK hP hD hS q9 h9 rfl 4 (by decide) (hts _ mw_1315) (fun _ h9 => h9) rfl (by decide +kernel) rfl rfl (Nat.le_of_ble_eq_true rfl) dX9_enter_32 (fun H locs hP hD hS => ?_)
  rw [ez9] at hP hD
  clear ez9 h9
  have hC := sI_clo e35 hC
  refine lv_aload_n hx hb dX9_enter_35 rfl (lv_at hl 1 rfl) ?_
  refine lv_iload_n hx hb dX9_enter_36 rfl (lv_at hl 4 rfl) ?_
  obtain ⟨E36, e37, hF⟩ := mw_o hF
  obtain ⟨q9, fs9, h9, ez9⟩ := wrI (cy := cy) hC hr11 e37
  refine va_put (D := (dC, dI)) (ci := 10) (v := .int a2) (ty := .int) (C := RX10) (T := TX10) (N := 15) hx hb hts inlX10 tyX10 tyX10_ok nmX10 hown hK hP hD hS q9 h9 rfl 3 (by decide) (hts _ mw_1314) (fun _ h9 => h9) rfl (by decide +kernel) rfl rfl (Nat.le_of_ble_eq_true rfl) dX9_enter_37 (fun H locs hP hD hS => ?_)
  rw [ez9] at hP hD
  clear ez9 h9
  have hC := sI_clo e37 hC
  refine lv_aload hx hb dX9_enter_40 (lv_at hl 0 rfl) ?_
  refine lv_iconst (v := 1) hx hb dX9_enter_42 (by decide) ?_
  obtain ⟨E38, e39, hF⟩ := mw_o hF
  obtain ⟨q9, fs9, h9, ez9⟩ := wrI (cy := cy) hC hr24 e39
  refine va_put (D := (dC, dI)) (ci := 8) (v := .int 1) (ty := .int) (C := RX8) (T := TX8) (N := 9) hx hb hts inlX8 tyX8 tyX8_ok nmX8 hown hK hP hD hS q9 h9 rfl 3 (by decide) (hts _ mw_175) (fun _ h9 => h9) rfl (by decide +kernel) rfl rfl (Nat.le_of_ble_eq_true rfl) dX9_enter_43 (fun H locs hP hD hS => ?_)
  rw [ez9] at hP hD
  clear ez9 h9
  have hC := sI_clo e39 hC
  refine lv_aload hx hb dX9_enter_46 (lv_at hl 0 rfl) ?_
  refine lv_iload_n hx hb dX9_enter_48 rfl (lv_at hl 3 rfl) ?_
  obtain ⟨E40, e41, hF⟩ := mw_o hF
  obtain ⟨q9, fs9, h9, ez9⟩ := wrI (cy := cy) hC hr24 e41
  refine va_put (D := (dC, dI)) (ci := 8) (v := .int a1) (ty := .int) (C := RX8) (T := TX8) (N := 9) hx hb hts inlX8 tyX8 tyX8_ok nmX8 hown hK hP hD hS q9 h9 rfl 4 (by decide) (hts _ mw_1328) (fun _ h9 => h9) rfl (by decide +kernel) rfl rfl (Nat.le_of_ble_eq_true rfl) dX9_enter_49 (fun H locs hP hD hS => ?_)
  rw [ez9] at hP hD
  clear ez9 h9
  have hC := sI_clo e41 hC
  refine lv_aload_n hx hb dX9_enter_52 rfl (lv_at hl 1 rfl) ?_
  obtain ⟨x42, e43, hF⟩ := mg_o hF
  obtain ⟨fs9, h9, g9⟩ := rdI hP hC hr11 e43
  refine va_get (D := (dC, dI)) (ci := 10) (v := .int x42) (C := RX10) (T := TX10) (N := 15) hx hb hts inlX10 hown hK h9 0 rfl rfl 0 (by decide) (hts _ mw_1340) (fun _ h9 => h9) g9 dX9_enter_53 ?_
  clear h9 g9
  refine lv_iconst (v := 3) hx hb dX9_enter_56 (by decide) ?_
  refine lv_icmp_ge (tgt := 61) hx hb dX9_enter_57 (by decide) (fun c44 => ?_) (fun c44 => ?_)
  · skip
    rw [if_pos c44] at hF
    refine lv_aload_n hx hb dX9_enter_61 rfl (lv_at hl 2 rfl) ?_
    obtain ⟨x45, e46, hF⟩ := mg_o hF
    obtain ⟨hr47, fs9, h9, g9⟩ := rdR hP hC ha0 e46
    refine va_get (D := (dC, dI)) (ci := 9) (v := .ref (AD nb ad33 x45)) (C := RX9) (T := TX9) (N := 14) hx hb hts inlX9 hown hK h9 0 rfl rfl 13 (by decide) (hts _ mw_111) (fun _ h9 => h9) g9 dX9_enter_62 ?_
    clear h9 g9
    refine lv_iconst (v := 3) hx hb dX9_enter_65 (by decide) ?_
    refine lv_dup2_11 hx hb dX9_enter_66 rfl rfl ?_
    obtain ⟨x48, e49, hF⟩ := mg_o hF
    obtain ⟨m9, f9, h9, i9, g9⟩ := rdA hP hC hr47 e49
    refine va_iald hx hb hK h9 0 1 rfl rfl i9 dX9_enter_67 ?_
    refine my_topi (y := x48) g9 ?_
    clear h9 i9 g9
    refine lv_aload hx hb dX9_enter_68 (lv_at hl 0 rfl) ?_
    refine lv_aload_n hx hb dX9_enter_70 rfl (lv_at hl 1 rfl) ?_
    obtain ⟨x50, e51, hF⟩ := mg_o hF
    obtain ⟨fs9, h9, g9⟩ := rdI hP hC hr11 e51
    refine va_get (D := (dC, dI)) (ci := 10) (v := .int x50) (C := RX10) (T := TX10) (N := 15) hx hb hts inlX10 hown hK h9 0 rfl rfl 8 (by decide) (hts _ mw_1341) (fun _ h9 => h9) g9 dX9_enter_71 ?_
    clear h9 g9
    obtain ⟨fs9, e52, hF⟩ := mg_o hF
    obtain ⟨x53, n55, s56, E57, e54, hF⟩ := mb_o hF
    have hm := mle e54
    have hM1 := mle1 hF
    have hM2 := mle2 hF
    have hm1 := hm.1
    have hm2 := hm.2.1
    have hFc := my_free hD hS hA
    refine va_calli (va_runV (C := RX8) (As := [.int x50]) (rest := [.int x48, .int 3, .ref (AD nb ad33 x45)]) ⟨hx, hb, hml, hown, hts⟩ (h_X8_turns l dC dI cy nb ad33 n30 s31 E40 hC (x18) (AD nb ad23 x18) hr24 (x50) H.size x53 n55 s56 E57 e54) (cwV 1 hts (gV mw_1355 mw_1350 mw_1351 mw_613 mw_1352) rfl rfl rfl (by decide +kernel) ⟨Nat.le_of_ble_eq_true rfl, Nat.le_of_ble_eq_true rfl⟩) (hl_preV hP hK hD hE hS hFc (va_recv hK (rdO_ hP hC hr24 e52) (ci := 8) (q0 := 0) rfl rfl)) rfl rfl hl.1 rfl (lv_room (Nat.le_of_ble_eq_true rfl)) dX9_enter_74 ⟨show n30 - n0 + (n55 - n30) ≤ nz - n0 by omega, show s31 - s0 + (s56 - s31) ≤ sz9 - s0 by omega⟩) hS (fun q _ h => hFc q h) hFc (fun r9 u t H1 locs ht hvm hw hB hz1 hk1 hS => ?_)
    obtain ⟨ad58, hax, hP1, hD1⟩ := hB
    rw [ht] at hP1
    have hP := hP1
    have hD := hD1.weaken (fun k q _ h => hFc q.1 h)
    generalize H1 = H at hP hS ⊢
    have hr24 := hr24.mv hC.1 hax
    have hr11 := hr11.mv hC.1 hax
    have ha0 := ha0.mv hC.1 hax
    have hr47 := hr47.mv hC.1 hax
    have hX := hX.trans hax
    have hC := hm.2.2 hC
    have hN : n0 ≤ n55 := Nat.le_trans hN hm1
    have hT : s0 ≤ s56 := Nat.le_trans hT hm2
    refine W.widen (k := n55 - n0) (n := s56 - s0) (by omega) (by omega) ?_
    clear hP1 hD1 hFc hk1 hz1 hvm ht hax hm hm1 hm2 hM1 hM2
    obtain rfl := hw.symm
    refine lv_iadd hx hb dX9_enter_77 ?_
    obtain ⟨E59, e60, hF⟩ := mw_o hF
    obtain ⟨q9, m9, f9, h9, i9, ez9⟩ := wrA (cy := cy) hC hr47 e60
    refine va_iast hx hb hK hP hD hS q9 1 h9 rfl i9 dX9_enter_78 (fun H locs hP hD hS => ?_)
    clear i9
    rw [ez9] at hP hD
    clear ez9 h9
    have hC := sA_clo e60 hC
    refine lv_aload_n hx hb dX9_enter_79 rfl (lv_at hl 1 rfl) ?_
    refine lv_aload hx hb dX9_enter_80 (lv_at hl 0 rfl) ?_
    obtain ⟨x61, e62, hF⟩ := mg_o hF
    obtain ⟨hr63, fs9, h9, g9⟩ := rdR hP hC hr24 e62
    refine va_get (D := (dC, dI)) (ci := 8) (v := .ref (AD nb ad58 x61)) (C := RX8) (T := TX8) (N := 9) hx hb hts inlX8 hown hK h9 0 rfl rfl 1 (by decide) (hts _ mw_1342) (fun _ h9 => h9) g9 dX9_enter_82 ?_
    clear h9 g9
    refine lv_aload hx hb dX9_enter_85 (lv_at hl 0 rfl) ?_
    obtain ⟨x64, e65, hF⟩ := mg_o hF
    obtain ⟨hr66, fs9, h9, g9⟩ := rdR hP hC hr24 e65
    refine va_get (D := (dC, dI)) (ci := 8) (v := .ref (AD nb ad58 x64)) (C := RX8) (T := TX8) (N := 9) hx hb hts inlX8 hown hK h9 0 rfl rfl 1 (by decide) (hts _ mw_1342) (fun _ h9 => h9) g9 dX9_enter_87 ?_
    clear h9 g9
    obtain ⟨_, e67, hF⟩ := mg_o hF
    obtain ⟨x68, n70, s71, E72, e69, hF⟩ := mb_o hF
    have hm := mle e69
    have hM1 := mle1 hF
    have hM2 := mle2 hF
    have hm1 := hm.1
    have hm2 := hm.2.1
    have hFc := my_free hD hS hA
    refine va_calli (va_runV (C := RJ0) (As := []) (rest := [.ref (AD nb ad58 x61), .ref (AD nb ad10 x5)]) ⟨hx, hb, hml, hown, hts⟩ (h_J0_length_8abf5 l dC dI cy nb ad58 n55 s56 E59 hC (x64) (AD nb ad58 x64) hr66 H.size x68 n70 s71 E72 e69) (cwV 0 hts (gV mw_1329 mw_275 mw_276 mw_277 mw_278) rfl rfl rfl (by decide +kernel) ⟨Nat.le_of_ble_eq_true rfl, Nat.le_of_ble_eq_true rfl⟩) (hl_preV hP hK hD hE hS hFc (hs_srecv hK hP hC hE hS hr66 e67)) rfl rfl hl.1 rfl (lv_room (Nat.le_of_ble_eq_true rfl)) dX9_enter_90 ⟨show n55 - n0 + (n70 - n55) ≤ nz - n0 by omega, show s56 - s0 + (s71 - s56) ≤ sz9 - s0 by omega⟩) hS (fun q _ h => hFc q h) hFc (fun r9 u t H1 locs ht hvm hw hB hz1 hk1 hS => ?_)
    obtain ⟨ad73, hax, hP1, hD1⟩ := hB
    rw [ht] at hP1
    have hP := hP1
    have hD := hD1.weaken (fun k q _ h => hFc q.1 h)
    generalize H1 = H at hP hS ⊢
    have hr24 := hr24.mv hC.1 hax
    have hr11 := hr11.mv hC.1 hax
    have ha0 := ha0.mv hC.1 hax
    have hr63 := hr63.mv hC.1 hax
    have hX := hX.trans hax
    have hC := hm.2.2 hC
    have hN : n0 ≤ n70 := Nat.le_trans hN hm1
    have hT : s0 ≤ s71 := Nat.le_trans hT hm2
    refine W.widen (k := n70 - n0) (n := s71 - s0) (by omega) (by omega) ?_
    clear hP1 hD1 hFc hk1 hz1 hvm ht hax hm hm1 hm2 hM1 hM2
    obtain rfl := hw.symm
    refine lv_iconst (v := 1) hx hb dX9_enter_93 (by decide) ?_
    refine lv_isub hx hb dX9_enter_94 ?_
    obtain ⟨_, e74, hF⟩ := mg_o hF
    obtain ⟨x75, n77, s78, E79, e76, hF⟩ := mb_o hF
    have hm := mle e76
    have hM1 := mle1 hF
    have hM2 := mle2 hF
    have hm1 := hm.1
    have hm2 := hm.2.1
    have hFc := my_free hD hS hA
    refine va_calli (va_runV (C := RJ0) (As := [.int (x68 - 1)]) (rest := [.ref (AD nb ad10 x5)]) ⟨hx, hb, hml, hown, hts⟩ (h_J0_charAt_5068e l dC dI cy nb ad73 n70 s71 E72 hC (x61) (AD nb ad58 x61) hr63 ((x68 - 1)) H.size x75 n77 s78 E79 e76) (cwV 1 hts (gV mw_1330 mw_943 mw_944 mw_277 mw_945) rfl rfl rfl (by decide +kernel) ⟨Nat.le_of_ble_eq_true rfl, Nat.le_of_ble_eq_true rfl⟩) (hl_preV hP hK hD hE hS hFc (hs_srecv hK hP hC hE hS hr63 e74)) rfl rfl hl.1 rfl (lv_room (Nat.le_of_ble_eq_true rfl)) dX9_enter_95 ⟨show n70 - n0 + (n77 - n70) ≤ nz - n0 by omega, show s71 - s0 + (s78 - s71) ≤ sz9 - s0 by omega⟩) hS (fun q _ h => hFc q h) hFc (fun r9 u t H1 locs ht hvm hw hB hz1 hk1 hS => ?_)
    obtain ⟨ad80, hax, hP1, hD1⟩ := hB
    rw [ht] at hP1
    have hP := hP1
    have hD := hD1.weaken (fun k q _ h => hFc q.1 h)
    generalize H1 = H at hP hS ⊢
    have hr24 := hr24.mv hC.1 hax
    have hr11 := hr11.mv hC.1 hax
    have ha0 := ha0.mv hC.1 hax
    have hX := hX.trans hax
    have hC := hm.2.2 hC
    have hN : n0 ≤ n77 := Nat.le_trans hN hm1
    have hT : s0 ≤ s78 := Nat.le_trans hT hm2
    refine W.widen (k := n77 - n0) (n := s78 - s0) (by omega) (by omega) ?_
    clear hP1 hD1 hFc hk1 hz1 hvm ht hax hm hm1 hm2 hM1 hM2
    obtain rfl := hw.symm
    refine lv_bipush (v := 97) hx hb dX9_enter_98 (by decide) ?_
    refine lv_isub hx hb dX9_enter_100 ?_
    obtain ⟨E81, e82, hF⟩ := mw_o hF
    obtain ⟨q9, fs9, h9, ez9⟩ := wrI (cy := cy) hC hr11 e82
    refine va_put (D := (dC, dI)) (ci := 10) (v := .int (x75 - 97)) (ty := .int) (C := RX10) (T := TX10) (N := 15) hx hb hts inlX10 tyX10 tyX10_ok nmX10 hown hK hP hD hS q9 h9 rfl 8 (by decide) (hts _ mw_1341) (fun _ h9 => h9) rfl (by decide +kernel) rfl rfl (Nat.le_of_ble_eq_true rfl) dX9_enter_101 (fun H locs hP hD hS => ?_)
    rw [ez9] at hP hD
    clear ez9 h9
    have hC := sI_clo e82 hC
    obtain ⟨ht9, hn9, hs9, hE9⟩ := mr_o hF
    subst hn9 hs9 hE9
    have hX9 := hX
    rw [hQ]
    exact W.vret hx hb hr (fun t ht hW => ⟨⟨(), rfl, trivial, _, hX, by rw [ht]; exact hP, hD⟩, hS.F ht⟩) hS.2.2 dX9_enter_104
  · skip
    rw [if_neg c44] at hF
    obtain ⟨ht9, hn9, hs9, hE9⟩ := mr_o hF
    subst hn9 hs9 hE9
    have hX9 := hX
    rw [hQ]
    exact W.vret hx hb hr (fun t ht hW => ⟨⟨(), rfl, trivial, _, hX, by rw [ht]; exact hP, hD⟩, hS.F ht⟩) hS.2.2 dX9_enter_60
noncomputable def H_X9_work (a0 : Nat) (a1 : Nat) : MH Unit := mb (rI (a1) 10 12) fun x1 => mb (wI (a1) 10 12 ((x1 + 1))) fun _ => mb (rI (a1) 10 4) fun x5 => mb (wI (a1) 10 4 ((x5 - 1))) fun _ => mb (rI (a1) 10 4) fun x9 => if x9 ≤ 0 then (mb (rR (a1) 10 1) fun x12 => mb (rI (a1) 10 5) fun x15 => mb (rR (a1) 10 1) fun x17 => mb (mg fun n E => sOk n E (x17)) fun _ => mb (H_J0_length_8abf5 (x17)) fun x21 => mb (mp (rm x15 x21)) fun x27 => mb (mg fun n E => sOk n E (x12)) fun _ => mb (H_J0_charAt_5068e (x12) (x27)) fun x30 => mb (if x30 = 49 then (mr (1 : Int32)) else (mr (0 : Int32)) : MH (Int32)) fun t37 => mb (rI (a1) 10 5) fun x46 => mb (wI (a1) 10 5 ((x46 + 1))) fun _ => mb (rI (a1) 10 13) fun x50 => mb (wI (a1) 10 13 ((x50 + 1))) fun _ => mb (rI (a1) 10 9) fun x54 => mb (if x54 ≤ 0 then (mr ()) else (mb (rI (a1) 10 13) fun x131 => mb (rI (a1) 10 9) fun x133 => if x131 < x133 then (mr ()) else (mb (rI (a1) 10 10) fun x136 => mb (wI (a1) 10 11 (x136)) fun _ => mb (wI (a1) 10 13 (0)) fun _ => mr ())) : MH (Unit)) fun t57 => if t37 = 0 then (mr ()) else (mb (rR (a0) 9 10) fun x67 => mb (rI (a1) 10 3) fun x70 => mb (mg fun n E => fO n E (x67) 14) fun _ => mb (H_Jx4a65c_get_915e3 (x67) (x70)) fun x73 => mb (mg fun n E => fO n E (x73) 8) fun _ => mb (wI (a1) 10 3 ((-1))) fun _ => mb (rI (a1) 10 6) fun x84 => mb (wI (a1) 10 6 ((x84 + 1))) fun _ => mb (rI (x73) 8 5) fun x88 => mb (wI (x73) 8 5 ((x88 + 1))) fun _ => mb (wI (x73) 8 4 ((-1))) fun _ => mb (rI (x73) 8 5) fun x94 => mb (rI (a0) 9 2) fun x96 => mb (if x94 < x96 then (mr (0 : Int32)) else (mr (4 : Int32)) : MH (Int32)) fun t99 => mb (wI (x73) 8 3 (t99)) fun _ => mb (rR (a0) 9 13) fun x111 => mb (rA (x111) 1 (1)) fun x114 => mb (wA (x111) 1 (1) ((x114 + 1))) fun _ => mb (rR (a0) 9 12) fun x118 => mb (rI (x73) 8 0) fun x121 => mb (rA (x118) 1 (((2 * x121) + 1))) fun x123 => mb (wA (x118) 1 (((2 * x121) + 1)) ((x123 + 1))) fun _ => mr ())) else (mr ())
set_option maxHeartbeats 4000000 in
set_option maxRecDepth 100000 in
theorem h_X9_work (l : Launch) (dC : Nat → ClassId) (dI : Nat → Nat → Nat) (cy : Nat → ClassId) (nb : Nat → Nat) (ad0 : Nat → Nat) (n0 s0 : Nat) (E0 : HE) (hC : clo n0 E0) (a0 Aa0 : Nat) (ha0 : rf nb ad0 n0 a0 Aa0) (a1 Aa1 : Nat) (ha1 : rf nb ad0 n0 a1 Aa1) (sz : Nat) (nz sz9 : Nat) (Ez : HE) (hF : (H_X9_work a0 a1).1 (n0, s0, E0) = some ((), nz, sz9, Ez)) : Met l yX9_work (wsg yX9_work cX9_work 4 none) ({ frames := 12, cells := nz - n0, slots := sz9 - s0, locals := 700 }) (va_Pc [.ref Aa0, .ref Aa1] (fun U => U.heap.size = sz ∧ va_P (dC, dI) vwCl (CH cy nb ad0 n0 E0) U.heap ∧ va_K (dC, dI) vwCl (tyL cy) U ∧ va_D (fun _ => True) (CH cy nb ad0 n0 E0) ∧ GL nb (va_A (CH cy nb ad0 n0 E0) sz) U)) (va_Qv (fun (_ : Unit) => True) (fun _ t => ∃ ad2 : Nat → Nat, axh n0 ad0 nz ad2 ∧ va_P (dC, dI) vwCl (CH cy nb ad2 nz Ez) t.heap ∧ va_D (va_A (CH cy nb ad0 n0 E0) sz) (CH cy nb ad2 nz Ez)) (va_A (CH cy nb ad0 n0 E0) sz)) (nz - n0) (sz9 - s0) (va_A (CH cy nb ad0 n0 E0) sz) := by
  refine Met.ofW (cc := cX9_work) (maxL := 4) (ret := none) (by decide) rfl ?_
  intro p e s m args below meth c s₁ B hml hv
  obtain ⟨rfl, hsz, hP, hK, hD0, hE⟩ := hv
  have hx := B.exec
  have hb := B.bytes
  have hr := B.returns
  have hts0 := atoms_spec (ws := (wsg yX9_work cX9_work 4 none)) B.pre
  have hts : ∀ w ∈ wsL_law, w.before _ s = true := fun w h => hts0 w (List.mem_cons_of_mem _ h)
  have hown : s.vm.findClass RX9 = some m.cls := by have h9 := findClass_of_methodNamed B.named; exact h9
  subst hsz
  have hD := hD0.self (sz := s.heap.size)
  generalize hAe : va_A (CH cy nb ad0 n0 E0) s.heap.size = A at hD hE ⊢
  have hA : ∀ q : Nat, s.heap.size ≤ q → A q := fun q h => by rw [← hAe]; exact Or.inr h
  have hS : va_S A s.heap s.heap [] := va_S.rf
  have hl := lv_entry ([.ref Aa0, .ref Aa1]) (n := 4) (Nat.le_of_ble_eq_true rfl)
  rw [lg_entry_eq]
  generalize (lg_sl ([.ref Aa0, .ref Aa1]) ++ List.replicate (4 - (lg_sl ([.ref Aa0, .ref Aa1])).length) Slot.unset).toArray = ls at hl ⊢
  have hl : lv_has ls 4 [(0, .ref Aa0), (1, .ref Aa1)] := hl
  generalize hHe : s.heap = H at hP hS ⊢
  have hS : va_S A s.heap H [] := by rw [hHe]; exact hS
  refine my_Q (fun Qn hQ => ?_)
  simp only [H_X9_work] at hF
  have hX : axh n0 ad0 n0 ad0 := axh_refl
  have hN : n0 ≤ n0 := Nat.le_refl _
  have hT : s0 ≤ s0 := Nat.le_refl _
  refine W.widen (k := n0 - n0) (n := s0 - s0) (by omega) (by omega) ?_
  refine lv_aload_n hx hb dX9_work_0 rfl (lv_at hl 1 rfl) ?_
  refine lv_dup hx hb dX9_work_1 rfl ?_
  obtain ⟨x1, e2, hF⟩ := mg_o hF
  obtain ⟨fs9, h9, g9⟩ := rdI hP hC ha1 e2
  refine va_get (D := (dC, dI)) (ci := 10) (v := .int x1) (C := RX10) (T := TX10) (N := 15) hx hb hts inlX10 hown hK h9 0 rfl rfl 12 (by decide) (hts _ mw_1321) (fun _ h9 => h9) g9 dX9_work_2 ?_
  clear h9 g9
  refine lv_iconst (v := 1) hx hb dX9_work_5 (by decide) ?_
  refine lv_iadd hx hb dX9_work_6 ?_
  obtain ⟨E3, e4, hF⟩ := mw_o hF
  obtain ⟨q9, fs9, h9, ez9⟩ := wrI (cy := cy) hC ha1 e4
  refine va_put (D := (dC, dI)) (ci := 10) (v := .int (x1 + 1)) (ty := .int) (C := RX10) (T := TX10) (N := 15) hx hb hts inlX10 tyX10 tyX10_ok nmX10 hown hK hP hD hS q9 h9 rfl 12 (by decide) (hts _ mw_1321) (fun _ h9 => h9) rfl (by decide +kernel) rfl rfl (Nat.le_of_ble_eq_true rfl) dX9_work_7 (fun H locs hP hD hS => ?_)
  rw [ez9] at hP hD
  clear ez9 h9
  have hC := sI_clo e4 hC
  refine lv_aload_n hx hb dX9_work_10 rfl (lv_at hl 1 rfl) ?_
  refine lv_dup hx hb dX9_work_11 rfl ?_
  obtain ⟨x5, e6, hF⟩ := mg_o hF
  obtain ⟨fs9, h9, g9⟩ := rdI hP hC ha1 e6
  refine va_get (D := (dC, dI)) (ci := 10) (v := .int x5) (C := RX10) (T := TX10) (N := 15) hx hb hts inlX10 hown hK h9 0 rfl rfl 4 (by decide) (hts _ mw_1315) (fun _ h9 => h9) g9 dX9_work_12 ?_
  clear h9 g9
  refine lv_iconst (v := 1) hx hb dX9_work_15 (by decide) ?_
  refine lv_isub hx hb dX9_work_16 ?_
  obtain ⟨E7, e8, hF⟩ := mw_o hF
  obtain ⟨q9, fs9, h9, ez9⟩ := wrI (cy := cy) hC ha1 e8
  refine va_put (D := (dC, dI)) (ci := 10) (v := .int (x5 - 1)) (ty := .int) (C := RX10) (T := TX10) (N := 15) hx hb hts inlX10 tyX10 tyX10_ok nmX10 hown hK hP hD hS q9 h9 rfl 4 (by decide) (hts _ mw_1315) (fun _ h9 => h9) rfl (by decide +kernel) rfl rfl (Nat.le_of_ble_eq_true rfl) dX9_work_17 (fun H locs hP hD hS => ?_)
  rw [ez9] at hP hD
  clear ez9 h9
  have hC := sI_clo e8 hC
  refine lv_aload_n hx hb dX9_work_20 rfl (lv_at hl 1 rfl) ?_
  obtain ⟨x9, e10, hF⟩ := mg_o hF
  obtain ⟨fs9, h9, g9⟩ := rdI hP hC ha1 e10
  refine va_get (D := (dC, dI)) (ci := 10) (v := .int x9) (C := RX10) (T := TX10) (N := 15) hx hb hts inlX10 hown hK h9 0 rfl rfl 4 (by decide) (hts _ mw_1315) (fun _ h9 => h9) g9 dX9_work_21 ?_
  clear h9 g9
  refine lv_if_le (tgt := 28) hx hb dX9_work_24 (by decide) (fun c11 => ?_) (fun c11 => ?_)
  · skip
    rw [if_pos c11] at hF
    refine lv_aload_n hx hb dX9_work_28 rfl (lv_at hl 1 rfl) ?_
    obtain ⟨x12, e13, hF⟩ := mg_o hF
    obtain ⟨hr14, fs9, h9, g9⟩ := rdR hP hC ha1 e13
    refine va_get (D := (dC, dI)) (ci := 10) (v := .ref (AD nb ad0 x12)) (C := RX10) (T := TX10) (N := 15) hx hb hts inlX10 hown hK h9 0 rfl rfl 1 (by decide) (hts _ mw_1322) (fun _ h9 => h9) g9 dX9_work_29 ?_
    clear h9 g9
    refine lv_aload_n hx hb dX9_work_32 rfl (lv_at hl 1 rfl) ?_
    obtain ⟨x15, e16, hF⟩ := mg_o hF
    obtain ⟨fs9, h9, g9⟩ := rdI hP hC ha1 e16
    refine va_get (D := (dC, dI)) (ci := 10) (v := .int x15) (C := RX10) (T := TX10) (N := 15) hx hb hts inlX10 hown hK h9 0 rfl rfl 5 (by decide) (hts _ mw_1323) (fun _ h9 => h9) g9 dX9_work_33 ?_
    clear h9 g9
    refine lv_aload_n hx hb dX9_work_36 rfl (lv_at hl 1 rfl) ?_
    obtain ⟨x17, e18, hF⟩ := mg_o hF
    obtain ⟨hr19, fs9, h9, g9⟩ := rdR hP hC ha1 e18
    refine va_get (D := (dC, dI)) (ci := 10) (v := .ref (AD nb ad0 x17)) (C := RX10) (T := TX10) (N := 15) hx hb hts inlX10 hown hK h9 0 rfl rfl 1 (by decide) (hts _ mw_1322) (fun _ h9 => h9) g9 dX9_work_37 ?_
    clear h9 g9
    obtain ⟨_, e20, hF⟩ := mg_o hF
    obtain ⟨x21, n23, s24, E25, e22, hF⟩ := mb_o hF
    have hm := mle e22
    have hM1 := mle1 hF
    have hM2 := mle2 hF
    have hm1 := hm.1
    have hm2 := hm.2.1
    have hFc := my_free hD hS hA
    refine va_calli (va_runV (C := RJ0) (As := []) (rest := [.int x15, .ref (AD nb ad0 x12)]) ⟨hx, hb, hml, hown, hts⟩ (h_J0_length_8abf5 l dC dI cy nb ad0 n0 s0 E7 hC (x17) (AD nb ad0 x17) hr19 H.size x21 n23 s24 E25 e22) (cwV 0 hts (gV mw_1329 mw_275 mw_276 mw_277 mw_278) rfl rfl rfl (by decide +kernel) ⟨Nat.le_of_ble_eq_true rfl, Nat.le_of_ble_eq_true rfl⟩) (hl_preV hP hK hD hE hS hFc (hs_srecv hK hP hC hE hS hr19 e20)) rfl rfl hl.1 rfl (lv_room (Nat.le_of_ble_eq_true rfl)) dX9_work_40 ⟨show n0 - n0 + (n23 - n0) ≤ nz - n0 by omega, show s0 - s0 + (s24 - s0) ≤ sz9 - s0 by omega⟩) hS (fun q _ h => hFc q h) hFc (fun r9 u t H1 locs ht hvm hw hB hz1 hk1 hS => ?_)
    obtain ⟨ad26, hax, hP1, hD1⟩ := hB
    rw [ht] at hP1
    have hP := hP1
    have hD := hD1.weaken (fun k q _ h => hFc q.1 h)
    generalize H1 = H at hP hS ⊢
    have ha0 := ha0.mv hC.1 hax
    have ha1 := ha1.mv hC.1 hax
    have hr14 := hr14.mv hC.1 hax
    have hX := hX.trans hax
    have hC := hm.2.2 hC
    have hN : n0 ≤ n23 := Nat.le_trans hN hm1
    have hT : s0 ≤ s24 := Nat.le_trans hT hm2
    refine W.widen (k := n23 - n0) (n := s24 - s0) (by omega) (by omega) ?_
    clear hP1 hD1 hFc hk1 hz1 hvm ht hax hm hm1 hm2 hM1 hM2
    obtain rfl := hw.symm
    obtain ⟨x27, e28, hF⟩ := mp_o hF
    refine lv_irem hx hb dX9_work_43 (rm_ne e28) ?_
    refine my_topi (y := x27) (rm_eq e28) ?_
    obtain ⟨_, e29, hF⟩ := mg_o hF
    obtain ⟨x30, n32, s33, E34, e31, hF⟩ := mb_o hF
    have hm := mle e31
    have hM1 := mle1 hF
    have hM2 := mle2 hF
    have hm1 := hm.1
    have hm2 := hm.2.1
    have hFc := my_free hD hS hA
    refine va_calli (va_runV (C := RJ0) (As := [.int x27]) (rest := []) ⟨hx, hb, hml, hown, hts⟩ (h_J0_charAt_5068e l dC dI cy nb ad26 n23 s24 E25 hC (x12) (AD nb ad0 x12) hr14 (x27) H.size x30 n32 s33 E34 e31) (cwV 1 hts (gV mw_1330 mw_943 mw_944 mw_277 mw_945) rfl rfl rfl (by decide +kernel) ⟨Nat.le_of_ble_eq_true rfl, Nat.le_of_ble_eq_true rfl⟩) (hl_preV hP hK hD hE hS hFc (hs_srecv hK hP hC hE hS hr14 e29)) rfl rfl hl.1 rfl (lv_room (Nat.le_of_ble_eq_true rfl)) dX9_work_44 ⟨show n23 - n0 + (n32 - n23) ≤ nz - n0 by omega, show s24 - s0 + (s33 - s24) ≤ sz9 - s0 by omega⟩) hS (fun q _ h => hFc q h) hFc (fun r9 u t H1 locs ht hvm hw hB hz1 hk1 hS => ?_)
    obtain ⟨ad35, hax, hP1, hD1⟩ := hB
    rw [ht] at hP1
    have hP := hP1
    have hD := hD1.weaken (fun k q _ h => hFc q.1 h)
    generalize H1 = H at hP hS ⊢
    have ha0 := ha0.mv hC.1 hax
    have ha1 := ha1.mv hC.1 hax
    have hX := hX.trans hax
    have hC := hm.2.2 hC
    have hN : n0 ≤ n32 := Nat.le_trans hN hm1
    have hT : s0 ≤ s33 := Nat.le_trans hT hm2
    refine W.widen (k := n32 - n0) (n := s33 - s0) (by omega) (by omega) ?_
    clear hP1 hD1 hFc hk1 hz1 hvm ht hax hm hm1 hm2 hM1 hM2
    obtain rfl := hw.symm
    refine lv_bipush (v := 49) hx hb dX9_work_47 (by decide) ?_
    obtain ⟨t37, n40, s41, E42, hJ38, hF⟩ := mb_o hF
    have hm := mle hJ38
    have join43 : ∀ (ad39 : Nat → Nat) (H : Heap) (locs : List Loc) (ls : Array Slot), axh n0 ad0 n40 ad39 → rf nb ad39 n40 (a0) (Aa0) → rf nb ad39 n40 (a1) (Aa1) → va_P (dC, dI) vwCl (CH cy nb ad39 n40 E42) H → va_D A (CH cy nb ad39 n40 E42) → va_S A s.heap H locs → lv_has ls 4 [(0, .ref Aa0), (1, .ref Aa1)] → W p l e (headSpec (wsg yX9_work cX9_work 4 none) ({ frames := 12, cells := nz - n0, slots := sz9 - s0, locals := 700 })).room s m ([.ref Aa0, .ref Aa1] : List Value).toArray below meth c H locs (n40 - n0) (s41 - s0) Qn (F0 m 57 ls [.int t37]) := by
      intro ad39 H locs ls hX hr44 hr45 hP hD hS hl
      have hC := hm.2.2 hC
      have hN : n0 ≤ n40 := Nat.le_trans hN hm.1
      have hT : s0 ≤ s41 := Nat.le_trans hT hm.2.1
      clear hm
      refine lv_istore_n (lv' := [(2, .int t37), (0, .ref Aa0), (1, .ref Aa1)]) hx hb dX9_work_57 rfl hl (by decide) rfl (fun ls hl => ?_)
      refine lv_aload_n hx hb dX9_work_58 rfl (lv_at hl 2 rfl) ?_
      refine lv_dup hx hb dX9_work_59 rfl ?_
      obtain ⟨x46, e47, hF⟩ := mg_o hF
      obtain ⟨fs9, h9, g9⟩ := rdI hP hC hr45 e47
      refine va_get (D := (dC, dI)) (ci := 10) (v := .int x46) (C := RX10) (T := TX10) (N := 15) hx hb hts inlX10 hown hK h9 0 rfl rfl 5 (by decide) (hts _ mw_1323) (fun _ h9 => h9) g9 dX9_work_60 ?_
      clear h9 g9
      refine lv_iconst (v := 1) hx hb dX9_work_63 (by decide) ?_
      refine lv_iadd hx hb dX9_work_64 ?_
      obtain ⟨E48, e49, hF⟩ := mw_o hF
      obtain ⟨q9, fs9, h9, ez9⟩ := wrI (cy := cy) hC hr45 e49
      refine va_put (D := (dC, dI)) (ci := 10) (v := .int (x46 + 1)) (ty := .int) (C := RX10) (T := TX10) (N := 15) hx hb hts inlX10 tyX10 tyX10_ok nmX10 hown hK hP hD hS q9 h9 rfl 5 (by decide) (hts _ mw_1323) (fun _ h9 => h9) rfl (by decide +kernel) rfl rfl (Nat.le_of_ble_eq_true rfl) dX9_work_65 (fun H locs hP hD hS => ?_)
      rw [ez9] at hP hD
      clear ez9 h9
      have hC := sI_clo e49 hC
      refine lv_aload_n hx hb dX9_work_68 rfl (lv_at hl 2 rfl) ?_
      refine lv_dup hx hb dX9_work_69 rfl ?_
      obtain ⟨x50, e51, hF⟩ := mg_o hF
      obtain ⟨fs9, h9, g9⟩ := rdI hP hC hr45 e51
      refine va_get (D := (dC, dI)) (ci := 10) (v := .int x50) (C := RX10) (T := TX10) (N := 15) hx hb hts inlX10 hown hK h9 0 rfl rfl 13 (by decide) (hts _ mw_1324) (fun _ h9 => h9) g9 dX9_work_70 ?_
      clear h9 g9
      refine lv_iconst (v := 1) hx hb dX9_work_73 (by decide) ?_
      refine lv_iadd hx hb dX9_work_74 ?_
      obtain ⟨E52, e53, hF⟩ := mw_o hF
      obtain ⟨q9, fs9, h9, ez9⟩ := wrI (cy := cy) hC hr45 e53
      refine va_put (D := (dC, dI)) (ci := 10) (v := .int (x50 + 1)) (ty := .int) (C := RX10) (T := TX10) (N := 15) hx hb hts inlX10 tyX10 tyX10_ok nmX10 hown hK hP hD hS q9 h9 rfl 13 (by decide) (hts _ mw_1324) (fun _ h9 => h9) rfl (by decide +kernel) rfl rfl (Nat.le_of_ble_eq_true rfl) dX9_work_75 (fun H locs hP hD hS => ?_)
      rw [ez9] at hP hD
      clear ez9 h9
      have hC := sI_clo e53 hC
      refine lv_aload_n hx hb dX9_work_78 rfl (lv_at hl 2 rfl) ?_
      obtain ⟨x54, e55, hF⟩ := mg_o hF
      obtain ⟨fs9, h9, g9⟩ := rdI hP hC hr45 e55
      refine va_get (D := (dC, dI)) (ci := 10) (v := .int x54) (C := RX10) (T := TX10) (N := 15) hx hb hts inlX10 hown hK h9 0 rfl rfl 9 (by decide) (hts _ mw_1325) (fun _ h9 => h9) g9 dX9_work_79 ?_
      clear h9 g9
      obtain ⟨t57, n60, s61, E62, hJ58, hF⟩ := mb_o hF
      have hm := mle hJ58
      have join63 : ∀ (ad59 : Nat → Nat) (H : Heap) (locs : List Loc) (ls : Array Slot), axh n0 ad0 n60 ad59 → rf nb ad59 n60 (a0) (Aa0) → rf nb ad59 n60 (a1) (Aa1) → va_P (dC, dI) vwCl (CH cy nb ad59 n60 E62) H → va_D A (CH cy nb ad59 n60 E62) → va_S A s.heap H locs → lv_has ls 4 [(2, .int t37), (0, .ref Aa0), (1, .ref Aa1)] → W p l e (headSpec (wsg yX9_work cX9_work 4 none) ({ frames := 12, cells := nz - n0, slots := sz9 - s0, locals := 700 })).room s m ([.ref Aa0, .ref Aa1] : List Value).toArray below meth c H locs (n60 - n0) (s61 - s0) Qn (F0 m 109 ls []) := by
        intro ad59 H locs ls hX hr64 hr65 hP hD hS hl
        have hC := hm.2.2 hC
        have hN : n0 ≤ n60 := Nat.le_trans hN hm.1
        have hT : s0 ≤ s61 := Nat.le_trans hT hm.2.1
        clear hm
        refine lv_iload_n hx hb dX9_work_109 rfl (lv_at hl 0 rfl) ?_
        refine lv_if_ne (tgt := 114) hx hb dX9_work_110 (by decide) (fun c66 => ?_) (fun c66 => ?_)
        · skip
          rw [if_neg c66] at hF
          refine lv_aload_n hx hb dX9_work_114 rfl (lv_at hl 1 rfl) ?_
          obtain ⟨x67, e68, hF⟩ := mg_o hF
          obtain ⟨hr69, fs9, h9, g9⟩ := rdR hP hC hr64 e68
          refine va_get (D := (dC, dI)) (ci := 9) (v := .ref (AD nb ad59 x67)) (C := RX9) (T := TX9) (N := 14) hx hb hts inlX9 hown hK h9 0 rfl rfl 10 (by decide) (hts _ mw_108) (fun _ h9 => h9) g9 dX9_work_115 ?_
          clear h9 g9
          refine lv_aload_n hx hb dX9_work_118 rfl (lv_at hl 2 rfl) ?_
          obtain ⟨x70, e71, hF⟩ := mg_o hF
          obtain ⟨fs9, h9, g9⟩ := rdI hP hC hr65 e71
          refine va_get (D := (dC, dI)) (ci := 10) (v := .int x70) (C := RX10) (T := TX10) (N := 15) hx hb hts inlX10 hown hK h9 0 rfl rfl 3 (by decide) (hts _ mw_1314) (fun _ h9 => h9) g9 dX9_work_119 ?_
          clear h9 g9
          obtain ⟨fs9, e72, hF⟩ := mg_o hF
          obtain ⟨x73, n75, s76, E77, e74, hF⟩ := mb_o hF
          have hm := mle e74
          have hM1 := mle1 hF
          have hM2 := mle2 hF
          have hm1 := hm.1
          have hm2 := hm.2.1
          have hFc := my_free hD hS hA
          refine va_callr (va_runV (C := RJx4a65c) (As := [.int x70]) (rest := []) ⟨hx, hb, hml, hown, hts⟩ (h_Jx4a65c_get_915e3 l dC dI cy nb ad59 n60 s61 E62 hC (x67) (AD nb ad59 x67) hr69 (x70) H.size x73 n75 s76 E77 e74) (cwV 1 hts (gV mw_347 mw_235 mw_236 mw_12 mw_237) rfl rfl rfl (by decide +kernel) ⟨Nat.le_of_ble_eq_true rfl, Nat.le_of_ble_eq_true rfl⟩) (hl_preV hP hK hD hE hS hFc (va_recv hK (rdO_ hP hC hr69 e72) (ci := 14) (q0 := 0) rfl rfl)) rfl rfl hl.1 rfl (lv_room (Nat.le_of_ble_eq_true rfl)) dX9_work_122 ⟨show n60 - n0 + (n75 - n60) ≤ nz - n0 by omega, show s61 - s0 + (s76 - s61) ≤ sz9 - s0 by omega⟩) hS (fun q _ h => hFc q h) hFc (fun u ra t H1 locs ht hvm hw hB hz1 hk1 hS => ?_)
          obtain ⟨ad78, hax, hr79, hP1, hD1⟩ := hB
          rw [ht] at hP1
          have hP := hP1
          have hD := hD1.weaken (fun k q _ h => hFc q.1 h)
          generalize H1 = H at hP hS ⊢
          have hr64 := hr64.mv hC.1 hax
          have hr65 := hr65.mv hC.1 hax
          have hX := hX.trans hax
          have hC := hm.2.2 hC
          have hN : n0 ≤ n75 := Nat.le_trans hN hm1
          have hT : s0 ≤ s76 := Nat.le_trans hT hm2
          refine W.widen (k := n75 - n0) (n := s76 - s0) (by omega) (by omega) ?_
          clear hP1 hD1 hFc hk1 hz1 hvm ht hax hm hm1 hm2 hM1 hM2
          refine my_top (y := .ref (AD nb ad78 x73)) (congrArg Value.ref hr79.2.symm) ?_
          have hr79 := rf_self hr79
          obtain ⟨fs9, e81, hF⟩ := mg_o hF
          refine va_castS hx hb hown (hts _ mw_174) (hK.1 8 _ rfl).2 (va_recv hK (rdO_ hP hC hr79 e81) (ci := 8) (q0 := 0) rfl rfl) dX9_work_125 ?_
          refine lv_astore_n (lv' := [(3, .ref (AD nb ad78 x73)), (2, .int t37), (0, .ref Aa0), (1, .ref Aa1)]) hx hb dX9_work_128 rfl hl (by decide) rfl (fun ls hl => ?_)
          refine lv_aload_n hx hb dX9_work_129 rfl (lv_at hl 3 rfl) ?_
          refine lv_iconst (v := (-1)) hx hb dX9_work_130 (by decide) ?_
          obtain ⟨E82, e83, hF⟩ := mw_o hF
          obtain ⟨q9, fs9, h9, ez9⟩ := wrI (cy := cy) hC hr65 e83
          refine va_put (D := (dC, dI)) (ci := 10) (v := .int (-1)) (ty := .int) (C := RX10) (T := TX10) (N := 15) hx hb hts inlX10 tyX10 tyX10_ok nmX10 hown hK hP hD hS q9 h9 rfl 3 (by decide) (hts _ mw_1314) (fun _ h9 => h9) rfl (by decide +kernel) rfl rfl (Nat.le_of_ble_eq_true rfl) dX9_work_131 (fun H locs hP hD hS => ?_)
          rw [ez9] at hP hD
          clear ez9 h9
          have hC := sI_clo e83 hC
          refine lv_aload_n hx hb dX9_work_134 rfl (lv_at hl 3 rfl) ?_
          refine lv_dup hx hb dX9_work_135 rfl ?_
          obtain ⟨x84, e85, hF⟩ := mg_o hF
          obtain ⟨fs9, h9, g9⟩ := rdI hP hC hr65 e85
          refine va_get (D := (dC, dI)) (ci := 10) (v := .int x84) (C := RX10) (T := TX10) (N := 15) hx hb hts inlX10 hown hK h9 0 rfl rfl 6 (by decide) (hts _ mw_1327) (fun _ h9 => h9) g9 dX9_work_136 ?_
          clear h9 g9
          refine lv_iconst (v := 1) hx hb dX9_work_139 (by decide) ?_
          refine lv_iadd hx hb dX9_work_140 ?_
          obtain ⟨E86, e87, hF⟩ := mw_o hF
          obtain ⟨q9, fs9, h9, ez9⟩ := wrI (cy := cy) hC hr65 e87
          refine va_put (D := (dC, dI)) (ci := 10) (v := .int (x84 + 1)) (ty := .int) (C := RX10) (T := TX10) (N := 15) hx hb hts inlX10 tyX10 tyX10_ok nmX10 hown hK hP hD hS q9 h9 rfl 6 (by decide) (hts _ mw_1327) (fun _ h9 => h9) rfl (by decide +kernel) rfl rfl (Nat.le_of_ble_eq_true rfl) dX9_work_141 (fun H locs hP hD hS => ?_)
          rw [ez9] at hP hD
          clear ez9 h9
          have hC := sI_clo e87 hC
          refine lv_aload_n hx hb dX9_work_144 rfl (lv_at hl 0 rfl) ?_
          refine lv_dup hx hb dX9_work_145 rfl ?_
          obtain ⟨x88, e89, hF⟩ := mg_o hF
          obtain ⟨fs9, h9, g9⟩ := rdI hP hC hr79 e89
          refine va_get (D := (dC, dI)) (ci := 8) (v := .int x88) (C := RX8) (T := TX8) (N := 9) hx hb hts inlX8 hown hK h9 0 rfl rfl 5 (by decide) (hts _ mw_342) (fun _ h9 => h9) g9 dX9_work_146 ?_
          clear h9 g9
          refine lv_iconst (v := 1) hx hb dX9_work_149 (by decide) ?_
          refine lv_iadd hx hb dX9_work_150 ?_
          obtain ⟨E90, e91, hF⟩ := mw_o hF
          obtain ⟨q9, fs9, h9, ez9⟩ := wrI (cy := cy) hC hr79 e91
          refine va_put (D := (dC, dI)) (ci := 8) (v := .int (x88 + 1)) (ty := .int) (C := RX8) (T := TX8) (N := 9) hx hb hts inlX8 tyX8 tyX8_ok nmX8 hown hK hP hD hS q9 h9 rfl 5 (by decide) (hts _ mw_342) (fun _ h9 => h9) rfl (by decide +kernel) rfl rfl (Nat.le_of_ble_eq_true rfl) dX9_work_151 (fun H locs hP hD hS => ?_)
          rw [ez9] at hP hD
          clear ez9 h9
          have hC := sI_clo e91 hC
          refine lv_aload_n hx hb dX9_work_154 rfl (lv_at hl 0 rfl) ?_
          refine lv_iconst (v := (-1)) hx hb dX9_work_155 (by decide) ?_
          obtain ⟨E92, e93, hF⟩ := mw_o hF
          obtain ⟨q9, fs9, h9, ez9⟩ := wrI (cy := cy) hC hr79 e93
          refine va_put (D := (dC, dI)) (ci := 8) (v := .int (-1)) (ty := .int) (C := RX8) (T := TX8) (N := 9) hx hb hts inlX8 tyX8 tyX8_ok nmX8 hown hK hP hD hS q9 h9 rfl 4 (by decide) (hts _ mw_1328) (fun _ h9 => h9) rfl (by decide +kernel) rfl rfl (Nat.le_of_ble_eq_true rfl) dX9_work_156 (fun H locs hP hD hS => ?_)
          rw [ez9] at hP hD
          clear ez9 h9
          have hC := sI_clo e93 hC
          refine lv_aload_n hx hb dX9_work_159 rfl (lv_at hl 0 rfl) ?_
          refine lv_aload_n hx hb dX9_work_160 rfl (lv_at hl 0 rfl) ?_
          obtain ⟨x94, e95, hF⟩ := mg_o hF
          obtain ⟨fs9, h9, g9⟩ := rdI hP hC hr79 e95
          refine va_get (D := (dC, dI)) (ci := 8) (v := .int x94) (C := RX8) (T := TX8) (N := 9) hx hb hts inlX8 hown hK h9 0 rfl rfl 5 (by decide) (hts _ mw_342) (fun _ h9 => h9) g9 dX9_work_161 ?_
          clear h9 g9
          refine lv_aload_n hx hb dX9_work_164 rfl (lv_at hl 2 rfl) ?_
          obtain ⟨x96, e97, hF⟩ := mg_o hF
          obtain ⟨fs9, h9, g9⟩ := rdI hP hC hr64 e97
          refine va_get (D := (dC, dI)) (ci := 9) (v := .int x96) (C := RX9) (T := TX9) (N := 14) hx hb hts inlX9 hown hK h9 0 rfl rfl 2 (by decide) (hts _ mw_103) (fun _ h9 => h9) g9 dX9_work_165 ?_
          clear h9 g9
          obtain ⟨t99, n102, s103, E104, hJ100, hF⟩ := mb_o hF
          have hm := mle hJ100
          have join105 : ∀ (ad101 : Nat → Nat) (H : Heap) (locs : List Loc) (ls : Array Slot), axh n0 ad0 n102 ad101 → rf nb ad101 n102 (x73) ((AD nb ad78 x73)) → rf nb ad101 n102 (a0) (Aa0) → rf nb ad101 n102 (a1) (Aa1) → va_P (dC, dI) vwCl (CH cy nb ad101 n102 E104) H → va_D A (CH cy nb ad101 n102 E104) → va_S A s.heap H locs → lv_has ls 4 [(3, .ref (AD nb ad78 x73)), (2, .int t37), (0, .ref Aa0), (1, .ref Aa1)] → W p l e (headSpec (wsg yX9_work cX9_work 4 none) ({ frames := 12, cells := nz - n0, slots := sz9 - s0, locals := 700 })).room s m ([.ref Aa0, .ref Aa1] : List Value).toArray below meth c H locs (n102 - n0) (s103 - s0) Qn (F0 m 176 ls [.int t99, .ref (AD nb ad78 x73)]) := by
            intro ad101 H locs ls hX hr106 hr107 hr108 hP hD hS hl
            have hC := hm.2.2 hC
            have hN : n0 ≤ n102 := Nat.le_trans hN hm.1
            have hT : s0 ≤ s103 := Nat.le_trans hT hm.2.1
            clear hm
            obtain ⟨E109, e110, hF⟩ := mw_o hF
            obtain ⟨q9, fs9, h9, ez9⟩ := wrI (cy := cy) hC hr106 e110
            refine va_put (D := (dC, dI)) (ci := 8) (v := .int t99) (ty := .int) (C := RX8) (T := TX8) (N := 9) hx hb hts inlX8 tyX8 tyX8_ok nmX8 hown hK hP hD hS q9 h9 rfl 3 (by decide) (hts _ mw_175) (fun _ h9 => h9) rfl (by decide +kernel) rfl rfl (Nat.le_of_ble_eq_true rfl) dX9_work_176 (fun H locs hP hD hS => ?_)
            rw [ez9] at hP hD
            clear ez9 h9
            have hC := sI_clo e110 hC
            refine lv_aload_n hx hb dX9_work_179 rfl (lv_at hl 2 rfl) ?_
            obtain ⟨x111, e112, hF⟩ := mg_o hF
            obtain ⟨hr113, fs9, h9, g9⟩ := rdR hP hC hr107 e112
            refine va_get (D := (dC, dI)) (ci := 9) (v := .ref (AD nb ad101 x111)) (C := RX9) (T := TX9) (N := 14) hx hb hts inlX9 hown hK h9 0 rfl rfl 13 (by decide) (hts _ mw_111) (fun _ h9 => h9) g9 dX9_work_180 ?_
            clear h9 g9
            refine lv_iconst (v := 1) hx hb dX9_work_183 (by decide) ?_
            refine lv_dup2_11 hx hb dX9_work_184 rfl rfl ?_
            obtain ⟨x114, e115, hF⟩ := mg_o hF
            obtain ⟨m9, f9, h9, i9, g9⟩ := rdA hP hC hr113 e115
            refine va_iald hx hb hK h9 0 1 rfl rfl i9 dX9_work_185 ?_
            refine my_topi (y := x114) g9 ?_
            clear h9 i9 g9
            refine lv_iconst (v := 1) hx hb dX9_work_186 (by decide) ?_
            refine lv_iadd hx hb dX9_work_187 ?_
            obtain ⟨E116, e117, hF⟩ := mw_o hF
            obtain ⟨q9, m9, f9, h9, i9, ez9⟩ := wrA (cy := cy) hC hr113 e117
            refine va_iast hx hb hK hP hD hS q9 1 h9 rfl i9 dX9_work_188 (fun H locs hP hD hS => ?_)
            clear i9
            rw [ez9] at hP hD
            clear ez9 h9
            have hC := sA_clo e117 hC
            refine lv_aload_n hx hb dX9_work_189 rfl (lv_at hl 2 rfl) ?_
            obtain ⟨x118, e119, hF⟩ := mg_o hF
            obtain ⟨hr120, fs9, h9, g9⟩ := rdR hP hC hr107 e119
            refine va_get (D := (dC, dI)) (ci := 9) (v := .ref (AD nb ad101 x118)) (C := RX9) (T := TX9) (N := 14) hx hb hts inlX9 hown hK h9 0 rfl rfl 12 (by decide) (hts _ mw_110) (fun _ h9 => h9) g9 dX9_work_190 ?_
            clear h9 g9
            refine lv_iconst (v := 2) hx hb dX9_work_193 (by decide) ?_
            refine lv_aload_n hx hb dX9_work_194 rfl (lv_at hl 0 rfl) ?_
            obtain ⟨x121, e122, hF⟩ := mg_o hF
            obtain ⟨fs9, h9, g9⟩ := rdI hP hC hr106 e122
            refine va_get (D := (dC, dI)) (ci := 8) (v := .int x121) (C := RX8) (T := TX8) (N := 9) hx hb hts inlX8 hown hK h9 0 rfl rfl 0 (by decide) (hts _ mw_344) (fun _ h9 => h9) g9 dX9_work_195 ?_
            clear h9 g9
            refine lv_imul hx hb dX9_work_198 ?_
            refine lv_iconst (v := 1) hx hb dX9_work_199 (by decide) ?_
            refine lv_iadd hx hb dX9_work_200 ?_
            refine lv_dup2_11 hx hb dX9_work_201 rfl rfl ?_
            obtain ⟨x123, e124, hF⟩ := mg_o hF
            obtain ⟨m9, f9, h9, i9, g9⟩ := rdA hP hC hr120 e124
            refine va_iald hx hb hK h9 0 1 rfl rfl i9 dX9_work_202 ?_
            refine my_topi (y := x123) g9 ?_
            clear h9 i9 g9
            refine lv_iconst (v := 1) hx hb dX9_work_203 (by decide) ?_
            refine lv_iadd hx hb dX9_work_204 ?_
            obtain ⟨E125, e126, hF⟩ := mw_o hF
            obtain ⟨q9, m9, f9, h9, i9, ez9⟩ := wrA (cy := cy) hC hr120 e126
            refine va_iast hx hb hK hP hD hS q9 1 h9 rfl i9 dX9_work_205 (fun H locs hP hD hS => ?_)
            clear i9
            rw [ez9] at hP hD
            clear ez9 h9
            have hC := sA_clo e126 hC
            obtain ⟨ht9, hn9, hs9, hE9⟩ := mr_o hF
            subst hn9 hs9 hE9
            have hX9 := hX
            rw [hQ]
            exact W.vret hx hb hr (fun t ht hW => ⟨⟨(), rfl, trivial, _, hX, by rw [ht]; exact hP, hD⟩, hS.F ht⟩) hS.2.2 dX9_work_206
          have hK127 := mle1 hF
          have hK128 := mle2 hF
          clear hF hm
          have hF := hJ100
          clear hJ100
          refine lv_icmp_lt (tgt := 175) hx hb dX9_work_168 (by decide) (fun c98 => ?_) (fun c98 => ?_)
          · skip
            rw [if_pos c98] at hF
            refine lv_iconst (v := 0) hx hb dX9_work_175 (by decide) ?_
            obtain ⟨ht9, hn9, hs9, hE9⟩ := mr_o hF
            subst ht9 hn9 hs9 hE9
            have hl := lv_sub (l' := [(3, .ref (AD nb ad78 x73)), (2, .int t37), (0, .ref Aa0), (1, .ref Aa1)]) hl [0, 1, 2, 3] rfl
            exact join105 _ _ _ _ hX hr79 hr64 hr65 hP hD hS hl
          · skip
            rw [if_neg c98] at hF
            refine lv_iconst (v := 4) hx hb dX9_work_171 (by decide) ?_
            refine lv_goto (tgt := 176) hx hb dX9_work_172 (by decide) ?_
            obtain ⟨ht9, hn9, hs9, hE9⟩ := mr_o hF
            subst ht9 hn9 hs9 hE9
            have hl := lv_sub (l' := [(3, .ref (AD nb ad78 x73)), (2, .int t37), (0, .ref Aa0), (1, .ref Aa1)]) hl [0, 1, 2, 3] rfl
            exact join105 _ _ _ _ hX hr79 hr64 hr65 hP hD hS hl
        · skip
          rw [if_pos c66] at hF
          obtain ⟨ht9, hn9, hs9, hE9⟩ := mr_o hF
          subst hn9 hs9 hE9
          have hX9 := hX
          rw [hQ]
          exact W.vret hx hb hr (fun t ht hW => ⟨⟨(), rfl, trivial, _, hX, by rw [ht]; exact hP, hD⟩, hS.F ht⟩) hS.2.2 dX9_work_113
      have hK129 := mle1 hF
      have hK130 := mle2 hF
      clear hF hm
      have hF := hJ58
      clear hJ58
      refine lv_if_le (tgt := 109) hx hb dX9_work_82 (by decide) (fun c56 => ?_) (fun c56 => ?_)
      · skip
        rw [if_pos c56] at hF
        obtain ⟨ht9, hn9, hs9, hE9⟩ := mr_o hF
        subst ht9 hn9 hs9 hE9
        have hl := lv_sub (l' := [(2, .int t37), (0, .ref Aa0), (1, .ref Aa1)]) hl [0, 1, 2] rfl
        exact join63 _ _ _ _ hX hr44 hr45 hP hD hS hl
      · skip
        rw [if_neg c56] at hF
        refine lv_aload_n hx hb dX9_work_85 rfl (lv_at hl 2 rfl) ?_
        obtain ⟨x131, e132, hF⟩ := mg_o hF
        obtain ⟨fs9, h9, g9⟩ := rdI hP hC hr45 e132
        refine va_get (D := (dC, dI)) (ci := 10) (v := .int x131) (C := RX10) (T := TX10) (N := 15) hx hb hts inlX10 hown hK h9 0 rfl rfl 13 (by decide) (hts _ mw_1324) (fun _ h9 => h9) g9 dX9_work_86 ?_
        clear h9 g9
        refine lv_aload_n hx hb dX9_work_89 rfl (lv_at hl 2 rfl) ?_
        obtain ⟨x133, e134, hF⟩ := mg_o hF
        obtain ⟨fs9, h9, g9⟩ := rdI hP hC hr45 e134
        refine va_get (D := (dC, dI)) (ci := 10) (v := .int x133) (C := RX10) (T := TX10) (N := 15) hx hb hts inlX10 hown hK h9 0 rfl rfl 9 (by decide) (hts _ mw_1325) (fun _ h9 => h9) g9 dX9_work_90 ?_
        clear h9 g9
        refine lv_icmp_lt (tgt := 109) hx hb dX9_work_93 (by decide) (fun c135 => ?_) (fun c135 => ?_)
        · skip
          rw [if_pos c135] at hF
          obtain ⟨ht9, hn9, hs9, hE9⟩ := mr_o hF
          subst ht9 hn9 hs9 hE9
          have hl := lv_sub (l' := [(2, .int t37), (0, .ref Aa0), (1, .ref Aa1)]) hl [0, 1, 2] rfl
          exact join63 _ _ _ _ hX hr44 hr45 hP hD hS hl
        · skip
          rw [if_neg c135] at hF
          refine lv_aload_n hx hb dX9_work_96 rfl (lv_at hl 2 rfl) ?_
          refine lv_aload_n hx hb dX9_work_97 rfl (lv_at hl 2 rfl) ?_
          obtain ⟨x136, e137, hF⟩ := mg_o hF
          obtain ⟨fs9, h9, g9⟩ := rdI hP hC hr45 e137
          refine va_get (D := (dC, dI)) (ci := 10) (v := .int x136) (C := RX10) (T := TX10) (N := 15) hx hb hts inlX10 hown hK h9 0 rfl rfl 10 (by decide) (hts _ mw_1326) (fun _ h9 => h9) g9 dX9_work_98 ?_
          clear h9 g9
          obtain ⟨E138, e139, hF⟩ := mw_o hF
          obtain ⟨q9, fs9, h9, ez9⟩ := wrI (cy := cy) hC hr45 e139
          refine va_put (D := (dC, dI)) (ci := 10) (v := .int x136) (ty := .int) (C := RX10) (T := TX10) (N := 15) hx hb hts inlX10 tyX10 tyX10_ok nmX10 hown hK hP hD hS q9 h9 rfl 11 (by decide) (hts _ mw_1313) (fun _ h9 => h9) rfl (by decide +kernel) rfl rfl (Nat.le_of_ble_eq_true rfl) dX9_work_101 (fun H locs hP hD hS => ?_)
          rw [ez9] at hP hD
          clear ez9 h9
          have hC := sI_clo e139 hC
          refine lv_aload_n hx hb dX9_work_104 rfl (lv_at hl 2 rfl) ?_
          refine lv_iconst (v := 0) hx hb dX9_work_105 (by decide) ?_
          obtain ⟨E140, e141, hF⟩ := mw_o hF
          obtain ⟨q9, fs9, h9, ez9⟩ := wrI (cy := cy) hC hr45 e141
          refine va_put (D := (dC, dI)) (ci := 10) (v := .int 0) (ty := .int) (C := RX10) (T := TX10) (N := 15) hx hb hts inlX10 tyX10 tyX10_ok nmX10 hown hK hP hD hS q9 h9 rfl 13 (by decide) (hts _ mw_1324) (fun _ h9 => h9) rfl (by decide +kernel) rfl rfl (Nat.le_of_ble_eq_true rfl) dX9_work_106 (fun H locs hP hD hS => ?_)
          rw [ez9] at hP hD
          clear ez9 h9
          have hC := sI_clo e141 hC
          obtain ⟨ht9, hn9, hs9, hE9⟩ := mr_o hF
          subst ht9 hn9 hs9 hE9
          have hl := lv_sub (l' := [(2, .int t37), (0, .ref Aa0), (1, .ref Aa1)]) hl [0, 1, 2] rfl
          exact join63 _ _ _ _ hX hr44 hr45 hP hD hS hl
    have hK142 := mle1 hF
    have hK143 := mle2 hF
    clear hF hm
    have hF := hJ38
    clear hJ38
    refine lv_icmp_ne (tgt := 56) hx hb dX9_work_49 (by decide) (fun c36 => ?_) (fun c36 => ?_)
    · skip
      rw [if_neg c36] at hF
      refine lv_iconst (v := 0) hx hb dX9_work_56 (by decide) ?_
      obtain ⟨ht9, hn9, hs9, hE9⟩ := mr_o hF
      subst ht9 hn9 hs9 hE9
      have hl := lv_sub (l' := [(0, .ref Aa0), (1, .ref Aa1)]) hl [0, 1] rfl
      exact join43 _ _ _ _ hX ha0 ha1 hP hD hS hl
    · skip
      rw [if_pos c36] at hF
      refine lv_iconst (v := 1) hx hb dX9_work_52 (by decide) ?_
      refine lv_goto (tgt := 57) hx hb dX9_work_53 (by decide) ?_
      obtain ⟨ht9, hn9, hs9, hE9⟩ := mr_o hF
      subst ht9 hn9 hs9 hE9
      have hl := lv_sub (l' := [(0, .ref Aa0), (1, .ref Aa1)]) hl [0, 1] rfl
      exact join43 _ _ _ _ hX ha0 ha1 hP hD hS hl
  · skip
    rw [if_neg c11] at hF
    obtain ⟨ht9, hn9, hs9, hE9⟩ := mr_o hF
    subst hn9 hs9 hE9
    have hX9 := hX
    rw [hQ]
    exact W.vret hx hb hr (fun t ht hW => ⟨⟨(), rfl, trivial, _, hX, by rw [ht]; exact hP, hD⟩, hS.F ht⟩) hS.2.2 dX9_work_27
noncomputable def H_X9_goOn (a0 : Nat) (a1 : Int32) : MH Unit := mb (rR (a0) 9 7) fun x1 => mb (mg fun n E => fO n E (x1) 14) fun _ => mb (H_Jx4a65c_get_915e3 (x1) (a1)) fun x5 => mb (mg fun n E => fO n E (x5) 10) fun _ => mb (rR (a0) 9 7) fun x14 => mb (mg fun n E => fO n E (x14) 14) fun _ => mb (H_Jx4a65c_size_8abf5 (x14)) fun x18 => mb (if a1 = (x18 - 1) then (mr (1 : Int32)) else (mr (0 : Int32)) : MH (Int32)) fun t25 => mb (rI (x5) 10 3) fun x34 => if x34 < 0 then (mr ()) else (mb (rI (x5) 10 4) fun x37 => if 0 < x37 then (mr ()) else (if t25 = 0 then (mb (rR (a0) 9 7) fun x124 => mb (mg fun n E => fO n E (x124) 14) fun _ => mb (H_Jx4a65c_get_915e3 (x124) ((a1 + 1))) fun x128 => mb (mg fun n E => fO n E (x128) 10) fun _ => mb (rI (x128) 10 3) fun x137 => if x137 < 0 then (mb (rI (x5) 10 3) fun x140 => mb (wI (x5) 10 3 ((-1))) fun _ => mb (rI (x5) 10 7) fun x144 => mb (wI (x5) 10 7 ((x144 + 1))) fun _ => if t25 = 0 then (mb (mg fun n E => fO n E (a0) 9) fun _ => mb (H_X9_enter (a0) ((a1 + 1)) (x140)) fun _ => mr ()) else (mb (rR (a0) 9 10) fun x149 => mb (mg fun n E => fO n E (x149) 14) fun _ => mb (H_Jx4a65c_get_915e3 (x149) (x140)) fun x153 => mb (mg fun n E => fO n E (x153) 8) fun _ => mb (wI (x153) 8 4 ((-1))) fun _ => mb (rI (x153) 8 0) fun x164 => mb (mg fun n E => fO n E (a0) 9) fun _ => mb (H_X9_nextOf (a0) (x164)) fun x167 => mb (if x167 = x140 then (mb (mg fun n E => fO n E (a0) 9) fun _ => mb (H_X9_leave (a0) (x140)) fun _ => mr ()) else (mb (mg fun n E => fO n E (a0) 9) fun _ => mb (H_X9_many (a0) (2)) fun x187 => mb (rI (a0) 9 1) fun x193 => if x193 ≤ x187 then (mb (wI (x153) 8 3 (0)) fun _ => mb (rI (x153) 8 6) fun x198 => mb (wI (x153) 8 6 ((x198 + 1))) fun _ => mb (rR (a0) 9 13) fun x202 => mb (rA (x202) 1 (2)) fun x205 => mb (wA (x202) 1 (2) ((x205 + 1))) fun _ => mr ()) else (mb (wI (x153) 8 3 (2)) fun _ => mr ())) : MH (Unit)) fun t174 => mr ())) else (mr ())) else (mb (rI (x5) 10 3) fun x41 => mb (wI (x5) 10 3 ((-1))) fun _ => mb (rI (x5) 10 7) fun x45 => mb (wI (x5) 10 7 ((x45 + 1))) fun _ => if t25 = 0 then (mb (mg fun n E => fO n E (a0) 9) fun _ => mb (H_X9_enter (a0) ((a1 + 1)) (x41)) fun _ => mr ()) else (mb (rR (a0) 9 10) fun x50 => mb (mg fun n E => fO n E (x50) 14) fun _ => mb (H_Jx4a65c_get_915e3 (x50) (x41)) fun x54 => mb (mg fun n E => fO n E (x54) 8) fun _ => mb (wI (x54) 8 4 ((-1))) fun _ => mb (rI (x54) 8 0) fun x65 => mb (mg fun n E => fO n E (a0) 9) fun _ => mb (H_X9_nextOf (a0) (x65)) fun x68 => mb (if x68 = x41 then (mb (mg fun n E => fO n E (a0) 9) fun _ => mb (H_X9_leave (a0) (x41)) fun _ => mr ()) else (mb (mg fun n E => fO n E (a0) 9) fun _ => mb (H_X9_many (a0) (2)) fun x88 => mb (rI (a0) 9 1) fun x94 => if x94 ≤ x88 then (mb (wI (x54) 8 3 (0)) fun _ => mb (rI (x54) 8 6) fun x99 => mb (wI (x54) 8 6 ((x99 + 1))) fun _ => mb (rR (a0) 9 13) fun x103 => mb (rA (x103) 1 (2)) fun x106 => mb (wA (x103) 1 (2) ((x106 + 1))) fun _ => mr ()) else (mb (wI (x54) 8 3 (2)) fun _ => mr ())) : MH (Unit)) fun t75 => mr ()))))
set_option maxHeartbeats 4000000 in
set_option maxRecDepth 100000 in
theorem h_X9_goOn (l : Launch) (dC : Nat → ClassId) (dI : Nat → Nat → Nat) (cy : Nat → ClassId) (nb : Nat → Nat) (ad0 : Nat → Nat) (n0 s0 : Nat) (E0 : HE) (hC : clo n0 E0) (a0 Aa0 : Nat) (ha0 : rf nb ad0 n0 a0 Aa0) (a1 : Int32) (sz : Nat) (nz sz9 : Nat) (Ez : HE) (hF : (H_X9_goOn a0 a1).1 (n0, s0, E0) = some ((), nz, sz9, Ez)) : Met l yX9_goOn (wsg yX9_goOn cX9_goOn 6 none) ({ frames := 15, cells := nz - n0, slots := sz9 - s0, locals := 1000 }) (va_Pc [.ref Aa0, .int a1] (fun U => U.heap.size = sz ∧ va_P (dC, dI) vwCl (CH cy nb ad0 n0 E0) U.heap ∧ va_K (dC, dI) vwCl (tyL cy) U ∧ va_D (fun _ => True) (CH cy nb ad0 n0 E0) ∧ GL nb (va_A (CH cy nb ad0 n0 E0) sz) U)) (va_Qv (fun (_ : Unit) => True) (fun _ t => ∃ ad2 : Nat → Nat, axh n0 ad0 nz ad2 ∧ va_P (dC, dI) vwCl (CH cy nb ad2 nz Ez) t.heap ∧ va_D (va_A (CH cy nb ad0 n0 E0) sz) (CH cy nb ad2 nz Ez)) (va_A (CH cy nb ad0 n0 E0) sz)) (nz - n0) (sz9 - s0) (va_A (CH cy nb ad0 n0 E0) sz) := by
  refine Met.ofW (cc := cX9_goOn) (maxL := 6) (ret := none) (by decide) rfl ?_
  intro p e s m args below meth c s₁ B hml hv
  obtain ⟨rfl, hsz, hP, hK, hD0, hE⟩ := hv
  have hx := B.exec
  have hb := B.bytes
  have hr := B.returns
  have hts0 := atoms_spec (ws := (wsg yX9_goOn cX9_goOn 6 none)) B.pre
  have hts : ∀ w ∈ wsL_law, w.before _ s = true := fun w h => hts0 w (List.mem_cons_of_mem _ h)
  have hown : s.vm.findClass RX9 = some m.cls := by have h9 := findClass_of_methodNamed B.named; exact h9
  subst hsz
  have hD := hD0.self (sz := s.heap.size)
  generalize hAe : va_A (CH cy nb ad0 n0 E0) s.heap.size = A at hD hE ⊢
  have hA : ∀ q : Nat, s.heap.size ≤ q → A q := fun q h => by rw [← hAe]; exact Or.inr h
  have hS : va_S A s.heap s.heap [] := va_S.rf
  have hl := lv_entry ([.ref Aa0, .int a1]) (n := 6) (Nat.le_of_ble_eq_true rfl)
  rw [lg_entry_eq]
  generalize (lg_sl ([.ref Aa0, .int a1]) ++ List.replicate (6 - (lg_sl ([.ref Aa0, .int a1])).length) Slot.unset).toArray = ls at hl ⊢
  have hl : lv_has ls 6 [(0, .ref Aa0), (1, .int a1)] := hl
  generalize hHe : s.heap = H at hP hS ⊢
  have hS : va_S A s.heap H [] := by rw [hHe]; exact hS
  refine my_Q (fun Qn hQ => ?_)
  simp only [H_X9_goOn] at hF
  have hX : axh n0 ad0 n0 ad0 := axh_refl
  have hN : n0 ≤ n0 := Nat.le_refl _
  have hT : s0 ≤ s0 := Nat.le_refl _
  refine W.widen (k := n0 - n0) (n := s0 - s0) (by omega) (by omega) ?_
  refine lv_aload_n hx hb dX9_goOn_0 rfl (lv_at hl 0 rfl) ?_
  obtain ⟨x1, e2, hF⟩ := mg_o hF
  obtain ⟨hr3, fs9, h9, g9⟩ := rdR hP hC ha0 e2
  refine va_get (D := (dC, dI)) (ci := 9) (v := .ref (AD nb ad0 x1)) (C := RX9) (T := TX9) (N := 14) hx hb hts inlX9 hown hK h9 0 rfl rfl 7 (by decide) (hts _ mw_105) (fun _ h9 => h9) g9 dX9_goOn_1 ?_
  clear h9 g9
  refine lv_iload_n hx hb dX9_goOn_4 rfl (lv_at hl 1 rfl) ?_
  obtain ⟨fs9, e4, hF⟩ := mg_o hF
  obtain ⟨x5, n7, s8, E9, e6, hF⟩ := mb_o hF
  have hm := mle e6
  have hM1 := mle1 hF
  have hM2 := mle2 hF
  have hm1 := hm.1
  have hm2 := hm.2.1
  have hFc := my_free hD hS hA
  refine va_callr (va_runV (C := RJx4a65c) (As := [.int a1]) (rest := []) ⟨hx, hb, hml, hown, hts⟩ (h_Jx4a65c_get_915e3 l dC dI cy nb ad0 n0 s0 E0 hC (x1) (AD nb ad0 x1) hr3 (a1) H.size x5 n7 s8 E9 e6) (cwV 1 hts (gV mw_347 mw_235 mw_236 mw_12 mw_237) rfl rfl rfl (by decide +kernel) ⟨Nat.le_of_ble_eq_true rfl, Nat.le_of_ble_eq_true rfl⟩) (hl_preV hP hK hD hE hS hFc (va_recv hK (rdO_ hP hC hr3 e4) (ci := 14) (q0 := 0) rfl rfl)) rfl rfl hl.1 rfl (lv_room (Nat.le_of_ble_eq_true rfl)) dX9_goOn_5 ⟨show n0 - n0 + (n7 - n0) ≤ nz - n0 by omega, show s0 - s0 + (s8 - s0) ≤ sz9 - s0 by omega⟩) hS (fun q _ h => hFc q h) hFc (fun u ra t H1 locs ht hvm hw hB hz1 hk1 hS => ?_)
  obtain ⟨ad10, hax, hr11, hP1, hD1⟩ := hB
  rw [ht] at hP1
  have hP := hP1
  have hD := hD1.weaken (fun k q _ h => hFc q.1 h)
  generalize H1 = H at hP hS ⊢
  have ha0 := ha0.mv hC.1 hax
  have hX := hX.trans hax
  have hC := hm.2.2 hC
  have hN : n0 ≤ n7 := Nat.le_trans hN hm1
  have hT : s0 ≤ s8 := Nat.le_trans hT hm2
  refine W.widen (k := n7 - n0) (n := s8 - s0) (by omega) (by omega) ?_
  clear hP1 hD1 hFc hk1 hz1 hvm ht hax hm hm1 hm2 hM1 hM2
  refine my_top (y := .ref (AD nb ad10 x5)) (congrArg Value.ref hr11.2.symm) ?_
  have hr11 := rf_self hr11
  obtain ⟨fs9, e13, hF⟩ := mg_o hF
  refine va_castS hx hb hown (hts _ mw_1266) (hK.1 10 _ rfl).2 (va_recv hK (rdO_ hP hC hr11 e13) (ci := 10) (q0 := 0) rfl rfl) dX9_goOn_8 ?_
  refine lv_astore_n (lv' := [(2, .ref (AD nb ad10 x5)), (0, .ref Aa0), (1, .int a1)]) hx hb dX9_goOn_11 rfl hl (by decide) rfl (fun ls hl => ?_)
  refine lv_iload_n hx hb dX9_goOn_12 rfl (lv_at hl 2 rfl) ?_
  refine lv_aload_n hx hb dX9_goOn_13 rfl (lv_at hl 1 rfl) ?_
  obtain ⟨x14, e15, hF⟩ := mg_o hF
  obtain ⟨hr16, fs9, h9, g9⟩ := rdR hP hC ha0 e15
  refine va_get (D := (dC, dI)) (ci := 9) (v := .ref (AD nb ad10 x14)) (C := RX9) (T := TX9) (N := 14) hx hb hts inlX9 hown hK h9 0 rfl rfl 7 (by decide) (hts _ mw_105) (fun _ h9 => h9) g9 dX9_goOn_14 ?_
  clear h9 g9
  obtain ⟨fs9, e17, hF⟩ := mg_o hF
  obtain ⟨x18, n20, s21, E22, e19, hF⟩ := mb_o hF
  have hm := mle e19
  have hM1 := mle1 hF
  have hM2 := mle2 hF
  have hm1 := hm.1
  have hm2 := hm.2.1
  have hFc := my_free hD hS hA
  refine va_calli (va_runV (C := RJx4a65c) (As := []) (rest := [.int a1]) ⟨hx, hb, hml, hown, hts⟩ (h_Jx4a65c_size_8abf5 l dC dI cy nb ad10 n7 s8 E9 hC (x14) (AD nb ad10 x14) hr16 H.size x18 n20 s21 E22 e19) (cwV 0 hts (gV mw_346 mw_166 mw_167 mw_12 mw_168) rfl rfl rfl (by decide +kernel) ⟨Nat.le_of_ble_eq_true rfl, Nat.le_of_ble_eq_true rfl⟩) (hl_preV hP hK hD hE hS hFc (va_recv hK (rdO_ hP hC hr16 e17) (ci := 14) (q0 := 0) rfl rfl)) rfl rfl hl.1 rfl (lv_room (Nat.le_of_ble_eq_true rfl)) dX9_goOn_17 ⟨show n7 - n0 + (n20 - n7) ≤ nz - n0 by omega, show s8 - s0 + (s21 - s8) ≤ sz9 - s0 by omega⟩) hS (fun q _ h => hFc q h) hFc (fun r9 u t H1 locs ht hvm hw hB hz1 hk1 hS => ?_)
  obtain ⟨ad23, hax, hP1, hD1⟩ := hB
  rw [ht] at hP1
  have hP := hP1
  have hD := hD1.weaken (fun k q _ h => hFc q.1 h)
  generalize H1 = H at hP hS ⊢
  have hr11 := hr11.mv hC.1 hax
  have ha0 := ha0.mv hC.1 hax
  have hX := hX.trans hax
  have hC := hm.2.2 hC
  have hN : n0 ≤ n20 := Nat.le_trans hN hm1
  have hT : s0 ≤ s21 := Nat.le_trans hT hm2
  refine W.widen (k := n20 - n0) (n := s21 - s0) (by omega) (by omega) ?_
  clear hP1 hD1 hFc hk1 hz1 hvm ht hax hm hm1 hm2 hM1 hM2
  obtain rfl := hw.symm
  refine lv_iconst (v := 1) hx hb dX9_goOn_20 (by decide) ?_
  refine lv_isub hx hb dX9_goOn_21 ?_
  obtain ⟨t25, n28, s29, E30, hJ26, hF⟩ := mb_o hF
  have hm := mle hJ26
  have join31 : ∀ (ad27 : Nat → Nat) (H : Heap) (locs : List Loc) (ls : Array Slot), axh n0 ad0 n28 ad27 → rf nb ad27 n28 (x5) ((AD nb ad10 x5)) → rf nb ad27 n28 (a0) (Aa0) → va_P (dC, dI) vwCl (CH cy nb ad27 n28 E30) H → va_D A (CH cy nb ad27 n28 E30) → va_S A s.heap H locs → lv_has ls 6 [(2, .ref (AD nb ad10 x5)), (0, .ref Aa0), (1, .int a1)] → W p l e (headSpec (wsg yX9_goOn cX9_goOn 6 none) ({ frames := 15, cells := nz - n0, slots := sz9 - s0, locals := 1000 })).room s m ([.ref Aa0, .int a1] : List Value).toArray below meth c H locs (n28 - n0) (s29 - s0) Qn (F0 m 30 ls [.int t25]) := by
    intro ad27 H locs ls hX hr32 hr33 hP hD hS hl
    have hC := hm.2.2 hC
    have hN : n0 ≤ n28 := Nat.le_trans hN hm.1
    have hT : s0 ≤ s29 := Nat.le_trans hT hm.2.1
    clear hm
    refine lv_istore_n (lv' := [(3, .int t25), (2, .ref (AD nb ad10 x5)), (0, .ref Aa0), (1, .int a1)]) hx hb dX9_goOn_30 rfl hl (by decide) rfl (fun ls hl => ?_)
    refine lv_aload_n hx hb dX9_goOn_31 rfl (lv_at hl 1 rfl) ?_
    obtain ⟨x34, e35, hF⟩ := mg_o hF
    obtain ⟨fs9, h9, g9⟩ := rdI hP hC hr32 e35
    refine va_get (D := (dC, dI)) (ci := 10) (v := .int x34) (C := RX10) (T := TX10) (N := 15) hx hb hts inlX10 hown hK h9 0 rfl rfl 3 (by decide) (hts _ mw_1314) (fun _ h9 => h9) g9 dX9_goOn_32 ?_
    clear h9 g9
    refine lv_if_lt (tgt := 68) hx hb dX9_goOn_35 (by decide) (fun c36 => ?_) (fun c36 => ?_)
    · skip
      rw [if_pos c36] at hF
      obtain ⟨ht9, hn9, hs9, hE9⟩ := mr_o hF
      subst hn9 hs9 hE9
      have hX9 := hX
      rw [hQ]
      exact W.vret hx hb hr (fun t ht hW => ⟨⟨(), rfl, trivial, _, hX, by rw [ht]; exact hP, hD⟩, hS.F ht⟩) hS.2.2 dX9_goOn_68
    · skip
      rw [if_neg c36] at hF
      refine lv_aload_n hx hb dX9_goOn_38 rfl (lv_at hl 1 rfl) ?_
      obtain ⟨x37, e38, hF⟩ := mg_o hF
      obtain ⟨fs9, h9, g9⟩ := rdI hP hC hr32 e38
      refine va_get (D := (dC, dI)) (ci := 10) (v := .int x37) (C := RX10) (T := TX10) (N := 15) hx hb hts inlX10 hown hK h9 0 rfl rfl 4 (by decide) (hts _ mw_1315) (fun _ h9 => h9) g9 dX9_goOn_39 ?_
      clear h9 g9
      refine lv_if_gt (tgt := 68) hx hb dX9_goOn_42 (by decide) (fun c39 => ?_) (fun c39 => ?_)
      · skip
        rw [if_pos c39] at hF
        obtain ⟨ht9, hn9, hs9, hE9⟩ := mr_o hF
        subst hn9 hs9 hE9
        have hX9 := hX
        rw [hQ]
        exact W.vret hx hb hr (fun t ht hW => ⟨⟨(), rfl, trivial, _, hX, by rw [ht]; exact hP, hD⟩, hS.F ht⟩) hS.2.2 dX9_goOn_68
      · skip
        rw [if_neg c39] at hF
        refine lv_iload_n hx hb dX9_goOn_45 rfl (lv_at hl 0 rfl) ?_
        refine lv_if_ne (tgt := 69) hx hb dX9_goOn_46 (by decide) (fun c40 => ?_) (fun c40 => ?_)
        · skip
          rw [if_neg c40] at hF
          refine lv_aload_n hx hb dX9_goOn_69 rfl (lv_at hl 1 rfl) ?_
          obtain ⟨x41, e42, hF⟩ := mg_o hF
          obtain ⟨fs9, h9, g9⟩ := rdI hP hC hr32 e42
          refine va_get (D := (dC, dI)) (ci := 10) (v := .int x41) (C := RX10) (T := TX10) (N := 15) hx hb hts inlX10 hown hK h9 0 rfl rfl 3 (by decide) (hts _ mw_1314) (fun _ h9 => h9) g9 dX9_goOn_70 ?_
          clear h9 g9
          refine lv_istore (lv' := [(4, .int x41), (3, .int t25), (2, .ref (AD nb ad10 x5)), (0, .ref Aa0), (1, .int a1)]) hx hb dX9_goOn_73 hl (by decide) rfl (fun ls hl => ?_)
          refine lv_aload_n hx hb dX9_goOn_75 rfl (lv_at hl 2 rfl) ?_
          refine lv_iconst (v := (-1)) hx hb dX9_goOn_76 (by decide) ?_
          obtain ⟨E43, e44, hF⟩ := mw_o hF
          obtain ⟨q9, fs9, h9, ez9⟩ := wrI (cy := cy) hC hr32 e44
          refine va_put (D := (dC, dI)) (ci := 10) (v := .int (-1)) (ty := .int) (C := RX10) (T := TX10) (N := 15) hx hb hts inlX10 tyX10 tyX10_ok nmX10 hown hK hP hD hS q9 h9 rfl 3 (by decide) (hts _ mw_1314) (fun _ h9 => h9) rfl (by decide +kernel) rfl rfl (Nat.le_of_ble_eq_true rfl) dX9_goOn_77 (fun H locs hP hD hS => ?_)
          rw [ez9] at hP hD
          clear ez9 h9
          have hC := sI_clo e44 hC
          refine lv_aload_n hx hb dX9_goOn_80 rfl (lv_at hl 2 rfl) ?_
          refine lv_dup hx hb dX9_goOn_81 rfl ?_
          obtain ⟨x45, e46, hF⟩ := mg_o hF
          obtain ⟨fs9, h9, g9⟩ := rdI hP hC hr32 e46
          refine va_get (D := (dC, dI)) (ci := 10) (v := .int x45) (C := RX10) (T := TX10) (N := 15) hx hb hts inlX10 hown hK h9 0 rfl rfl 7 (by decide) (hts _ mw_1335) (fun _ h9 => h9) g9 dX9_goOn_82 ?_
          clear h9 g9
          refine lv_iconst (v := 1) hx hb dX9_goOn_85 (by decide) ?_
          refine lv_iadd hx hb dX9_goOn_86 ?_
          obtain ⟨E47, e48, hF⟩ := mw_o hF
          obtain ⟨q9, fs9, h9, ez9⟩ := wrI (cy := cy) hC hr32 e48
          refine va_put (D := (dC, dI)) (ci := 10) (v := .int (x45 + 1)) (ty := .int) (C := RX10) (T := TX10) (N := 15) hx hb hts inlX10 tyX10 tyX10_ok nmX10 hown hK hP hD hS q9 h9 rfl 7 (by decide) (hts _ mw_1335) (fun _ h9 => h9) rfl (by decide +kernel) rfl rfl (Nat.le_of_ble_eq_true rfl) dX9_goOn_87 (fun H locs hP hD hS => ?_)
          rw [ez9] at hP hD
          clear ez9 h9
          have hC := sI_clo e48 hC
          refine lv_iload_n hx hb dX9_goOn_90 rfl (lv_at hl 1 rfl) ?_
          refine lv_if_ne (tgt := 104) hx hb dX9_goOn_91 (by decide) (fun c49 => ?_) (fun c49 => ?_)
          · skip
            rw [if_neg c49] at hF
            refine lv_aload_n hx hb dX9_goOn_104 rfl (lv_at hl 3 rfl) ?_
            obtain ⟨x50, e51, hF⟩ := mg_o hF
            obtain ⟨hr52, fs9, h9, g9⟩ := rdR hP hC hr33 e51
            refine va_get (D := (dC, dI)) (ci := 9) (v := .ref (AD nb ad27 x50)) (C := RX9) (T := TX9) (N := 14) hx hb hts inlX9 hown hK h9 0 rfl rfl 10 (by decide) (hts _ mw_108) (fun _ h9 => h9) g9 dX9_goOn_105 ?_
            clear h9 g9
            refine lv_iload hx hb dX9_goOn_108 (lv_at hl 0 rfl) ?_
            obtain ⟨fs9, e53, hF⟩ := mg_o hF
            obtain ⟨x54, n56, s57, E58, e55, hF⟩ := mb_o hF
            have hm := mle e55
            have hM1 := mle1 hF
            have hM2 := mle2 hF
            have hm1 := hm.1
            have hm2 := hm.2.1
            have hFc := my_free hD hS hA
            refine va_callr (va_runV (C := RJx4a65c) (As := [.int x41]) (rest := []) ⟨hx, hb, hml, hown, hts⟩ (h_Jx4a65c_get_915e3 l dC dI cy nb ad27 n28 s29 E47 hC (x50) (AD nb ad27 x50) hr52 (x41) H.size x54 n56 s57 E58 e55) (cwV 1 hts (gV mw_347 mw_235 mw_236 mw_12 mw_237) rfl rfl rfl (by decide +kernel) ⟨Nat.le_of_ble_eq_true rfl, Nat.le_of_ble_eq_true rfl⟩) (hl_preV hP hK hD hE hS hFc (va_recv hK (rdO_ hP hC hr52 e53) (ci := 14) (q0 := 0) rfl rfl)) rfl rfl hl.1 rfl (lv_room (Nat.le_of_ble_eq_true rfl)) dX9_goOn_110 ⟨show n28 - n0 + (n56 - n28) ≤ nz - n0 by omega, show s29 - s0 + (s57 - s29) ≤ sz9 - s0 by omega⟩) hS (fun q _ h => hFc q h) hFc (fun u ra t H1 locs ht hvm hw hB hz1 hk1 hS => ?_)
            obtain ⟨ad59, hax, hr60, hP1, hD1⟩ := hB
            rw [ht] at hP1
            have hP := hP1
            have hD := hD1.weaken (fun k q _ h => hFc q.1 h)
            generalize H1 = H at hP hS ⊢
            have hr32 := hr32.mv hC.1 hax
            have hr33 := hr33.mv hC.1 hax
            have hX := hX.trans hax
            have hC := hm.2.2 hC
            have hN : n0 ≤ n56 := Nat.le_trans hN hm1
            have hT : s0 ≤ s57 := Nat.le_trans hT hm2
            refine W.widen (k := n56 - n0) (n := s57 - s0) (by omega) (by omega) ?_
            clear hP1 hD1 hFc hk1 hz1 hvm ht hax hm hm1 hm2 hM1 hM2
            refine my_top (y := .ref (AD nb ad59 x54)) (congrArg Value.ref hr60.2.symm) ?_
            have hr60 := rf_self hr60
            obtain ⟨fs9, e62, hF⟩ := mg_o hF
            refine va_castS hx hb hown (hts _ mw_174) (hK.1 8 _ rfl).2 (va_recv hK (rdO_ hP hC hr60 e62) (ci := 8) (q0 := 0) rfl rfl) dX9_goOn_113 ?_
            refine lv_astore (lv' := [(5, .ref (AD nb ad59 x54)), (4, .int x41), (3, .int t25), (2, .ref (AD nb ad10 x5)), (0, .ref Aa0), (1, .int a1)]) hx hb dX9_goOn_116 hl (by decide) rfl (fun ls hl => ?_)
            refine lv_aload hx hb dX9_goOn_118 (lv_at hl 0 rfl) ?_
            refine lv_iconst (v := (-1)) hx hb dX9_goOn_120 (by decide) ?_
            obtain ⟨E63, e64, hF⟩ := mw_o hF
            obtain ⟨q9, fs9, h9, ez9⟩ := wrI (cy := cy) hC hr60 e64
            refine va_put (D := (dC, dI)) (ci := 8) (v := .int (-1)) (ty := .int) (C := RX8) (T := TX8) (N := 9) hx hb hts inlX8 tyX8 tyX8_ok nmX8 hown hK hP hD hS q9 h9 rfl 4 (by decide) (hts _ mw_1328) (fun _ h9 => h9) rfl (by decide +kernel) rfl rfl (Nat.le_of_ble_eq_true rfl) dX9_goOn_121 (fun H locs hP hD hS => ?_)
            rw [ez9] at hP hD
            clear ez9 h9
            have hC := sI_clo e64 hC
            refine lv_aload_n hx hb dX9_goOn_124 rfl (lv_at hl 4 rfl) ?_
            refine lv_aload hx hb dX9_goOn_125 (lv_at hl 0 rfl) ?_
            obtain ⟨x65, e66, hF⟩ := mg_o hF
            obtain ⟨fs9, h9, g9⟩ := rdI hP hC hr60 e66
            refine va_get (D := (dC, dI)) (ci := 8) (v := .int x65) (C := RX8) (T := TX8) (N := 9) hx hb hts inlX8 hown hK h9 0 rfl rfl 0 (by decide) (hts _ mw_344) (fun _ h9 => h9) g9 dX9_goOn_127 ?_
            clear h9 g9
            obtain ⟨fs9, e67, hF⟩ := mg_o hF
            obtain ⟨x68, n70, s71, E72, e69, hF⟩ := mb_o hF
            have hm := mle e69
            have hM1 := mle1 hF
            have hM2 := mle2 hF
            have hm1 := hm.1
            have hm2 := hm.2.1
            have hFc := my_free hD hS hA
            refine va_calli (va_runV (C := RX9) (As := [.int x65]) (rest := []) ⟨hx, hb, hml, hown, hts⟩ (h_X9_nextOf l dC dI cy nb ad59 n56 s57 E63 hC (a0) Aa0 hr33 (x65) H.size x68 n70 s71 E72 e69) (cwV 1 hts (gV mw_1356 mw_1357 mw_1358 mw_5 mw_1359) rfl rfl rfl (by decide +kernel) ⟨Nat.le_of_ble_eq_true rfl, Nat.le_of_ble_eq_true rfl⟩) (hl_preV hP hK hD hE hS hFc (va_recv hK (rdO_ hP hC hr33 e67) (ci := 9) (q0 := 0) rfl rfl)) rfl rfl hl.1 rfl (lv_room (Nat.le_of_ble_eq_true rfl)) dX9_goOn_130 ⟨show n56 - n0 + (n70 - n56) ≤ nz - n0 by omega, show s57 - s0 + (s71 - s57) ≤ sz9 - s0 by omega⟩) hS (fun q _ h => hFc q h) hFc (fun r9 u t H1 locs ht hvm hw hB hz1 hk1 hS => ?_)
            obtain ⟨ad73, hax, hP1, hD1⟩ := hB
            rw [ht] at hP1
            have hP := hP1
            have hD := hD1.weaken (fun k q _ h => hFc q.1 h)
            generalize H1 = H at hP hS ⊢
            have hr60 := hr60.mv hC.1 hax
            have hr32 := hr32.mv hC.1 hax
            have hr33 := hr33.mv hC.1 hax
            have hX := hX.trans hax
            have hC := hm.2.2 hC
            have hN : n0 ≤ n70 := Nat.le_trans hN hm1
            have hT : s0 ≤ s71 := Nat.le_trans hT hm2
            refine W.widen (k := n70 - n0) (n := s71 - s0) (by omega) (by omega) ?_
            clear hP1 hD1 hFc hk1 hz1 hvm ht hax hm hm1 hm2 hM1 hM2
            obtain rfl := hw.symm
            refine lv_iload hx hb dX9_goOn_133 (lv_at hl 1 rfl) ?_
            obtain ⟨t75, n78, s79, E80, hJ76, hF⟩ := mb_o hF
            have hm := mle hJ76
            have join81 : ∀ (ad77 : Nat → Nat) (H : Heap) (locs : List Loc) (ls : Array Slot), axh n0 ad0 n78 ad77 → rf nb ad77 n78 (x54) ((AD nb ad59 x54)) → rf nb ad77 n78 (x5) ((AD nb ad10 x5)) → rf nb ad77 n78 (a0) (Aa0) → va_P (dC, dI) vwCl (CH cy nb ad77 n78 E80) H → va_D A (CH cy nb ad77 n78 E80) → va_S A s.heap H locs → lv_has ls 6 [(5, .ref (AD nb ad59 x54)), (4, .int x41), (3, .int t25), (2, .ref (AD nb ad10 x5)), (0, .ref Aa0), (1, .int a1)] → W p l e (headSpec (wsg yX9_goOn cX9_goOn 6 none) ({ frames := 15, cells := nz - n0, slots := sz9 - s0, locals := 1000 })).room s m ([.ref Aa0, .int a1] : List Value).toArray below meth c H locs (n78 - n0) (s79 - s0) Qn (F0 m 195 ls []) := by
              intro ad77 H locs ls hX hr82 hr83 hr84 hP hD hS hl
              have hC := hm.2.2 hC
              have hN : n0 ≤ n78 := Nat.le_trans hN hm.1
              have hT : s0 ≤ s79 := Nat.le_trans hT hm.2.1
              clear hm
              obtain ⟨ht9, hn9, hs9, hE9⟩ := mr_o hF
              subst hn9 hs9 hE9
              have hX9 := hX
              rw [hQ]
              exact W.vret hx hb hr (fun t ht hW => ⟨⟨(), rfl, trivial, _, hX, by rw [ht]; exact hP, hD⟩, hS.F ht⟩) hS.2.2 dX9_goOn_195
            have hK85 := mle1 hF
            have hK86 := mle2 hF
            clear hF hm
            have hF := hJ76
            clear hJ76
            refine lv_icmp_ne (tgt := 147) hx hb dX9_goOn_135 (by decide) (fun c74 => ?_) (fun c74 => ?_)
            · skip
              rw [if_neg c74] at hF
              refine lv_aload_n hx hb dX9_goOn_147 rfl (lv_at hl 4 rfl) ?_
              refine lv_iconst (v := 2) hx hb dX9_goOn_148 (by decide) ?_
              obtain ⟨fs9, e87, hF⟩ := mg_o hF
              obtain ⟨x88, n90, s91, E92, e89, hF⟩ := mb_o hF
              have hm := mle e89
              have hM1 := mle1 hF
              have hM2 := mle2 hF
              have hm1 := hm.1
              have hm2 := hm.2.1
              have hFc := my_free hD hS hA
              refine va_calli (va_runV (C := RX9) (As := [.int 2]) (rest := []) ⟨hx, hb, hml, hown, hts⟩ (h_X9_many l dC dI cy nb ad73 n70 s71 E72 hC (a0) Aa0 hr33 (2) H.size x88 n90 s91 E92 e89) (cwV 1 hts (gV mw_1372 mw_171 mw_172 mw_5 mw_173) rfl rfl rfl (by decide +kernel) ⟨Nat.le_of_ble_eq_true rfl, Nat.le_of_ble_eq_true rfl⟩) (hl_preV hP hK hD hE hS hFc (va_recv hK (rdO_ hP hC hr33 e87) (ci := 9) (q0 := 0) rfl rfl)) rfl rfl hl.1 rfl (lv_room (Nat.le_of_ble_eq_true rfl)) dX9_goOn_149 ⟨show n70 - n0 + (n90 - n70) ≤ nz - n0 by omega, show s71 - s0 + (s91 - s71) ≤ sz9 - s0 by omega⟩) hS (fun q _ h => hFc q h) hFc (fun r9 u t H1 locs ht hvm hw hB hz1 hk1 hS => ?_)
              obtain ⟨ad93, hax, hP1, hD1⟩ := hB
              rw [ht] at hP1
              have hP := hP1
              have hD := hD1.weaken (fun k q _ h => hFc q.1 h)
              generalize H1 = H at hP hS ⊢
              have hr60 := hr60.mv hC.1 hax
              have hr32 := hr32.mv hC.1 hax
              have hr33 := hr33.mv hC.1 hax
              have hX := hX.trans hax
              have hC := hm.2.2 hC
              have hN : n0 ≤ n90 := Nat.le_trans hN hm1
              have hT : s0 ≤ s91 := Nat.le_trans hT hm2
              refine W.widen (k := n90 - n0) (n := s91 - s0) (by omega) (by omega) ?_
              clear hP1 hD1 hFc hk1 hz1 hvm ht hax hm hm1 hm2 hM1 hM2
              obtain rfl := hw.symm
              refine lv_aload_n hx hb dX9_goOn_152 rfl (lv_at hl 4 rfl) ?_
              obtain ⟨x94, e95, hF⟩ := mg_o hF
              obtain ⟨fs9, h9, g9⟩ := rdI hP hC hr33 e95
              refine va_get (D := (dC, dI)) (ci := 9) (v := .int x94) (C := RX9) (T := TX9) (N := 14) hx hb hts inlX9 hown hK h9 0 rfl rfl 1 (by decide) (hts _ mw_102) (fun _ h9 => h9) g9 dX9_goOn_153 ?_
              clear h9 g9
              refine lv_icmp_ge (tgt := 168) hx hb dX9_goOn_156 (by decide) (fun c96 => ?_) (fun c96 => ?_)
              · skip
                rw [if_pos c96] at hF
                refine lv_aload hx hb dX9_goOn_168 (lv_at hl 0 rfl) ?_
                refine lv_iconst (v := 0) hx hb dX9_goOn_170 (by decide) ?_
                obtain ⟨E97, e98, hF⟩ := mw_o hF
                obtain ⟨q9, fs9, h9, ez9⟩ := wrI (cy := cy) hC hr60 e98
                refine va_put (D := (dC, dI)) (ci := 8) (v := .int 0) (ty := .int) (C := RX8) (T := TX8) (N := 9) hx hb hts inlX8 tyX8 tyX8_ok nmX8 hown hK hP hD hS q9 h9 rfl 3 (by decide) (hts _ mw_175) (fun _ h9 => h9) rfl (by decide +kernel) rfl rfl (Nat.le_of_ble_eq_true rfl) dX9_goOn_171 (fun H locs hP hD hS => ?_)
                rw [ez9] at hP hD
                clear ez9 h9
                have hC := sI_clo e98 hC
                refine lv_aload hx hb dX9_goOn_174 (lv_at hl 0 rfl) ?_
                refine lv_dup hx hb dX9_goOn_176 rfl ?_
                obtain ⟨x99, e100, hF⟩ := mg_o hF
                obtain ⟨fs9, h9, g9⟩ := rdI hP hC hr60 e100
                refine va_get (D := (dC, dI)) (ci := 8) (v := .int x99) (C := RX8) (T := TX8) (N := 9) hx hb hts inlX8 hown hK h9 0 rfl rfl 6 (by decide) (hts _ mw_343) (fun _ h9 => h9) g9 dX9_goOn_177 ?_
                clear h9 g9
                refine lv_iconst (v := 1) hx hb dX9_goOn_180 (by decide) ?_
                refine lv_iadd hx hb dX9_goOn_181 ?_
                obtain ⟨E101, e102, hF⟩ := mw_o hF
                obtain ⟨q9, fs9, h9, ez9⟩ := wrI (cy := cy) hC hr60 e102
                refine va_put (D := (dC, dI)) (ci := 8) (v := .int (x99 + 1)) (ty := .int) (C := RX8) (T := TX8) (N := 9) hx hb hts inlX8 tyX8 tyX8_ok nmX8 hown hK hP hD hS q9 h9 rfl 6 (by decide) (hts _ mw_343) (fun _ h9 => h9) rfl (by decide +kernel) rfl rfl (Nat.le_of_ble_eq_true rfl) dX9_goOn_182 (fun H locs hP hD hS => ?_)
                rw [ez9] at hP hD
                clear ez9 h9
                have hC := sI_clo e102 hC
                refine lv_aload_n hx hb dX9_goOn_185 rfl (lv_at hl 4 rfl) ?_
                obtain ⟨x103, e104, hF⟩ := mg_o hF
                obtain ⟨hr105, fs9, h9, g9⟩ := rdR hP hC hr33 e104
                refine va_get (D := (dC, dI)) (ci := 9) (v := .ref (AD nb ad93 x103)) (C := RX9) (T := TX9) (N := 14) hx hb hts inlX9 hown hK h9 0 rfl rfl 13 (by decide) (hts _ mw_111) (fun _ h9 => h9) g9 dX9_goOn_186 ?_
                clear h9 g9
                refine lv_iconst (v := 2) hx hb dX9_goOn_189 (by decide) ?_
                refine lv_dup2_11 hx hb dX9_goOn_190 rfl rfl ?_
                obtain ⟨x106, e107, hF⟩ := mg_o hF
                obtain ⟨m9, f9, h9, i9, g9⟩ := rdA hP hC hr105 e107
                refine va_iald hx hb hK h9 0 1 rfl rfl i9 dX9_goOn_191 ?_
                refine my_topi (y := x106) g9 ?_
                clear h9 i9 g9
                refine lv_iconst (v := 1) hx hb dX9_goOn_192 (by decide) ?_
                refine lv_iadd hx hb dX9_goOn_193 ?_
                obtain ⟨E108, e109, hF⟩ := mw_o hF
                obtain ⟨q9, m9, f9, h9, i9, ez9⟩ := wrA (cy := cy) hC hr105 e109
                refine va_iast hx hb hK hP hD hS q9 1 h9 rfl i9 dX9_goOn_194 (fun H locs hP hD hS => ?_)
                clear i9
                rw [ez9] at hP hD
                clear ez9 h9
                have hC := sA_clo e109 hC
                obtain ⟨ht9, hn9, hs9, hE9⟩ := mr_o hF
                subst ht9 hn9 hs9 hE9
                have hl := lv_sub (l' := [(5, .ref (AD nb ad59 x54)), (4, .int x41), (3, .int t25), (2, .ref (AD nb ad10 x5)), (0, .ref Aa0), (1, .int a1)]) hl [0, 1, 2, 3, 4, 5] rfl
                exact join81 _ _ _ _ hX hr60 hr32 hr33 hP hD hS hl
              · skip
                rw [if_neg c96] at hF
                refine lv_aload hx hb dX9_goOn_159 (lv_at hl 0 rfl) ?_
                refine lv_iconst (v := 2) hx hb dX9_goOn_161 (by decide) ?_
                obtain ⟨E110, e111, hF⟩ := mw_o hF
                obtain ⟨q9, fs9, h9, ez9⟩ := wrI (cy := cy) hC hr60 e111
                refine va_put (D := (dC, dI)) (ci := 8) (v := .int 2) (ty := .int) (C := RX8) (T := TX8) (N := 9) hx hb hts inlX8 tyX8 tyX8_ok nmX8 hown hK hP hD hS q9 h9 rfl 3 (by decide) (hts _ mw_175) (fun _ h9 => h9) rfl (by decide +kernel) rfl rfl (Nat.le_of_ble_eq_true rfl) dX9_goOn_162 (fun H locs hP hD hS => ?_)
                rw [ez9] at hP hD
                clear ez9 h9
                have hC := sI_clo e111 hC
                refine lv_goto (tgt := 195) hx hb dX9_goOn_165 (by decide) ?_
                obtain ⟨ht9, hn9, hs9, hE9⟩ := mr_o hF
                subst ht9 hn9 hs9 hE9
                have hl := lv_sub (l' := [(5, .ref (AD nb ad59 x54)), (4, .int x41), (3, .int t25), (2, .ref (AD nb ad10 x5)), (0, .ref Aa0), (1, .int a1)]) hl [0, 1, 2, 3, 4, 5] rfl
                exact join81 _ _ _ _ hX hr60 hr32 hr33 hP hD hS hl
            · skip
              rw [if_pos c74] at hF
              refine lv_aload_n hx hb dX9_goOn_138 rfl (lv_at hl 4 rfl) ?_
              refine lv_iload hx hb dX9_goOn_139 (lv_at hl 1 rfl) ?_
              obtain ⟨fs9, e112, hF⟩ := mg_o hF
              obtain ⟨⟨⟩, n114, s115, E116, e113, hF⟩ := mb_o hF
              have hm := mle e113
              have hM1 := mle1 hF
              have hM2 := mle2 hF
              have hm1 := hm.1
              have hm2 := hm.2.1
              have hFc := my_free hD hS hA
              refine va_callv (va_runV (C := RX9) (As := [.int x41]) (rest := []) ⟨hx, hb, hml, hown, hts⟩ (h_X9_leave l dC dI cy nb ad73 n70 s71 E72 hC (a0) Aa0 hr33 (x41) H.size n114 s115 E116 e113) (cwV 1 hts (gV mw_1366 mw_1367 mw_1368 mw_5 mw_1369) rfl rfl rfl (by decide +kernel) ⟨Nat.le_of_ble_eq_true rfl, Nat.le_of_ble_eq_true rfl⟩) (hl_preV hP hK hD hE hS hFc (va_recv hK (rdO_ hP hC hr33 e112) (ci := 9) (q0 := 0) rfl rfl)) rfl rfl hl.1 rfl (lv_room (Nat.le_of_ble_eq_true rfl)) dX9_goOn_141 ⟨show n70 - n0 + (n114 - n70) ≤ nz - n0 by omega, show s71 - s0 + (s115 - s71) ≤ sz9 - s0 by omega⟩) hS (fun q _ h => hFc q h) hFc (fun u t H1 locs ht hvm hw hB hz1 hk1 hS => ?_)
              obtain ⟨ad117, hax, hP1, hD1⟩ := hB
              rw [ht] at hP1
              have hP := hP1
              have hD := hD1.weaken (fun k q _ h => hFc q.1 h)
              generalize H1 = H at hP hS ⊢
              have hr60 := hr60.mv hC.1 hax
              have hr32 := hr32.mv hC.1 hax
              have hr33 := hr33.mv hC.1 hax
              have hX := hX.trans hax
              have hC := hm.2.2 hC
              have hN : n0 ≤ n114 := Nat.le_trans hN hm1
              have hT : s0 ≤ s115 := Nat.le_trans hT hm2
              refine W.widen (k := n114 - n0) (n := s115 - s0) (by omega) (by omega) ?_
              clear hP1 hD1 hFc hk1 hz1 hvm ht hax hm hm1 hm2 hM1 hM2
              refine lv_goto (tgt := 195) hx hb dX9_goOn_144 (by decide) ?_
              obtain ⟨ht9, hn9, hs9, hE9⟩ := mr_o hF
              subst ht9 hn9 hs9 hE9
              have hl := lv_sub (l' := [(5, .ref (AD nb ad59 x54)), (4, .int x41), (3, .int t25), (2, .ref (AD nb ad10 x5)), (0, .ref Aa0), (1, .int a1)]) hl [0, 1, 2, 3, 4, 5] rfl
              exact join81 _ _ _ _ hX hr60 hr32 hr33 hP hD hS hl
          · skip
            rw [if_pos c49] at hF
            refine lv_aload_n hx hb dX9_goOn_94 rfl (lv_at hl 3 rfl) ?_
            refine lv_iload_n hx hb dX9_goOn_95 rfl (lv_at hl 4 rfl) ?_
            refine lv_iconst (v := 1) hx hb dX9_goOn_96 (by decide) ?_
            refine lv_iadd hx hb dX9_goOn_97 ?_
            refine lv_iload hx hb dX9_goOn_98 (lv_at hl 0 rfl) ?_
            obtain ⟨fs9, e118, hF⟩ := mg_o hF
            obtain ⟨⟨⟩, n120, s121, E122, e119, hF⟩ := mb_o hF
            have hm := mle e119
            have hM1 := mle1 hF
            have hM2 := mle2 hF
            have hm1 := hm.1
            have hm2 := hm.2.1
            have hFc := my_free hD hS hA
            refine va_callv (va_runV (C := RX9) (As := [.int (a1 + 1), .int x41]) (rest := []) ⟨hx, hb, hml, hown, hts⟩ (h_X9_enter l dC dI cy nb ad27 n28 s29 E47 hC (a0) Aa0 hr33 ((a1 + 1)) (x41) H.size n120 s121 E122 e119) (cwV 2 hts (gV mw_1336 mw_1337 mw_1338 mw_5 mw_1339) rfl rfl rfl (by decide +kernel) ⟨Nat.le_of_ble_eq_true rfl, Nat.le_of_ble_eq_true rfl⟩) (hl_preV hP hK hD hE hS hFc (va_recv hK (rdO_ hP hC hr33 e118) (ci := 9) (q0 := 0) rfl rfl)) rfl rfl hl.1 rfl (lv_room (Nat.le_of_ble_eq_true rfl)) dX9_goOn_100 ⟨show n28 - n0 + (n120 - n28) ≤ nz - n0 by omega, show s29 - s0 + (s121 - s29) ≤ sz9 - s0 by omega⟩) hS (fun q _ h => hFc q h) hFc (fun u t H1 locs ht hvm hw hB hz1 hk1 hS => ?_)
            obtain ⟨ad123, hax, hP1, hD1⟩ := hB
            rw [ht] at hP1
            have hP := hP1
            have hD := hD1.weaken (fun k q _ h => hFc q.1 h)
            generalize H1 = H at hP hS ⊢
            have hr32 := hr32.mv hC.1 hax
            have hr33 := hr33.mv hC.1 hax
            have hX := hX.trans hax
            have hC := hm.2.2 hC
            have hN : n0 ≤ n120 := Nat.le_trans hN hm1
            have hT : s0 ≤ s121 := Nat.le_trans hT hm2
            refine W.widen (k := n120 - n0) (n := s121 - s0) (by omega) (by omega) ?_
            clear hP1 hD1 hFc hk1 hz1 hvm ht hax hm hm1 hm2 hM1 hM2
            obtain ⟨ht9, hn9, hs9, hE9⟩ := mr_o hF
            subst hn9 hs9 hE9
            have hX9 := hX
            rw [hQ]
            exact W.vret hx hb hr (fun t ht hW => ⟨⟨(), rfl, trivial, _, hX, by rw [ht]; exact hP, hD⟩, hS.F ht⟩) hS.2.2 dX9_goOn_103
        · skip
          rw [if_pos c40] at hF
          refine lv_aload_n hx hb dX9_goOn_49 rfl (lv_at hl 2 rfl) ?_
          obtain ⟨x124, e125, hF⟩ := mg_o hF
          obtain ⟨hr126, fs9, h9, g9⟩ := rdR hP hC hr33 e125
          refine va_get (D := (dC, dI)) (ci := 9) (v := .ref (AD nb ad27 x124)) (C := RX9) (T := TX9) (N := 14) hx hb hts inlX9 hown hK h9 0 rfl rfl 7 (by decide) (hts _ mw_105) (fun _ h9 => h9) g9 dX9_goOn_50 ?_
          clear h9 g9
          refine lv_iload_n hx hb dX9_goOn_53 rfl (lv_at hl 3 rfl) ?_
          refine lv_iconst (v := 1) hx hb dX9_goOn_54 (by decide) ?_
          refine lv_iadd hx hb dX9_goOn_55 ?_
          obtain ⟨fs9, e127, hF⟩ := mg_o hF
          obtain ⟨x128, n130, s131, E132, e129, hF⟩ := mb_o hF
          have hm := mle e129
          have hM1 := mle1 hF
          have hM2 := mle2 hF
          have hm1 := hm.1
          have hm2 := hm.2.1
          have hFc := my_free hD hS hA
          refine va_callr (va_runV (C := RJx4a65c) (As := [.int (a1 + 1)]) (rest := []) ⟨hx, hb, hml, hown, hts⟩ (h_Jx4a65c_get_915e3 l dC dI cy nb ad27 n28 s29 E30 hC (x124) (AD nb ad27 x124) hr126 ((a1 + 1)) H.size x128 n130 s131 E132 e129) (cwV 1 hts (gV mw_347 mw_235 mw_236 mw_12 mw_237) rfl rfl rfl (by decide +kernel) ⟨Nat.le_of_ble_eq_true rfl, Nat.le_of_ble_eq_true rfl⟩) (hl_preV hP hK hD hE hS hFc (va_recv hK (rdO_ hP hC hr126 e127) (ci := 14) (q0 := 0) rfl rfl)) rfl rfl hl.1 rfl (lv_room (Nat.le_of_ble_eq_true rfl)) dX9_goOn_56 ⟨show n28 - n0 + (n130 - n28) ≤ nz - n0 by omega, show s29 - s0 + (s131 - s29) ≤ sz9 - s0 by omega⟩) hS (fun q _ h => hFc q h) hFc (fun u ra t H1 locs ht hvm hw hB hz1 hk1 hS => ?_)
          obtain ⟨ad133, hax, hr134, hP1, hD1⟩ := hB
          rw [ht] at hP1
          have hP := hP1
          have hD := hD1.weaken (fun k q _ h => hFc q.1 h)
          generalize H1 = H at hP hS ⊢
          have hr32 := hr32.mv hC.1 hax
          have hr33 := hr33.mv hC.1 hax
          have hX := hX.trans hax
          have hC := hm.2.2 hC
          have hN : n0 ≤ n130 := Nat.le_trans hN hm1
          have hT : s0 ≤ s131 := Nat.le_trans hT hm2
          refine W.widen (k := n130 - n0) (n := s131 - s0) (by omega) (by omega) ?_
          clear hP1 hD1 hFc hk1 hz1 hvm ht hax hm hm1 hm2 hM1 hM2
          refine my_top (y := .ref (AD nb ad133 x128)) (congrArg Value.ref hr134.2.symm) ?_
          have hr134 := rf_self hr134
          obtain ⟨fs9, e136, hF⟩ := mg_o hF
          refine va_castS hx hb hown (hts _ mw_1266) (hK.1 10 _ rfl).2 (va_recv hK (rdO_ hP hC hr134 e136) (ci := 10) (q0 := 0) rfl rfl) dX9_goOn_59 ?_
          obtain ⟨x137, e138, hF⟩ := mg_o hF
          obtain ⟨fs9, h9, g9⟩ := rdI hP hC hr134 e138
          refine va_get (D := (dC, dI)) (ci := 10) (v := .int x137) (C := RX10) (T := TX10) (N := 15) hx hb hts inlX10 hown hK h9 0 rfl rfl 3 (by decide) (hts _ mw_1314) (fun _ h9 => h9) g9 dX9_goOn_62 ?_
          clear h9 g9
          refine lv_if_lt (tgt := 69) hx hb dX9_goOn_65 (by decide) (fun c139 => ?_) (fun c139 => ?_)
          · skip
            rw [if_pos c139] at hF
            refine lv_aload_n hx hb dX9_goOn_69 rfl (lv_at hl 1 rfl) ?_
            obtain ⟨x140, e141, hF⟩ := mg_o hF
            obtain ⟨fs9, h9, g9⟩ := rdI hP hC hr32 e141
            refine va_get (D := (dC, dI)) (ci := 10) (v := .int x140) (C := RX10) (T := TX10) (N := 15) hx hb hts inlX10 hown hK h9 0 rfl rfl 3 (by decide) (hts _ mw_1314) (fun _ h9 => h9) g9 dX9_goOn_70 ?_
            clear h9 g9
            refine lv_istore (lv' := [(4, .int x140), (3, .int t25), (2, .ref (AD nb ad10 x5)), (0, .ref Aa0), (1, .int a1)]) hx hb dX9_goOn_73 hl (by decide) rfl (fun ls hl => ?_)
            refine lv_aload_n hx hb dX9_goOn_75 rfl (lv_at hl 2 rfl) ?_
            refine lv_iconst (v := (-1)) hx hb dX9_goOn_76 (by decide) ?_
            obtain ⟨E142, e143, hF⟩ := mw_o hF
            obtain ⟨q9, fs9, h9, ez9⟩ := wrI (cy := cy) hC hr32 e143
            refine va_put (D := (dC, dI)) (ci := 10) (v := .int (-1)) (ty := .int) (C := RX10) (T := TX10) (N := 15) hx hb hts inlX10 tyX10 tyX10_ok nmX10 hown hK hP hD hS q9 h9 rfl 3 (by decide) (hts _ mw_1314) (fun _ h9 => h9) rfl (by decide +kernel) rfl rfl (Nat.le_of_ble_eq_true rfl) dX9_goOn_77 (fun H locs hP hD hS => ?_)
            rw [ez9] at hP hD
            clear ez9 h9
            have hC := sI_clo e143 hC
            refine lv_aload_n hx hb dX9_goOn_80 rfl (lv_at hl 2 rfl) ?_
            refine lv_dup hx hb dX9_goOn_81 rfl ?_
            obtain ⟨x144, e145, hF⟩ := mg_o hF
            obtain ⟨fs9, h9, g9⟩ := rdI hP hC hr32 e145
            refine va_get (D := (dC, dI)) (ci := 10) (v := .int x144) (C := RX10) (T := TX10) (N := 15) hx hb hts inlX10 hown hK h9 0 rfl rfl 7 (by decide) (hts _ mw_1335) (fun _ h9 => h9) g9 dX9_goOn_82 ?_
            clear h9 g9
            refine lv_iconst (v := 1) hx hb dX9_goOn_85 (by decide) ?_
            refine lv_iadd hx hb dX9_goOn_86 ?_
            obtain ⟨E146, e147, hF⟩ := mw_o hF
            obtain ⟨q9, fs9, h9, ez9⟩ := wrI (cy := cy) hC hr32 e147
            refine va_put (D := (dC, dI)) (ci := 10) (v := .int (x144 + 1)) (ty := .int) (C := RX10) (T := TX10) (N := 15) hx hb hts inlX10 tyX10 tyX10_ok nmX10 hown hK hP hD hS q9 h9 rfl 7 (by decide) (hts _ mw_1335) (fun _ h9 => h9) rfl (by decide +kernel) rfl rfl (Nat.le_of_ble_eq_true rfl) dX9_goOn_87 (fun H locs hP hD hS => ?_)
            rw [ez9] at hP hD
            clear ez9 h9
            have hC := sI_clo e147 hC
            refine lv_iload_n hx hb dX9_goOn_90 rfl (lv_at hl 1 rfl) ?_
            refine lv_if_ne (tgt := 104) hx hb dX9_goOn_91 (by decide) (fun c148 => ?_) (fun c148 => ?_)
            · skip
              rw [if_neg c148] at hF
              refine lv_aload_n hx hb dX9_goOn_104 rfl (lv_at hl 3 rfl) ?_
              obtain ⟨x149, e150, hF⟩ := mg_o hF
              obtain ⟨hr151, fs9, h9, g9⟩ := rdR hP hC hr33 e150
              refine va_get (D := (dC, dI)) (ci := 9) (v := .ref (AD nb ad133 x149)) (C := RX9) (T := TX9) (N := 14) hx hb hts inlX9 hown hK h9 0 rfl rfl 10 (by decide) (hts _ mw_108) (fun _ h9 => h9) g9 dX9_goOn_105 ?_
              clear h9 g9
              refine lv_iload hx hb dX9_goOn_108 (lv_at hl 0 rfl) ?_
              obtain ⟨fs9, e152, hF⟩ := mg_o hF
              obtain ⟨x153, n155, s156, E157, e154, hF⟩ := mb_o hF
              have hm := mle e154
              have hM1 := mle1 hF
              have hM2 := mle2 hF
              have hm1 := hm.1
              have hm2 := hm.2.1
              have hFc := my_free hD hS hA
              refine va_callr (va_runV (C := RJx4a65c) (As := [.int x140]) (rest := []) ⟨hx, hb, hml, hown, hts⟩ (h_Jx4a65c_get_915e3 l dC dI cy nb ad133 n130 s131 E146 hC (x149) (AD nb ad133 x149) hr151 (x140) H.size x153 n155 s156 E157 e154) (cwV 1 hts (gV mw_347 mw_235 mw_236 mw_12 mw_237) rfl rfl rfl (by decide +kernel) ⟨Nat.le_of_ble_eq_true rfl, Nat.le_of_ble_eq_true rfl⟩) (hl_preV hP hK hD hE hS hFc (va_recv hK (rdO_ hP hC hr151 e152) (ci := 14) (q0 := 0) rfl rfl)) rfl rfl hl.1 rfl (lv_room (Nat.le_of_ble_eq_true rfl)) dX9_goOn_110 ⟨show n130 - n0 + (n155 - n130) ≤ nz - n0 by omega, show s131 - s0 + (s156 - s131) ≤ sz9 - s0 by omega⟩) hS (fun q _ h => hFc q h) hFc (fun u ra t H1 locs ht hvm hw hB hz1 hk1 hS => ?_)
              obtain ⟨ad158, hax, hr159, hP1, hD1⟩ := hB
              rw [ht] at hP1
              have hP := hP1
              have hD := hD1.weaken (fun k q _ h => hFc q.1 h)
              generalize H1 = H at hP hS ⊢
              have hr32 := hr32.mv hC.1 hax
              have hr33 := hr33.mv hC.1 hax
              have hX := hX.trans hax
              have hC := hm.2.2 hC
              have hN : n0 ≤ n155 := Nat.le_trans hN hm1
              have hT : s0 ≤ s156 := Nat.le_trans hT hm2
              refine W.widen (k := n155 - n0) (n := s156 - s0) (by omega) (by omega) ?_
              clear hP1 hD1 hFc hk1 hz1 hvm ht hax hm hm1 hm2 hM1 hM2
              refine my_top (y := .ref (AD nb ad158 x153)) (congrArg Value.ref hr159.2.symm) ?_
              have hr159 := rf_self hr159
              obtain ⟨fs9, e161, hF⟩ := mg_o hF
              refine va_castS hx hb hown (hts _ mw_174) (hK.1 8 _ rfl).2 (va_recv hK (rdO_ hP hC hr159 e161) (ci := 8) (q0 := 0) rfl rfl) dX9_goOn_113 ?_
              refine lv_astore (lv' := [(5, .ref (AD nb ad158 x153)), (4, .int x140), (3, .int t25), (2, .ref (AD nb ad10 x5)), (0, .ref Aa0), (1, .int a1)]) hx hb dX9_goOn_116 hl (by decide) rfl (fun ls hl => ?_)
              refine lv_aload hx hb dX9_goOn_118 (lv_at hl 0 rfl) ?_
              refine lv_iconst (v := (-1)) hx hb dX9_goOn_120 (by decide) ?_
              obtain ⟨E162, e163, hF⟩ := mw_o hF
              obtain ⟨q9, fs9, h9, ez9⟩ := wrI (cy := cy) hC hr159 e163
              refine va_put (D := (dC, dI)) (ci := 8) (v := .int (-1)) (ty := .int) (C := RX8) (T := TX8) (N := 9) hx hb hts inlX8 tyX8 tyX8_ok nmX8 hown hK hP hD hS q9 h9 rfl 4 (by decide) (hts _ mw_1328) (fun _ h9 => h9) rfl (by decide +kernel) rfl rfl (Nat.le_of_ble_eq_true rfl) dX9_goOn_121 (fun H locs hP hD hS => ?_)
              rw [ez9] at hP hD
              clear ez9 h9
              have hC := sI_clo e163 hC
              refine lv_aload_n hx hb dX9_goOn_124 rfl (lv_at hl 4 rfl) ?_
              refine lv_aload hx hb dX9_goOn_125 (lv_at hl 0 rfl) ?_
              obtain ⟨x164, e165, hF⟩ := mg_o hF
              obtain ⟨fs9, h9, g9⟩ := rdI hP hC hr159 e165
              refine va_get (D := (dC, dI)) (ci := 8) (v := .int x164) (C := RX8) (T := TX8) (N := 9) hx hb hts inlX8 hown hK h9 0 rfl rfl 0 (by decide) (hts _ mw_344) (fun _ h9 => h9) g9 dX9_goOn_127 ?_
              clear h9 g9
              obtain ⟨fs9, e166, hF⟩ := mg_o hF
              obtain ⟨x167, n169, s170, E171, e168, hF⟩ := mb_o hF
              have hm := mle e168
              have hM1 := mle1 hF
              have hM2 := mle2 hF
              have hm1 := hm.1
              have hm2 := hm.2.1
              have hFc := my_free hD hS hA
              refine va_calli (va_runV (C := RX9) (As := [.int x164]) (rest := []) ⟨hx, hb, hml, hown, hts⟩ (h_X9_nextOf l dC dI cy nb ad158 n155 s156 E162 hC (a0) Aa0 hr33 (x164) H.size x167 n169 s170 E171 e168) (cwV 1 hts (gV mw_1356 mw_1357 mw_1358 mw_5 mw_1359) rfl rfl rfl (by decide +kernel) ⟨Nat.le_of_ble_eq_true rfl, Nat.le_of_ble_eq_true rfl⟩) (hl_preV hP hK hD hE hS hFc (va_recv hK (rdO_ hP hC hr33 e166) (ci := 9) (q0 := 0) rfl rfl)) rfl rfl hl.1 rfl (lv_room (Nat.le_of_ble_eq_true rfl)) dX9_goOn_130 ⟨show n155 - n0 + (n169 - n155) ≤ nz - n0 by omega, show s156 - s0 + (s170 - s156) ≤ sz9 - s0 by omega⟩) hS (fun q _ h => hFc q h) hFc (fun r9 u t H1 locs ht hvm hw hB hz1 hk1 hS => ?_)
              obtain ⟨ad172, hax, hP1, hD1⟩ := hB
              rw [ht] at hP1
              have hP := hP1
              have hD := hD1.weaken (fun k q _ h => hFc q.1 h)
              generalize H1 = H at hP hS ⊢
              have hr159 := hr159.mv hC.1 hax
              have hr32 := hr32.mv hC.1 hax
              have hr33 := hr33.mv hC.1 hax
              have hX := hX.trans hax
              have hC := hm.2.2 hC
              have hN : n0 ≤ n169 := Nat.le_trans hN hm1
              have hT : s0 ≤ s170 := Nat.le_trans hT hm2
              refine W.widen (k := n169 - n0) (n := s170 - s0) (by omega) (by omega) ?_
              clear hP1 hD1 hFc hk1 hz1 hvm ht hax hm hm1 hm2 hM1 hM2
              obtain rfl := hw.symm
              refine lv_iload hx hb dX9_goOn_133 (lv_at hl 1 rfl) ?_
              obtain ⟨t174, n177, s178, E179, hJ175, hF⟩ := mb_o hF
              have hm := mle hJ175
              have join180 : ∀ (ad176 : Nat → Nat) (H : Heap) (locs : List Loc) (ls : Array Slot), axh n0 ad0 n177 ad176 → rf nb ad176 n177 (x153) ((AD nb ad158 x153)) → rf nb ad176 n177 (x5) ((AD nb ad10 x5)) → rf nb ad176 n177 (a0) (Aa0) → va_P (dC, dI) vwCl (CH cy nb ad176 n177 E179) H → va_D A (CH cy nb ad176 n177 E179) → va_S A s.heap H locs → lv_has ls 6 [(5, .ref (AD nb ad158 x153)), (4, .int x140), (3, .int t25), (2, .ref (AD nb ad10 x5)), (0, .ref Aa0), (1, .int a1)] → W p l e (headSpec (wsg yX9_goOn cX9_goOn 6 none) ({ frames := 15, cells := nz - n0, slots := sz9 - s0, locals := 1000 })).room s m ([.ref Aa0, .int a1] : List Value).toArray below meth c H locs (n177 - n0) (s178 - s0) Qn (F0 m 195 ls []) := by
                intro ad176 H locs ls hX hr181 hr182 hr183 hP hD hS hl
                have hC := hm.2.2 hC
                have hN : n0 ≤ n177 := Nat.le_trans hN hm.1
                have hT : s0 ≤ s178 := Nat.le_trans hT hm.2.1
                clear hm
                obtain ⟨ht9, hn9, hs9, hE9⟩ := mr_o hF
                subst hn9 hs9 hE9
                have hX9 := hX
                rw [hQ]
                exact W.vret hx hb hr (fun t ht hW => ⟨⟨(), rfl, trivial, _, hX, by rw [ht]; exact hP, hD⟩, hS.F ht⟩) hS.2.2 dX9_goOn_195
              have hK184 := mle1 hF
              have hK185 := mle2 hF
              clear hF hm
              have hF := hJ175
              clear hJ175
              refine lv_icmp_ne (tgt := 147) hx hb dX9_goOn_135 (by decide) (fun c173 => ?_) (fun c173 => ?_)
              · skip
                rw [if_neg c173] at hF
                refine lv_aload_n hx hb dX9_goOn_147 rfl (lv_at hl 4 rfl) ?_
                refine lv_iconst (v := 2) hx hb dX9_goOn_148 (by decide) ?_
                obtain ⟨fs9, e186, hF⟩ := mg_o hF
                obtain ⟨x187, n189, s190, E191, e188, hF⟩ := mb_o hF
                have hm := mle e188
                have hM1 := mle1 hF
                have hM2 := mle2 hF
                have hm1 := hm.1
                have hm2 := hm.2.1
                have hFc := my_free hD hS hA
                refine va_calli (va_runV (C := RX9) (As := [.int 2]) (rest := []) ⟨hx, hb, hml, hown, hts⟩ (h_X9_many l dC dI cy nb ad172 n169 s170 E171 hC (a0) Aa0 hr33 (2) H.size x187 n189 s190 E191 e188) (cwV 1 hts (gV mw_1372 mw_171 mw_172 mw_5 mw_173) rfl rfl rfl (by decide +kernel) ⟨Nat.le_of_ble_eq_true rfl, Nat.le_of_ble_eq_true rfl⟩) (hl_preV hP hK hD hE hS hFc (va_recv hK (rdO_ hP hC hr33 e186) (ci := 9) (q0 := 0) rfl rfl)) rfl rfl hl.1 rfl (lv_room (Nat.le_of_ble_eq_true rfl)) dX9_goOn_149 ⟨show n169 - n0 + (n189 - n169) ≤ nz - n0 by omega, show s170 - s0 + (s190 - s170) ≤ sz9 - s0 by omega⟩) hS (fun q _ h => hFc q h) hFc (fun r9 u t H1 locs ht hvm hw hB hz1 hk1 hS => ?_)
                obtain ⟨ad192, hax, hP1, hD1⟩ := hB
                rw [ht] at hP1
                have hP := hP1
                have hD := hD1.weaken (fun k q _ h => hFc q.1 h)
                generalize H1 = H at hP hS ⊢
                have hr159 := hr159.mv hC.1 hax
                have hr32 := hr32.mv hC.1 hax
                have hr33 := hr33.mv hC.1 hax
                have hX := hX.trans hax
                have hC := hm.2.2 hC
                have hN : n0 ≤ n189 := Nat.le_trans hN hm1
                have hT : s0 ≤ s190 := Nat.le_trans hT hm2
                refine W.widen (k := n189 - n0) (n := s190 - s0) (by omega) (by omega) ?_
                clear hP1 hD1 hFc hk1 hz1 hvm ht hax hm hm1 hm2 hM1 hM2
                obtain rfl := hw.symm
                refine lv_aload_n hx hb dX9_goOn_152 rfl (lv_at hl 4 rfl) ?_
                obtain ⟨x193, e194, hF⟩ := mg_o hF
                obtain ⟨fs9, h9, g9⟩ := rdI hP hC hr33 e194
                refine va_get (D := (dC, dI)) (ci := 9) (v := .int x193) (C := RX9) (T := TX9) (N := 14) hx hb hts inlX9 hown hK h9 0 rfl rfl 1 (by decide) (hts _ mw_102) (fun _ h9 => h9) g9 dX9_goOn_153 ?_
                clear h9 g9
                refine lv_icmp_ge (tgt := 168) hx hb dX9_goOn_156 (by decide) (fun c195 => ?_) (fun c195 => ?_)
                · skip
                  rw [if_pos c195] at hF
                  refine lv_aload hx hb dX9_goOn_168 (lv_at hl 0 rfl) ?_
                  refine lv_iconst (v := 0) hx hb dX9_goOn_170 (by decide) ?_
                  obtain ⟨E196, e197, hF⟩ := mw_o hF
                  obtain ⟨q9, fs9, h9, ez9⟩ := wrI (cy := cy) hC hr159 e197
                  refine va_put (D := (dC, dI)) (ci := 8) (v := .int 0) (ty := .int) (C := RX8) (T := TX8) (N := 9) hx hb hts inlX8 tyX8 tyX8_ok nmX8 hown hK hP hD hS q9 h9 rfl 3 (by decide) (hts _ mw_175) (fun _ h9 => h9) rfl (by decide +kernel) rfl rfl (Nat.le_of_ble_eq_true rfl) dX9_goOn_171 (fun H locs hP hD hS => ?_)
                  rw [ez9] at hP hD
                  clear ez9 h9
                  have hC := sI_clo e197 hC
                  refine lv_aload hx hb dX9_goOn_174 (lv_at hl 0 rfl) ?_
                  refine lv_dup hx hb dX9_goOn_176 rfl ?_
                  obtain ⟨x198, e199, hF⟩ := mg_o hF
                  obtain ⟨fs9, h9, g9⟩ := rdI hP hC hr159 e199
                  refine va_get (D := (dC, dI)) (ci := 8) (v := .int x198) (C := RX8) (T := TX8) (N := 9) hx hb hts inlX8 hown hK h9 0 rfl rfl 6 (by decide) (hts _ mw_343) (fun _ h9 => h9) g9 dX9_goOn_177 ?_
                  clear h9 g9
                  refine lv_iconst (v := 1) hx hb dX9_goOn_180 (by decide) ?_
                  refine lv_iadd hx hb dX9_goOn_181 ?_
                  obtain ⟨E200, e201, hF⟩ := mw_o hF
                  obtain ⟨q9, fs9, h9, ez9⟩ := wrI (cy := cy) hC hr159 e201
                  refine va_put (D := (dC, dI)) (ci := 8) (v := .int (x198 + 1)) (ty := .int) (C := RX8) (T := TX8) (N := 9) hx hb hts inlX8 tyX8 tyX8_ok nmX8 hown hK hP hD hS q9 h9 rfl 6 (by decide) (hts _ mw_343) (fun _ h9 => h9) rfl (by decide +kernel) rfl rfl (Nat.le_of_ble_eq_true rfl) dX9_goOn_182 (fun H locs hP hD hS => ?_)
                  rw [ez9] at hP hD
                  clear ez9 h9
                  have hC := sI_clo e201 hC
                  refine lv_aload_n hx hb dX9_goOn_185 rfl (lv_at hl 4 rfl) ?_
                  obtain ⟨x202, e203, hF⟩ := mg_o hF
                  obtain ⟨hr204, fs9, h9, g9⟩ := rdR hP hC hr33 e203
                  refine va_get (D := (dC, dI)) (ci := 9) (v := .ref (AD nb ad192 x202)) (C := RX9) (T := TX9) (N := 14) hx hb hts inlX9 hown hK h9 0 rfl rfl 13 (by decide) (hts _ mw_111) (fun _ h9 => h9) g9 dX9_goOn_186 ?_
                  clear h9 g9
                  refine lv_iconst (v := 2) hx hb dX9_goOn_189 (by decide) ?_
                  refine lv_dup2_11 hx hb dX9_goOn_190 rfl rfl ?_
                  obtain ⟨x205, e206, hF⟩ := mg_o hF
                  obtain ⟨m9, f9, h9, i9, g9⟩ := rdA hP hC hr204 e206
                  refine va_iald hx hb hK h9 0 1 rfl rfl i9 dX9_goOn_191 ?_
                  refine my_topi (y := x205) g9 ?_
                  clear h9 i9 g9
                  refine lv_iconst (v := 1) hx hb dX9_goOn_192 (by decide) ?_
                  refine lv_iadd hx hb dX9_goOn_193 ?_
                  obtain ⟨E207, e208, hF⟩ := mw_o hF
                  obtain ⟨q9, m9, f9, h9, i9, ez9⟩ := wrA (cy := cy) hC hr204 e208
                  refine va_iast hx hb hK hP hD hS q9 1 h9 rfl i9 dX9_goOn_194 (fun H locs hP hD hS => ?_)
                  clear i9
                  rw [ez9] at hP hD
                  clear ez9 h9
                  have hC := sA_clo e208 hC
                  obtain ⟨ht9, hn9, hs9, hE9⟩ := mr_o hF
                  subst ht9 hn9 hs9 hE9
                  have hl := lv_sub (l' := [(5, .ref (AD nb ad158 x153)), (4, .int x140), (3, .int t25), (2, .ref (AD nb ad10 x5)), (0, .ref Aa0), (1, .int a1)]) hl [0, 1, 2, 3, 4, 5] rfl
                  exact join180 _ _ _ _ hX hr159 hr32 hr33 hP hD hS hl
                · skip
                  rw [if_neg c195] at hF
                  refine lv_aload hx hb dX9_goOn_159 (lv_at hl 0 rfl) ?_
                  refine lv_iconst (v := 2) hx hb dX9_goOn_161 (by decide) ?_
                  obtain ⟨E209, e210, hF⟩ := mw_o hF
                  obtain ⟨q9, fs9, h9, ez9⟩ := wrI (cy := cy) hC hr159 e210
                  refine va_put (D := (dC, dI)) (ci := 8) (v := .int 2) (ty := .int) (C := RX8) (T := TX8) (N := 9) hx hb hts inlX8 tyX8 tyX8_ok nmX8 hown hK hP hD hS q9 h9 rfl 3 (by decide) (hts _ mw_175) (fun _ h9 => h9) rfl (by decide +kernel) rfl rfl (Nat.le_of_ble_eq_true rfl) dX9_goOn_162 (fun H locs hP hD hS => ?_)
                  rw [ez9] at hP hD
                  clear ez9 h9
                  have hC := sI_clo e210 hC
                  refine lv_goto (tgt := 195) hx hb dX9_goOn_165 (by decide) ?_
                  obtain ⟨ht9, hn9, hs9, hE9⟩ := mr_o hF
                  subst ht9 hn9 hs9 hE9
                  have hl := lv_sub (l' := [(5, .ref (AD nb ad158 x153)), (4, .int x140), (3, .int t25), (2, .ref (AD nb ad10 x5)), (0, .ref Aa0), (1, .int a1)]) hl [0, 1, 2, 3, 4, 5] rfl
                  exact join180 _ _ _ _ hX hr159 hr32 hr33 hP hD hS hl
              · skip
                rw [if_pos c173] at hF
                refine lv_aload_n hx hb dX9_goOn_138 rfl (lv_at hl 4 rfl) ?_
                refine lv_iload hx hb dX9_goOn_139 (lv_at hl 1 rfl) ?_
                obtain ⟨fs9, e211, hF⟩ := mg_o hF
                obtain ⟨⟨⟩, n213, s214, E215, e212, hF⟩ := mb_o hF
                have hm := mle e212
                have hM1 := mle1 hF
                have hM2 := mle2 hF
                have hm1 := hm.1
                have hm2 := hm.2.1
                have hFc := my_free hD hS hA
                refine va_callv (va_runV (C := RX9) (As := [.int x140]) (rest := []) ⟨hx, hb, hml, hown, hts⟩ (h_X9_leave l dC dI cy nb ad172 n169 s170 E171 hC (a0) Aa0 hr33 (x140) H.size n213 s214 E215 e212) (cwV 1 hts (gV mw_1366 mw_1367 mw_1368 mw_5 mw_1369) rfl rfl rfl (by decide +kernel) ⟨Nat.le_of_ble_eq_true rfl, Nat.le_of_ble_eq_true rfl⟩) (hl_preV hP hK hD hE hS hFc (va_recv hK (rdO_ hP hC hr33 e211) (ci := 9) (q0 := 0) rfl rfl)) rfl rfl hl.1 rfl (lv_room (Nat.le_of_ble_eq_true rfl)) dX9_goOn_141 ⟨show n169 - n0 + (n213 - n169) ≤ nz - n0 by omega, show s170 - s0 + (s214 - s170) ≤ sz9 - s0 by omega⟩) hS (fun q _ h => hFc q h) hFc (fun u t H1 locs ht hvm hw hB hz1 hk1 hS => ?_)
                obtain ⟨ad216, hax, hP1, hD1⟩ := hB
                rw [ht] at hP1
                have hP := hP1
                have hD := hD1.weaken (fun k q _ h => hFc q.1 h)
                generalize H1 = H at hP hS ⊢
                have hr159 := hr159.mv hC.1 hax
                have hr32 := hr32.mv hC.1 hax
                have hr33 := hr33.mv hC.1 hax
                have hX := hX.trans hax
                have hC := hm.2.2 hC
                have hN : n0 ≤ n213 := Nat.le_trans hN hm1
                have hT : s0 ≤ s214 := Nat.le_trans hT hm2
                refine W.widen (k := n213 - n0) (n := s214 - s0) (by omega) (by omega) ?_
                clear hP1 hD1 hFc hk1 hz1 hvm ht hax hm hm1 hm2 hM1 hM2
                refine lv_goto (tgt := 195) hx hb dX9_goOn_144 (by decide) ?_
                obtain ⟨ht9, hn9, hs9, hE9⟩ := mr_o hF
                subst ht9 hn9 hs9 hE9
                have hl := lv_sub (l' := [(5, .ref (AD nb ad158 x153)), (4, .int x140), (3, .int t25), (2, .ref (AD nb ad10 x5)), (0, .ref Aa0), (1, .int a1)]) hl [0, 1, 2, 3, 4, 5] rfl
                exact join180 _ _ _ _ hX hr159 hr32 hr33 hP hD hS hl
            · skip
              rw [if_pos c148] at hF
              refine lv_aload_n hx hb dX9_goOn_94 rfl (lv_at hl 3 rfl) ?_
              refine lv_iload_n hx hb dX9_goOn_95 rfl (lv_at hl 4 rfl) ?_
              refine lv_iconst (v := 1) hx hb dX9_goOn_96 (by decide) ?_
              refine lv_iadd hx hb dX9_goOn_97 ?_
              refine lv_iload hx hb dX9_goOn_98 (lv_at hl 0 rfl) ?_
              obtain ⟨fs9, e217, hF⟩ := mg_o hF
              obtain ⟨⟨⟩, n219, s220, E221, e218, hF⟩ := mb_o hF
              have hm := mle e218
              have hM1 := mle1 hF
              have hM2 := mle2 hF
              have hm1 := hm.1
              have hm2 := hm.2.1
              have hFc := my_free hD hS hA
              refine va_callv (va_runV (C := RX9) (As := [.int (a1 + 1), .int x140]) (rest := []) ⟨hx, hb, hml, hown, hts⟩ (h_X9_enter l dC dI cy nb ad133 n130 s131 E146 hC (a0) Aa0 hr33 ((a1 + 1)) (x140) H.size n219 s220 E221 e218) (cwV 2 hts (gV mw_1336 mw_1337 mw_1338 mw_5 mw_1339) rfl rfl rfl (by decide +kernel) ⟨Nat.le_of_ble_eq_true rfl, Nat.le_of_ble_eq_true rfl⟩) (hl_preV hP hK hD hE hS hFc (va_recv hK (rdO_ hP hC hr33 e217) (ci := 9) (q0 := 0) rfl rfl)) rfl rfl hl.1 rfl (lv_room (Nat.le_of_ble_eq_true rfl)) dX9_goOn_100 ⟨show n130 - n0 + (n219 - n130) ≤ nz - n0 by omega, show s131 - s0 + (s220 - s131) ≤ sz9 - s0 by omega⟩) hS (fun q _ h => hFc q h) hFc (fun u t H1 locs ht hvm hw hB hz1 hk1 hS => ?_)
              obtain ⟨ad222, hax, hP1, hD1⟩ := hB
              rw [ht] at hP1
              have hP := hP1
              have hD := hD1.weaken (fun k q _ h => hFc q.1 h)
              generalize H1 = H at hP hS ⊢
              have hr32 := hr32.mv hC.1 hax
              have hr33 := hr33.mv hC.1 hax
              have hX := hX.trans hax
              have hC := hm.2.2 hC
              have hN : n0 ≤ n219 := Nat.le_trans hN hm1
              have hT : s0 ≤ s220 := Nat.le_trans hT hm2
              refine W.widen (k := n219 - n0) (n := s220 - s0) (by omega) (by omega) ?_
              clear hP1 hD1 hFc hk1 hz1 hvm ht hax hm hm1 hm2 hM1 hM2
              obtain ⟨ht9, hn9, hs9, hE9⟩ := mr_o hF
              subst hn9 hs9 hE9
              have hX9 := hX
              rw [hQ]
              exact W.vret hx hb hr (fun t ht hW => ⟨⟨(), rfl, trivial, _, hX, by rw [ht]; exact hP, hD⟩, hS.F ht⟩) hS.2.2 dX9_goOn_103
          · skip
            rw [if_neg c139] at hF
            obtain ⟨ht9, hn9, hs9, hE9⟩ := mr_o hF
            subst hn9 hs9 hE9
            have hX9 := hX
            rw [hQ]
            exact W.vret hx hb hr (fun t ht hW => ⟨⟨(), rfl, trivial, _, hX, by rw [ht]; exact hP, hD⟩, hS.F ht⟩) hS.2.2 dX9_goOn_68
  have hK223 := mle1 hF
  have hK224 := mle2 hF
  clear hF hm
  have hF := hJ26
  clear hJ26
  refine lv_icmp_ne (tgt := 29) hx hb dX9_goOn_22 (by decide) (fun c24 => ?_) (fun c24 => ?_)
  · skip
    rw [if_neg c24] at hF
    refine lv_iconst (v := 0) hx hb dX9_goOn_29 (by decide) ?_
    obtain ⟨ht9, hn9, hs9, hE9⟩ := mr_o hF
    subst ht9 hn9 hs9 hE9
    have hl := lv_sub (l' := [(2, .ref (AD nb ad10 x5)), (0, .ref Aa0), (1, .int a1)]) hl [0, 1, 2] rfl
    exact join31 _ _ _ _ hX hr11 ha0 hP hD hS hl
  · skip
    rw [if_pos c24] at hF
    refine lv_iconst (v := 1) hx hb dX9_goOn_25 (by decide) ?_
    refine lv_goto (tgt := 30) hx hb dX9_goOn_26 (by decide) ?_
    obtain ⟨ht9, hn9, hs9, hE9⟩ := mr_o hF
    subst ht9 hn9 hs9 hE9
    have hl := lv_sub (l' := [(2, .ref (AD nb ad10 x5)), (0, .ref Aa0), (1, .int a1)]) hl [0, 1, 2] rfl
    exact join31 _ _ _ _ hX hr11 ha0 hP hD hS hl
noncomputable def H_X9_pass_L263 (x63 : Nat) (x21 : Int32) (a0 : Nat) : Nat → MH (Unit)
  | 0 => m0
  | m148 + 1 => mb (mg fun n E => fO n E (x63) 13) fun _ => mb (H_Jx35411_hasNext_aae02 (x63)) fun x156 => if x156 = 0 then (mr ()) else (mb (mg fun n E => fO n E (x63) 13) fun _ => mb (H_Jx35411_next_0502b (x63)) fun x164 => mb (mg fun n E => fO n E (x164) 10) fun _ => mb (rR (a0) 9 13) fun x173 => mb (rA (x173) 1 (4)) fun x176 => mb (rI (x164) 10 3) fun x178 => mb (if x178 < 0 then (mr (0 : Int32)) else (mb (rI (x164) 10 4) fun x196 => if x196 = 0 then (mr (1 : Int32)) else (mr (0 : Int32))) : MH (Int32)) fun t181 => mb (wA (x173) 1 (4) ((x176 + t181))) fun _ => H_X9_pass_L263 x63 x21 a0 m148 )
noncomputable def H_X9_pass_L197 (y207 : Int32) (x21 : Int32) (a0 : Nat) : Nat → MH (Unit)
  | 0 => m0
  | m232 + 1 => mb (mg fun n E => fO n E (a0) 9) fun _ => mb (H_X9_nextOf (a0) (y207)) fun x239 => if x239 < 0 then (mr ()) else (mb (rR (a0) 9 10) fun x246 => mb (mg fun n E => fO n E (a0) 9) fun _ => mb (H_X9_nextOf (a0) (y207)) fun x250 => mb (mg fun n E => fO n E (x246) 14) fun _ => mb (H_Jx4a65c_get_915e3 (x246) (x250)) fun x257 => mb (mg fun n E => fO n E (x257) 8) fun _ => mb (rI (x257) 8 3) fun x266 => if x266 = 2 then (mb (mg fun n E => fO n E (a0) 9) fun _ => mb (H_X9_nextOf (a0) (y207)) fun x270 => mb (mg fun n E => fO n E (a0) 9) fun _ => mb (H_X9_leave (a0) (x270)) fun _ => H_X9_pass_L197 y207 x21 a0 m232 ) else (mr ()))
noncomputable def H_X9_pass_L186 (x21 : Int32) (a0 : Nat) : Nat → Int32 → MH (Int32)
  | 0, _ => m0
  | m202 + 1, y207 => mb (rR (a0) 9 8) fun x209 => mb (mg fun n E => fO n E (x209) 14) fun _ => mb (H_Jx4a65c_size_8abf5 (x209)) fun x213 => if x213 ≤ y207 then (mr y207) else (mb (H_X9_pass_L197 y207 x21 a0 FUEL ) fun t220 => H_X9_pass_L186 x21 a0 m202 ((y207 + 1)))
noncomputable def H_X9_pass_L10 (a0 : Nat) : Nat → Int32 → MH (Int32)
  | 0, _ => m0
  | m355 + 1, y360 => if y360 < 0 then (mr y360) else (mb (rR (a0) 9 7) fun x363 => mb (mg fun n E => fO n E (x363) 14) fun _ => mb (H_Jx4a65c_get_915e3 (x363) (y360)) fun x367 => mb (mg fun n E => fO n E (x367) 10) fun _ => mb (rI (x367) 10 11) fun x376 => mb (if x376 ≤ 0 then (mb (rI (x367) 10 3) fun x396 => if x396 < 0 then (mr ()) else (mb (rI (x367) 10 4) fun x399 => if x399 ≤ 0 then (mr ()) else (mb (rI (x367) 10 14) fun x402 => if x402 = 0 then (mb (mg fun n E => fO n E (a0) 9) fun _ => mb (H_X9_work (a0) (x367)) fun _ => mr ()) else (mr ())))) else (mb (rI (x367) 10 11) fun x411 => mb (wI (x367) 10 11 ((x411 - 1))) fun _ => mr ()) : MH (Unit)) fun t379 => mb (mg fun n E => fO n E (a0) 9) fun _ => mb (H_X9_goOn (a0) (y360)) fun _ => H_X9_pass_L10 a0 m355 ((y360 + (-1))))
noncomputable def H_X9_pass (a0 : Nat) : MH Unit := mb (rR (a0) 9 7) fun x1 => mb (mg fun n E => fO n E (x1) 14) fun _ => mb (H_Jx4a65c_size_8abf5 (x1)) fun x5 => mb (H_X9_pass_L10 a0 FUEL ((x5 - 1))) fun t11 => mb (mg fun n E => fO n E (a0) 9) fun _ => mb (H_X9_nextFed (a0)) fun x21 => mb (rR (a0) 9 7) fun x27 => mb (mg fun n E => fO n E (x27) 14) fun _ => mb (H_Jx4a65c_isEmpty_aae02 (x27)) fun x31 => mb (if x31 = 0 then (mb (rR (a0) 9 7) fun x284 => mb (mg fun n E => fO n E (x284) 14) fun _ => mb (H_Jx4a65c_get_915e3 (x284) (0)) fun x288 => mb (mg fun n E => fO n E (x288) 10) fun _ => mb (rI (x288) 10 3) fun x297 => if 0 ≤ x297 then (mr ()) else (mb (rR (a0) 9 7) fun x300 => mb (mg fun n E => fO n E (x300) 14) fun _ => mb (H_Jx4a65c_get_915e3 (x300) (0)) fun x304 => mb (mg fun n E => fO n E (x304) 10) fun _ => mb (rI (x304) 10 14) fun x313 => if x313 = 0 then (mb (rI (a0) 9 5) fun x316 => if x316 ≤ 0 then (mr ()) else (if x21 < 0 then (mr ()) else (mb (rI (a0) 9 5) fun x320 => mb (wI (a0) 9 5 ((x320 - 1))) fun _ => mb (rR (a0) 9 13) fun x324 => mb (rA (x324) 1 (0)) fun x327 => mb (wA (x324) 1 (0) ((x327 + 1))) fun _ => mb (rR (a0) 9 10) fun x331 => mb (mg fun n E => fO n E (x331) 14) fun _ => mb (H_Jx4a65c_get_915e3 (x331) (x21)) fun x335 => mb (mg fun n E => fO n E (x335) 8) fun _ => mb (wI (x335) 8 8 (0)) fun _ => mb (mg fun n E => fO n E (a0) 9) fun _ => mb (H_X9_enter (a0) (0) (x21)) fun _ => mr ()))) else (mr ()))) else (mr ()) : MH (Unit)) fun t38 => mb (H_X9_pass_L186 x21 a0 FUEL ((0 : Int32))) fun t46 => mb (rI (a0) 9 6) fun x55 => mb (wI (a0) 9 6 ((x55 + 1))) fun _ => mb (rR (a0) 9 7) fun x59 => mb (mg fun n E => fO n E (x59) 14) fun _ => mb (H_Jx4a65c_iterator_32c93 (x59)) fun x63 => mb (H_X9_pass_L263 x63 x21 a0 FUEL ) fun t71 => mb (rI (a0) 9 6) fun x81 => mb (rI (a0) 9 0) fun x83 => mb (mp (rm x81 x83)) fun x85 => if x85 ≤ 0 then (mb (rR (a0) 9 11) fun x88 => mb (rR (a0) 9 12) fun x91 => mb (mg fun n E => fO n E (x88) 14) fun _ => mb (H_Jx4a65c_add_7a177 (x88) (0) (x91)) fun _ => mb (mp (ln 12)) fun k100 => mb (nA 1 k100) fun x105 => mb (wR (a0) 9 12 (x105)) fun _ => mb (rR (a0) 9 11) fun x111 => mb (mg fun n E => fO n E (x111) 14) fun _ => mb (H_Jx4a65c_size_8abf5 (x111)) fun x115 => mb (if x115 ≤ 10 then (mr ()) else (mb (rR (a0) 9 11) fun x133 => mb (mg fun n E => fO n E (x133) 14) fun _ => mb (H_Jx4a65c_remove_915e3 (x133) (10)) fun x137 => mr ()) : MH (Unit)) fun t122 => mr ()) else (mr ())
set_option maxHeartbeats 4000000 in
set_option maxRecDepth 100000 in
theorem h_X9_pass (l : Launch) (dC : Nat → ClassId) (dI : Nat → Nat → Nat) (cy : Nat → ClassId) (nb : Nat → Nat) (ad0 : Nat → Nat) (n0 s0 : Nat) (E0 : HE) (hC : clo n0 E0) (a0 Aa0 : Nat) (ha0 : rf nb ad0 n0 a0 Aa0) (sz : Nat) (nz sz9 : Nat) (Ez : HE) (hF : (H_X9_pass a0).1 (n0, s0, E0) = some ((), nz, sz9, Ez)) : Met l yX9_pass (wsg yX9_pass cX9_pass 4 none) ({ frames := 16, cells := nz - n0, slots := sz9 - s0, locals := 1100 }) (va_Pc [.ref Aa0] (fun U => U.heap.size = sz ∧ va_P (dC, dI) vwCl (CH cy nb ad0 n0 E0) U.heap ∧ va_K (dC, dI) vwCl (tyL cy) U ∧ va_D (fun _ => True) (CH cy nb ad0 n0 E0) ∧ GL nb (va_A (CH cy nb ad0 n0 E0) sz) U)) (va_Qv (fun (_ : Unit) => True) (fun _ t => ∃ ad2 : Nat → Nat, axh n0 ad0 nz ad2 ∧ va_P (dC, dI) vwCl (CH cy nb ad2 nz Ez) t.heap ∧ va_D (va_A (CH cy nb ad0 n0 E0) sz) (CH cy nb ad2 nz Ez)) (va_A (CH cy nb ad0 n0 E0) sz)) (nz - n0) (sz9 - s0) (va_A (CH cy nb ad0 n0 E0) sz) := by
  refine Met.ofW (cc := cX9_pass) (maxL := 4) (ret := none) (by decide) rfl ?_
  intro p e s m args below meth c s₁ B hml hv
  obtain ⟨rfl, hsz, hP, hK, hD0, hE⟩ := hv
  have hx := B.exec
  have hb := B.bytes
  have hr := B.returns
  have hts0 := atoms_spec (ws := (wsg yX9_pass cX9_pass 4 none)) B.pre
  have hts : ∀ w ∈ wsL_law, w.before _ s = true := fun w h => hts0 w (List.mem_cons_of_mem _ h)
  have hown : s.vm.findClass RX9 = some m.cls := by have h9 := findClass_of_methodNamed B.named; exact h9
  subst hsz
  have hD := hD0.self (sz := s.heap.size)
  generalize hAe : va_A (CH cy nb ad0 n0 E0) s.heap.size = A at hD hE ⊢
  have hA : ∀ q : Nat, s.heap.size ≤ q → A q := fun q h => by rw [← hAe]; exact Or.inr h
  have hS : va_S A s.heap s.heap [] := va_S.rf
  have hl := lv_entry ([.ref Aa0]) (n := 4) (Nat.le_of_ble_eq_true rfl)
  rw [lg_entry_eq]
  generalize (lg_sl ([.ref Aa0]) ++ List.replicate (4 - (lg_sl ([.ref Aa0])).length) Slot.unset).toArray = ls at hl ⊢
  have hl : lv_has ls 4 [(0, .ref Aa0)] := hl
  generalize hHe : s.heap = H at hP hS ⊢
  have hS : va_S A s.heap H [] := by rw [hHe]; exact hS
  refine my_Q (fun Qn hQ => ?_)
  simp only [H_X9_pass] at hF
  have hX : axh n0 ad0 n0 ad0 := axh_refl
  have hN : n0 ≤ n0 := Nat.le_refl _
  have hT : s0 ≤ s0 := Nat.le_refl _
  refine W.widen (k := n0 - n0) (n := s0 - s0) (by omega) (by omega) ?_
  refine lv_aload_n hx hb dX9_pass_0 rfl (lv_at hl 0 rfl) ?_
  obtain ⟨x1, e2, hF⟩ := mg_o hF
  obtain ⟨hr3, fs9, h9, g9⟩ := rdR hP hC ha0 e2
  refine va_get (D := (dC, dI)) (ci := 9) (v := .ref (AD nb ad0 x1)) (C := RX9) (T := TX9) (N := 14) hx hb hts inlX9 hown hK h9 0 rfl rfl 7 (by decide) (hts _ mw_105) (fun _ h9 => h9) g9 dX9_pass_1 ?_
  clear h9 g9
  obtain ⟨fs9, e4, hF⟩ := mg_o hF
  obtain ⟨x5, n7, s8, E9, e6, hF⟩ := mb_o hF
  have hm := mle e6
  have hM1 := mle1 hF
  have hM2 := mle2 hF
  have hm1 := hm.1
  have hm2 := hm.2.1
  have hFc := my_free hD hS hA
  refine va_calli (va_runV (C := RJx4a65c) (As := []) (rest := []) ⟨hx, hb, hml, hown, hts⟩ (h_Jx4a65c_size_8abf5 l dC dI cy nb ad0 n0 s0 E0 hC (x1) (AD nb ad0 x1) hr3 H.size x5 n7 s8 E9 e6) (cwV 0 hts (gV mw_346 mw_166 mw_167 mw_12 mw_168) rfl rfl rfl (by decide +kernel) ⟨Nat.le_of_ble_eq_true rfl, Nat.le_of_ble_eq_true rfl⟩) (hl_preV hP hK hD hE hS hFc (va_recv hK (rdO_ hP hC hr3 e4) (ci := 14) (q0 := 0) rfl rfl)) rfl rfl hl.1 rfl (lv_room (Nat.le_of_ble_eq_true rfl)) dX9_pass_4 ⟨show n0 - n0 + (n7 - n0) ≤ nz - n0 by omega, show s0 - s0 + (s8 - s0) ≤ sz9 - s0 by omega⟩) hS (fun q _ h => hFc q h) hFc (fun r9 u t H1 locs ht hvm hw hB hz1 hk1 hS => ?_)
  obtain ⟨ad10, hax, hP1, hD1⟩ := hB
  rw [ht] at hP1
  have hP := hP1
  have hD := hD1.weaken (fun k q _ h => hFc q.1 h)
  generalize H1 = H at hP hS ⊢
  have ha0 := ha0.mv hC.1 hax
  have hX := hX.trans hax
  have hC := hm.2.2 hC
  have hN : n0 ≤ n7 := Nat.le_trans hN hm1
  have hT : s0 ≤ s8 := Nat.le_trans hT hm2
  refine W.widen (k := n7 - n0) (n := s8 - s0) (by omega) (by omega) ?_
  clear hP1 hD1 hFc hk1 hz1 hvm ht hax hm hm1 hm2 hM1 hM2
  obtain rfl := hw.symm
  refine lv_iconst (v := 1) hx hb dX9_pass_7 (by decide) ?_
  refine lv_isub hx hb dX9_pass_8 ?_
  refine lv_istore_n (lv' := [(1, .int (x5 - 1)), (0, .ref Aa0)]) hx hb dX9_pass_9 rfl hl (by decide) rfl (fun ls hl => ?_)
  obtain ⟨t11, n13, s14, E15, hL12, hF⟩ := mb_o hF
  have hm := mle hL12
  have kx17 : ∀ (ad16 : Nat → Nat) (H : Heap) (locs : List Loc) (ls : Array Slot), axh n0 ad0 n13 ad16 → rf nb ad16 n13 (a0) (Aa0) → va_P (dC, dI) vwCl (CH cy nb ad16 n13 E15) H → va_D A (CH cy nb ad16 n13 E15) → va_S A s.heap H locs → lv_has ls 4 [(1, .int t11), (0, .ref Aa0)] → W p l e (headSpec (wsg yX9_pass cX9_pass 4 none) ({ frames := 16, cells := nz - n0, slots := sz9 - s0, locals := 1100 })).room s m ([.ref Aa0] : List Value).toArray below meth c H locs (n13 - n0) (s14 - s0) Qn (F0 m 83 ls []) := by
    intro ad16 H locs ls hX hr19 hP hD hS hl
    have hC := hm.2.2 hC
    have hN : n0 ≤ n13 := Nat.le_trans hN hm.1
    have hT : s0 ≤ s14 := Nat.le_trans hT hm.2.1
    clear hm
    refine lv_aload_n hx hb dX9_pass_83 rfl (lv_at hl 1 rfl) ?_
    obtain ⟨fs9, e20, hF⟩ := mg_o hF
    obtain ⟨x21, n23, s24, E25, e22, hF⟩ := mb_o hF
    have hm := mle e22
    have hM1 := mle1 hF
    have hM2 := mle2 hF
    have hm1 := hm.1
    have hm2 := hm.2.1
    have hFc := my_free hD hS hA
    refine va_calli (va_runV (C := RX9) (As := []) (rest := []) ⟨hx, hb, hml, hown, hts⟩ (h_X9_nextFed l dC dI cy nb ad16 n13 s14 E15 hC (a0) Aa0 hr19 H.size x21 n23 s24 E25 e22) (cwV 0 hts (gV mw_1373 mw_338 mw_339 mw_5 mw_340) rfl rfl rfl (by decide +kernel) ⟨Nat.le_of_ble_eq_true rfl, Nat.le_of_ble_eq_true rfl⟩) (hl_preV hP hK hD hE hS hFc (va_recv hK (rdO_ hP hC hr19 e20) (ci := 9) (q0 := 0) rfl rfl)) rfl rfl hl.1 rfl (lv_room (Nat.le_of_ble_eq_true rfl)) dX9_pass_84 ⟨show n13 - n0 + (n23 - n13) ≤ nz - n0 by omega, show s14 - s0 + (s24 - s14) ≤ sz9 - s0 by omega⟩) hS (fun q _ h => hFc q h) hFc (fun r9 u t H1 locs ht hvm hw hB hz1 hk1 hS => ?_)
    obtain ⟨ad26, hax, hP1, hD1⟩ := hB
    rw [ht] at hP1
    have hP := hP1
    have hD := hD1.weaken (fun k q _ h => hFc q.1 h)
    generalize H1 = H at hP hS ⊢
    have hr19 := hr19.mv hC.1 hax
    have hX := hX.trans hax
    have hC := hm.2.2 hC
    have hN : n0 ≤ n23 := Nat.le_trans hN hm1
    have hT : s0 ≤ s24 := Nat.le_trans hT hm2
    refine W.widen (k := n23 - n0) (n := s24 - s0) (by omega) (by omega) ?_
    clear hP1 hD1 hFc hk1 hz1 hvm ht hax hm hm1 hm2 hM1 hM2
    obtain rfl := hw.symm
    refine lv_istore_n (lv' := [(1, .int x21), (0, .ref Aa0)]) hx hb dX9_pass_87 rfl hl (by decide) rfl (fun ls hl => ?_)
    refine lv_aload_n hx hb dX9_pass_88 rfl (lv_at hl 1 rfl) ?_
    obtain ⟨x27, e28, hF⟩ := mg_o hF
    obtain ⟨hr29, fs9, h9, g9⟩ := rdR hP hC hr19 e28
    refine va_get (D := (dC, dI)) (ci := 9) (v := .ref (AD nb ad26 x27)) (C := RX9) (T := TX9) (N := 14) hx hb hts inlX9 hown hK h9 0 rfl rfl 7 (by decide) (hts _ mw_105) (fun _ h9 => h9) g9 dX9_pass_89 ?_
    clear h9 g9
    obtain ⟨fs9, e30, hF⟩ := mg_o hF
    obtain ⟨x31, n33, s34, E35, e32, hF⟩ := mb_o hF
    have hm := mle e32
    have hM1 := mle1 hF
    have hM2 := mle2 hF
    have hm1 := hm.1
    have hm2 := hm.2.1
    have hFc := my_free hD hS hA
    refine va_calli (va_runV (C := RJx4a65c) (As := []) (rest := []) ⟨hx, hb, hml, hown, hts⟩ (h_Jx4a65c_isEmpty_aae02 l dC dI cy nb ad26 n23 s24 E25 hC (x27) (AD nb ad26 x27) hr29 H.size x31 n33 s34 E35 e32) (cwV 0 hts (gV mw_1374 mw_1375 mw_1376 mw_12 mw_1377) rfl rfl rfl (by decide +kernel) ⟨Nat.le_of_ble_eq_true rfl, Nat.le_of_ble_eq_true rfl⟩) (hl_preV hP hK hD hE hS hFc (va_recv hK (rdO_ hP hC hr29 e30) (ci := 14) (q0 := 0) rfl rfl)) rfl rfl hl.1 rfl (lv_room (Nat.le_of_ble_eq_true rfl)) dX9_pass_92 ⟨show n23 - n0 + (n33 - n23) ≤ nz - n0 by omega, show s24 - s0 + (s34 - s24) ≤ sz9 - s0 by omega⟩) hS (fun q _ h => hFc q h) hFc (fun r9 u t H1 locs ht hvm hw hB hz1 hk1 hS => ?_)
    obtain ⟨ad36, hax, hP1, hD1⟩ := hB
    rw [ht] at hP1
    have hP := hP1
    have hD := hD1.weaken (fun k q _ h => hFc q.1 h)
    generalize H1 = H at hP hS ⊢
    have hr19 := hr19.mv hC.1 hax
    have hX := hX.trans hax
    have hC := hm.2.2 hC
    have hN : n0 ≤ n33 := Nat.le_trans hN hm1
    have hT : s0 ≤ s34 := Nat.le_trans hT hm2
    refine W.widen (k := n33 - n0) (n := s34 - s0) (by omega) (by omega) ?_
    clear hP1 hD1 hFc hk1 hz1 hvm ht hax hm hm1 hm2 hM1 hM2
    obtain rfl := hw.symm
    obtain ⟨t38, n41, s42, E43, hJ39, hF⟩ := mb_o hF
    have hm := mle hJ39
    have join44 : ∀ (ad40 : Nat → Nat) (H : Heap) (locs : List Loc) (ls : Array Slot), axh n0 ad0 n41 ad40 → rf nb ad40 n41 (a0) (Aa0) → va_P (dC, dI) vwCl (CH cy nb ad40 n41 E43) H → va_D A (CH cy nb ad40 n41 E43) → va_S A s.heap H locs → lv_has ls 4 [(1, .int x21), (0, .ref Aa0)] → W p l e (headSpec (wsg yX9_pass cX9_pass 4 none) ({ frames := 16, cells := nz - n0, slots := sz9 - s0, locals := 1100 })).room s m ([.ref Aa0] : List Value).toArray below meth c H locs (n41 - n0) (s42 - s0) Qn (F0 m 184 ls []) := by
      intro ad40 H locs ls hX hr45 hP hD hS hl
      have hC := hm.2.2 hC
      have hN : n0 ≤ n41 := Nat.le_trans hN hm.1
      have hT : s0 ≤ s42 := Nat.le_trans hT hm.2.1
      clear hm
      refine lv_iconst (v := 0) hx hb dX9_pass_184 (by decide) ?_
      refine lv_istore_n (lv' := [(2, .int 0), (1, .int x21), (0, .ref Aa0)]) hx hb dX9_pass_185 rfl hl (by decide) rfl (fun ls hl => ?_)
      obtain ⟨t46, n48, s49, E50, hL47, hF⟩ := mb_o hF
      have hm := mle hL47
      have kx52 : ∀ (ad51 : Nat → Nat) (H : Heap) (locs : List Loc) (ls : Array Slot), axh n0 ad0 n48 ad51 → rf nb ad51 n48 (a0) (Aa0) → va_P (dC, dI) vwCl (CH cy nb ad51 n48 E50) H → va_D A (CH cy nb ad51 n48 E50) → va_S A s.heap H locs → lv_has ls 4 [(2, .int t46), (1, .int x21), (0, .ref Aa0)] → W p l e (headSpec (wsg yX9_pass cX9_pass 4 none) ({ frames := 16, cells := nz - n0, slots := sz9 - s0, locals := 1100 })).room s m ([.ref Aa0] : List Value).toArray below meth c H locs (n48 - n0) (s49 - s0) Qn (F0 m 245 ls []) := by
        intro ad51 H locs ls hX hr54 hP hD hS hl
        have hC := hm.2.2 hC
        have hN : n0 ≤ n48 := Nat.le_trans hN hm.1
        have hT : s0 ≤ s49 := Nat.le_trans hT hm.2.1
        clear hm
        refine lv_aload_n hx hb dX9_pass_245 rfl (lv_at hl 2 rfl) ?_
        refine lv_dup hx hb dX9_pass_246 rfl ?_
        obtain ⟨x55, e56, hF⟩ := mg_o hF
        obtain ⟨fs9, h9, g9⟩ := rdI hP hC hr54 e56
        refine va_get (D := (dC, dI)) (ci := 9) (v := .int x55) (C := RX9) (T := TX9) (N := 14) hx hb hts inlX9 hown hK h9 0 rfl rfl 6 (by decide) (hts _ mw_1265) (fun _ h9 => h9) g9 dX9_pass_247 ?_
        clear h9 g9
        refine lv_iconst (v := 1) hx hb dX9_pass_250 (by decide) ?_
        refine lv_iadd hx hb dX9_pass_251 ?_
        obtain ⟨E57, e58, hF⟩ := mw_o hF
        obtain ⟨q9, fs9, h9, ez9⟩ := wrI (cy := cy) hC hr54 e58
        refine va_put (D := (dC, dI)) (ci := 9) (v := .int (x55 + 1)) (ty := .int) (C := RX9) (T := TX9) (N := 14) hx hb hts inlX9 tyX9 tyX9_ok nmX9 hown hK hP hD hS q9 h9 rfl 6 (by decide) (hts _ mw_1265) (fun _ h9 => h9) rfl (by decide +kernel) rfl rfl (Nat.le_of_ble_eq_true rfl) dX9_pass_252 (fun H locs hP hD hS => ?_)
        rw [ez9] at hP hD
        clear ez9 h9
        have hC := sI_clo e58 hC
        refine lv_aload_n hx hb dX9_pass_255 rfl (lv_at hl 2 rfl) ?_
        obtain ⟨x59, e60, hF⟩ := mg_o hF
        obtain ⟨hr61, fs9, h9, g9⟩ := rdR hP hC hr54 e60
        refine va_get (D := (dC, dI)) (ci := 9) (v := .ref (AD nb ad51 x59)) (C := RX9) (T := TX9) (N := 14) hx hb hts inlX9 hown hK h9 0 rfl rfl 7 (by decide) (hts _ mw_105) (fun _ h9 => h9) g9 dX9_pass_256 ?_
        clear h9 g9
        obtain ⟨fs9, e62, hF⟩ := mg_o hF
        obtain ⟨x63, n65, s66, E67, e64, hF⟩ := mb_o hF
        have hm := mle e64
        have hM1 := mle1 hF
        have hM2 := mle2 hF
        have hm1 := hm.1
        have hm2 := hm.2.1
        have hFc := my_free hD hS hA
        refine va_callr (va_runV (C := RJx4a65c) (As := []) (rest := []) ⟨hx, hb, hml, hown, hts⟩ (h_Jx4a65c_iterator_32c93 l dC dI cy nb ad51 n48 s49 E57 hC (x59) (AD nb ad51 x59) hr61 H.size x63 n65 s66 E67 e64) (cwV 0 hts (gV mw_176 mw_177 mw_178 mw_12 mw_179) rfl rfl rfl (by decide +kernel) ⟨Nat.le_of_ble_eq_true rfl, Nat.le_of_ble_eq_true rfl⟩) (hl_preV hP hK hD hE hS hFc (va_recv hK (rdO_ hP hC hr61 e62) (ci := 14) (q0 := 0) rfl rfl)) rfl rfl hl.1 rfl (lv_room (Nat.le_of_ble_eq_true rfl)) dX9_pass_259 ⟨show n48 - n0 + (n65 - n48) ≤ nz - n0 by omega, show s49 - s0 + (s66 - s49) ≤ sz9 - s0 by omega⟩) hS (fun q _ h => hFc q h) hFc (fun u ra t H1 locs ht hvm hw hB hz1 hk1 hS => ?_)
        obtain ⟨ad68, hax, hr69, hP1, hD1⟩ := hB
        rw [ht] at hP1
        have hP := hP1
        have hD := hD1.weaken (fun k q _ h => hFc q.1 h)
        generalize H1 = H at hP hS ⊢
        have hr54 := hr54.mv hC.1 hax
        have hX := hX.trans hax
        have hC := hm.2.2 hC
        have hN : n0 ≤ n65 := Nat.le_trans hN hm1
        have hT : s0 ≤ s66 := Nat.le_trans hT hm2
        refine W.widen (k := n65 - n0) (n := s66 - s0) (by omega) (by omega) ?_
        clear hP1 hD1 hFc hk1 hz1 hvm ht hax hm hm1 hm2 hM1 hM2
        refine my_top (y := .ref (AD nb ad68 x63)) (congrArg Value.ref hr69.2.symm) ?_
        have hr69 := rf_self hr69
        refine lv_astore_n (lv' := [(2, .ref (AD nb ad68 x63)), (1, .int x21), (0, .ref Aa0)]) hx hb dX9_pass_262 rfl hl (by decide) rfl (fun ls hl => ?_)
        obtain ⟨t71, n73, s74, E75, hL72, hF⟩ := mb_o hF
        have hm := mle hL72
        have kx77 : ∀ (ad76 : Nat → Nat) (H : Heap) (locs : List Loc) (ls : Array Slot), axh n0 ad0 n73 ad76 → rf nb ad76 n73 (x63) ((AD nb ad68 x63)) → rf nb ad76 n73 (a0) (Aa0) → va_P (dC, dI) vwCl (CH cy nb ad76 n73 E75) H → va_D A (CH cy nb ad76 n73 E75) → va_S A s.heap H locs → lv_has ls 4 [(2, .ref (AD nb ad68 x63)), (1, .int x21), (0, .ref Aa0)] → W p l e (headSpec (wsg yX9_pass cX9_pass 4 none) ({ frames := 16, cells := nz - n0, slots := sz9 - s0, locals := 1100 })).room s m ([.ref Aa0] : List Value).toArray below meth c H locs (n73 - n0) (s74 - s0) Qn (F0 m 313 ls []) := by
          intro ad76 H locs ls hX hr79 hr80 hP hD hS hl
          have hC := hm.2.2 hC
          have hN : n0 ≤ n73 := Nat.le_trans hN hm.1
          have hT : s0 ≤ s74 := Nat.le_trans hT hm.2.1
          clear hm
          refine lv_aload_n hx hb dX9_pass_313 rfl (lv_at hl 2 rfl) ?_
          obtain ⟨x81, e82, hF⟩ := mg_o hF
          obtain ⟨fs9, h9, g9⟩ := rdI hP hC hr80 e82
          refine va_get (D := (dC, dI)) (ci := 9) (v := .int x81) (C := RX9) (T := TX9) (N := 14) hx hb hts inlX9 hown hK h9 0 rfl rfl 6 (by decide) (hts _ mw_1265) (fun _ h9 => h9) g9 dX9_pass_314 ?_
          clear h9 g9
          refine lv_aload_n hx hb dX9_pass_317 rfl (lv_at hl 2 rfl) ?_
          obtain ⟨x83, e84, hF⟩ := mg_o hF
          obtain ⟨fs9, h9, g9⟩ := rdI hP hC hr80 e84
          refine va_get (D := (dC, dI)) (ci := 9) (v := .int x83) (C := RX9) (T := TX9) (N := 14) hx hb hts inlX9 hown hK h9 0 rfl rfl 0 (by decide) (hts _ mw_101) (fun _ h9 => h9) g9 dX9_pass_318 ?_
          clear h9 g9
          obtain ⟨x85, e86, hF⟩ := mp_o hF
          refine lv_irem hx hb dX9_pass_321 (rm_ne e86) ?_
          refine my_topi (y := x85) (rm_eq e86) ?_
          refine lv_if_le (tgt := 326) hx hb dX9_pass_322 (by decide) (fun c87 => ?_) (fun c87 => ?_)
          · skip
            rw [if_pos c87] at hF
            refine lv_aload_n hx hb dX9_pass_326 rfl (lv_at hl 2 rfl) ?_
            obtain ⟨x88, e89, hF⟩ := mg_o hF
            obtain ⟨hr90, fs9, h9, g9⟩ := rdR hP hC hr80 e89
            refine va_get (D := (dC, dI)) (ci := 9) (v := .ref (AD nb ad76 x88)) (C := RX9) (T := TX9) (N := 14) hx hb hts inlX9 hown hK h9 0 rfl rfl 11 (by decide) (hts _ mw_109) (fun _ h9 => h9) g9 dX9_pass_327 ?_
            clear h9 g9
            refine lv_iconst (v := 0) hx hb dX9_pass_330 (by decide) ?_
            refine lv_aload_n hx hb dX9_pass_331 rfl (lv_at hl 2 rfl) ?_
            obtain ⟨x91, e92, hF⟩ := mg_o hF
            obtain ⟨hr93, fs9, h9, g9⟩ := rdR hP hC hr80 e92
            refine va_get (D := (dC, dI)) (ci := 9) (v := .ref (AD nb ad76 x91)) (C := RX9) (T := TX9) (N := 14) hx hb hts inlX9 hown hK h9 0 rfl rfl 12 (by decide) (hts _ mw_110) (fun _ h9 => h9) g9 dX9_pass_332 ?_
            clear h9 g9
            obtain ⟨fs9, e94, hF⟩ := mg_o hF
            obtain ⟨⟨⟩, n96, s97, E98, e95, hF⟩ := mb_o hF
            have hm := mle e95
            have hM1 := mle1 hF
            have hM2 := mle2 hF
            have hm1 := hm.1
            have hm2 := hm.2.1
            have hFc := my_free hD hS hA
            refine va_callv (va_runV (C := RJx4a65c) (As := [.int 0, .ref (AD nb ad76 x91)]) (rest := []) ⟨hx, hb, hml, hown, hts⟩ (h_Jx4a65c_add_7a177 l dC dI cy nb ad76 n73 s74 E75 hC (x88) (AD nb ad76 x88) hr90 (0) (x91) (AD nb ad76 x91) hr93 H.size n96 s97 E98 e95) (cwV 2 hts (gV mw_1378 mw_1379 mw_1380 mw_12 mw_1381) rfl rfl rfl (by decide +kernel) ⟨Nat.le_of_ble_eq_true rfl, Nat.le_of_ble_eq_true rfl⟩) (hl_preV hP hK hD hE hS hFc (va_recv hK (rdO_ hP hC hr90 e94) (ci := 14) (q0 := 0) rfl rfl)) rfl rfl hl.1 rfl (lv_room (Nat.le_of_ble_eq_true rfl)) dX9_pass_335 ⟨show n73 - n0 + (n96 - n73) ≤ nz - n0 by omega, show s74 - s0 + (s97 - s74) ≤ sz9 - s0 by omega⟩) hS (fun q _ h => hFc q h) hFc (fun u t H1 locs ht hvm hw hB hz1 hk1 hS => ?_)
            obtain ⟨ad99, hax, hP1, hD1⟩ := hB
            rw [ht] at hP1
            have hP := hP1
            have hD := hD1.weaken (fun k q _ h => hFc q.1 h)
            generalize H1 = H at hP hS ⊢
            have hr79 := hr79.mv hC.1 hax
            have hr80 := hr80.mv hC.1 hax
            have hX := hX.trans hax
            have hC := hm.2.2 hC
            have hN : n0 ≤ n96 := Nat.le_trans hN hm1
            have hT : s0 ≤ s97 := Nat.le_trans hT hm2
            refine W.widen (k := n96 - n0) (n := s97 - s0) (by omega) (by omega) ?_
            clear hP1 hD1 hFc hk1 hz1 hvm ht hax hm hm1 hm2 hM1 hM2
            refine lv_aload_n hx hb dX9_pass_338 rfl (lv_at hl 2 rfl) ?_
            refine lv_bipush (v := 12) hx hb dX9_pass_339 (by decide) ?_
            obtain ⟨k100, e101, hF⟩ := mp_o hF
            obtain ⟨x105, n102, s103, E104, hq, hF⟩ := mn_o hF
            have hM1 := mle1 hF
            have hM2 := mle2 hF
            have hq9 := hq.2.1
            have hq8 := hq.2.2.1
            obtain ⟨l1, l2, l3⟩ := ln_s e101
            refine va_newa (atype := .int) (ty := .int) (N' := k100) (a0 := (k100, .inl (fun _ => 0))) hx hb (hts _ mw_33) rfl hK hP hD hS hA (fun _ => rfl) l1 l2 (show k100 * 4 ≤ 536870912 by omega) (show n96 - n0 + 1 ≤ nz - n0 by omega) (show s97 - s0 + k100 ≤ sz9 - s0 by omega) dX9_pass_341 (fun q106 cA H hK9 hP hD hS => ?_)
            have hcA := my_cA hK9 hK 1 rfl
            subst hcA
            clear hK9 l1 l2 l3
            obtain ⟨ad107, hax, hr108, hC9, hw9⟩ := new_w (cy := cy) (nb := nb) (ad := ad99) (e := .inl (1, k100, .inl fun _ => 0)) trivial (fun _ => rfl) hC q106 hq
            rw [hw9] at hP hD
            have hr79 := hr79.mv hC.1 hax
            have hr80 := hr80.mv hC.1 hax
            have hX := hX.trans hax
            have hC := hC9
            obtain ⟨-, hq1, hq2, -, -⟩ := hq
            have hN : n0 ≤ n102 := by omega
            have hT : s0 ≤ s103 := by omega
            refine W.widen (k := n102 - n0) (n := s103 - s0) (by omega) (by omega) ?_
            clear hM1 hM2 hax hC9 hw9 hq1 hq2 hq8 hq9
            obtain ⟨E109, e110, hF⟩ := mw_o hF
            obtain ⟨q9, fs9, h9, ez9⟩ := wrR (cy := cy) hC hr80 hr108 e110
            refine va_put (D := (dC, dI)) (ci := 9) (v := .ref q106) (ty := (.array .int)) (C := RX9) (T := TX9) (N := 14) hx hb hts inlX9 tyX9 tyX9_ok nmX9 hown hK hP hD hS q9 h9 rfl 12 (by decide) (hts _ mw_110) (fun _ h9 => h9) rfl (by decide +kernel) rfl rfl (Nat.le_of_ble_eq_true rfl) dX9_pass_343 (fun H locs hP hD hS => ?_)
            rw [ez9] at hP hD
            clear ez9 h9
            have hC := sR_clo e110 hC
            refine lv_aload_n hx hb dX9_pass_346 rfl (lv_at hl 2 rfl) ?_
            obtain ⟨x111, e112, hF⟩ := mg_o hF
            obtain ⟨hr113, fs9, h9, g9⟩ := rdR hP hC hr80 e112
            refine va_get (D := (dC, dI)) (ci := 9) (v := .ref (AD nb ad107 x111)) (C := RX9) (T := TX9) (N := 14) hx hb hts inlX9 hown hK h9 0 rfl rfl 11 (by decide) (hts _ mw_109) (fun _ h9 => h9) g9 dX9_pass_347 ?_
            clear h9 g9
            obtain ⟨fs9, e114, hF⟩ := mg_o hF
            obtain ⟨x115, n117, s118, E119, e116, hF⟩ := mb_o hF
            have hm := mle e116
            have hM1 := mle1 hF
            have hM2 := mle2 hF
            have hm1 := hm.1
            have hm2 := hm.2.1
            have hFc := my_free hD hS hA
            refine va_calli (va_runV (C := RJx4a65c) (As := []) (rest := []) ⟨hx, hb, hml, hown, hts⟩ (h_Jx4a65c_size_8abf5 l dC dI cy nb ad107 n102 s103 E109 hC (x111) (AD nb ad107 x111) hr113 H.size x115 n117 s118 E119 e116) (cwV 0 hts (gV mw_346 mw_166 mw_167 mw_12 mw_168) rfl rfl rfl (by decide +kernel) ⟨Nat.le_of_ble_eq_true rfl, Nat.le_of_ble_eq_true rfl⟩) (hl_preV hP hK hD hE hS hFc (va_recv hK (rdO_ hP hC hr113 e114) (ci := 14) (q0 := 0) rfl rfl)) rfl rfl hl.1 rfl (lv_room (Nat.le_of_ble_eq_true rfl)) dX9_pass_350 ⟨show n102 - n0 + (n117 - n102) ≤ nz - n0 by omega, show s103 - s0 + (s118 - s103) ≤ sz9 - s0 by omega⟩) hS (fun q _ h => hFc q h) hFc (fun r9 u t H1 locs ht hvm hw hB hz1 hk1 hS => ?_)
            obtain ⟨ad120, hax, hP1, hD1⟩ := hB
            rw [ht] at hP1
            have hP := hP1
            have hD := hD1.weaken (fun k q _ h => hFc q.1 h)
            generalize H1 = H at hP hS ⊢
            have hr79 := hr79.mv hC.1 hax
            have hr80 := hr80.mv hC.1 hax
            have hX := hX.trans hax
            have hC := hm.2.2 hC
            have hN : n0 ≤ n117 := Nat.le_trans hN hm1
            have hT : s0 ≤ s118 := Nat.le_trans hT hm2
            refine W.widen (k := n117 - n0) (n := s118 - s0) (by omega) (by omega) ?_
            clear hP1 hD1 hFc hk1 hz1 hvm ht hax hm hm1 hm2 hM1 hM2
            obtain rfl := hw.symm
            refine lv_bipush (v := 10) hx hb dX9_pass_353 (by decide) ?_
            obtain ⟨t122, n125, s126, E127, hJ123, hF⟩ := mb_o hF
            have hm := mle hJ123
            have join128 : ∀ (ad124 : Nat → Nat) (H : Heap) (locs : List Loc) (ls : Array Slot), axh n0 ad0 n125 ad124 → rf nb ad124 n125 (x63) ((AD nb ad68 x63)) → rf nb ad124 n125 (a0) (Aa0) → va_P (dC, dI) vwCl (CH cy nb ad124 n125 E127) H → va_D A (CH cy nb ad124 n125 E127) → va_S A s.heap H locs → lv_has ls 4 [(2, .ref (AD nb ad68 x63)), (1, .int x21), (0, .ref Aa0)] → W p l e (headSpec (wsg yX9_pass cX9_pass 4 none) ({ frames := 16, cells := nz - n0, slots := sz9 - s0, locals := 1100 })).room s m ([.ref Aa0] : List Value).toArray below meth c H locs (n125 - n0) (s126 - s0) Qn (F0 m 368 ls []) := by
              intro ad124 H locs ls hX hr129 hr130 hP hD hS hl
              have hC := hm.2.2 hC
              have hN : n0 ≤ n125 := Nat.le_trans hN hm.1
              have hT : s0 ≤ s126 := Nat.le_trans hT hm.2.1
              clear hm
              obtain ⟨ht9, hn9, hs9, hE9⟩ := mr_o hF
              subst hn9 hs9 hE9
              have hX9 := hX
              rw [hQ]
              exact W.vret hx hb hr (fun t ht hW => ⟨⟨(), rfl, trivial, _, hX, by rw [ht]; exact hP, hD⟩, hS.F ht⟩) hS.2.2 dX9_pass_368
            have hK131 := mle1 hF
            have hK132 := mle2 hF
            clear hF hm
            have hF := hJ123
            clear hJ123
            refine lv_icmp_le (tgt := 368) hx hb dX9_pass_355 (by decide) (fun c121 => ?_) (fun c121 => ?_)
            · skip
              rw [if_pos c121] at hF
              obtain ⟨ht9, hn9, hs9, hE9⟩ := mr_o hF
              subst ht9 hn9 hs9 hE9
              have hl := lv_sub (l' := [(2, .ref (AD nb ad68 x63)), (1, .int x21), (0, .ref Aa0)]) hl [0, 1, 2] rfl
              exact join128 _ _ _ _ hX hr79 hr80 hP hD hS hl
            · skip
              rw [if_neg c121] at hF
              refine lv_aload_n hx hb dX9_pass_358 rfl (lv_at hl 2 rfl) ?_
              obtain ⟨x133, e134, hF⟩ := mg_o hF
              obtain ⟨hr135, fs9, h9, g9⟩ := rdR hP hC hr80 e134
              refine va_get (D := (dC, dI)) (ci := 9) (v := .ref (AD nb ad120 x133)) (C := RX9) (T := TX9) (N := 14) hx hb hts inlX9 hown hK h9 0 rfl rfl 11 (by decide) (hts _ mw_109) (fun _ h9 => h9) g9 dX9_pass_359 ?_
              clear h9 g9
              refine lv_bipush (v := 10) hx hb dX9_pass_362 (by decide) ?_
              obtain ⟨fs9, e136, hF⟩ := mg_o hF
              obtain ⟨x137, n139, s140, E141, e138, hF⟩ := mb_o hF
              have hm := mle e138
              have hM1 := mle1 hF
              have hM2 := mle2 hF
              have hm1 := hm.1
              have hm2 := hm.2.1
              have hFc := my_free hD hS hA
              refine va_callr (va_runV (C := RJx4a65c) (As := [.int 10]) (rest := []) ⟨hx, hb, hml, hown, hts⟩ (h_Jx4a65c_remove_915e3 l dC dI cy nb ad120 n117 s118 E119 hC (x133) (AD nb ad120 x133) hr135 (10) H.size x137 n139 s140 E141 e138) (cwV 1 hts (gV mw_1386 mw_1249 mw_1250 mw_12 mw_1251) rfl rfl rfl (by decide +kernel) ⟨Nat.le_of_ble_eq_true rfl, Nat.le_of_ble_eq_true rfl⟩) (hl_preV hP hK hD hE hS hFc (va_recv hK (rdO_ hP hC hr135 e136) (ci := 14) (q0 := 0) rfl rfl)) rfl rfl hl.1 rfl (lv_room (Nat.le_of_ble_eq_true rfl)) dX9_pass_364 ⟨show n117 - n0 + (n139 - n117) ≤ nz - n0 by omega, show s118 - s0 + (s140 - s118) ≤ sz9 - s0 by omega⟩) hS (fun q _ h => hFc q h) hFc (fun u ra t H1 locs ht hvm hw hB hz1 hk1 hS => ?_)
              obtain ⟨ad142, hax, hr143, hP1, hD1⟩ := hB
              rw [ht] at hP1
              have hP := hP1
              have hD := hD1.weaken (fun k q _ h => hFc q.1 h)
              generalize H1 = H at hP hS ⊢
              have hr79 := hr79.mv hC.1 hax
              have hr80 := hr80.mv hC.1 hax
              have hX := hX.trans hax
              have hC := hm.2.2 hC
              have hN : n0 ≤ n139 := Nat.le_trans hN hm1
              have hT : s0 ≤ s140 := Nat.le_trans hT hm2
              refine W.widen (k := n139 - n0) (n := s140 - s0) (by omega) (by omega) ?_
              clear hP1 hD1 hFc hk1 hz1 hvm ht hax hm hm1 hm2 hM1 hM2
              refine my_top (y := .ref (AD nb ad142 x137)) (congrArg Value.ref hr143.2.symm) ?_
              have hr143 := rf_self hr143
              refine lv_pop hx hb dX9_pass_367 rfl ?_
              obtain ⟨ht9, hn9, hs9, hE9⟩ := mr_o hF
              subst ht9 hn9 hs9 hE9
              have hl := lv_sub (l' := [(2, .ref (AD nb ad68 x63)), (1, .int x21), (0, .ref Aa0)]) hl [0, 1, 2] rfl
              exact join128 _ _ _ _ hX hr79 hr80 hP hD hS hl
          · skip
            rw [if_neg c87] at hF
            obtain ⟨ht9, hn9, hs9, hE9⟩ := mr_o hF
            subst hn9 hs9 hE9
            have hX9 := hX
            rw [hQ]
            exact W.vret hx hb hr (fun t ht hW => ⟨⟨(), rfl, trivial, _, hX, by rw [ht]; exact hP, hD⟩, hS.F ht⟩) hS.2.2 dX9_pass_325
        have hK145 := mle1 hF
        have hK146 := mle2 hF
        clear hF hm
        have loop147 : ∀ (m148 : Nat)  (n150 s151 : Nat) (E152 : HE), (H_X9_pass_L263 x63 x21 a0 m148 ).1 (n150, s151, E152) = some (t71, n73, s74, E75) → clo n150 E152 → n0 ≤ n150 → s0 ≤ s151 → ∀ (ad149 : Nat → Nat) (H : Heap) (locs : List Loc) (ls : Array Slot), axh n0 ad0 n150 ad149 → rf nb ad149 n150 (x63) ((AD nb ad68 x63)) → rf nb ad149 n150 (a0) (Aa0) → va_P (dC, dI) vwCl (CH cy nb ad149 n150 E152) H → va_D A (CH cy nb ad149 n150 E152) → va_S A s.heap H locs → lv_has ls 4 [(2, .ref (AD nb ad68 x63)), (1, .int x21), (0, .ref Aa0)] → W p l e (headSpec (wsg yX9_pass cX9_pass 4 none) ({ frames := 16, cells := nz - n0, slots := sz9 - s0, locals := 1100 })).room s m ([.ref Aa0] : List Value).toArray below meth c H locs (n150 - n0) (s151 - s0) Qn (F0 m 263 ls []) := by
          intro m148
          induction m148 with
          | zero => intro  n150 s151 E152 hF; exact (m0_o hF).elim
          | succ m148 ih =>
            intro  n150 s151 E152 hF hC hN hT ad149 H locs ls hX hr153 hr154 hP hD hS hl
            simp only [H_X9_pass_L263] at hF
            refine lv_aload_n hx hb dX9_pass_263 rfl (lv_at hl 0 rfl) ?_
            obtain ⟨fs9, e155, hF⟩ := mg_o hF
            obtain ⟨x156, n158, s159, E160, e157, hF⟩ := mb_o hF
            have hm := mle e157
            have hM1 := mle1 hF
            have hM2 := mle2 hF
            have hm1 := hm.1
            have hm2 := hm.2.1
            have hFc := my_free hD hS hA
            refine va_callFi (va_runF (C := RJx35411) (As := []) (rest := []) (hK.1 13 _ rfl).2 ⟨hx, hb, hml, hown, hts⟩ (h_Jx35411_hasNext_aae02 l dC dI cy nb ad149 n150 s151 E152 hC (x63) (AD nb ad68 x63) hr153 H.size x156 n158 s159 E160 e157) (va_cwF 0 hts (gF mw_192 mw_193 mw_194 mw_182 mw_195) rfl rfl rfl hE.fw1 (by decide +kernel) ⟨Nat.le_of_ble_eq_true rfl, Nat.le_of_ble_eq_true rfl⟩) (hl_preV hP hK hD hE hS hFc (va_recv hK (rdO_ hP hC hr153 e155) (ci := 13) (q0 := 0) rfl rfl)) rfl rfl hl.1 rfl (lv_room (Nat.le_of_ble_eq_true rfl)) dX9_pass_264 ⟨show n150 - n0 + (n158 - n150) ≤ nz - n0 by omega, show s151 - s0 + (s159 - s151) ≤ sz9 - s0 by omega⟩) hS (fun q _ h => hFc q h) hFc (fun r9 u t H1 locs ht hvm hw hB hz1 hk1 hS => ?_)
            obtain ⟨ad161, hax, hP1, hD1⟩ := hB
            rw [ht] at hP1
            have hP := hP1
            have hD := hD1.weaken (fun k q _ h => hFc q.1 h)
            generalize H1 = H at hP hS ⊢
            have hr153 := hr153.mv hC.1 hax
            have hr154 := hr154.mv hC.1 hax
            have hX := hX.trans hax
            have hC := hm.2.2 hC
            have hN : n0 ≤ n158 := Nat.le_trans hN hm1
            have hT : s0 ≤ s159 := Nat.le_trans hT hm2
            refine W.widen (k := n158 - n0) (n := s159 - s0) (by omega) (by omega) ?_
            clear hP1 hD1 hFc hk1 hz1 hvm ht hax hm hm1 hm2 hM1 hM2
            obtain rfl := hw.symm
            refine lv_if_eq (tgt := 313) hx hb dX9_pass_269 (by decide) (fun c162 => ?_) (fun c162 => ?_)
            · skip
              rw [if_pos c162] at hF
              obtain ⟨ht9, hn9, hs9, hE9⟩ := mr_o hF
              subst hn9 hs9 hE9
              subst ht9
              have hl := lv_sub (l' := [(2, .ref (AD nb ad68 x63)), (1, .int x21), (0, .ref Aa0)]) hl [0, 1, 2] rfl
              exact kx77 _ _ _ _ hX hr153 hr154 hP hD hS hl
            · skip
              rw [if_neg c162] at hF
              refine lv_aload_n hx hb dX9_pass_272 rfl (lv_at hl 0 rfl) ?_
              obtain ⟨fs9, e163, hF⟩ := mg_o hF
              obtain ⟨x164, n166, s167, E168, e165, hF⟩ := mb_o hF
              have hm := mle e165
              have hM1 := mle1 hF
              have hM2 := mle2 hF
              have hm1 := hm.1
              have hm2 := hm.2.1
              have hFc := my_free hD hS hA
              refine va_callFr (va_runF (C := RJx35411) (As := []) (rest := []) (hK.1 13 _ rfl).2 ⟨hx, hb, hml, hown, hts⟩ (h_Jx35411_next_0502b l dC dI cy nb ad161 n158 s159 E160 hC (x63) (AD nb ad68 x63) hr153 H.size x164 n166 s167 E168 e165) (va_cwF 0 hts (gF mw_197 mw_198 mw_199 mw_182 mw_200) rfl rfl rfl hE.fw2 (by decide +kernel) ⟨Nat.le_of_ble_eq_true rfl, Nat.le_of_ble_eq_true rfl⟩) (hl_preV hP hK hD hE hS hFc (va_recv hK (rdO_ hP hC hr153 e163) (ci := 13) (q0 := 0) rfl rfl)) rfl rfl hl.1 rfl (lv_room (Nat.le_of_ble_eq_true rfl)) dX9_pass_273 ⟨show n158 - n0 + (n166 - n158) ≤ nz - n0 by omega, show s159 - s0 + (s167 - s159) ≤ sz9 - s0 by omega⟩) hS (fun q _ h => hFc q h) hFc (fun u ra t H1 locs ht hvm hw hB hz1 hk1 hS => ?_)
              obtain ⟨ad169, hax, hr170, hP1, hD1⟩ := hB
              rw [ht] at hP1
              have hP := hP1
              have hD := hD1.weaken (fun k q _ h => hFc q.1 h)
              generalize H1 = H at hP hS ⊢
              have hr153 := hr153.mv hC.1 hax
              have hr154 := hr154.mv hC.1 hax
              have hX := hX.trans hax
              have hC := hm.2.2 hC
              have hN : n0 ≤ n166 := Nat.le_trans hN hm1
              have hT : s0 ≤ s167 := Nat.le_trans hT hm2
              refine W.widen (k := n166 - n0) (n := s167 - s0) (by omega) (by omega) ?_
              clear hP1 hD1 hFc hk1 hz1 hvm ht hax hm hm1 hm2 hM1 hM2
              refine my_top (y := .ref (AD nb ad169 x164)) (congrArg Value.ref hr170.2.symm) ?_
              have hr170 := rf_self hr170
              obtain ⟨fs9, e172, hF⟩ := mg_o hF
              refine va_castS hx hb hown (hts _ mw_1266) (hK.1 10 _ rfl).2 (va_recv hK (rdO_ hP hC hr170 e172) (ci := 10) (q0 := 0) rfl rfl) dX9_pass_278 ?_
              refine lv_astore_n (lv' := [(3, .ref (AD nb ad169 x164)), (2, .ref (AD nb ad68 x63)), (1, .int x21), (0, .ref Aa0)]) hx hb dX9_pass_281 rfl hl (by decide) rfl (fun ls hl => ?_)
              refine lv_aload_n hx hb dX9_pass_282 rfl (lv_at hl 3 rfl) ?_
              obtain ⟨x173, e174, hF⟩ := mg_o hF
              obtain ⟨hr175, fs9, h9, g9⟩ := rdR hP hC hr154 e174
              refine va_get (D := (dC, dI)) (ci := 9) (v := .ref (AD nb ad169 x173)) (C := RX9) (T := TX9) (N := 14) hx hb hts inlX9 hown hK h9 0 rfl rfl 13 (by decide) (hts _ mw_111) (fun _ h9 => h9) g9 dX9_pass_283 ?_
              clear h9 g9
              refine lv_iconst (v := 4) hx hb dX9_pass_286 (by decide) ?_
              refine lv_dup2_11 hx hb dX9_pass_287 rfl rfl ?_
              obtain ⟨x176, e177, hF⟩ := mg_o hF
              obtain ⟨m9, f9, h9, i9, g9⟩ := rdA hP hC hr175 e177
              refine va_iald hx hb hK h9 0 1 rfl rfl i9 dX9_pass_288 ?_
              refine my_topi (y := x176) g9 ?_
              clear h9 i9 g9
              refine lv_aload_n hx hb dX9_pass_289 rfl (lv_at hl 0 rfl) ?_
              obtain ⟨x178, e179, hF⟩ := mg_o hF
              obtain ⟨fs9, h9, g9⟩ := rdI hP hC hr170 e179
              refine va_get (D := (dC, dI)) (ci := 10) (v := .int x178) (C := RX10) (T := TX10) (N := 15) hx hb hts inlX10 hown hK h9 0 rfl rfl 3 (by decide) (hts _ mw_1314) (fun _ h9 => h9) g9 dX9_pass_290 ?_
              clear h9 g9
              obtain ⟨t181, n184, s185, E186, hJ182, hF⟩ := mb_o hF
              have hm := mle hJ182
              have join187 : ∀ (ad183 : Nat → Nat) (H : Heap) (locs : List Loc) (ls : Array Slot), axh n0 ad0 n184 ad183 → rf nb ad183 n184 (x164) ((AD nb ad169 x164)) → rf nb ad183 n184 (x63) ((AD nb ad68 x63)) → rf nb ad183 n184 (a0) (Aa0) → rf nb ad183 n184 (x173) ((AD nb ad169 x173)) → va_P (dC, dI) vwCl (CH cy nb ad183 n184 E186) H → va_D A (CH cy nb ad183 n184 E186) → va_S A s.heap H locs → lv_has ls 4 [(3, .ref (AD nb ad169 x164)), (2, .ref (AD nb ad68 x63)), (1, .int x21), (0, .ref Aa0)] → W p l e (headSpec (wsg yX9_pass cX9_pass 4 none) ({ frames := 16, cells := nz - n0, slots := sz9 - s0, locals := 1100 })).room s m ([.ref Aa0] : List Value).toArray below meth c H locs (n184 - n0) (s185 - s0) Qn (F0 m 308 ls [.int t181, .int x176, .int 4, .ref (AD nb ad169 x173)]) := by
                intro ad183 H locs ls hX hr188 hr189 hr190 hr191 hP hD hS hl
                have hC := hm.2.2 hC
                have hN : n0 ≤ n184 := Nat.le_trans hN hm.1
                have hT : s0 ≤ s185 := Nat.le_trans hT hm.2.1
                clear hm
                refine lv_iadd hx hb dX9_pass_308 ?_
                obtain ⟨E192, e193, hF⟩ := mw_o hF
                obtain ⟨q9, m9, f9, h9, i9, ez9⟩ := wrA (cy := cy) hC hr191 e193
                refine va_iast hx hb hK hP hD hS q9 1 h9 rfl i9 dX9_pass_309 (fun H locs hP hD hS => ?_)
                clear i9
                rw [ez9] at hP hD
                clear ez9 h9
                have hC := sA_clo e193 hC
                refine lv_goto (tgt := 263) hx hb dX9_pass_310 (by decide) ?_
                have hl := lv_sub (l' := [(2, .ref (AD nb ad68 x63)), (1, .int x21), (0, .ref Aa0)]) hl [1, 2, 3] rfl
                exact ih  _ _ _ hF hC hN hT _ _ _ _ hX hr189 hr190 hP hD hS hl
              have hK194 := mle1 hF
              have hK195 := mle2 hF
              clear hF hm
              have hF := hJ182
              clear hJ182
              refine lv_if_lt (tgt := 307) hx hb dX9_pass_293 (by decide) (fun c180 => ?_) (fun c180 => ?_)
              · skip
                rw [if_pos c180] at hF
                refine lv_iconst (v := 0) hx hb dX9_pass_307 (by decide) ?_
                obtain ⟨ht9, hn9, hs9, hE9⟩ := mr_o hF
                subst ht9 hn9 hs9 hE9
                have hl := lv_sub (l' := [(3, .ref (AD nb ad169 x164)), (2, .ref (AD nb ad68 x63)), (1, .int x21), (0, .ref Aa0)]) hl [0, 1, 2, 3] rfl
                exact join187 _ _ _ _ hX hr170 hr153 hr154 hr175 hP hD hS hl
              · skip
                rw [if_neg c180] at hF
                refine lv_aload_n hx hb dX9_pass_296 rfl (lv_at hl 0 rfl) ?_
                obtain ⟨x196, e197, hF⟩ := mg_o hF
                obtain ⟨fs9, h9, g9⟩ := rdI hP hC hr170 e197
                refine va_get (D := (dC, dI)) (ci := 10) (v := .int x196) (C := RX10) (T := TX10) (N := 15) hx hb hts inlX10 hown hK h9 0 rfl rfl 4 (by decide) (hts _ mw_1315) (fun _ h9 => h9) g9 dX9_pass_297 ?_
                clear h9 g9
                refine lv_if_ne (tgt := 307) hx hb dX9_pass_300 (by decide) (fun c198 => ?_) (fun c198 => ?_)
                · skip
                  rw [if_neg c198] at hF
                  refine lv_iconst (v := 0) hx hb dX9_pass_307 (by decide) ?_
                  obtain ⟨ht9, hn9, hs9, hE9⟩ := mr_o hF
                  subst ht9 hn9 hs9 hE9
                  have hl := lv_sub (l' := [(3, .ref (AD nb ad169 x164)), (2, .ref (AD nb ad68 x63)), (1, .int x21), (0, .ref Aa0)]) hl [0, 1, 2, 3] rfl
                  exact join187 _ _ _ _ hX hr170 hr153 hr154 hr175 hP hD hS hl
                · skip
                  rw [if_pos c198] at hF
                  refine lv_iconst (v := 1) hx hb dX9_pass_303 (by decide) ?_
                  refine lv_goto (tgt := 308) hx hb dX9_pass_304 (by decide) ?_
                  obtain ⟨ht9, hn9, hs9, hE9⟩ := mr_o hF
                  subst ht9 hn9 hs9 hE9
                  have hl := lv_sub (l' := [(3, .ref (AD nb ad169 x164)), (2, .ref (AD nb ad68 x63)), (1, .int x21), (0, .ref Aa0)]) hl [0, 1, 2, 3] rfl
                  exact join187 _ _ _ _ hX hr170 hr153 hr154 hr175 hP hD hS hl
        have hl := lv_sub (l' := [(2, .ref (AD nb ad68 x63)), (1, .int x21), (0, .ref Aa0)]) hl [0, 1, 2] rfl
        exact loop147 FUEL  _ _ _ hL72 hC hN hT _ _ _ _ hX hr69 hr54 hP hD hS hl
      have hK199 := mle1 hF
      have hK200 := mle2 hF
      clear hF hm
      have loop201 : ∀ (m202 : Nat) (y207 : Int32) (n204 s205 : Nat) (E206 : HE), (H_X9_pass_L186 x21 a0 m202 y207).1 (n204, s205, E206) = some (t46, n48, s49, E50) → clo n204 E206 → n0 ≤ n204 → s0 ≤ s205 → ∀ (ad203 : Nat → Nat) (H : Heap) (locs : List Loc) (ls : Array Slot), axh n0 ad0 n204 ad203 → rf nb ad203 n204 (a0) (Aa0) → va_P (dC, dI) vwCl (CH cy nb ad203 n204 E206) H → va_D A (CH cy nb ad203 n204 E206) → va_S A s.heap H locs → lv_has ls 4 [(2, .int y207), (1, .int x21), (0, .ref Aa0)] → W p l e (headSpec (wsg yX9_pass cX9_pass 4 none) ({ frames := 16, cells := nz - n0, slots := sz9 - s0, locals := 1100 })).room s m ([.ref Aa0] : List Value).toArray below meth c H locs (n204 - n0) (s205 - s0) Qn (F0 m 186 ls []) := by
        intro m202
        induction m202 with
        | zero => intro y207 n204 s205 E206 hF; exact (m0_o hF).elim
        | succ m202 ih =>
          intro y207 n204 s205 E206 hF hC hN hT ad203 H locs ls hX hr208 hP hD hS hl
          simp only [H_X9_pass_L186] at hF
          refine lv_iload_n hx hb dX9_pass_186 rfl (lv_at hl 0 rfl) ?_
          refine lv_aload_n hx hb dX9_pass_187 rfl (lv_at hl 2 rfl) ?_
          obtain ⟨x209, e210, hF⟩ := mg_o hF
          obtain ⟨hr211, fs9, h9, g9⟩ := rdR hP hC hr208 e210
          refine va_get (D := (dC, dI)) (ci := 9) (v := .ref (AD nb ad203 x209)) (C := RX9) (T := TX9) (N := 14) hx hb hts inlX9 hown hK h9 0 rfl rfl 8 (by decide) (hts _ mw_106) (fun _ h9 => h9) g9 dX9_pass_188 ?_
          clear h9 g9
          obtain ⟨fs9, e212, hF⟩ := mg_o hF
          obtain ⟨x213, n215, s216, E217, e214, hF⟩ := mb_o hF
          have hm := mle e214
          have hM1 := mle1 hF
          have hM2 := mle2 hF
          have hm1 := hm.1
          have hm2 := hm.2.1
          have hFc := my_free hD hS hA
          refine va_calli (va_runV (C := RJx4a65c) (As := []) (rest := [.int y207]) ⟨hx, hb, hml, hown, hts⟩ (h_Jx4a65c_size_8abf5 l dC dI cy nb ad203 n204 s205 E206 hC (x209) (AD nb ad203 x209) hr211 H.size x213 n215 s216 E217 e214) (cwV 0 hts (gV mw_346 mw_166 mw_167 mw_12 mw_168) rfl rfl rfl (by decide +kernel) ⟨Nat.le_of_ble_eq_true rfl, Nat.le_of_ble_eq_true rfl⟩) (hl_preV hP hK hD hE hS hFc (va_recv hK (rdO_ hP hC hr211 e212) (ci := 14) (q0 := 0) rfl rfl)) rfl rfl hl.1 rfl (lv_room (Nat.le_of_ble_eq_true rfl)) dX9_pass_191 ⟨show n204 - n0 + (n215 - n204) ≤ nz - n0 by omega, show s205 - s0 + (s216 - s205) ≤ sz9 - s0 by omega⟩) hS (fun q _ h => hFc q h) hFc (fun r9 u t H1 locs ht hvm hw hB hz1 hk1 hS => ?_)
          obtain ⟨ad218, hax, hP1, hD1⟩ := hB
          rw [ht] at hP1
          have hP := hP1
          have hD := hD1.weaken (fun k q _ h => hFc q.1 h)
          generalize H1 = H at hP hS ⊢
          have hr208 := hr208.mv hC.1 hax
          have hX := hX.trans hax
          have hC := hm.2.2 hC
          have hN : n0 ≤ n215 := Nat.le_trans hN hm1
          have hT : s0 ≤ s216 := Nat.le_trans hT hm2
          refine W.widen (k := n215 - n0) (n := s216 - s0) (by omega) (by omega) ?_
          clear hP1 hD1 hFc hk1 hz1 hvm ht hax hm hm1 hm2 hM1 hM2
          obtain rfl := hw.symm
          refine lv_icmp_ge (tgt := 245) hx hb dX9_pass_194 (by decide) (fun c219 => ?_) (fun c219 => ?_)
          · skip
            rw [if_pos c219] at hF
            obtain ⟨ht9, hn9, hs9, hE9⟩ := mr_o hF
            subst hn9 hs9 hE9
            subst ht9
            have hl := lv_sub (l' := [(2, .int y207), (1, .int x21), (0, .ref Aa0)]) hl [0, 1, 2] rfl
            exact kx52 _ _ _ _ hX hr208 hP hD hS hl
          · skip
            rw [if_neg c219] at hF
            obtain ⟨t220, n222, s223, E224, hL221, hF⟩ := mb_o hF
            have hm := mle hL221
            have kx226 : ∀ (ad225 : Nat → Nat) (H : Heap) (locs : List Loc) (ls : Array Slot), axh n0 ad0 n222 ad225 → rf nb ad225 n222 (a0) (Aa0) → va_P (dC, dI) vwCl (CH cy nb ad225 n222 E224) H → va_D A (CH cy nb ad225 n222 E224) → va_S A s.heap H locs → lv_has ls 4 [(2, .int y207), (1, .int x21), (0, .ref Aa0)] → W p l e (headSpec (wsg yX9_pass cX9_pass 4 none) ({ frames := 16, cells := nz - n0, slots := sz9 - s0, locals := 1100 })).room s m ([.ref Aa0] : List Value).toArray below meth c H locs (n222 - n0) (s223 - s0) Qn (F0 m 239 ls []) := by
              intro ad225 H locs ls hX hr228 hP hD hS hl
              have hC := hm.2.2 hC
              have hN : n0 ≤ n222 := Nat.le_trans hN hm.1
              have hT : s0 ≤ s223 := Nat.le_trans hT hm.2.1
              clear hm
              refine lv_iinc (v := (y207 + 1)) (lv' := [(2, .int (y207 + 1)), (1, .int x21), (0, .ref Aa0)]) hx hb dX9_pass_239 hl (k := 0) rfl (by rfl) (by decide) rfl (fun ls hl => ?_)
              refine lv_goto (tgt := 186) hx hb dX9_pass_242 (by decide) ?_
              have hl := lv_sub (l' := [(2, .int (y207 + 1)), (1, .int x21), (0, .ref Aa0)]) hl [0, 1, 2] rfl
              exact ih _ _ _ _ hF hC hN hT _ _ _ _ hX hr228 hP hD hS hl
            have hK229 := mle1 hF
            have hK230 := mle2 hF
            clear hF hm
            have loop231 : ∀ (m232 : Nat)  (n234 s235 : Nat) (E236 : HE), (H_X9_pass_L197 y207 x21 a0 m232 ).1 (n234, s235, E236) = some (t220, n222, s223, E224) → clo n234 E236 → n0 ≤ n234 → s0 ≤ s235 → ∀ (ad233 : Nat → Nat) (H : Heap) (locs : List Loc) (ls : Array Slot), axh n0 ad0 n234 ad233 → rf nb ad233 n234 (a0) (Aa0) → va_P (dC, dI) vwCl (CH cy nb ad233 n234 E236) H → va_D A (CH cy nb ad233 n234 E236) → va_S A s.heap H locs → lv_has ls 4 [(2, .int y207), (1, .int x21), (0, .ref Aa0)] → W p l e (headSpec (wsg yX9_pass cX9_pass 4 none) ({ frames := 16, cells := nz - n0, slots := sz9 - s0, locals := 1100 })).room s m ([.ref Aa0] : List Value).toArray below meth c H locs (n234 - n0) (s235 - s0) Qn (F0 m 197 ls []) := by
              intro m232
              induction m232 with
              | zero => intro  n234 s235 E236 hF; exact (m0_o hF).elim
              | succ m232 ih =>
                intro  n234 s235 E236 hF hC hN hT ad233 H locs ls hX hr237 hP hD hS hl
                simp only [H_X9_pass_L197] at hF
                refine lv_aload_n hx hb dX9_pass_197 rfl (lv_at hl 2 rfl) ?_
                refine lv_iload_n hx hb dX9_pass_198 rfl (lv_at hl 0 rfl) ?_
                obtain ⟨fs9, e238, hF⟩ := mg_o hF
                obtain ⟨x239, n241, s242, E243, e240, hF⟩ := mb_o hF
                have hm := mle e240
                have hM1 := mle1 hF
                have hM2 := mle2 hF
                have hm1 := hm.1
                have hm2 := hm.2.1
                have hFc := my_free hD hS hA
                refine va_calli (va_runV (C := RX9) (As := [.int y207]) (rest := []) ⟨hx, hb, hml, hown, hts⟩ (h_X9_nextOf l dC dI cy nb ad233 n234 s235 E236 hC (a0) Aa0 hr237 (y207) H.size x239 n241 s242 E243 e240) (cwV 1 hts (gV mw_1356 mw_1357 mw_1358 mw_5 mw_1359) rfl rfl rfl (by decide +kernel) ⟨Nat.le_of_ble_eq_true rfl, Nat.le_of_ble_eq_true rfl⟩) (hl_preV hP hK hD hE hS hFc (va_recv hK (rdO_ hP hC hr237 e238) (ci := 9) (q0 := 0) rfl rfl)) rfl rfl hl.1 rfl (lv_room (Nat.le_of_ble_eq_true rfl)) dX9_pass_199 ⟨show n234 - n0 + (n241 - n234) ≤ nz - n0 by omega, show s235 - s0 + (s242 - s235) ≤ sz9 - s0 by omega⟩) hS (fun q _ h => hFc q h) hFc (fun r9 u t H1 locs ht hvm hw hB hz1 hk1 hS => ?_)
                obtain ⟨ad244, hax, hP1, hD1⟩ := hB
                rw [ht] at hP1
                have hP := hP1
                have hD := hD1.weaken (fun k q _ h => hFc q.1 h)
                generalize H1 = H at hP hS ⊢
                have hr237 := hr237.mv hC.1 hax
                have hX := hX.trans hax
                have hC := hm.2.2 hC
                have hN : n0 ≤ n241 := Nat.le_trans hN hm1
                have hT : s0 ≤ s242 := Nat.le_trans hT hm2
                refine W.widen (k := n241 - n0) (n := s242 - s0) (by omega) (by omega) ?_
                clear hP1 hD1 hFc hk1 hz1 hvm ht hax hm hm1 hm2 hM1 hM2
                obtain rfl := hw.symm
                refine lv_if_lt (tgt := 239) hx hb dX9_pass_202 (by decide) (fun c245 => ?_) (fun c245 => ?_)
                · skip
                  rw [if_pos c245] at hF
                  obtain ⟨ht9, hn9, hs9, hE9⟩ := mr_o hF
                  subst hn9 hs9 hE9
                  subst ht9
                  have hl := lv_sub (l' := [(2, .int y207), (1, .int x21), (0, .ref Aa0)]) hl [0, 1, 2] rfl
                  exact kx226 _ _ _ _ hX hr237 hP hD hS hl
                · skip
                  rw [if_neg c245] at hF
                  refine lv_aload_n hx hb dX9_pass_205 rfl (lv_at hl 2 rfl) ?_
                  obtain ⟨x246, e247, hF⟩ := mg_o hF
                  obtain ⟨hr248, fs9, h9, g9⟩ := rdR hP hC hr237 e247
                  refine va_get (D := (dC, dI)) (ci := 9) (v := .ref (AD nb ad244 x246)) (C := RX9) (T := TX9) (N := 14) hx hb hts inlX9 hown hK h9 0 rfl rfl 10 (by decide) (hts _ mw_108) (fun _ h9 => h9) g9 dX9_pass_206 ?_
                  clear h9 g9
                  refine lv_aload_n hx hb dX9_pass_209 rfl (lv_at hl 2 rfl) ?_
                  refine lv_iload_n hx hb dX9_pass_210 rfl (lv_at hl 0 rfl) ?_
                  obtain ⟨fs9, e249, hF⟩ := mg_o hF
                  obtain ⟨x250, n252, s253, E254, e251, hF⟩ := mb_o hF
                  have hm := mle e251
                  have hM1 := mle1 hF
                  have hM2 := mle2 hF
                  have hm1 := hm.1
                  have hm2 := hm.2.1
                  have hFc := my_free hD hS hA
                  refine va_calli (va_runV (C := RX9) (As := [.int y207]) (rest := [.ref (AD nb ad244 x246)]) ⟨hx, hb, hml, hown, hts⟩ (h_X9_nextOf l dC dI cy nb ad244 n241 s242 E243 hC (a0) Aa0 hr237 (y207) H.size x250 n252 s253 E254 e251) (cwV 1 hts (gV mw_1356 mw_1357 mw_1358 mw_5 mw_1359) rfl rfl rfl (by decide +kernel) ⟨Nat.le_of_ble_eq_true rfl, Nat.le_of_ble_eq_true rfl⟩) (hl_preV hP hK hD hE hS hFc (va_recv hK (rdO_ hP hC hr237 e249) (ci := 9) (q0 := 0) rfl rfl)) rfl rfl hl.1 rfl (lv_room (Nat.le_of_ble_eq_true rfl)) dX9_pass_211 ⟨show n241 - n0 + (n252 - n241) ≤ nz - n0 by omega, show s242 - s0 + (s253 - s242) ≤ sz9 - s0 by omega⟩) hS (fun q _ h => hFc q h) hFc (fun r9 u t H1 locs ht hvm hw hB hz1 hk1 hS => ?_)
                  obtain ⟨ad255, hax, hP1, hD1⟩ := hB
                  rw [ht] at hP1
                  have hP := hP1
                  have hD := hD1.weaken (fun k q _ h => hFc q.1 h)
                  generalize H1 = H at hP hS ⊢
                  have hr237 := hr237.mv hC.1 hax
                  have hr248 := hr248.mv hC.1 hax
                  have hX := hX.trans hax
                  have hC := hm.2.2 hC
                  have hN : n0 ≤ n252 := Nat.le_trans hN hm1
                  have hT : s0 ≤ s253 := Nat.le_trans hT hm2
                  refine W.widen (k := n252 - n0) (n := s253 - s0) (by omega) (by omega) ?_
                  clear hP1 hD1 hFc hk1 hz1 hvm ht hax hm hm1 hm2 hM1 hM2
                  obtain rfl := hw.symm
                  obtain ⟨fs9, e256, hF⟩ := mg_o hF
                  obtain ⟨x257, n259, s260, E261, e258, hF⟩ := mb_o hF
                  have hm := mle e258
                  have hM1 := mle1 hF
                  have hM2 := mle2 hF
                  have hm1 := hm.1
                  have hm2 := hm.2.1
                  have hFc := my_free hD hS hA
                  refine va_callr (va_runV (C := RJx4a65c) (As := [.int x250]) (rest := []) ⟨hx, hb, hml, hown, hts⟩ (h_Jx4a65c_get_915e3 l dC dI cy nb ad255 n252 s253 E254 hC (x246) (AD nb ad244 x246) hr248 (x250) H.size x257 n259 s260 E261 e258) (cwV 1 hts (gV mw_347 mw_235 mw_236 mw_12 mw_237) rfl rfl rfl (by decide +kernel) ⟨Nat.le_of_ble_eq_true rfl, Nat.le_of_ble_eq_true rfl⟩) (hl_preV hP hK hD hE hS hFc (va_recv hK (rdO_ hP hC hr248 e256) (ci := 14) (q0 := 0) rfl rfl)) rfl rfl hl.1 rfl (lv_room (Nat.le_of_ble_eq_true rfl)) dX9_pass_214 ⟨show n252 - n0 + (n259 - n252) ≤ nz - n0 by omega, show s253 - s0 + (s260 - s253) ≤ sz9 - s0 by omega⟩) hS (fun q _ h => hFc q h) hFc (fun u ra t H1 locs ht hvm hw hB hz1 hk1 hS => ?_)
                  obtain ⟨ad262, hax, hr263, hP1, hD1⟩ := hB
                  rw [ht] at hP1
                  have hP := hP1
                  have hD := hD1.weaken (fun k q _ h => hFc q.1 h)
                  generalize H1 = H at hP hS ⊢
                  have hr237 := hr237.mv hC.1 hax
                  have hX := hX.trans hax
                  have hC := hm.2.2 hC
                  have hN : n0 ≤ n259 := Nat.le_trans hN hm1
                  have hT : s0 ≤ s260 := Nat.le_trans hT hm2
                  refine W.widen (k := n259 - n0) (n := s260 - s0) (by omega) (by omega) ?_
                  clear hP1 hD1 hFc hk1 hz1 hvm ht hax hm hm1 hm2 hM1 hM2
                  refine my_top (y := .ref (AD nb ad262 x257)) (congrArg Value.ref hr263.2.symm) ?_
                  have hr263 := rf_self hr263
                  obtain ⟨fs9, e265, hF⟩ := mg_o hF
                  refine va_castS hx hb hown (hts _ mw_174) (hK.1 8 _ rfl).2 (va_recv hK (rdO_ hP hC hr263 e265) (ci := 8) (q0 := 0) rfl rfl) dX9_pass_217 ?_
                  obtain ⟨x266, e267, hF⟩ := mg_o hF
                  obtain ⟨fs9, h9, g9⟩ := rdI hP hC hr263 e267
                  refine va_get (D := (dC, dI)) (ci := 8) (v := .int x266) (C := RX8) (T := TX8) (N := 9) hx hb hts inlX8 hown hK h9 0 rfl rfl 3 (by decide) (hts _ mw_175) (fun _ h9 => h9) g9 dX9_pass_220 ?_
                  clear h9 g9
                  refine lv_iconst (v := 2) hx hb dX9_pass_223 (by decide) ?_
                  refine lv_icmp_ne (tgt := 239) hx hb dX9_pass_224 (by decide) (fun c268 => ?_) (fun c268 => ?_)
                  · skip
                    rw [if_neg c268] at hF
                    obtain ⟨ht9, hn9, hs9, hE9⟩ := mr_o hF
                    subst hn9 hs9 hE9
                    subst ht9
                    have hl := lv_sub (l' := [(2, .int y207), (1, .int x21), (0, .ref Aa0)]) hl [0, 1, 2] rfl
                    exact kx226 _ _ _ _ hX hr237 hP hD hS hl
                  · skip
                    rw [if_pos c268] at hF
                    refine lv_aload_n hx hb dX9_pass_227 rfl (lv_at hl 2 rfl) ?_
                    refine lv_aload_n hx hb dX9_pass_228 rfl (lv_at hl 2 rfl) ?_
                    refine lv_iload_n hx hb dX9_pass_229 rfl (lv_at hl 0 rfl) ?_
                    obtain ⟨fs9, e269, hF⟩ := mg_o hF
                    obtain ⟨x270, n272, s273, E274, e271, hF⟩ := mb_o hF
                    have hm := mle e271
                    have hM1 := mle1 hF
                    have hM2 := mle2 hF
                    have hm1 := hm.1
                    have hm2 := hm.2.1
                    have hFc := my_free hD hS hA
                    refine va_calli (va_runV (C := RX9) (As := [.int y207]) (rest := [.ref Aa0]) ⟨hx, hb, hml, hown, hts⟩ (h_X9_nextOf l dC dI cy nb ad262 n259 s260 E261 hC (a0) Aa0 hr237 (y207) H.size x270 n272 s273 E274 e271) (cwV 1 hts (gV mw_1356 mw_1357 mw_1358 mw_5 mw_1359) rfl rfl rfl (by decide +kernel) ⟨Nat.le_of_ble_eq_true rfl, Nat.le_of_ble_eq_true rfl⟩) (hl_preV hP hK hD hE hS hFc (va_recv hK (rdO_ hP hC hr237 e269) (ci := 9) (q0 := 0) rfl rfl)) rfl rfl hl.1 rfl (lv_room (Nat.le_of_ble_eq_true rfl)) dX9_pass_230 ⟨show n259 - n0 + (n272 - n259) ≤ nz - n0 by omega, show s260 - s0 + (s273 - s260) ≤ sz9 - s0 by omega⟩) hS (fun q _ h => hFc q h) hFc (fun r9 u t H1 locs ht hvm hw hB hz1 hk1 hS => ?_)
                    obtain ⟨ad275, hax, hP1, hD1⟩ := hB
                    rw [ht] at hP1
                    have hP := hP1
                    have hD := hD1.weaken (fun k q _ h => hFc q.1 h)
                    generalize H1 = H at hP hS ⊢
                    have hr237 := hr237.mv hC.1 hax
                    have hX := hX.trans hax
                    have hC := hm.2.2 hC
                    have hN : n0 ≤ n272 := Nat.le_trans hN hm1
                    have hT : s0 ≤ s273 := Nat.le_trans hT hm2
                    refine W.widen (k := n272 - n0) (n := s273 - s0) (by omega) (by omega) ?_
                    clear hP1 hD1 hFc hk1 hz1 hvm ht hax hm hm1 hm2 hM1 hM2
                    obtain rfl := hw.symm
                    obtain ⟨fs9, e276, hF⟩ := mg_o hF
                    obtain ⟨⟨⟩, n278, s279, E280, e277, hF⟩ := mb_o hF
                    have hm := mle e277
                    have hM1 := mle1 hF
                    have hM2 := mle2 hF
                    have hm1 := hm.1
                    have hm2 := hm.2.1
                    have hFc := my_free hD hS hA
                    refine va_callv (va_runV (C := RX9) (As := [.int x270]) (rest := []) ⟨hx, hb, hml, hown, hts⟩ (h_X9_leave l dC dI cy nb ad275 n272 s273 E274 hC (a0) Aa0 hr237 (x270) H.size n278 s279 E280 e277) (cwV 1 hts (gV mw_1366 mw_1367 mw_1368 mw_5 mw_1369) rfl rfl rfl (by decide +kernel) ⟨Nat.le_of_ble_eq_true rfl, Nat.le_of_ble_eq_true rfl⟩) (hl_preV hP hK hD hE hS hFc (va_recv hK (rdO_ hP hC hr237 e276) (ci := 9) (q0 := 0) rfl rfl)) rfl rfl hl.1 rfl (lv_room (Nat.le_of_ble_eq_true rfl)) dX9_pass_233 ⟨show n272 - n0 + (n278 - n272) ≤ nz - n0 by omega, show s273 - s0 + (s279 - s273) ≤ sz9 - s0 by omega⟩) hS (fun q _ h => hFc q h) hFc (fun u t H1 locs ht hvm hw hB hz1 hk1 hS => ?_)
                    obtain ⟨ad281, hax, hP1, hD1⟩ := hB
                    rw [ht] at hP1
                    have hP := hP1
                    have hD := hD1.weaken (fun k q _ h => hFc q.1 h)
                    generalize H1 = H at hP hS ⊢
                    have hr237 := hr237.mv hC.1 hax
                    have hX := hX.trans hax
                    have hC := hm.2.2 hC
                    have hN : n0 ≤ n278 := Nat.le_trans hN hm1
                    have hT : s0 ≤ s279 := Nat.le_trans hT hm2
                    refine W.widen (k := n278 - n0) (n := s279 - s0) (by omega) (by omega) ?_
                    clear hP1 hD1 hFc hk1 hz1 hvm ht hax hm hm1 hm2 hM1 hM2
                    refine lv_goto (tgt := 197) hx hb dX9_pass_236 (by decide) ?_
                    have hl := lv_sub (l' := [(2, .int y207), (1, .int x21), (0, .ref Aa0)]) hl [0, 1, 2] rfl
                    exact ih  _ _ _ hF hC hN hT _ _ _ _ hX hr237 hP hD hS hl
            have hl := lv_sub (l' := [(2, .int y207), (1, .int x21), (0, .ref Aa0)]) hl [0, 1, 2] rfl
            exact loop231 FUEL  _ _ _ hL221 hC hN hT _ _ _ _ hX hr208 hP hD hS hl
      have hl := lv_sub (l' := [(2, .int 0), (1, .int x21), (0, .ref Aa0)]) hl [0, 1, 2] rfl
      exact loop201 FUEL _ _ _ _ hL47 hC hN hT _ _ _ _ hX hr45 hP hD hS hl
    have hK282 := mle1 hF
    have hK283 := mle2 hF
    clear hF hm
    have hF := hJ39
    clear hJ39
    refine lv_if_ne (tgt := 184) hx hb dX9_pass_95 (by decide) (fun c37 => ?_) (fun c37 => ?_)
    · skip
      rw [if_neg c37] at hF
      obtain ⟨ht9, hn9, hs9, hE9⟩ := mr_o hF
      subst ht9 hn9 hs9 hE9
      have hl := lv_sub (l' := [(1, .int x21), (0, .ref Aa0)]) hl [0, 1] rfl
      exact join44 _ _ _ _ hX hr19 hP hD hS hl
    · skip
      rw [if_pos c37] at hF
      refine lv_aload_n hx hb dX9_pass_98 rfl (lv_at hl 1 rfl) ?_
      obtain ⟨x284, e285, hF⟩ := mg_o hF
      obtain ⟨hr286, fs9, h9, g9⟩ := rdR hP hC hr19 e285
      refine va_get (D := (dC, dI)) (ci := 9) (v := .ref (AD nb ad36 x284)) (C := RX9) (T := TX9) (N := 14) hx hb hts inlX9 hown hK h9 0 rfl rfl 7 (by decide) (hts _ mw_105) (fun _ h9 => h9) g9 dX9_pass_99 ?_
      clear h9 g9
      refine lv_iconst (v := 0) hx hb dX9_pass_102 (by decide) ?_
      obtain ⟨fs9, e287, hF⟩ := mg_o hF
      obtain ⟨x288, n290, s291, E292, e289, hF⟩ := mb_o hF
      have hm := mle e289
      have hM1 := mle1 hF
      have hM2 := mle2 hF
      have hm1 := hm.1
      have hm2 := hm.2.1
      have hFc := my_free hD hS hA
      refine va_callr (va_runV (C := RJx4a65c) (As := [.int 0]) (rest := []) ⟨hx, hb, hml, hown, hts⟩ (h_Jx4a65c_get_915e3 l dC dI cy nb ad36 n33 s34 E35 hC (x284) (AD nb ad36 x284) hr286 (0) H.size x288 n290 s291 E292 e289) (cwV 1 hts (gV mw_347 mw_235 mw_236 mw_12 mw_237) rfl rfl rfl (by decide +kernel) ⟨Nat.le_of_ble_eq_true rfl, Nat.le_of_ble_eq_true rfl⟩) (hl_preV hP hK hD hE hS hFc (va_recv hK (rdO_ hP hC hr286 e287) (ci := 14) (q0 := 0) rfl rfl)) rfl rfl hl.1 rfl (lv_room (Nat.le_of_ble_eq_true rfl)) dX9_pass_103 ⟨show n33 - n0 + (n290 - n33) ≤ nz - n0 by omega, show s34 - s0 + (s291 - s34) ≤ sz9 - s0 by omega⟩) hS (fun q _ h => hFc q h) hFc (fun u ra t H1 locs ht hvm hw hB hz1 hk1 hS => ?_)
      obtain ⟨ad293, hax, hr294, hP1, hD1⟩ := hB
      rw [ht] at hP1
      have hP := hP1
      have hD := hD1.weaken (fun k q _ h => hFc q.1 h)
      generalize H1 = H at hP hS ⊢
      have hr19 := hr19.mv hC.1 hax
      have hX := hX.trans hax
      have hC := hm.2.2 hC
      have hN : n0 ≤ n290 := Nat.le_trans hN hm1
      have hT : s0 ≤ s291 := Nat.le_trans hT hm2
      refine W.widen (k := n290 - n0) (n := s291 - s0) (by omega) (by omega) ?_
      clear hP1 hD1 hFc hk1 hz1 hvm ht hax hm hm1 hm2 hM1 hM2
      refine my_top (y := .ref (AD nb ad293 x288)) (congrArg Value.ref hr294.2.symm) ?_
      have hr294 := rf_self hr294
      obtain ⟨fs9, e296, hF⟩ := mg_o hF
      refine va_castS hx hb hown (hts _ mw_1266) (hK.1 10 _ rfl).2 (va_recv hK (rdO_ hP hC hr294 e296) (ci := 10) (q0 := 0) rfl rfl) dX9_pass_106 ?_
      obtain ⟨x297, e298, hF⟩ := mg_o hF
      obtain ⟨fs9, h9, g9⟩ := rdI hP hC hr294 e298
      refine va_get (D := (dC, dI)) (ci := 10) (v := .int x297) (C := RX10) (T := TX10) (N := 15) hx hb hts inlX10 hown hK h9 0 rfl rfl 3 (by decide) (hts _ mw_1314) (fun _ h9 => h9) g9 dX9_pass_109 ?_
      clear h9 g9
      refine lv_if_ge (tgt := 184) hx hb dX9_pass_112 (by decide) (fun c299 => ?_) (fun c299 => ?_)
      · skip
        rw [if_pos c299] at hF
        obtain ⟨ht9, hn9, hs9, hE9⟩ := mr_o hF
        subst ht9 hn9 hs9 hE9
        have hl := lv_sub (l' := [(1, .int x21), (0, .ref Aa0)]) hl [0, 1] rfl
        exact join44 _ _ _ _ hX hr19 hP hD hS hl
      · skip
        rw [if_neg c299] at hF
        refine lv_aload_n hx hb dX9_pass_115 rfl (lv_at hl 1 rfl) ?_
        obtain ⟨x300, e301, hF⟩ := mg_o hF
        obtain ⟨hr302, fs9, h9, g9⟩ := rdR hP hC hr19 e301
        refine va_get (D := (dC, dI)) (ci := 9) (v := .ref (AD nb ad293 x300)) (C := RX9) (T := TX9) (N := 14) hx hb hts inlX9 hown hK h9 0 rfl rfl 7 (by decide) (hts _ mw_105) (fun _ h9 => h9) g9 dX9_pass_116 ?_
        clear h9 g9
        refine lv_iconst (v := 0) hx hb dX9_pass_119 (by decide) ?_
        obtain ⟨fs9, e303, hF⟩ := mg_o hF
        obtain ⟨x304, n306, s307, E308, e305, hF⟩ := mb_o hF
        have hm := mle e305
        have hM1 := mle1 hF
        have hM2 := mle2 hF
        have hm1 := hm.1
        have hm2 := hm.2.1
        have hFc := my_free hD hS hA
        refine va_callr (va_runV (C := RJx4a65c) (As := [.int 0]) (rest := []) ⟨hx, hb, hml, hown, hts⟩ (h_Jx4a65c_get_915e3 l dC dI cy nb ad293 n290 s291 E292 hC (x300) (AD nb ad293 x300) hr302 (0) H.size x304 n306 s307 E308 e305) (cwV 1 hts (gV mw_347 mw_235 mw_236 mw_12 mw_237) rfl rfl rfl (by decide +kernel) ⟨Nat.le_of_ble_eq_true rfl, Nat.le_of_ble_eq_true rfl⟩) (hl_preV hP hK hD hE hS hFc (va_recv hK (rdO_ hP hC hr302 e303) (ci := 14) (q0 := 0) rfl rfl)) rfl rfl hl.1 rfl (lv_room (Nat.le_of_ble_eq_true rfl)) dX9_pass_120 ⟨show n290 - n0 + (n306 - n290) ≤ nz - n0 by omega, show s291 - s0 + (s307 - s291) ≤ sz9 - s0 by omega⟩) hS (fun q _ h => hFc q h) hFc (fun u ra t H1 locs ht hvm hw hB hz1 hk1 hS => ?_)
        obtain ⟨ad309, hax, hr310, hP1, hD1⟩ := hB
        rw [ht] at hP1
        have hP := hP1
        have hD := hD1.weaken (fun k q _ h => hFc q.1 h)
        generalize H1 = H at hP hS ⊢
        have hr19 := hr19.mv hC.1 hax
        have hX := hX.trans hax
        have hC := hm.2.2 hC
        have hN : n0 ≤ n306 := Nat.le_trans hN hm1
        have hT : s0 ≤ s307 := Nat.le_trans hT hm2
        refine W.widen (k := n306 - n0) (n := s307 - s0) (by omega) (by omega) ?_
        clear hP1 hD1 hFc hk1 hz1 hvm ht hax hm hm1 hm2 hM1 hM2
        refine my_top (y := .ref (AD nb ad309 x304)) (congrArg Value.ref hr310.2.symm) ?_
        have hr310 := rf_self hr310
        obtain ⟨fs9, e312, hF⟩ := mg_o hF
        refine va_castS hx hb hown (hts _ mw_1266) (hK.1 10 _ rfl).2 (va_recv hK (rdO_ hP hC hr310 e312) (ci := 10) (q0 := 0) rfl rfl) dX9_pass_123 ?_
        obtain ⟨x313, e314, hF⟩ := mg_o hF
        obtain ⟨fs9, h9, g9⟩ := rdI hP hC hr310 e314
        refine va_get (D := (dC, dI)) (ci := 10) (v := .int x313) (C := RX10) (T := TX10) (N := 15) hx hb hts inlX10 hown hK h9 0 rfl rfl 14 (by decide) (hts _ mw_1316) (fun _ h9 => h9) g9 dX9_pass_126 ?_
        clear h9 g9
        refine lv_if_ne (tgt := 184) hx hb dX9_pass_129 (by decide) (fun c315 => ?_) (fun c315 => ?_)
        · skip
          rw [if_neg c315] at hF
          obtain ⟨ht9, hn9, hs9, hE9⟩ := mr_o hF
          subst ht9 hn9 hs9 hE9
          have hl := lv_sub (l' := [(1, .int x21), (0, .ref Aa0)]) hl [0, 1] rfl
          exact join44 _ _ _ _ hX hr19 hP hD hS hl
        · skip
          rw [if_pos c315] at hF
          refine lv_aload_n hx hb dX9_pass_132 rfl (lv_at hl 1 rfl) ?_
          obtain ⟨x316, e317, hF⟩ := mg_o hF
          obtain ⟨fs9, h9, g9⟩ := rdI hP hC hr19 e317
          refine va_get (D := (dC, dI)) (ci := 9) (v := .int x316) (C := RX9) (T := TX9) (N := 14) hx hb hts inlX9 hown hK h9 0 rfl rfl 5 (by decide) (hts _ mw_1264) (fun _ h9 => h9) g9 dX9_pass_133 ?_
          clear h9 g9
          refine lv_if_le (tgt := 184) hx hb dX9_pass_136 (by decide) (fun c318 => ?_) (fun c318 => ?_)
          · skip
            rw [if_pos c318] at hF
            obtain ⟨ht9, hn9, hs9, hE9⟩ := mr_o hF
            subst ht9 hn9 hs9 hE9
            have hl := lv_sub (l' := [(1, .int x21), (0, .ref Aa0)]) hl [0, 1] rfl
            exact join44 _ _ _ _ hX hr19 hP hD hS hl
          · skip
            rw [if_neg c318] at hF
            refine lv_iload_n hx hb dX9_pass_139 rfl (lv_at hl 0 rfl) ?_
            refine lv_if_lt (tgt := 184) hx hb dX9_pass_140 (by decide) (fun c319 => ?_) (fun c319 => ?_)
            · skip
              rw [if_pos c319] at hF
              obtain ⟨ht9, hn9, hs9, hE9⟩ := mr_o hF
              subst ht9 hn9 hs9 hE9
              have hl := lv_sub (l' := [(1, .int x21), (0, .ref Aa0)]) hl [0, 1] rfl
              exact join44 _ _ _ _ hX hr19 hP hD hS hl
            · skip
              rw [if_neg c319] at hF
              refine lv_aload_n hx hb dX9_pass_143 rfl (lv_at hl 1 rfl) ?_
              refine lv_dup hx hb dX9_pass_144 rfl ?_
              obtain ⟨x320, e321, hF⟩ := mg_o hF
              obtain ⟨fs9, h9, g9⟩ := rdI hP hC hr19 e321
              refine va_get (D := (dC, dI)) (ci := 9) (v := .int x320) (C := RX9) (T := TX9) (N := 14) hx hb hts inlX9 hown hK h9 0 rfl rfl 5 (by decide) (hts _ mw_1264) (fun _ h9 => h9) g9 dX9_pass_145 ?_
              clear h9 g9
              refine lv_iconst (v := 1) hx hb dX9_pass_148 (by decide) ?_
              refine lv_isub hx hb dX9_pass_149 ?_
              obtain ⟨E322, e323, hF⟩ := mw_o hF
              obtain ⟨q9, fs9, h9, ez9⟩ := wrI (cy := cy) hC hr19 e323
              refine va_put (D := (dC, dI)) (ci := 9) (v := .int (x320 - 1)) (ty := .int) (C := RX9) (T := TX9) (N := 14) hx hb hts inlX9 tyX9 tyX9_ok nmX9 hown hK hP hD hS q9 h9 rfl 5 (by decide) (hts _ mw_1264) (fun _ h9 => h9) rfl (by decide +kernel) rfl rfl (Nat.le_of_ble_eq_true rfl) dX9_pass_150 (fun H locs hP hD hS => ?_)
              rw [ez9] at hP hD
              clear ez9 h9
              have hC := sI_clo e323 hC
              refine lv_aload_n hx hb dX9_pass_153 rfl (lv_at hl 1 rfl) ?_
              obtain ⟨x324, e325, hF⟩ := mg_o hF
              obtain ⟨hr326, fs9, h9, g9⟩ := rdR hP hC hr19 e325
              refine va_get (D := (dC, dI)) (ci := 9) (v := .ref (AD nb ad309 x324)) (C := RX9) (T := TX9) (N := 14) hx hb hts inlX9 hown hK h9 0 rfl rfl 13 (by decide) (hts _ mw_111) (fun _ h9 => h9) g9 dX9_pass_154 ?_
              clear h9 g9
              refine lv_iconst (v := 0) hx hb dX9_pass_157 (by decide) ?_
              refine lv_dup2_11 hx hb dX9_pass_158 rfl rfl ?_
              obtain ⟨x327, e328, hF⟩ := mg_o hF
              obtain ⟨m9, f9, h9, i9, g9⟩ := rdA hP hC hr326 e328
              refine va_iald hx hb hK h9 0 1 rfl rfl i9 dX9_pass_159 ?_
              refine my_topi (y := x327) g9 ?_
              clear h9 i9 g9
              refine lv_iconst (v := 1) hx hb dX9_pass_160 (by decide) ?_
              refine lv_iadd hx hb dX9_pass_161 ?_
              obtain ⟨E329, e330, hF⟩ := mw_o hF
              obtain ⟨q9, m9, f9, h9, i9, ez9⟩ := wrA (cy := cy) hC hr326 e330
              refine va_iast hx hb hK hP hD hS q9 1 h9 rfl i9 dX9_pass_162 (fun H locs hP hD hS => ?_)
              clear i9
              rw [ez9] at hP hD
              clear ez9 h9
              have hC := sA_clo e330 hC
              refine lv_aload_n hx hb dX9_pass_163 rfl (lv_at hl 1 rfl) ?_
              obtain ⟨x331, e332, hF⟩ := mg_o hF
              obtain ⟨hr333, fs9, h9, g9⟩ := rdR hP hC hr19 e332
              refine va_get (D := (dC, dI)) (ci := 9) (v := .ref (AD nb ad309 x331)) (C := RX9) (T := TX9) (N := 14) hx hb hts inlX9 hown hK h9 0 rfl rfl 10 (by decide) (hts _ mw_108) (fun _ h9 => h9) g9 dX9_pass_164 ?_
              clear h9 g9
              refine lv_iload_n hx hb dX9_pass_167 rfl (lv_at hl 0 rfl) ?_
              obtain ⟨fs9, e334, hF⟩ := mg_o hF
              obtain ⟨x335, n337, s338, E339, e336, hF⟩ := mb_o hF
              have hm := mle e336
              have hM1 := mle1 hF
              have hM2 := mle2 hF
              have hm1 := hm.1
              have hm2 := hm.2.1
              have hFc := my_free hD hS hA
              refine va_callr (va_runV (C := RJx4a65c) (As := [.int x21]) (rest := []) ⟨hx, hb, hml, hown, hts⟩ (h_Jx4a65c_get_915e3 l dC dI cy nb ad309 n306 s307 E329 hC (x331) (AD nb ad309 x331) hr333 (x21) H.size x335 n337 s338 E339 e336) (cwV 1 hts (gV mw_347 mw_235 mw_236 mw_12 mw_237) rfl rfl rfl (by decide +kernel) ⟨Nat.le_of_ble_eq_true rfl, Nat.le_of_ble_eq_true rfl⟩) (hl_preV hP hK hD hE hS hFc (va_recv hK (rdO_ hP hC hr333 e334) (ci := 14) (q0 := 0) rfl rfl)) rfl rfl hl.1 rfl (lv_room (Nat.le_of_ble_eq_true rfl)) dX9_pass_168 ⟨show n306 - n0 + (n337 - n306) ≤ nz - n0 by omega, show s307 - s0 + (s338 - s307) ≤ sz9 - s0 by omega⟩) hS (fun q _ h => hFc q h) hFc (fun u ra t H1 locs ht hvm hw hB hz1 hk1 hS => ?_)
              obtain ⟨ad340, hax, hr341, hP1, hD1⟩ := hB
              rw [ht] at hP1
              have hP := hP1
              have hD := hD1.weaken (fun k q _ h => hFc q.1 h)
              generalize H1 = H at hP hS ⊢
              have hr19 := hr19.mv hC.1 hax
              have hX := hX.trans hax
              have hC := hm.2.2 hC
              have hN : n0 ≤ n337 := Nat.le_trans hN hm1
              have hT : s0 ≤ s338 := Nat.le_trans hT hm2
              refine W.widen (k := n337 - n0) (n := s338 - s0) (by omega) (by omega) ?_
              clear hP1 hD1 hFc hk1 hz1 hvm ht hax hm hm1 hm2 hM1 hM2
              refine my_top (y := .ref (AD nb ad340 x335)) (congrArg Value.ref hr341.2.symm) ?_
              have hr341 := rf_self hr341
              obtain ⟨fs9, e343, hF⟩ := mg_o hF
              refine va_castS hx hb hown (hts _ mw_174) (hK.1 8 _ rfl).2 (va_recv hK (rdO_ hP hC hr341 e343) (ci := 8) (q0 := 0) rfl rfl) dX9_pass_171 ?_
              refine lv_iconst (v := 0) hx hb dX9_pass_174 (by decide) ?_
              obtain ⟨E344, e345, hF⟩ := mw_o hF
              obtain ⟨q9, fs9, h9, ez9⟩ := wrI (cy := cy) hC hr341 e345
              refine va_put (D := (dC, dI)) (ci := 8) (v := .int 0) (ty := .boolean) (C := RX8) (T := TX8) (N := 9) hx hb hts inlX8 tyX8 tyX8_ok nmX8 hown hK hP hD hS q9 h9 rfl 8 (by decide) (hts _ mw_341) (fun _ h9 => h9) rfl (by decide +kernel) rfl rfl (Nat.le_of_ble_eq_true rfl) dX9_pass_175 (fun H locs hP hD hS => ?_)
              rw [ez9] at hP hD
              clear ez9 h9
              have hC := sI_clo e345 hC
              refine lv_aload_n hx hb dX9_pass_178 rfl (lv_at hl 1 rfl) ?_
              refine lv_iconst (v := 0) hx hb dX9_pass_179 (by decide) ?_
              refine lv_iload_n hx hb dX9_pass_180 rfl (lv_at hl 0 rfl) ?_
              obtain ⟨fs9, e346, hF⟩ := mg_o hF
              obtain ⟨⟨⟩, n348, s349, E350, e347, hF⟩ := mb_o hF
              have hm := mle e347
              have hM1 := mle1 hF
              have hM2 := mle2 hF
              have hm1 := hm.1
              have hm2 := hm.2.1
              have hFc := my_free hD hS hA
              refine va_callv (va_runV (C := RX9) (As := [.int 0, .int x21]) (rest := []) ⟨hx, hb, hml, hown, hts⟩ (h_X9_enter l dC dI cy nb ad340 n337 s338 E344 hC (a0) Aa0 hr19 (0) (x21) H.size n348 s349 E350 e347) (cwV 2 hts (gV mw_1336 mw_1337 mw_1338 mw_5 mw_1339) rfl rfl rfl (by decide +kernel) ⟨Nat.le_of_ble_eq_true rfl, Nat.le_of_ble_eq_true rfl⟩) (hl_preV hP hK hD hE hS hFc (va_recv hK (rdO_ hP hC hr19 e346) (ci := 9) (q0 := 0) rfl rfl)) rfl rfl hl.1 rfl (lv_room (Nat.le_of_ble_eq_true rfl)) dX9_pass_181 ⟨show n337 - n0 + (n348 - n337) ≤ nz - n0 by omega, show s338 - s0 + (s349 - s338) ≤ sz9 - s0 by omega⟩) hS (fun q _ h => hFc q h) hFc (fun u t H1 locs ht hvm hw hB hz1 hk1 hS => ?_)
              obtain ⟨ad351, hax, hP1, hD1⟩ := hB
              rw [ht] at hP1
              have hP := hP1
              have hD := hD1.weaken (fun k q _ h => hFc q.1 h)
              generalize H1 = H at hP hS ⊢
              have hr19 := hr19.mv hC.1 hax
              have hX := hX.trans hax
              have hC := hm.2.2 hC
              have hN : n0 ≤ n348 := Nat.le_trans hN hm1
              have hT : s0 ≤ s349 := Nat.le_trans hT hm2
              refine W.widen (k := n348 - n0) (n := s349 - s0) (by omega) (by omega) ?_
              clear hP1 hD1 hFc hk1 hz1 hvm ht hax hm hm1 hm2 hM1 hM2
              obtain ⟨ht9, hn9, hs9, hE9⟩ := mr_o hF
              subst ht9 hn9 hs9 hE9
              have hl := lv_sub (l' := [(1, .int x21), (0, .ref Aa0)]) hl [0, 1] rfl
              exact join44 _ _ _ _ hX hr19 hP hD hS hl
  have hK352 := mle1 hF
  have hK353 := mle2 hF
  clear hF hm
  have loop354 : ∀ (m355 : Nat) (y360 : Int32) (n357 s358 : Nat) (E359 : HE), (H_X9_pass_L10 a0 m355 y360).1 (n357, s358, E359) = some (t11, n13, s14, E15) → clo n357 E359 → n0 ≤ n357 → s0 ≤ s358 → ∀ (ad356 : Nat → Nat) (H : Heap) (locs : List Loc) (ls : Array Slot), axh n0 ad0 n357 ad356 → rf nb ad356 n357 (a0) (Aa0) → va_P (dC, dI) vwCl (CH cy nb ad356 n357 E359) H → va_D A (CH cy nb ad356 n357 E359) → va_S A s.heap H locs → lv_has ls 4 [(1, .int y360), (0, .ref Aa0)] → W p l e (headSpec (wsg yX9_pass cX9_pass 4 none) ({ frames := 16, cells := nz - n0, slots := sz9 - s0, locals := 1100 })).room s m ([.ref Aa0] : List Value).toArray below meth c H locs (n357 - n0) (s358 - s0) Qn (F0 m 10 ls []) := by
    intro m355
    induction m355 with
    | zero => intro y360 n357 s358 E359 hF; exact (m0_o hF).elim
    | succ m355 ih =>
      intro y360 n357 s358 E359 hF hC hN hT ad356 H locs ls hX hr361 hP hD hS hl
      simp only [H_X9_pass_L10] at hF
      refine lv_iload_n hx hb dX9_pass_10 rfl (lv_at hl 0 rfl) ?_
      refine lv_if_lt (tgt := 83) hx hb dX9_pass_11 (by decide) (fun c362 => ?_) (fun c362 => ?_)
      · skip
        rw [if_pos c362] at hF
        obtain ⟨ht9, hn9, hs9, hE9⟩ := mr_o hF
        subst hn9 hs9 hE9
        subst ht9
        have hl := lv_sub (l' := [(1, .int y360), (0, .ref Aa0)]) hl [0, 1] rfl
        exact kx17 _ _ _ _ hX hr361 hP hD hS hl
      · skip
        rw [if_neg c362] at hF
        refine lv_aload_n hx hb dX9_pass_14 rfl (lv_at hl 1 rfl) ?_
        obtain ⟨x363, e364, hF⟩ := mg_o hF
        obtain ⟨hr365, fs9, h9, g9⟩ := rdR hP hC hr361 e364
        refine va_get (D := (dC, dI)) (ci := 9) (v := .ref (AD nb ad356 x363)) (C := RX9) (T := TX9) (N := 14) hx hb hts inlX9 hown hK h9 0 rfl rfl 7 (by decide) (hts _ mw_105) (fun _ h9 => h9) g9 dX9_pass_15 ?_
        clear h9 g9
        refine lv_iload_n hx hb dX9_pass_18 rfl (lv_at hl 0 rfl) ?_
        obtain ⟨fs9, e366, hF⟩ := mg_o hF
        obtain ⟨x367, n369, s370, E371, e368, hF⟩ := mb_o hF
        have hm := mle e368
        have hM1 := mle1 hF
        have hM2 := mle2 hF
        have hm1 := hm.1
        have hm2 := hm.2.1
        have hFc := my_free hD hS hA
        refine va_callr (va_runV (C := RJx4a65c) (As := [.int y360]) (rest := []) ⟨hx, hb, hml, hown, hts⟩ (h_Jx4a65c_get_915e3 l dC dI cy nb ad356 n357 s358 E359 hC (x363) (AD nb ad356 x363) hr365 (y360) H.size x367 n369 s370 E371 e368) (cwV 1 hts (gV mw_347 mw_235 mw_236 mw_12 mw_237) rfl rfl rfl (by decide +kernel) ⟨Nat.le_of_ble_eq_true rfl, Nat.le_of_ble_eq_true rfl⟩) (hl_preV hP hK hD hE hS hFc (va_recv hK (rdO_ hP hC hr365 e366) (ci := 14) (q0 := 0) rfl rfl)) rfl rfl hl.1 rfl (lv_room (Nat.le_of_ble_eq_true rfl)) dX9_pass_19 ⟨show n357 - n0 + (n369 - n357) ≤ nz - n0 by omega, show s358 - s0 + (s370 - s358) ≤ sz9 - s0 by omega⟩) hS (fun q _ h => hFc q h) hFc (fun u ra t H1 locs ht hvm hw hB hz1 hk1 hS => ?_)
        obtain ⟨ad372, hax, hr373, hP1, hD1⟩ := hB
        rw [ht] at hP1
        have hP := hP1
        have hD := hD1.weaken (fun k q _ h => hFc q.1 h)
        generalize H1 = H at hP hS ⊢
        have hr361 := hr361.mv hC.1 hax
        have hX := hX.trans hax
        have hC := hm.2.2 hC
        have hN : n0 ≤ n369 := Nat.le_trans hN hm1
        have hT : s0 ≤ s370 := Nat.le_trans hT hm2
        refine W.widen (k := n369 - n0) (n := s370 - s0) (by omega) (by omega) ?_
        clear hP1 hD1 hFc hk1 hz1 hvm ht hax hm hm1 hm2 hM1 hM2
        refine my_top (y := .ref (AD nb ad372 x367)) (congrArg Value.ref hr373.2.symm) ?_
        have hr373 := rf_self hr373
        obtain ⟨fs9, e375, hF⟩ := mg_o hF
        refine va_castS hx hb hown (hts _ mw_1266) (hK.1 10 _ rfl).2 (va_recv hK (rdO_ hP hC hr373 e375) (ci := 10) (q0 := 0) rfl rfl) dX9_pass_22 ?_
        refine lv_astore_n (lv' := [(2, .ref (AD nb ad372 x367)), (1, .int y360), (0, .ref Aa0)]) hx hb dX9_pass_25 rfl hl (by decide) rfl (fun ls hl => ?_)
        refine lv_aload_n hx hb dX9_pass_26 rfl (lv_at hl 0 rfl) ?_
        obtain ⟨x376, e377, hF⟩ := mg_o hF
        obtain ⟨fs9, h9, g9⟩ := rdI hP hC hr373 e377
        refine va_get (D := (dC, dI)) (ci := 10) (v := .int x376) (C := RX10) (T := TX10) (N := 15) hx hb hts inlX10 hown hK h9 0 rfl rfl 11 (by decide) (hts _ mw_1313) (fun _ h9 => h9) g9 dX9_pass_27 ?_
        clear h9 g9
        obtain ⟨t379, n382, s383, E384, hJ380, hF⟩ := mb_o hF
        have hm := mle hJ380
        have join385 : ∀ (ad381 : Nat → Nat) (H : Heap) (locs : List Loc) (ls : Array Slot), axh n0 ad0 n382 ad381 → rf nb ad381 n382 (x367) ((AD nb ad372 x367)) → rf nb ad381 n382 (a0) (Aa0) → va_P (dC, dI) vwCl (CH cy nb ad381 n382 E384) H → va_D A (CH cy nb ad381 n382 E384) → va_S A s.heap H locs → lv_has ls 4 [(2, .ref (AD nb ad372 x367)), (1, .int y360), (0, .ref Aa0)] → W p l e (headSpec (wsg yX9_pass cX9_pass 4 none) ({ frames := 16, cells := nz - n0, slots := sz9 - s0, locals := 1100 })).room s m ([.ref Aa0] : List Value).toArray below meth c H locs (n382 - n0) (s383 - s0) Qn (F0 m 72 ls []) := by
          intro ad381 H locs ls hX hr386 hr387 hP hD hS hl
          have hC := hm.2.2 hC
          have hN : n0 ≤ n382 := Nat.le_trans hN hm.1
          have hT : s0 ≤ s383 := Nat.le_trans hT hm.2.1
          clear hm
          refine lv_aload_n hx hb dX9_pass_72 rfl (lv_at hl 2 rfl) ?_
          refine lv_iload_n hx hb dX9_pass_73 rfl (lv_at hl 1 rfl) ?_
          obtain ⟨fs9, e388, hF⟩ := mg_o hF
          obtain ⟨⟨⟩, n390, s391, E392, e389, hF⟩ := mb_o hF
          have hm := mle e389
          have hM1 := mle1 hF
          have hM2 := mle2 hF
          have hm1 := hm.1
          have hm2 := hm.2.1
          have hFc := my_free hD hS hA
          refine va_callv (va_runV (C := RX9) (As := [.int y360]) (rest := []) ⟨hx, hb, hml, hown, hts⟩ (h_X9_goOn l dC dI cy nb ad381 n382 s383 E384 hC (a0) Aa0 hr387 (y360) H.size n390 s391 E392 e389) (cwV 1 hts (gV mw_1331 mw_1332 mw_1333 mw_5 mw_1334) rfl rfl rfl (by decide +kernel) ⟨Nat.le_of_ble_eq_true rfl, Nat.le_of_ble_eq_true rfl⟩) (hl_preV hP hK hD hE hS hFc (va_recv hK (rdO_ hP hC hr387 e388) (ci := 9) (q0 := 0) rfl rfl)) rfl rfl hl.1 rfl (lv_room (Nat.le_of_ble_eq_true rfl)) dX9_pass_74 ⟨show n382 - n0 + (n390 - n382) ≤ nz - n0 by omega, show s383 - s0 + (s391 - s383) ≤ sz9 - s0 by omega⟩) hS (fun q _ h => hFc q h) hFc (fun u t H1 locs ht hvm hw hB hz1 hk1 hS => ?_)
          obtain ⟨ad393, hax, hP1, hD1⟩ := hB
          rw [ht] at hP1
          have hP := hP1
          have hD := hD1.weaken (fun k q _ h => hFc q.1 h)
          generalize H1 = H at hP hS ⊢
          have hr386 := hr386.mv hC.1 hax
          have hr387 := hr387.mv hC.1 hax
          have hX := hX.trans hax
          have hC := hm.2.2 hC
          have hN : n0 ≤ n390 := Nat.le_trans hN hm1
          have hT : s0 ≤ s391 := Nat.le_trans hT hm2
          refine W.widen (k := n390 - n0) (n := s391 - s0) (by omega) (by omega) ?_
          clear hP1 hD1 hFc hk1 hz1 hvm ht hax hm hm1 hm2 hM1 hM2
          refine lv_iinc (v := (y360 + (-1))) (lv' := [(1, .int (y360 + (-1))), (2, .ref (AD nb ad372 x367)), (0, .ref Aa0)]) hx hb dX9_pass_77 hl (k := 1) rfl (by rfl) (by decide) rfl (fun ls hl => ?_)
          refine lv_goto (tgt := 10) hx hb dX9_pass_80 (by decide) ?_
          have hl := lv_sub (l' := [(1, .int (y360 + (-1))), (0, .ref Aa0)]) hl [0, 2] rfl
          exact ih _ _ _ _ hF hC hN hT _ _ _ _ hX hr387 hP hD hS hl
        have hK394 := mle1 hF
        have hK395 := mle2 hF
        clear hF hm
        have hF := hJ380
        clear hJ380
        refine lv_if_le (tgt := 46) hx hb dX9_pass_30 (by decide) (fun c378 => ?_) (fun c378 => ?_)
        · skip
          rw [if_pos c378] at hF
          refine lv_aload_n hx hb dX9_pass_46 rfl (lv_at hl 0 rfl) ?_
          obtain ⟨x396, e397, hF⟩ := mg_o hF
          obtain ⟨fs9, h9, g9⟩ := rdI hP hC hr373 e397
          refine va_get (D := (dC, dI)) (ci := 10) (v := .int x396) (C := RX10) (T := TX10) (N := 15) hx hb hts inlX10 hown hK h9 0 rfl rfl 3 (by decide) (hts _ mw_1314) (fun _ h9 => h9) g9 dX9_pass_47 ?_
          clear h9 g9
          refine lv_if_lt (tgt := 72) hx hb dX9_pass_50 (by decide) (fun c398 => ?_) (fun c398 => ?_)
          · skip
            rw [if_pos c398] at hF
            obtain ⟨ht9, hn9, hs9, hE9⟩ := mr_o hF
            subst ht9 hn9 hs9 hE9
            have hl := lv_sub (l' := [(2, .ref (AD nb ad372 x367)), (1, .int y360), (0, .ref Aa0)]) hl [0, 1, 2] rfl
            exact join385 _ _ _ _ hX hr373 hr361 hP hD hS hl
          · skip
            rw [if_neg c398] at hF
            refine lv_aload_n hx hb dX9_pass_53 rfl (lv_at hl 0 rfl) ?_
            obtain ⟨x399, e400, hF⟩ := mg_o hF
            obtain ⟨fs9, h9, g9⟩ := rdI hP hC hr373 e400
            refine va_get (D := (dC, dI)) (ci := 10) (v := .int x399) (C := RX10) (T := TX10) (N := 15) hx hb hts inlX10 hown hK h9 0 rfl rfl 4 (by decide) (hts _ mw_1315) (fun _ h9 => h9) g9 dX9_pass_54 ?_
            clear h9 g9
            refine lv_if_le (tgt := 72) hx hb dX9_pass_57 (by decide) (fun c401 => ?_) (fun c401 => ?_)
            · skip
              rw [if_pos c401] at hF
              obtain ⟨ht9, hn9, hs9, hE9⟩ := mr_o hF
              subst ht9 hn9 hs9 hE9
              have hl := lv_sub (l' := [(2, .ref (AD nb ad372 x367)), (1, .int y360), (0, .ref Aa0)]) hl [0, 1, 2] rfl
              exact join385 _ _ _ _ hX hr373 hr361 hP hD hS hl
            · skip
              rw [if_neg c401] at hF
              refine lv_aload_n hx hb dX9_pass_60 rfl (lv_at hl 0 rfl) ?_
              obtain ⟨x402, e403, hF⟩ := mg_o hF
              obtain ⟨fs9, h9, g9⟩ := rdI hP hC hr373 e403
              refine va_get (D := (dC, dI)) (ci := 10) (v := .int x402) (C := RX10) (T := TX10) (N := 15) hx hb hts inlX10 hown hK h9 0 rfl rfl 14 (by decide) (hts _ mw_1316) (fun _ h9 => h9) g9 dX9_pass_61 ?_
              clear h9 g9
              refine lv_if_ne (tgt := 72) hx hb dX9_pass_64 (by decide) (fun c404 => ?_) (fun c404 => ?_)
              · skip
                rw [if_neg c404] at hF
                obtain ⟨ht9, hn9, hs9, hE9⟩ := mr_o hF
                subst ht9 hn9 hs9 hE9
                have hl := lv_sub (l' := [(2, .ref (AD nb ad372 x367)), (1, .int y360), (0, .ref Aa0)]) hl [0, 1, 2] rfl
                exact join385 _ _ _ _ hX hr373 hr361 hP hD hS hl
              · skip
                rw [if_pos c404] at hF
                refine lv_aload_n hx hb dX9_pass_67 rfl (lv_at hl 2 rfl) ?_
                refine lv_aload_n hx hb dX9_pass_68 rfl (lv_at hl 0 rfl) ?_
                obtain ⟨fs9, e405, hF⟩ := mg_o hF
                obtain ⟨⟨⟩, n407, s408, E409, e406, hF⟩ := mb_o hF
                have hm := mle e406
                have hM1 := mle1 hF
                have hM2 := mle2 hF
                have hm1 := hm.1
                have hm2 := hm.2.1
                have hFc := my_free hD hS hA
                refine va_callv (va_runV (C := RX9) (As := [.ref (AD nb ad372 x367)]) (rest := []) ⟨hx, hb, hml, hown, hts⟩ (h_X9_work l dC dI cy nb ad372 n369 s370 E371 hC (a0) Aa0 hr361 (x367) (AD nb ad372 x367) hr373 H.size n407 s408 E409 e406) (cwV 1 hts (gV mw_1317 mw_1318 mw_1319 mw_5 mw_1320) rfl rfl rfl (by decide +kernel) ⟨Nat.le_of_ble_eq_true rfl, Nat.le_of_ble_eq_true rfl⟩) (hl_preV hP hK hD hE hS hFc (va_recv hK (rdO_ hP hC hr361 e405) (ci := 9) (q0 := 0) rfl rfl)) rfl rfl hl.1 rfl (lv_room (Nat.le_of_ble_eq_true rfl)) dX9_pass_69 ⟨show n369 - n0 + (n407 - n369) ≤ nz - n0 by omega, show s370 - s0 + (s408 - s370) ≤ sz9 - s0 by omega⟩) hS (fun q _ h => hFc q h) hFc (fun u t H1 locs ht hvm hw hB hz1 hk1 hS => ?_)
                obtain ⟨ad410, hax, hP1, hD1⟩ := hB
                rw [ht] at hP1
                have hP := hP1
                have hD := hD1.weaken (fun k q _ h => hFc q.1 h)
                generalize H1 = H at hP hS ⊢
                have hr373 := hr373.mv hC.1 hax
                have hr361 := hr361.mv hC.1 hax
                have hX := hX.trans hax
                have hC := hm.2.2 hC
                have hN : n0 ≤ n407 := Nat.le_trans hN hm1
                have hT : s0 ≤ s408 := Nat.le_trans hT hm2
                refine W.widen (k := n407 - n0) (n := s408 - s0) (by omega) (by omega) ?_
                clear hP1 hD1 hFc hk1 hz1 hvm ht hax hm hm1 hm2 hM1 hM2
                obtain ⟨ht9, hn9, hs9, hE9⟩ := mr_o hF
                subst ht9 hn9 hs9 hE9
                have hl := lv_sub (l' := [(2, .ref (AD nb ad372 x367)), (1, .int y360), (0, .ref Aa0)]) hl [0, 1, 2] rfl
                exact join385 _ _ _ _ hX hr373 hr361 hP hD hS hl
        · skip
          rw [if_neg c378] at hF
          refine lv_aload_n hx hb dX9_pass_33 rfl (lv_at hl 0 rfl) ?_
          refine lv_dup hx hb dX9_pass_34 rfl ?_
          obtain ⟨x411, e412, hF⟩ := mg_o hF
          obtain ⟨fs9, h9, g9⟩ := rdI hP hC hr373 e412
          refine va_get (D := (dC, dI)) (ci := 10) (v := .int x411) (C := RX10) (T := TX10) (N := 15) hx hb hts inlX10 hown hK h9 0 rfl rfl 11 (by decide) (hts _ mw_1313) (fun _ h9 => h9) g9 dX9_pass_35 ?_
          clear h9 g9
          refine lv_iconst (v := 1) hx hb dX9_pass_38 (by decide) ?_
          refine lv_isub hx hb dX9_pass_39 ?_
          obtain ⟨E413, e414, hF⟩ := mw_o hF
          obtain ⟨q9, fs9, h9, ez9⟩ := wrI (cy := cy) hC hr373 e414
          refine va_put (D := (dC, dI)) (ci := 10) (v := .int (x411 - 1)) (ty := .int) (C := RX10) (T := TX10) (N := 15) hx hb hts inlX10 tyX10 tyX10_ok nmX10 hown hK hP hD hS q9 h9 rfl 11 (by decide) (hts _ mw_1313) (fun _ h9 => h9) rfl (by decide +kernel) rfl rfl (Nat.le_of_ble_eq_true rfl) dX9_pass_40 (fun H locs hP hD hS => ?_)
          rw [ez9] at hP hD
          clear ez9 h9
          have hC := sI_clo e414 hC
          refine lv_goto (tgt := 72) hx hb dX9_pass_43 (by decide) ?_
          obtain ⟨ht9, hn9, hs9, hE9⟩ := mr_o hF
          subst ht9 hn9 hs9 hE9
          have hl := lv_sub (l' := [(2, .ref (AD nb ad372 x367)), (1, .int y360), (0, .ref Aa0)]) hl [0, 1, 2] rfl
          exact join385 _ _ _ _ hX hr373 hr361 hP hD hS hl
  have hl := lv_sub (l' := [(1, .int (x5 - 1)), (0, .ref Aa0)]) hl [0, 1] rfl
  exact loop354 FUEL _ _ _ _ hL12 hC hN hT _ _ _ _ hX ha0 hP hD hS hl
