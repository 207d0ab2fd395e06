noncomputable def H_X9_init (a0 : Nat) : MH Unit := mb (wI (a0) 9 0 (480)) fun _ => mb (wI (a0) 9 1 (1)) fun _ => mb (wI (a0) 9 2 (1)) fun _ => mb (mn 3 (.inr (14, [.int 0, .null, .int 0])) nok_Jx4a65c) fun x10 => mb (H_Jx4a65c_init_da8c8 (x10)) fun _ => mb (wR (a0) 9 7 (x10)) fun _ => mb (mn 3 (.inr (14, [.int 0, .null, .int 0])) nok_Jx4a65c) fun x24 => mb (H_Jx4a65c_init_da8c8 (x24)) fun _ => mb (wR (a0) 9 8 (x24)) fun _ => mb (mn 3 (.inr (14, [.int 0, .null, .int 0])) nok_Jx4a65c) fun x38 => mb (H_Jx4a65c_init_da8c8 (x38)) fun _ => mb (wR (a0) 9 9 (x38)) fun _ => mb (mn 3 (.inr (14, [.int 0, .null, .int 0])) nok_Jx4a65c) fun x52 => mb (H_Jx4a65c_init_da8c8 (x52)) fun _ => mb (wR (a0) 9 10 (x52)) fun _ => mb (mn 3 (.inr (14, [.int 0, .null, .int 0])) nok_Jx4a65c) fun x66 => mb (H_Jx4a65c_init_da8c8 (x66)) fun _ => mb (wR (a0) 9 11 (x66)) fun _ => mb (mp (ln 12)) fun k77 => mb (nA 1 k77) fun x82 => mb (wR (a0) 9 12 (x82)) fun _ => mb (mp (ln 5)) fun k88 => mb (nA 1 k88) fun x93 => mb (wR (a0) 9 13 (x93)) fun _ => mr ()
set_option maxHeartbeats 4000000 in
set_option maxRecDepth 100000 in
theorem h_X9_init (l : Launch) (dC : Nat → ClassId) (dI : Nat → Nat → Nat) (cy : Nat → ClassId) (nb : Nat → Nat) (ad0 : Nat → Nat) (n0 s0 : Nat) (E0 : HE) (hC : clo n0 E0) (a0 Aa0 : Nat) (ha0 : rf nb ad0 n0 a0 Aa0) (sz : Nat) (nz sz9 : Nat) (Ez : HE) (hF : (H_X9_init a0).1 (n0, s0, E0) = some ((), nz, sz9, Ez)) : Met l yX9_init (wsg yX9_init cX9_init 1 none) ({ frames := 11, cells := nz - n0, slots := sz9 - s0, locals := 600 }) (va_Pc [.ref Aa0] (fun U => U.heap.size = sz ∧ va_P (dC, dI) vwCl (CH cy nb ad0 n0 E0) U.heap ∧ va_K (dC, dI) vwCl (tyL cy) U ∧ va_D (fun _ => True) (CH cy nb ad0 n0 E0) ∧ GL nb (va_A (CH cy nb ad0 n0 E0) sz) U)) (va_Qv (fun (_ : Unit) => True) (fun _ t => ∃ ad2 : Nat → Nat, axh n0 ad0 nz ad2 ∧ va_P (dC, dI) vwCl (CH cy nb ad2 nz Ez) t.heap ∧ va_D (va_A (CH cy nb ad0 n0 E0) sz) (CH cy nb ad2 nz Ez)) (va_A (CH cy nb ad0 n0 E0) sz)) (nz - n0) (sz9 - s0) (va_A (CH cy nb ad0 n0 E0) sz) := by
  refine Met.ofW (cc := cX9_init) (maxL := 1) (ret := none) (by decide) rfl ?_
  intro p e s m args below meth c s₁ B hml hv
  obtain ⟨rfl, hsz, hP, hK, hD0, hE⟩ := hv
  have hx := B.exec
  have hb := B.bytes
  have hr := B.returns
  have hts0 := atoms_spec (ws := (wsg yX9_init cX9_init 1 none)) B.pre
  have hts : ∀ w ∈ wsL_law, w.before _ s = true := fun w h => hts0 w (List.mem_cons_of_mem _ h)
  have hown : s.vm.findClass RX9 = some m.cls := by have h9 := findClass_of_methodNamed B.named; exact h9
  have hnm : meth.name = "<init>" := by have h9 := B.name; exact h9
  subst hsz
  have hD := hD0.self (sz := s.heap.size)
  generalize hAe : va_A (CH cy nb ad0 n0 E0) s.heap.size = A at hD hE ⊢
  have hA : ∀ q : Nat, s.heap.size ≤ q → A q := fun q h => by rw [← hAe]; exact Or.inr h
  have hS : va_S A s.heap s.heap [] := va_S.rf
  have hl := lv_entry ([.ref Aa0]) (n := 1) (Nat.le_of_ble_eq_true rfl)
  rw [lg_entry_eq]
  generalize (lg_sl ([.ref Aa0]) ++ List.replicate (1 - (lg_sl ([.ref Aa0])).length) Slot.unset).toArray = ls at hl ⊢
  have hl : lv_has ls 1 [(0, .ref Aa0)] := hl
  generalize hHe : s.heap = H at hP hS ⊢
  have hS : va_S A s.heap H [] := by rw [hHe]; exact hS
  refine my_Q (fun Qn hQ => ?_)
  simp only [H_X9_init] at hF
  have hX : axh n0 ad0 n0 ad0 := axh_refl
  have hN : n0 ≤ n0 := Nat.le_refl _
  have hT : s0 ≤ s0 := Nat.le_refl _
  refine W.widen (k := n0 - n0) (n := s0 - s0) (by omega) (by omega) ?_
  refine lv_aload_n hx hb dX9_init_0 rfl (lv_at hl 0 rfl) ?_
  refine W.objInit hx hb hown (hts _ mw_100) (hts _ mw_18) (hts _ mw_19) rfl (by rw [hml]; exact hl.1) rfl dX9_init_1 (Nat.le_of_ble_eq_true rfl) (Nat.le_of_ble_eq_true rfl) ?_
  refine W.eq (g2 := F0 m 4 ls []) rfl ?_
  refine lv_aload_n hx hb dX9_init_4 rfl (lv_at hl 0 rfl) ?_
  refine lv_sipush (v := 480) hx hb dX9_init_5 (by decide) ?_
  obtain ⟨E1, e2, hF⟩ := mw_o hF
  obtain ⟨q9, fs9, h9, ez9⟩ := wrI (cy := cy) hC ha0 e2
  refine va_put (D := (dC, dI)) (ci := 9) (v := .int 480) (ty := .int) (C := RX9) (T := TX9) (N := 14) hx hb hts inlX9 tyX9 tyX9_ok nmX9 hown hK hP hD hS q9 h9 rfl 0 (by decide) (hts _ mw_101) (fun _ h9 => h9) rfl (by decide +kernel) rfl rfl (Nat.le_of_ble_eq_true rfl) dX9_init_8 (fun H locs hP hD hS => ?_)
  rw [ez9] at hP hD
  clear ez9 h9
  have hC := sI_clo e2 hC
  refine lv_aload_n hx hb dX9_init_11 rfl (lv_at hl 0 rfl) ?_
  refine lv_iconst (v := 1) hx hb dX9_init_12 (by decide) ?_
  obtain ⟨E3, e4, hF⟩ := mw_o hF
  obtain ⟨q9, fs9, h9, ez9⟩ := wrI (cy := cy) hC ha0 e4
  refine va_put (D := (dC, dI)) (ci := 9) (v := .int 1) (ty := .int) (C := RX9) (T := TX9) (N := 14) hx hb hts inlX9 tyX9 tyX9_ok nmX9 hown hK hP hD hS q9 h9 rfl 1 (by decide) (hts _ mw_102) (fun _ h9 => h9) rfl (by decide +kernel) rfl rfl (Nat.le_of_ble_eq_true rfl) dX9_init_13 (fun H locs hP hD hS => ?_)
  rw [ez9] at hP hD
  clear ez9 h9
  have hC := sI_clo e4 hC
  refine lv_aload_n hx hb dX9_init_16 rfl (lv_at hl 0 rfl) ?_
  refine lv_iconst (v := 1) hx hb dX9_init_17 (by decide) ?_
  obtain ⟨E5, e6, hF⟩ := mw_o hF
  obtain ⟨q9, fs9, h9, ez9⟩ := wrI (cy := cy) hC ha0 e6
  refine va_put (D := (dC, dI)) (ci := 9) (v := .int 1) (ty := .int) (C := RX9) (T := TX9) (N := 14) hx hb hts inlX9 tyX9 tyX9_ok nmX9 hown hK hP hD hS q9 h9 rfl 2 (by decide) (hts _ mw_103) (fun _ h9 => h9) rfl (by decide +kernel) rfl rfl (Nat.le_of_ble_eq_true rfl) dX9_init_18 (fun H locs hP hD hS => ?_)
  rw [ez9] at hP hD
  clear ez9 h9
  have hC := sI_clo e6 hC
  refine lv_aload_n hx hb dX9_init_21 rfl (lv_at hl 0 rfl) ?_
  obtain ⟨x10, n7, s8, E9, hq, hF⟩ := mn_o hF
  have hM1 := mle1 hF
  have hM2 := mle2 hF
  have hq9 := hq.2.1
  have hq8 := hq.2.2.1
  refine va_new (ci := 14) (fs := [.int 0, .null, .int 0]) (C := RJx4a65c) (T := TJx4a65c) (N := 3) hx hb hts inlJx4a65c tyJx4a65c tyJx4a65c_ok hown (hts _ mw_104) (hts _ mw_11) (hts _ mw_12) hK hP hD hS hA rfl (fun j hj => by match j, hj with | 0, _ => rfl | 1, _ => rfl | 2, _ => rfl | (n+3), h => omega) (show n0 - n0 + 1 ≤ nz - n0 by omega) (show s0 - s0 + 3 ≤ sz9 - s0 by omega) dX9_init_22 (fun q11 H hP hD hS => ?_)
  obtain ⟨ad12, hax, hr13, hC9, hw9⟩ := new_w (cy := cy) (nb := nb) (ad := ad0) (e := .inr (14, [.int 0, .null, .int 0])) nok_Jx4a65c (fun _ => rfl) hC q11 hq
  rw [hw9] at hP hD
  have ha0 := ha0.mv hC.1 hax
  have hX := hX.trans hax
  have hC := hC9
  obtain ⟨-, hq1, hq2, -, -⟩ := hq
  have hN : n0 ≤ n7 := by omega
  have hT : s0 ≤ s8 := by omega
  refine W.widen (k := n7 - n0) (n := s8 - s0) (by omega) (by omega) ?_
  clear hM1 hM2 hax hC9 hw9 hq1 hq2 hq8 hq9
  refine lv_dup hx hb dX9_init_25 rfl ?_
  obtain ⟨⟨⟩, n15, s16, E17, e14, hF⟩ := mb_o hF
  have hm := mle e14
  have hM1 := mle1 hF
  have hM2 := mle2 hF
  have hm1 := hm.1
  have hm2 := hm.2.1
  have hFc := my_free hD hS hA
  refine va_callv (va_runI (As := []) (rest := [.ref q11, .ref Aa0]) ⟨hx, hb, hml, hown, hts⟩ (h_Jx4a65c_init_da8c8 l dC dI cy nb ad12 n7 s8 E9 hC (x10) q11 hr13 H.size n15 s16 E17 e14) (cwI 0 hts (gI mw_114) rfl rfl rfl (hts _ mw_12) (hts _ mw_112) (hts _ mw_113) rfl (by decide +kernel) ⟨Nat.le_of_ble_eq_true rfl, Nat.le_of_ble_eq_true rfl⟩) (hl_preS hP hK hD hE hS hFc) rfl rfl hl.1 rfl (lv_room (Nat.le_of_ble_eq_true rfl)) dX9_init_26 ⟨show n7 - n0 + (n15 - n7) ≤ nz - n0 by omega, show s8 - s0 + (s16 - s8) ≤ sz9 - s0 by omega⟩) hS (fun q _ h => hFc q h) hFc (fun u t H1 locs ht hvm hw hB hz1 hk1 hS => ?_)
  obtain ⟨ad18, hax, hP1, hD1⟩ := hB
  rw [ht] at hP1
  have hP := hP1
  have hD := hD1.weaken (fun k q _ h => hFc q.1 h)
  generalize H1 = H at hP hS ⊢
  have ha0 := ha0.mv hC.1 hax
  have hr13 := hr13.mv hC.1 hax
  have hX := hX.trans hax
  have hC := hm.2.2 hC
  have hN : n0 ≤ n15 := Nat.le_trans hN hm1
  have hT : s0 ≤ s16 := Nat.le_trans hT hm2
  refine W.widen (k := n15 - n0) (n := s16 - s0) (by omega) (by omega) ?_
  clear hP1 hD1 hFc hk1 hz1 hvm ht hax hm hm1 hm2 hM1 hM2
  obtain ⟨E19, e20, hF⟩ := mw_o hF
  obtain ⟨q9, fs9, h9, ez9⟩ := wrR (cy := cy) hC ha0 hr13 e20
  refine va_put (D := (dC, dI)) (ci := 9) (v := .ref q11) (ty := (.object "java/util/ArrayList")) (C := RX9) (T := TX9) (N := 14) hx hb hts inlX9 tyX9 tyX9_ok nmX9 hown hK hP hD hS q9 h9 rfl 7 (by decide) (hts _ mw_105) (fun _ h9 => h9) rfl (by decide +kernel) rfl rfl (Nat.le_of_ble_eq_true rfl) dX9_init_29 (fun H locs hP hD hS => ?_)
  rw [ez9] at hP hD
  clear ez9 h9
  have hC := sR_clo e20 hC
  refine lv_aload_n hx hb dX9_init_32 rfl (lv_at hl 0 rfl) ?_
  obtain ⟨x24, n21, s22, E23, hq, hF⟩ := mn_o hF
  have hM1 := mle1 hF
  have hM2 := mle2 hF
  have hq9 := hq.2.1
  have hq8 := hq.2.2.1
  refine va_new (ci := 14) (fs := [.int 0, .null, .int 0]) (C := RJx4a65c) (T := TJx4a65c) (N := 3) hx hb hts inlJx4a65c tyJx4a65c tyJx4a65c_ok hown (hts _ mw_104) (hts _ mw_11) (hts _ mw_12) hK hP hD hS hA rfl (fun j hj => by match j, hj with | 0, _ => rfl | 1, _ => rfl | 2, _ => rfl | (n+3), h => omega) (show n15 - n0 + 1 ≤ nz - n0 by omega) (show s16 - s0 + 3 ≤ sz9 - s0 by omega) dX9_init_33 (fun q25 H hP hD hS => ?_)
  obtain ⟨ad26, hax, hr27, hC9, hw9⟩ := new_w (cy := cy) (nb := nb) (ad := ad18) (e := .inr (14, [.int 0, .null, .int 0])) nok_Jx4a65c (fun _ => rfl) hC q25 hq
  rw [hw9] at hP hD
  have ha0 := ha0.mv hC.1 hax
  have hX := hX.trans hax
  have hC := hC9
  obtain ⟨-, hq1, hq2, -, -⟩ := hq
  have hN : n0 ≤ n21 := by omega
  have hT : s0 ≤ s22 := by omega
  refine W.widen (k := n21 - n0) (n := s22 - s0) (by omega) (by omega) ?_
  clear hM1 hM2 hax hC9 hw9 hq1 hq2 hq8 hq9
  refine lv_dup hx hb dX9_init_36 rfl ?_
  obtain ⟨⟨⟩, n29, s30, E31, e28, hF⟩ := mb_o hF
  have hm := mle e28
  have hM1 := mle1 hF
  have hM2 := mle2 hF
  have hm1 := hm.1
  have hm2 := hm.2.1
  have hFc := my_free hD hS hA
  refine va_callv (va_runI (As := []) (rest := [.ref q25, .ref Aa0]) ⟨hx, hb, hml, hown, hts⟩ (h_Jx4a65c_init_da8c8 l dC dI cy nb ad26 n21 s22 E23 hC (x24) q25 hr27 H.size n29 s30 E31 e28) (cwI 0 hts (gI mw_114) rfl rfl rfl (hts _ mw_12) (hts _ mw_112) (hts _ mw_113) rfl (by decide +kernel) ⟨Nat.le_of_ble_eq_true rfl, Nat.le_of_ble_eq_true rfl⟩) (hl_preS hP hK hD hE hS hFc) rfl rfl hl.1 rfl (lv_room (Nat.le_of_ble_eq_true rfl)) dX9_init_37 ⟨show n21 - n0 + (n29 - n21) ≤ nz - n0 by omega, show s22 - s0 + (s30 - s22) ≤ sz9 - s0 by omega⟩) hS (fun q _ h => hFc q h) hFc (fun u t H1 locs ht hvm hw hB hz1 hk1 hS => ?_)
  obtain ⟨ad32, hax, hP1, hD1⟩ := hB
  rw [ht] at hP1
  have hP := hP1
  have hD := hD1.weaken (fun k q _ h => hFc q.1 h)
  generalize H1 = H at hP hS ⊢
  have ha0 := ha0.mv hC.1 hax
  have hr27 := hr27.mv hC.1 hax
  have hX := hX.trans hax
  have hC := hm.2.2 hC
  have hN : n0 ≤ n29 := Nat.le_trans hN hm1
  have hT : s0 ≤ s30 := Nat.le_trans hT hm2
  refine W.widen (k := n29 - n0) (n := s30 - s0) (by omega) (by omega) ?_
  clear hP1 hD1 hFc hk1 hz1 hvm ht hax hm hm1 hm2 hM1 hM2
  obtain ⟨E33, e34, hF⟩ := mw_o hF
  obtain ⟨q9, fs9, h9, ez9⟩ := wrR (cy := cy) hC ha0 hr27 e34
  refine va_put (D := (dC, dI)) (ci := 9) (v := .ref q25) (ty := (.object "java/util/ArrayList")) (C := RX9) (T := TX9) (N := 14) hx hb hts inlX9 tyX9 tyX9_ok nmX9 hown hK hP hD hS q9 h9 rfl 8 (by decide) (hts _ mw_106) (fun _ h9 => h9) rfl (by decide +kernel) rfl rfl (Nat.le_of_ble_eq_true rfl) dX9_init_40 (fun H locs hP hD hS => ?_)
  rw [ez9] at hP hD
  clear ez9 h9
  have hC := sR_clo e34 hC
  refine lv_aload_n hx hb dX9_init_43 rfl (lv_at hl 0 rfl) ?_
  obtain ⟨x38, n35, s36, E37, hq, hF⟩ := mn_o hF
  have hM1 := mle1 hF
  have hM2 := mle2 hF
  have hq9 := hq.2.1
  have hq8 := hq.2.2.1
  refine va_new (ci := 14) (fs := [.int 0, .null, .int 0]) (C := RJx4a65c) (T := TJx4a65c) (N := 3) hx hb hts inlJx4a65c tyJx4a65c tyJx4a65c_ok hown (hts _ mw_104) (hts _ mw_11) (hts _ mw_12) hK hP hD hS hA rfl (fun j hj => by match j, hj with | 0, _ => rfl | 1, _ => rfl | 2, _ => rfl | (n+3), h => omega) (show n29 - n0 + 1 ≤ nz - n0 by omega) (show s30 - s0 + 3 ≤ sz9 - s0 by omega) dX9_init_44 (fun q39 H hP hD hS => ?_)
  obtain ⟨ad40, hax, hr41, hC9, hw9⟩ := new_w (cy := cy) (nb := nb) (ad := ad32) (e := .inr (14, [.int 0, .null, .int 0])) nok_Jx4a65c (fun _ => rfl) hC q39 hq
  rw [hw9] at hP hD
  have ha0 := ha0.mv hC.1 hax
  have hX := hX.trans hax
  have hC := hC9
  obtain ⟨-, hq1, hq2, -, -⟩ := hq
  have hN : n0 ≤ n35 := by omega
  have hT : s0 ≤ s36 := by omega
  refine W.widen (k := n35 - n0) (n := s36 - s0) (by omega) (by omega) ?_
  clear hM1 hM2 hax hC9 hw9 hq1 hq2 hq8 hq9
  refine lv_dup hx hb dX9_init_47 rfl ?_
  obtain ⟨⟨⟩, n43, s44, E45, e42, hF⟩ := mb_o hF
  have hm := mle e42
  have hM1 := mle1 hF
  have hM2 := mle2 hF
  have hm1 := hm.1
  have hm2 := hm.2.1
  have hFc := my_free hD hS hA
  refine va_callv (va_runI (As := []) (rest := [.ref q39, .ref Aa0]) ⟨hx, hb, hml, hown, hts⟩ (h_Jx4a65c_init_da8c8 l dC dI cy nb ad40 n35 s36 E37 hC (x38) q39 hr41 H.size n43 s44 E45 e42) (cwI 0 hts (gI mw_114) rfl rfl rfl (hts _ mw_12) (hts _ mw_112) (hts _ mw_113) rfl (by decide +kernel) ⟨Nat.le_of_ble_eq_true rfl, Nat.le_of_ble_eq_true rfl⟩) (hl_preS hP hK hD hE hS hFc) rfl rfl hl.1 rfl (lv_room (Nat.le_of_ble_eq_true rfl)) dX9_init_48 ⟨show n35 - n0 + (n43 - n35) ≤ nz - n0 by omega, show s36 - s0 + (s44 - s36) ≤ sz9 - s0 by omega⟩) hS (fun q _ h => hFc q h) hFc (fun u t H1 locs ht hvm hw hB hz1 hk1 hS => ?_)
  obtain ⟨ad46, hax, hP1, hD1⟩ := hB
  rw [ht] at hP1
  have hP := hP1
  have hD := hD1.weaken (fun k q _ h => hFc q.1 h)
  generalize H1 = H at hP hS ⊢
  have ha0 := ha0.mv hC.1 hax
  have hr41 := hr41.mv hC.1 hax
  have hX := hX.trans hax
  have hC := hm.2.2 hC
  have hN : n0 ≤ n43 := Nat.le_trans hN hm1
  have hT : s0 ≤ s44 := Nat.le_trans hT hm2
  refine W.widen (k := n43 - n0) (n := s44 - s0) (by omega) (by omega) ?_
  clear hP1 hD1 hFc hk1 hz1 hvm ht hax hm hm1 hm2 hM1 hM2
  obtain ⟨E47, e48, hF⟩ := mw_o hF
  obtain ⟨q9, fs9, h9, ez9⟩ := wrR (cy := cy) hC ha0 hr41 e48
  refine va_put (D := (dC, dI)) (ci := 9) (v := .ref q39) (ty := (.object "java/util/ArrayList")) (C := RX9) (T := TX9) (N := 14) hx hb hts inlX9 tyX9 tyX9_ok nmX9 hown hK hP hD hS q9 h9 rfl 9 (by decide) (hts _ mw_107) (fun _ h9 => h9) rfl (by decide +kernel) rfl rfl (Nat.le_of_ble_eq_true rfl) dX9_init_51 (fun H locs hP hD hS => ?_)
  rw [ez9] at hP hD
  clear ez9 h9
  have hC := sR_clo e48 hC
  refine lv_aload_n hx hb dX9_init_54 rfl (lv_at hl 0 rfl) ?_
  obtain ⟨x52, n49, s50, E51, hq, hF⟩ := mn_o hF
  have hM1 := mle1 hF
  have hM2 := mle2 hF
  have hq9 := hq.2.1
  have hq8 := hq.2.2.1
  refine va_new (ci := 14) (fs := [.int 0, .null, .int 0]) (C := RJx4a65c) (T := TJx4a65c) (N := 3) hx hb hts inlJx4a65c tyJx4a65c tyJx4a65c_ok hown (hts _ mw_104) (hts _ mw_11) (hts _ mw_12) hK hP hD hS hA rfl (fun j hj => by match j, hj with | 0, _ => rfl | 1, _ => rfl | 2, _ => rfl | (n+3), h => omega) (show n43 - n0 + 1 ≤ nz - n0 by omega) (show s44 - s0 + 3 ≤ sz9 - s0 by omega) dX9_init_55 (fun q53 H hP hD hS => ?_)
  obtain ⟨ad54, hax, hr55, hC9, hw9⟩ := new_w (cy := cy) (nb := nb) (ad := ad46) (e := .inr (14, [.int 0, .null, .int 0])) nok_Jx4a65c (fun _ => rfl) hC q53 hq
  rw [hw9] at hP hD
  have ha0 := ha0.mv hC.1 hax
  have hX := hX.trans hax
  have hC := hC9
  obtain ⟨-, hq1, hq2, -, -⟩ := hq
  have hN : n0 ≤ n49 := by omega
  have hT : s0 ≤ s50 := by omega
  refine W.widen (k := n49 - n0) (n := s50 - s0) (by omega) (by omega) ?_
  clear hM1 hM2 hax hC9 hw9 hq1 hq2 hq8 hq9
  refine lv_dup hx hb dX9_init_58 rfl ?_
  obtain ⟨⟨⟩, n57, s58, E59, e56, hF⟩ := mb_o hF
  have hm := mle e56
  have hM1 := mle1 hF
  have hM2 := mle2 hF
  have hm1 := hm.1
  have hm2 := hm.2.1
  have hFc := my_free hD hS hA
  refine va_callv (va_runI (As := []) (rest := [.ref q53, .ref Aa0]) ⟨hx, hb, hml, hown, hts⟩ (h_Jx4a65c_init_da8c8 l dC dI cy nb ad54 n49 s50 E51 hC (x52) q53 hr55 H.size n57 s58 E59 e56) (cwI 0 hts (gI mw_114) rfl rfl rfl (hts _ mw_12) (hts _ mw_112) (hts _ mw_113) rfl (by decide +kernel) ⟨Nat.le_of_ble_eq_true rfl, Nat.le_of_ble_eq_true rfl⟩) (hl_preS hP hK hD hE hS hFc) rfl rfl hl.1 rfl (lv_room (Nat.le_of_ble_eq_true rfl)) dX9_init_59 ⟨show n49 - n0 + (n57 - n49) ≤ nz - n0 by omega, show s50 - s0 + (s58 - s50) ≤ sz9 - s0 by omega⟩) hS (fun q _ h => hFc q h) hFc (fun u t H1 locs ht hvm hw hB hz1 hk1 hS => ?_)
  obtain ⟨ad60, hax, hP1, hD1⟩ := hB
  rw [ht] at hP1
  have hP := hP1
  have hD := hD1.weaken (fun k q _ h => hFc q.1 h)
  generalize H1 = H at hP hS ⊢
  have ha0 := ha0.mv hC.1 hax
  have hr55 := hr55.mv hC.1 hax
  have hX := hX.trans hax
  have hC := hm.2.2 hC
  have hN : n0 ≤ n57 := Nat.le_trans hN hm1
  have hT : s0 ≤ s58 := Nat.le_trans hT hm2
  refine W.widen (k := n57 - n0) (n := s58 - s0) (by omega) (by omega) ?_
  clear hP1 hD1 hFc hk1 hz1 hvm ht hax hm hm1 hm2 hM1 hM2
  obtain ⟨E61, e62, hF⟩ := mw_o hF
  obtain ⟨q9, fs9, h9, ez9⟩ := wrR (cy := cy) hC ha0 hr55 e62
  refine va_put (D := (dC, dI)) (ci := 9) (v := .ref q53) (ty := (.object "java/util/ArrayList")) (C := RX9) (T := TX9) (N := 14) hx hb hts inlX9 tyX9 tyX9_ok nmX9 hown hK hP hD hS q9 h9 rfl 10 (by decide) (hts _ mw_108) (fun _ h9 => h9) rfl (by decide +kernel) rfl rfl (Nat.le_of_ble_eq_true rfl) dX9_init_62 (fun H locs hP hD hS => ?_)
  rw [ez9] at hP hD
  clear ez9 h9
  have hC := sR_clo e62 hC
  refine lv_aload_n hx hb dX9_init_65 rfl (lv_at hl 0 rfl) ?_
  obtain ⟨x66, n63, s64, E65, hq, hF⟩ := mn_o hF
  have hM1 := mle1 hF
  have hM2 := mle2 hF
  have hq9 := hq.2.1
  have hq8 := hq.2.2.1
  refine va_new (ci := 14) (fs := [.int 0, .null, .int 0]) (C := RJx4a65c) (T := TJx4a65c) (N := 3) hx hb hts inlJx4a65c tyJx4a65c tyJx4a65c_ok hown (hts _ mw_104) (hts _ mw_11) (hts _ mw_12) hK hP hD hS hA rfl (fun j hj => by match j, hj with | 0, _ => rfl | 1, _ => rfl | 2, _ => rfl | (n+3), h => omega) (show n57 - n0 + 1 ≤ nz - n0 by omega) (show s58 - s0 + 3 ≤ sz9 - s0 by omega) dX9_init_66 (fun q67 H hP hD hS => ?_)
  obtain ⟨ad68, hax, hr69, hC9, hw9⟩ := new_w (cy := cy) (nb := nb) (ad := ad60) (e := .inr (14, [.int 0, .null, .int 0])) nok_Jx4a65c (fun _ => rfl) hC q67 hq
  rw [hw9] at hP hD
  have ha0 := ha0.mv hC.1 hax
  have hX := hX.trans hax
  have hC := hC9
  obtain ⟨-, hq1, hq2, -, -⟩ := hq
  have hN : n0 ≤ n63 := by omega
  have hT : s0 ≤ s64 := by omega
  refine W.widen (k := n63 - n0) (n := s64 - s0) (by omega) (by omega) ?_
  clear hM1 hM2 hax hC9 hw9 hq1 hq2 hq8 hq9
  refine lv_dup hx hb dX9_init_69 rfl ?_
  obtain ⟨⟨⟩, n71, s72, E73, e70, hF⟩ := mb_o hF
  have hm := mle e70
  have hM1 := mle1 hF
  have hM2 := mle2 hF
  have hm1 := hm.1
  have hm2 := hm.2.1
  have hFc := my_free hD hS hA
  refine va_callv (va_runI (As := []) (rest := [.ref q67, .ref Aa0]) ⟨hx, hb, hml, hown, hts⟩ (h_Jx4a65c_init_da8c8 l dC dI cy nb ad68 n63 s64 E65 hC (x66) q67 hr69 H.size n71 s72 E73 e70) (cwI 0 hts (gI mw_114) rfl rfl rfl (hts _ mw_12) (hts _ mw_112) (hts _ mw_113) rfl (by decide +kernel) ⟨Nat.le_of_ble_eq_true rfl, Nat.le_of_ble_eq_true rfl⟩) (hl_preS hP hK hD hE hS hFc) rfl rfl hl.1 rfl (lv_room (Nat.le_of_ble_eq_true rfl)) dX9_init_70 ⟨show n63 - n0 + (n71 - n63) ≤ nz - n0 by omega, show s64 - s0 + (s72 - s64) ≤ sz9 - s0 by omega⟩) hS (fun q _ h => hFc q h) hFc (fun u t H1 locs ht hvm hw hB hz1 hk1 hS => ?_)
  obtain ⟨ad74, hax, hP1, hD1⟩ := hB
  rw [ht] at hP1
  have hP := hP1
  have hD := hD1.weaken (fun k q _ h => hFc q.1 h)
  generalize H1 = H at hP hS ⊢
  have ha0 := ha0.mv hC.1 hax
  have hr69 := hr69.mv hC.1 hax
  have hX := hX.trans hax
  have hC := hm.2.2 hC
  have hN : n0 ≤ n71 := Nat.le_trans hN hm1
  have hT : s0 ≤ s72 := Nat.le_trans hT hm2
  refine W.widen (k := n71 - n0) (n := s72 - s0) (by omega) (by omega) ?_
  clear hP1 hD1 hFc hk1 hz1 hvm ht hax hm hm1 hm2 hM1 hM2
  obtain ⟨E75, e76, hF⟩ := mw_o hF
  obtain ⟨q9, fs9, h9, ez9⟩ := wrR (cy := cy) hC ha0 hr69 e76
  refine va_put (D := (dC, dI)) (ci := 9) (v := .ref q67) (ty := (.object "java/util/ArrayList")) (C := RX9) (T := TX9) (N := 14) hx hb hts inlX9 tyX9 tyX9_ok nmX9 hown hK hP hD hS q9 h9 rfl 11 (by decide) (hts _ mw_109) (fun _ h9 => h9) rfl (by decide +kernel) rfl rfl (Nat.le_of_ble_eq_true rfl) dX9_init_73 (fun H locs hP hD hS => ?_)
  rw [ez9] at hP hD
  clear ez9 h9
  have hC := sR_clo e76 hC
  refine lv_aload_n hx hb dX9_init_76 rfl (lv_at hl 0 rfl) ?_
  refine lv_bipush (v := 12) hx hb dX9_init_77 (by decide) ?_
  obtain ⟨k77, e78, hF⟩ := mp_o hF
  obtain ⟨x82, n79, s80, E81, hq, hF⟩ := mn_o hF
  have hM1 := mle1 hF
  have hM2 := mle2 hF
  have hq9 := hq.2.1
  have hq8 := hq.2.2.1
  obtain ⟨l1, l2, l3⟩ := ln_s e78
  refine va_newa (atype := .int) (ty := .int) (N' := k77) (a0 := (k77, .inl (fun _ => 0))) hx hb (hts _ mw_33) rfl hK hP hD hS hA (fun _ => rfl) l1 l2 (show k77 * 4 ≤ 536870912 by omega) (show n71 - n0 + 1 ≤ nz - n0 by omega) (show s72 - s0 + k77 ≤ sz9 - s0 by omega) dX9_init_79 (fun q83 cA H hK9 hP hD hS => ?_)
  have hcA := my_cA hK9 hK 1 rfl
  subst hcA
  clear hK9 l1 l2 l3
  obtain ⟨ad84, hax, hr85, hC9, hw9⟩ := new_w (cy := cy) (nb := nb) (ad := ad74) (e := .inl (1, k77, .inl fun _ => 0)) trivial (fun _ => rfl) hC q83 hq
  rw [hw9] at hP hD
  have ha0 := ha0.mv hC.1 hax
  have hX := hX.trans hax
  have hC := hC9
  obtain ⟨-, hq1, hq2, -, -⟩ := hq
  have hN : n0 ≤ n79 := by omega
  have hT : s0 ≤ s80 := by omega
  refine W.widen (k := n79 - n0) (n := s80 - s0) (by omega) (by omega) ?_
  clear hM1 hM2 hax hC9 hw9 hq1 hq2 hq8 hq9
  obtain ⟨E86, e87, hF⟩ := mw_o hF
  obtain ⟨q9, fs9, h9, ez9⟩ := wrR (cy := cy) hC ha0 hr85 e87
  refine va_put (D := (dC, dI)) (ci := 9) (v := .ref q83) (ty := (.array .int)) (C := RX9) (T := TX9) (N := 14) hx hb hts inlX9 tyX9 tyX9_ok nmX9 hown hK hP hD hS q9 h9 rfl 12 (by decide) (hts _ mw_110) (fun _ h9 => h9) rfl (by decide +kernel) rfl rfl (Nat.le_of_ble_eq_true rfl) dX9_init_81 (fun H locs hP hD hS => ?_)
  rw [ez9] at hP hD
  clear ez9 h9
  have hC := sR_clo e87 hC
  refine lv_aload_n hx hb dX9_init_84 rfl (lv_at hl 0 rfl) ?_
  refine lv_iconst (v := 5) hx hb dX9_init_85 (by decide) ?_
  obtain ⟨k88, e89, hF⟩ := mp_o hF
  obtain ⟨x93, n90, s91, E92, hq, hF⟩ := mn_o hF
  have hM1 := mle1 hF
  have hM2 := mle2 hF
  have hq9 := hq.2.1
  have hq8 := hq.2.2.1
  obtain ⟨l1, l2, l3⟩ := ln_s e89
  refine va_newa (atype := .int) (ty := .int) (N' := k88) (a0 := (k88, .inl (fun _ => 0))) hx hb (hts _ mw_33) rfl hK hP hD hS hA (fun _ => rfl) l1 l2 (show k88 * 4 ≤ 536870912 by omega) (show n79 - n0 + 1 ≤ nz - n0 by omega) (show s80 - s0 + k88 ≤ sz9 - s0 by omega) dX9_init_86 (fun q94 cA H hK9 hP hD hS => ?_)
  have hcA := my_cA hK9 hK 1 rfl
  subst hcA
  clear hK9 l1 l2 l3
  obtain ⟨ad95, hax, hr96, hC9, hw9⟩ := new_w (cy := cy) (nb := nb) (ad := ad84) (e := .inl (1, k88, .inl fun _ => 0)) trivial (fun _ => rfl) hC q94 hq
  rw [hw9] at hP hD
  have ha0 := ha0.mv hC.1 hax
  have hX := hX.trans hax
  have hC := hC9
  obtain ⟨-, hq1, hq2, -, -⟩ := hq
  have hN : n0 ≤ n90 := by omega
  have hT : s0 ≤ s91 := by omega
  refine W.widen (k := n90 - n0) (n := s91 - s0) (by omega) (by omega) ?_
  clear hM1 hM2 hax hC9 hw9 hq1 hq2 hq8 hq9
  obtain ⟨E97, e98, hF⟩ := mw_o hF
  obtain ⟨q9, fs9, h9, ez9⟩ := wrR (cy := cy) hC ha0 hr96 e98
  refine va_put (D := (dC, dI)) (ci := 9) (v := .ref q94) (ty := (.array .int)) (C := RX9) (T := TX9) (N := 14) hx hb hts inlX9 tyX9 tyX9_ok nmX9 hown hK hP hD hS q9 h9 rfl 13 (by decide) (hts _ mw_111) (fun _ h9 => h9) rfl (by decide +kernel) rfl rfl (Nat.le_of_ble_eq_true rfl) dX9_init_88 (fun H locs hP hD hS => ?_)
  rw [ez9] at hP hD
  clear ez9 h9
  have hC := sR_clo e98 hC
  obtain ⟨ht9, hn9, hs9, hE9⟩ := mr_o hF
  subst hn9 hs9 hE9
  have hX9 := hX
  rw [hQ]
  exact W.vret hx hb hr (fun t ht hW => ⟨⟨(), rfl, trivial, _, hX, by rw [ht]; exact hP, hD⟩, hS.F ht⟩) hS.2.2 dX9_init_91
noncomputable def H_X9_copy_L138 (x94 : Nat) (x4 : Nat) (a0 : Nat) : Nat → MH (Unit)
  | 0 => m0
  | m159 + 1 => mb (mg fun n E => fO n E (x94) 13) fun _ => mb (H_Jx35411_hasNext_aae02 (x94)) fun x168 => if x168 = 0 then (mr ()) else (mb (mg fun n E => fO n E (x94) 13) fun _ => mb (H_Jx35411_next_0502b (x94)) fun x176 => mb (mg fun n E => fO n E (x176) 8) fun _ => mb (rR (x4) 9 10) fun x185 => mb (mg fun n E => fO n E (x176) 8) fun _ => mb (H_X8_copy (x176)) fun x189 => mb (mg fun n E => fO n E (x185) 14) fun _ => mb (H_Jx4a65c_add_9ea2d (x185) (x189)) fun x198 => H_X9_copy_L138 x94 x4 a0 m159 )
noncomputable def H_X9_copy_L72 (x45 : Nat) (x4 : Nat) (a0 : Nat) : Nat → MH (Unit)
  | 0 => m0
  | m207 + 1 => mb (mg fun n E => fO n E (x45) 13) fun _ => mb (H_Jx35411_hasNext_aae02 (x45)) fun x216 => if x216 = 0 then (mr ()) else (mb (mg fun n E => fO n E (x45) 13) fun _ => mb (H_Jx35411_next_0502b (x45)) fun x224 => mb (mg fun n E => fO n E (x224) 10) fun _ => mb (rR (x4) 9 7) fun x233 => mb (mg fun n E => fO n E (x224) 10) fun _ => mb (H_X10_copy (x224)) fun x237 => mb (mg fun n E => fO n E (x233) 14) fun _ => mb (H_Jx4a65c_add_9ea2d (x233) (x237)) fun x246 => H_X9_copy_L72 x45 x4 a0 m207 )
noncomputable def H_X9_copy (a0 : Nat) : MH Nat := mb (mn 14 (.inr (9, [.int 0, .int 0, .int 0, .int 0, .int 0, .int 0, .int 0, .null, .null, .null, .null, .null, .null, .null])) nok_X9) fun x4 => mb (H_X9_init (x4)) fun _ => mb (rI (a0) 9 0) fun x13 => mb (wI (x4) 9 0 (x13)) fun _ => mb (rI (a0) 9 1) fun x17 => mb (wI (x4) 9 1 (x17)) fun _ => mb (rI (a0) 9 2) fun x21 => mb (wI (x4) 9 2 (x21)) fun _ => mb (rI (a0) 9 3) fun x25 => mb (wI (x4) 9 3 (x25)) fun _ => mb (rI (a0) 9 4) fun x29 => mb (wI (x4) 9 4 (x29)) fun _ => mb (rI (a0) 9 5) fun x33 => mb (wI (x4) 9 5 (x33)) fun _ => mb (rI (a0) 9 6) fun x37 => mb (wI (x4) 9 6 (x37)) fun _ => mb (rR (a0) 9 7) fun x41 => mb (mg fun n E => fO n E (x41) 14) fun _ => mb (H_Jx4a65c_iterator_32c93 (x41)) fun x45 => mb (H_X9_copy_L72 x45 x4 a0 FUEL ) fun t53 => mb (rR (x4) 9 8) fun x64 => mb (rR (a0) 9 8) fun x67 => mb (mg fun n E => fO n E (x64) 14) fun _ => mb (H_Jx4a65c_addAll_f0b43 (x64) (x67)) fun x71 => mb (rR (x4) 9 9) fun x77 => mb (rR (a0) 9 9) fun x80 => mb (mg fun n E => fO n E (x77) 14) fun _ => mb (H_Jx4a65c_addAll_f0b43 (x77) (x80)) fun x84 => mb (rR (a0) 9 10) fun x90 => mb (mg fun n E => fO n E (x90) 14) fun _ => mb (H_Jx4a65c_iterator_32c93 (x90)) fun x94 => mb (H_X9_copy_L138 x94 x4 a0 FUEL ) fun t102 => mb (rR (x4) 9 11) fun x113 => mb (rR (a0) 9 11) fun x116 => mb (mg fun n E => fO n E (x113) 14) fun _ => mb (H_Jx4a65c_addAll_f0b43 (x113) (x116)) fun x120 => mb (rR (a0) 9 12) fun x126 => mb (mg fun n E => aP n E (x126) 1) fun p134 => mb (mn p134.1 (.inl (1, p134.1, .inl p134.2)) trivial) fun x132 => mb (mg fun n E => aP n E (x132) 1) fun _ => mb (wR (x4) 9 12 (x132)) fun _ => mb (rR (a0) 9 13) fun x141 => mb (mg fun n E => aP n E (x141) 1) fun p149 => mb (mn p149.1 (.inl (1, p149.1, .inl p149.2)) trivial) fun x147 => mb (mg fun n E => aP n E (x147) 1) fun _ => mb (wR (x4) 9 13 (x147)) fun _ => mr x4
set_option maxHeartbeats 4000000 in
set_option maxRecDepth 100000 in
theorem h_X9_copy (l : Launch) (dC : Nat → ClassId) (dI : Nat → Nat → Nat) (cy : Nat → ClassId) (nb : Nat → Nat) (ad0 : Nat → Nat) (n0 s0 : Nat) (E0 : HE) (hC : clo n0 E0) (a0 Aa0 : Nat) (ha0 : rf nb ad0 n0 a0 Aa0) (sz : Nat) (ro : Nat) (nz sz9 : Nat) (Ez : HE) (hF : (H_X9_copy a0).1 (n0, s0, E0) = some (ro, nz, sz9, Ez)) : Met l yX9_copy (wsg yX9_copy cX9_copy 4 (some (.object "CardLineLaw$Line"))) ({ frames := 14, cells := nz - n0, slots := sz9 - s0, locals := 900 }) (va_Pc [.ref Aa0] (fun U => U.heap.size = sz ∧ va_P (dC, dI) vwCl (CH cy nb ad0 n0 E0) U.heap ∧ va_K (dC, dI) vwCl (tyL cy) U ∧ va_D (fun _ => True) (CH cy nb ad0 n0 E0) ∧ GL nb (va_A (CH cy nb ad0 n0 E0) sz) U)) (va_Qr (fun (_ : Unit) => True) (fun _ ra t => ∃ ad2 : Nat → Nat, axh n0 ad0 nz ad2 ∧ rf nb ad2 nz ro ra ∧ va_P (dC, dI) vwCl (CH cy nb ad2 nz Ez) t.heap ∧ va_D (va_A (CH cy nb ad0 n0 E0) sz) (CH cy nb ad2 nz Ez)) (va_A (CH cy nb ad0 n0 E0) sz)) (nz - n0) (sz9 - s0) (va_A (CH cy nb ad0 n0 E0) sz) := by
  refine Met.ofW (cc := cX9_copy) (maxL := 4) (ret := (some (.object "CardLineLaw$Line"))) (by decide) rfl ?_
  intro p e s m args below meth c s₁ B hml hv
  obtain ⟨rfl, hsz, hP, hK, hD0, hE⟩ := hv
  have hx := B.exec
  have hb := B.bytes
  have hr := B.returns
  have hts0 := atoms_spec (ws := (wsg yX9_copy cX9_copy 4 (some (.object "CardLineLaw$Line")))) B.pre
  have hts : ∀ w ∈ wsL_law, w.before _ s = true := fun w h => hts0 w (List.mem_cons_of_mem _ h)
  have hown : s.vm.findClass RX9 = some m.cls := by have h9 := findClass_of_methodNamed B.named; exact h9
  subst hsz
  have hD := hD0.self (sz := s.heap.size)
  generalize hAe : va_A (CH cy nb ad0 n0 E0) s.heap.size = A at hD hE ⊢
  have hA : ∀ q : Nat, s.heap.size ≤ q → A q := fun q h => by rw [← hAe]; exact Or.inr h
  have hS : va_S A s.heap s.heap [] := va_S.rf
  have hl := lv_entry ([.ref Aa0]) (n := 4) (Nat.le_of_ble_eq_true rfl)
  rw [lg_entry_eq]
  generalize (lg_sl ([.ref Aa0]) ++ List.replicate (4 - (lg_sl ([.ref Aa0])).length) Slot.unset).toArray = ls at hl ⊢
  have hl : lv_has ls 4 [(0, .ref Aa0)] := hl
  generalize hHe : s.heap = H at hP hS ⊢
  have hS : va_S A s.heap H [] := by rw [hHe]; exact hS
  refine my_Q (fun Qn hQ => ?_)
  simp only [H_X9_copy] at hF
  have hX : axh n0 ad0 n0 ad0 := axh_refl
  have hN : n0 ≤ n0 := Nat.le_refl _
  have hT : s0 ≤ s0 := Nat.le_refl _
  refine W.widen (k := n0 - n0) (n := s0 - s0) (by omega) (by omega) ?_
  obtain ⟨x4, n1, s2, E3, hq, hF⟩ := mn_o hF
  have hM1 := mle1 hF
  have hM2 := mle2 hF
  have hq9 := hq.2.1
  have hq8 := hq.2.2.1
  refine va_new (ci := 9) (fs := [.int 0, .int 0, .int 0, .int 0, .int 0, .int 0, .int 0, .null, .null, .null, .null, .null, .null, .null]) (C := RX9) (T := TX9) (N := 14) hx hb hts inlX9 tyX9 tyX9_ok hown (hts _ mw_1261) (hts _ mw_4) (hts _ mw_5) hK hP hD hS hA rfl (fun j hj => by match j, hj with | 0, _ => rfl | 1, _ => rfl | 2, _ => rfl | 3, _ => rfl | 4, _ => rfl | 5, _ => rfl | 6, _ => rfl | 7, _ => rfl | 8, _ => rfl | 9, _ => rfl | 10, _ => rfl | 11, _ => rfl | 12, _ => rfl | 13, _ => rfl | (n+14), h => omega) (show n0 - n0 + 1 ≤ nz - n0 by omega) (show s0 - s0 + 14 ≤ sz9 - s0 by omega) dX9_copy_0 (fun q5 H hP hD hS => ?_)
  obtain ⟨ad6, hax, hr7, hC9, hw9⟩ := new_w (cy := cy) (nb := nb) (ad := ad0) (e := .inr (9, [.int 0, .int 0, .int 0, .int 0, .int 0, .int 0, .int 0, .null, .null, .null, .null, .null, .null, .null])) nok_X9 (fun _ => rfl) hC q5 hq
  rw [hw9] at hP hD
  have ha0 := ha0.mv hC.1 hax
  have hX := hX.trans hax
  have hC := hC9
  obtain ⟨-, hq1, hq2, -, -⟩ := hq
  have hN : n0 ≤ n1 := by omega
  have hT : s0 ≤ s2 := by omega
  refine W.widen (k := n1 - n0) (n := s2 - s0) (by omega) (by omega) ?_
  clear hM1 hM2 hax hC9 hw9 hq1 hq2 hq8 hq9
  refine lv_dup hx hb dX9_copy_3 rfl ?_
  obtain ⟨⟨⟩, n9, s10, E11, e8, hF⟩ := mb_o hF
  have hm := mle e8
  have hM1 := mle1 hF
  have hM2 := mle2 hF
  have hm1 := hm.1
  have hm2 := hm.2.1
  have hFc := my_free hD hS hA
  refine va_callv (va_runI (As := []) (rest := [.ref q5]) ⟨hx, hb, hml, hown, hts⟩ (h_X9_init l dC dI cy nb ad6 n1 s2 E3 hC (x4) q5 hr7 H.size n9 s10 E11 e8) (cwI 0 hts (gI mw_99) rfl rfl rfl (hts _ mw_5) (hts _ mw_1271) (hts _ mw_98) rfl (by decide +kernel) ⟨Nat.le_of_ble_eq_true rfl, Nat.le_of_ble_eq_true rfl⟩) (hl_preS hP hK hD hE hS hFc) rfl rfl hl.1 rfl (lv_room (Nat.le_of_ble_eq_true rfl)) dX9_copy_4 ⟨show n1 - n0 + (n9 - n1) ≤ nz - n0 by omega, show s2 - s0 + (s10 - s2) ≤ sz9 - s0 by omega⟩) hS (fun q _ h => hFc q h) hFc (fun u t H1 locs ht hvm hw hB hz1 hk1 hS => ?_)
  obtain ⟨ad12, hax, hP1, hD1⟩ := hB
  rw [ht] at hP1
  have hP := hP1
  have hD := hD1.weaken (fun k q _ h => hFc q.1 h)
  generalize H1 = H at hP hS ⊢
  have ha0 := ha0.mv hC.1 hax
  have hr7 := hr7.mv hC.1 hax
  have hX := hX.trans hax
  have hC := hm.2.2 hC
  have hN : n0 ≤ n9 := Nat.le_trans hN hm1
  have hT : s0 ≤ s10 := Nat.le_trans hT hm2
  refine W.widen (k := n9 - n0) (n := s10 - s0) (by omega) (by omega) ?_
  clear hP1 hD1 hFc hk1 hz1 hvm ht hax hm hm1 hm2 hM1 hM2
  refine lv_astore_n (lv' := [(1, .ref q5), (0, .ref Aa0)]) hx hb dX9_copy_7 rfl hl (by decide) rfl (fun ls hl => ?_)
  refine lv_aload_n hx hb dX9_copy_8 rfl (lv_at hl 0 rfl) ?_
  refine lv_aload_n hx hb dX9_copy_9 rfl (lv_at hl 1 rfl) ?_
  obtain ⟨x13, e14, hF⟩ := mg_o hF
  obtain ⟨fs9, h9, g9⟩ := rdI hP hC ha0 e14
  refine va_get (D := (dC, dI)) (ci := 9) (v := .int x13) (C := RX9) (T := TX9) (N := 14) hx hb hts inlX9 hown hK h9 0 rfl rfl 0 (by decide) (hts _ mw_101) (fun _ h9 => h9) g9 dX9_copy_10 ?_
  clear h9 g9
  obtain ⟨E15, e16, hF⟩ := mw_o hF
  obtain ⟨q9, fs9, h9, ez9⟩ := wrI (cy := cy) hC hr7 e16
  refine va_put (D := (dC, dI)) (ci := 9) (v := .int x13) (ty := .int) (C := RX9) (T := TX9) (N := 14) hx hb hts inlX9 tyX9 tyX9_ok nmX9 hown hK hP hD hS q9 h9 rfl 0 (by decide) (hts _ mw_101) (fun _ h9 => h9) rfl (by decide +kernel) rfl rfl (Nat.le_of_ble_eq_true rfl) dX9_copy_13 (fun H locs hP hD hS => ?_)
  rw [ez9] at hP hD
  clear ez9 h9
  have hC := sI_clo e16 hC
  refine lv_aload_n hx hb dX9_copy_16 rfl (lv_at hl 0 rfl) ?_
  refine lv_aload_n hx hb dX9_copy_17 rfl (lv_at hl 1 rfl) ?_
  obtain ⟨x17, e18, hF⟩ := mg_o hF
  obtain ⟨fs9, h9, g9⟩ := rdI hP hC ha0 e18
  refine va_get (D := (dC, dI)) (ci := 9) (v := .int x17) (C := RX9) (T := TX9) (N := 14) hx hb hts inlX9 hown hK h9 0 rfl rfl 1 (by decide) (hts _ mw_102) (fun _ h9 => h9) g9 dX9_copy_18 ?_
  clear h9 g9
  obtain ⟨E19, e20, hF⟩ := mw_o hF
  obtain ⟨q9, fs9, h9, ez9⟩ := wrI (cy := cy) hC hr7 e20
  refine va_put (D := (dC, dI)) (ci := 9) (v := .int x17) (ty := .int) (C := RX9) (T := TX9) (N := 14) hx hb hts inlX9 tyX9 tyX9_ok nmX9 hown hK hP hD hS q9 h9 rfl 1 (by decide) (hts _ mw_102) (fun _ h9 => h9) rfl (by decide +kernel) rfl rfl (Nat.le_of_ble_eq_true rfl) dX9_copy_21 (fun H locs hP hD hS => ?_)
  rw [ez9] at hP hD
  clear ez9 h9
  have hC := sI_clo e20 hC
  refine lv_aload_n hx hb dX9_copy_24 rfl (lv_at hl 0 rfl) ?_
  refine lv_aload_n hx hb dX9_copy_25 rfl (lv_at hl 1 rfl) ?_
  obtain ⟨x21, e22, hF⟩ := mg_o hF
  obtain ⟨fs9, h9, g9⟩ := rdI hP hC ha0 e22
  refine va_get (D := (dC, dI)) (ci := 9) (v := .int x21) (C := RX9) (T := TX9) (N := 14) hx hb hts inlX9 hown hK h9 0 rfl rfl 2 (by decide) (hts _ mw_103) (fun _ h9 => h9) g9 dX9_copy_26 ?_
  clear h9 g9
  obtain ⟨E23, e24, hF⟩ := mw_o hF
  obtain ⟨q9, fs9, h9, ez9⟩ := wrI (cy := cy) hC hr7 e24
  refine va_put (D := (dC, dI)) (ci := 9) (v := .int x21) (ty := .int) (C := RX9) (T := TX9) (N := 14) hx hb hts inlX9 tyX9 tyX9_ok nmX9 hown hK hP hD hS q9 h9 rfl 2 (by decide) (hts _ mw_103) (fun _ h9 => h9) rfl (by decide +kernel) rfl rfl (Nat.le_of_ble_eq_true rfl) dX9_copy_29 (fun H locs hP hD hS => ?_)
  rw [ez9] at hP hD
  clear ez9 h9
  have hC := sI_clo e24 hC
  refine lv_aload_n hx hb dX9_copy_32 rfl (lv_at hl 0 rfl) ?_
  refine lv_aload_n hx hb dX9_copy_33 rfl (lv_at hl 1 rfl) ?_
  obtain ⟨x25, e26, hF⟩ := mg_o hF
  obtain ⟨fs9, h9, g9⟩ := rdI hP hC ha0 e26
  refine va_get (D := (dC, dI)) (ci := 9) (v := .int x25) (C := RX9) (T := TX9) (N := 14) hx hb hts inlX9 hown hK h9 0 rfl rfl 3 (by decide) (hts _ mw_1262) (fun _ h9 => h9) g9 dX9_copy_34 ?_
  clear h9 g9
  obtain ⟨E27, e28, hF⟩ := mw_o hF
  obtain ⟨q9, fs9, h9, ez9⟩ := wrI (cy := cy) hC hr7 e28
  refine va_put (D := (dC, dI)) (ci := 9) (v := .int x25) (ty := .int) (C := RX9) (T := TX9) (N := 14) hx hb hts inlX9 tyX9 tyX9_ok nmX9 hown hK hP hD hS q9 h9 rfl 3 (by decide) (hts _ mw_1262) (fun _ h9 => h9) rfl (by decide +kernel) rfl rfl (Nat.le_of_ble_eq_true rfl) dX9_copy_37 (fun H locs hP hD hS => ?_)
  rw [ez9] at hP hD
  clear ez9 h9
  have hC := sI_clo e28 hC
  refine lv_aload_n hx hb dX9_copy_40 rfl (lv_at hl 0 rfl) ?_
  refine lv_aload_n hx hb dX9_copy_41 rfl (lv_at hl 1 rfl) ?_
  obtain ⟨x29, e30, hF⟩ := mg_o hF
  obtain ⟨fs9, h9, g9⟩ := rdI hP hC ha0 e30
  refine va_get (D := (dC, dI)) (ci := 9) (v := .int x29) (C := RX9) (T := TX9) (N := 14) hx hb hts inlX9 hown hK h9 0 rfl rfl 4 (by decide) (hts _ mw_1263) (fun _ h9 => h9) g9 dX9_copy_42 ?_
  clear h9 g9
  obtain ⟨E31, e32, hF⟩ := mw_o hF
  obtain ⟨q9, fs9, h9, ez9⟩ := wrI (cy := cy) hC hr7 e32
  refine va_put (D := (dC, dI)) (ci := 9) (v := .int x29) (ty := .int) (C := RX9) (T := TX9) (N := 14) hx hb hts inlX9 tyX9 tyX9_ok nmX9 hown hK hP hD hS q9 h9 rfl 4 (by decide) (hts _ mw_1263) (fun _ h9 => h9) rfl (by decide +kernel) rfl rfl (Nat.le_of_ble_eq_true rfl) dX9_copy_45 (fun H locs hP hD hS => ?_)
  rw [ez9] at hP hD
  clear ez9 h9
  have hC := sI_clo e32 hC
  refine lv_aload_n hx hb dX9_copy_48 rfl (lv_at hl 0 rfl) ?_
  refine lv_aload_n hx hb dX9_copy_49 rfl (lv_at hl 1 rfl) ?_
  obtain ⟨x33, e34, hF⟩ := mg_o hF
  obtain ⟨fs9, h9, g9⟩ := rdI hP hC ha0 e34
  refine va_get (D := (dC, dI)) (ci := 9) (v := .int x33) (C := RX9) (T := TX9) (N := 14) hx hb hts inlX9 hown hK h9 0 rfl rfl 5 (by decide) (hts _ mw_1264) (fun _ h9 => h9) g9 dX9_copy_50 ?_
  clear h9 g9
  obtain ⟨E35, e36, hF⟩ := mw_o hF
  obtain ⟨q9, fs9, h9, ez9⟩ := wrI (cy := cy) hC hr7 e36
  refine va_put (D := (dC, dI)) (ci := 9) (v := .int x33) (ty := .int) (C := RX9) (T := TX9) (N := 14) hx hb hts inlX9 tyX9 tyX9_ok nmX9 hown hK hP hD hS q9 h9 rfl 5 (by decide) (hts _ mw_1264) (fun _ h9 => h9) rfl (by decide +kernel) rfl rfl (Nat.le_of_ble_eq_true rfl) dX9_copy_53 (fun H locs hP hD hS => ?_)
  rw [ez9] at hP hD
  clear ez9 h9
  have hC := sI_clo e36 hC
  refine lv_aload_n hx hb dX9_copy_56 rfl (lv_at hl 0 rfl) ?_
  refine lv_aload_n hx hb dX9_copy_57 rfl (lv_at hl 1 rfl) ?_
  obtain ⟨x37, e38, hF⟩ := mg_o hF
  obtain ⟨fs9, h9, g9⟩ := rdI hP hC ha0 e38
  refine va_get (D := (dC, dI)) (ci := 9) (v := .int x37) (C := RX9) (T := TX9) (N := 14) hx hb hts inlX9 hown hK h9 0 rfl rfl 6 (by decide) (hts _ mw_1265) (fun _ h9 => h9) g9 dX9_copy_58 ?_
  clear h9 g9
  obtain ⟨E39, e40, hF⟩ := mw_o hF
  obtain ⟨q9, fs9, h9, ez9⟩ := wrI (cy := cy) hC hr7 e40
  refine va_put (D := (dC, dI)) (ci := 9) (v := .int x37) (ty := .int) (C := RX9) (T := TX9) (N := 14) hx hb hts inlX9 tyX9 tyX9_ok nmX9 hown hK hP hD hS q9 h9 rfl 6 (by decide) (hts _ mw_1265) (fun _ h9 => h9) rfl (by decide +kernel) rfl rfl (Nat.le_of_ble_eq_true rfl) dX9_copy_61 (fun H locs hP hD hS => ?_)
  rw [ez9] at hP hD
  clear ez9 h9
  have hC := sI_clo e40 hC
  refine lv_aload_n hx hb dX9_copy_64 rfl (lv_at hl 1 rfl) ?_
  obtain ⟨x41, e42, hF⟩ := mg_o hF
  obtain ⟨hr43, fs9, h9, g9⟩ := rdR hP hC ha0 e42
  refine va_get (D := (dC, dI)) (ci := 9) (v := .ref (AD nb ad12 x41)) (C := RX9) (T := TX9) (N := 14) hx hb hts inlX9 hown hK h9 0 rfl rfl 7 (by decide) (hts _ mw_105) (fun _ h9 => h9) g9 dX9_copy_65 ?_
  clear h9 g9
  obtain ⟨fs9, e44, hF⟩ := mg_o hF
  obtain ⟨x45, n47, s48, E49, e46, hF⟩ := mb_o hF
  have hm := mle e46
  have hM1 := mle1 hF
  have hM2 := mle2 hF
  have hm1 := hm.1
  have hm2 := hm.2.1
  have hFc := my_free hD hS hA
  refine va_callr (va_runV (C := RJx4a65c) (As := []) (rest := []) ⟨hx, hb, hml, hown, hts⟩ (h_Jx4a65c_iterator_32c93 l dC dI cy nb ad12 n9 s10 E39 hC (x41) (AD nb ad12 x41) hr43 H.size x45 n47 s48 E49 e46) (cwV 0 hts (gV mw_176 mw_177 mw_178 mw_12 mw_179) rfl rfl rfl (by decide +kernel) ⟨Nat.le_of_ble_eq_true rfl, Nat.le_of_ble_eq_true rfl⟩) (hl_preV hP hK hD hE hS hFc (va_recv hK (rdO_ hP hC hr43 e44) (ci := 14) (q0 := 0) rfl rfl)) rfl rfl hl.1 rfl (lv_room (Nat.le_of_ble_eq_true rfl)) dX9_copy_68 ⟨show n9 - n0 + (n47 - n9) ≤ nz - n0 by omega, show s10 - s0 + (s48 - s10) ≤ sz9 - s0 by omega⟩) hS (fun q _ h => hFc q h) hFc (fun u ra t H1 locs ht hvm hw hB hz1 hk1 hS => ?_)
  obtain ⟨ad50, hax, hr51, hP1, hD1⟩ := hB
  rw [ht] at hP1
  have hP := hP1
  have hD := hD1.weaken (fun k q _ h => hFc q.1 h)
  generalize H1 = H at hP hS ⊢
  have hr7 := hr7.mv hC.1 hax
  have ha0 := ha0.mv hC.1 hax
  have hX := hX.trans hax
  have hC := hm.2.2 hC
  have hN : n0 ≤ n47 := Nat.le_trans hN hm1
  have hT : s0 ≤ s48 := Nat.le_trans hT hm2
  refine W.widen (k := n47 - n0) (n := s48 - s0) (by omega) (by omega) ?_
  clear hP1 hD1 hFc hk1 hz1 hvm ht hax hm hm1 hm2 hM1 hM2
  refine my_top (y := .ref (AD nb ad50 x45)) (congrArg Value.ref hr51.2.symm) ?_
  have hr51 := rf_self hr51
  refine lv_astore_n (lv' := [(2, .ref (AD nb ad50 x45)), (1, .ref q5), (0, .ref Aa0)]) hx hb dX9_copy_71 rfl hl (by decide) rfl (fun ls hl => ?_)
  obtain ⟨t53, n55, s56, E57, hL54, hF⟩ := mb_o hF
  have hm := mle hL54
  have kx59 : ∀ (ad58 : Nat → Nat) (H : Heap) (locs : List Loc) (ls : Array Slot), axh n0 ad0 n55 ad58 → rf nb ad58 n55 (x45) ((AD nb ad50 x45)) → rf nb ad58 n55 (x4) (q5) → rf nb ad58 n55 (a0) (Aa0) → va_P (dC, dI) vwCl (CH cy nb ad58 n55 E57) H → va_D A (CH cy nb ad58 n55 E57) → va_S A s.heap H locs → lv_has ls 4 [(2, .ref (AD nb ad50 x45)), (1, .ref q5), (0, .ref Aa0)] → W p l e (headSpec (wsg yX9_copy cX9_copy 4 (some (.object "CardLineLaw$Line"))) ({ frames := 14, cells := nz - n0, slots := sz9 - s0, locals := 900 })).room s m ([.ref Aa0] : List Value).toArray below meth c H locs (n55 - n0) (s56 - s0) Qn (F0 m 106 ls []) := by
    intro ad58 H locs ls hX hr61 hr62 hr63 hP hD hS hl
    have hC := hm.2.2 hC
    have hN : n0 ≤ n55 := Nat.le_trans hN hm.1
    have hT : s0 ≤ s56 := Nat.le_trans hT hm.2.1
    clear hm
    refine lv_aload_n hx hb dX9_copy_106 rfl (lv_at hl 1 rfl) ?_
    obtain ⟨x64, e65, hF⟩ := mg_o hF
    obtain ⟨hr66, fs9, h9, g9⟩ := rdR hP hC hr62 e65
    refine va_get (D := (dC, dI)) (ci := 9) (v := .ref (AD nb ad58 x64)) (C := RX9) (T := TX9) (N := 14) hx hb hts inlX9 hown hK h9 0 rfl rfl 8 (by decide) (hts _ mw_106) (fun _ h9 => h9) g9 dX9_copy_107 ?_
    clear h9 g9
    refine lv_aload_n hx hb dX9_copy_110 rfl (lv_at hl 2 rfl) ?_
    obtain ⟨x67, e68, hF⟩ := mg_o hF
    obtain ⟨hr69, fs9, h9, g9⟩ := rdR hP hC hr63 e68
    refine va_get (D := (dC, dI)) (ci := 9) (v := .ref (AD nb ad58 x67)) (C := RX9) (T := TX9) (N := 14) hx hb hts inlX9 hown hK h9 0 rfl rfl 8 (by decide) (hts _ mw_106) (fun _ h9 => h9) g9 dX9_copy_111 ?_
    clear h9 g9
    obtain ⟨fs9, e70, hF⟩ := mg_o hF
    obtain ⟨x71, n73, s74, E75, e72, hF⟩ := mb_o hF
    have hm := mle e72
    have hM1 := mle1 hF
    have hM2 := mle2 hF
    have hm1 := hm.1
    have hm2 := hm.2.1
    have hFc := my_free hD hS hA
    refine va_calli (va_runV (C := RJx4a65c) (As := [.ref (AD nb ad58 x67)]) (rest := []) ⟨hx, hb, hml, hown, hts⟩ (h_Jx4a65c_addAll_f0b43 l dC dI cy nb ad58 n55 s56 E57 hC (x64) (AD nb ad58 x64) hr66 (x67) (AD nb ad58 x67) hr69 H.size x71 n73 s74 E75 e72) (cwV 1 hts (gV mw_1290 mw_1291 mw_1292 mw_12 mw_1293) rfl rfl rfl (by decide +kernel) ⟨Nat.le_of_ble_eq_true rfl, Nat.le_of_ble_eq_true rfl⟩) (hl_preV hP hK hD hE hS hFc (va_recv hK (rdO_ hP hC hr66 e70) (ci := 14) (q0 := 0) rfl rfl)) rfl rfl hl.1 rfl (lv_room (Nat.le_of_ble_eq_true rfl)) dX9_copy_114 ⟨show n55 - n0 + (n73 - n55) ≤ nz - n0 by omega, show s56 - s0 + (s74 - s56) ≤ sz9 - s0 by omega⟩) hS (fun q _ h => hFc q h) hFc (fun r9 u t H1 locs ht hvm hw hB hz1 hk1 hS => ?_)
    obtain ⟨ad76, hax, hP1, hD1⟩ := hB
    rw [ht] at hP1
    have hP := hP1
    have hD := hD1.weaken (fun k q _ h => hFc q.1 h)
    generalize H1 = H at hP hS ⊢
    have hr61 := hr61.mv hC.1 hax
    have hr62 := hr62.mv hC.1 hax
    have hr63 := hr63.mv hC.1 hax
    have hX := hX.trans hax
    have hC := hm.2.2 hC
    have hN : n0 ≤ n73 := Nat.le_trans hN hm1
    have hT : s0 ≤ s74 := Nat.le_trans hT hm2
    refine W.widen (k := n73 - n0) (n := s74 - s0) (by omega) (by omega) ?_
    clear hP1 hD1 hFc hk1 hz1 hvm ht hax hm hm1 hm2 hM1 hM2
    obtain rfl := hw.symm
    refine lv_pop hx hb dX9_copy_117 rfl ?_
    refine lv_aload_n hx hb dX9_copy_118 rfl (lv_at hl 1 rfl) ?_
    obtain ⟨x77, e78, hF⟩ := mg_o hF
    obtain ⟨hr79, fs9, h9, g9⟩ := rdR hP hC hr62 e78
    refine va_get (D := (dC, dI)) (ci := 9) (v := .ref (AD nb ad76 x77)) (C := RX9) (T := TX9) (N := 14) hx hb hts inlX9 hown hK h9 0 rfl rfl 9 (by decide) (hts _ mw_107) (fun _ h9 => h9) g9 dX9_copy_119 ?_
    clear h9 g9
    refine lv_aload_n hx hb dX9_copy_122 rfl (lv_at hl 2 rfl) ?_
    obtain ⟨x80, e81, hF⟩ := mg_o hF
    obtain ⟨hr82, fs9, h9, g9⟩ := rdR hP hC hr63 e81
    refine va_get (D := (dC, dI)) (ci := 9) (v := .ref (AD nb ad76 x80)) (C := RX9) (T := TX9) (N := 14) hx hb hts inlX9 hown hK h9 0 rfl rfl 9 (by decide) (hts _ mw_107) (fun _ h9 => h9) g9 dX9_copy_123 ?_
    clear h9 g9
    obtain ⟨fs9, e83, hF⟩ := mg_o hF
    obtain ⟨x84, n86, s87, E88, e85, hF⟩ := mb_o hF
    have hm := mle e85
    have hM1 := mle1 hF
    have hM2 := mle2 hF
    have hm1 := hm.1
    have hm2 := hm.2.1
    have hFc := my_free hD hS hA
    refine va_calli (va_runV (C := RJx4a65c) (As := [.ref (AD nb ad76 x80)]) (rest := []) ⟨hx, hb, hml, hown, hts⟩ (h_Jx4a65c_addAll_f0b43 l dC dI cy nb ad76 n73 s74 E75 hC (x77) (AD nb ad76 x77) hr79 (x80) (AD nb ad76 x80) hr82 H.size x84 n86 s87 E88 e85) (cwV 1 hts (gV mw_1290 mw_1291 mw_1292 mw_12 mw_1293) rfl rfl rfl (by decide +kernel) ⟨Nat.le_of_ble_eq_true rfl, Nat.le_of_ble_eq_true rfl⟩) (hl_preV hP hK hD hE hS hFc (va_recv hK (rdO_ hP hC hr79 e83) (ci := 14) (q0 := 0) rfl rfl)) rfl rfl hl.1 rfl (lv_room (Nat.le_of_ble_eq_true rfl)) dX9_copy_126 ⟨show n73 - n0 + (n86 - n73) ≤ nz - n0 by omega, show s74 - s0 + (s87 - s74) ≤ sz9 - s0 by omega⟩) hS (fun q _ h => hFc q h) hFc (fun r9 u t H1 locs ht hvm hw hB hz1 hk1 hS => ?_)
    obtain ⟨ad89, hax, hP1, hD1⟩ := hB
    rw [ht] at hP1
    have hP := hP1
    have hD := hD1.weaken (fun k q _ h => hFc q.1 h)
    generalize H1 = H at hP hS ⊢
    have hr61 := hr61.mv hC.1 hax
    have hr62 := hr62.mv hC.1 hax
    have hr63 := hr63.mv hC.1 hax
    have hX := hX.trans hax
    have hC := hm.2.2 hC
    have hN : n0 ≤ n86 := Nat.le_trans hN hm1
    have hT : s0 ≤ s87 := Nat.le_trans hT hm2
    refine W.widen (k := n86 - n0) (n := s87 - s0) (by omega) (by omega) ?_
    clear hP1 hD1 hFc hk1 hz1 hvm ht hax hm hm1 hm2 hM1 hM2
    obtain rfl := hw.symm
    refine lv_pop hx hb dX9_copy_129 rfl ?_
    refine lv_aload_n hx hb dX9_copy_130 rfl (lv_at hl 2 rfl) ?_
    obtain ⟨x90, e91, hF⟩ := mg_o hF
    obtain ⟨hr92, fs9, h9, g9⟩ := rdR hP hC hr63 e91
    refine va_get (D := (dC, dI)) (ci := 9) (v := .ref (AD nb ad89 x90)) (C := RX9) (T := TX9) (N := 14) hx hb hts inlX9 hown hK h9 0 rfl rfl 10 (by decide) (hts _ mw_108) (fun _ h9 => h9) g9 dX9_copy_131 ?_
    clear h9 g9
    obtain ⟨fs9, e93, hF⟩ := mg_o hF
    obtain ⟨x94, n96, s97, E98, e95, hF⟩ := mb_o hF
    have hm := mle e95
    have hM1 := mle1 hF
    have hM2 := mle2 hF
    have hm1 := hm.1
    have hm2 := hm.2.1
    have hFc := my_free hD hS hA
    refine va_callr (va_runV (C := RJx4a65c) (As := []) (rest := []) ⟨hx, hb, hml, hown, hts⟩ (h_Jx4a65c_iterator_32c93 l dC dI cy nb ad89 n86 s87 E88 hC (x90) (AD nb ad89 x90) hr92 H.size x94 n96 s97 E98 e95) (cwV 0 hts (gV mw_176 mw_177 mw_178 mw_12 mw_179) rfl rfl rfl (by decide +kernel) ⟨Nat.le_of_ble_eq_true rfl, Nat.le_of_ble_eq_true rfl⟩) (hl_preV hP hK hD hE hS hFc (va_recv hK (rdO_ hP hC hr92 e93) (ci := 14) (q0 := 0) rfl rfl)) rfl rfl hl.1 rfl (lv_room (Nat.le_of_ble_eq_true rfl)) dX9_copy_134 ⟨show n86 - n0 + (n96 - n86) ≤ nz - n0 by omega, show s87 - s0 + (s97 - s87) ≤ sz9 - s0 by omega⟩) hS (fun q _ h => hFc q h) hFc (fun u ra t H1 locs ht hvm hw hB hz1 hk1 hS => ?_)
    obtain ⟨ad99, hax, hr100, hP1, hD1⟩ := hB
    rw [ht] at hP1
    have hP := hP1
    have hD := hD1.weaken (fun k q _ h => hFc q.1 h)
    generalize H1 = H at hP hS ⊢
    have hr61 := hr61.mv hC.1 hax
    have hr62 := hr62.mv hC.1 hax
    have hr63 := hr63.mv hC.1 hax
    have hX := hX.trans hax
    have hC := hm.2.2 hC
    have hN : n0 ≤ n96 := Nat.le_trans hN hm1
    have hT : s0 ≤ s97 := Nat.le_trans hT hm2
    refine W.widen (k := n96 - n0) (n := s97 - s0) (by omega) (by omega) ?_
    clear hP1 hD1 hFc hk1 hz1 hvm ht hax hm hm1 hm2 hM1 hM2
    refine my_top (y := .ref (AD nb ad99 x94)) (congrArg Value.ref hr100.2.symm) ?_
    have hr100 := rf_self hr100
    refine lv_astore_n (lv' := [(2, .ref (AD nb ad99 x94)), (1, .ref q5), (0, .ref Aa0)]) hx hb dX9_copy_137 rfl hl (by decide) rfl (fun ls hl => ?_)
    obtain ⟨t102, n104, s105, E106, hL103, hF⟩ := mb_o hF
    have hm := mle hL103
    have kx108 : ∀ (ad107 : Nat → Nat) (H : Heap) (locs : List Loc) (ls : Array Slot), axh n0 ad0 n104 ad107 → rf nb ad107 n104 (x94) ((AD nb ad99 x94)) → rf nb ad107 n104 (x4) (q5) → rf nb ad107 n104 (a0) (Aa0) → va_P (dC, dI) vwCl (CH cy nb ad107 n104 E106) H → va_D A (CH cy nb ad107 n104 E106) → va_S A s.heap H locs → lv_has ls 4 [(2, .ref (AD nb ad99 x94)), (1, .ref q5), (0, .ref Aa0)] → W p l e (headSpec (wsg yX9_copy cX9_copy 4 (some (.object "CardLineLaw$Line"))) ({ frames := 14, cells := nz - n0, slots := sz9 - s0, locals := 900 })).room s m ([.ref Aa0] : List Value).toArray below meth c H locs (n104 - n0) (s105 - s0) Qn (F0 m 172 ls []) := by
      intro ad107 H locs ls hX hr110 hr111 hr112 hP hD hS hl
      have hC := hm.2.2 hC
      have hN : n0 ≤ n104 := Nat.le_trans hN hm.1
      have hT : s0 ≤ s105 := Nat.le_trans hT hm.2.1
      clear hm
      refine lv_aload_n hx hb dX9_copy_172 rfl (lv_at hl 1 rfl) ?_
      obtain ⟨x113, e114, hF⟩ := mg_o hF
      obtain ⟨hr115, fs9, h9, g9⟩ := rdR hP hC hr111 e114
      refine va_get (D := (dC, dI)) (ci := 9) (v := .ref (AD nb ad107 x113)) (C := RX9) (T := TX9) (N := 14) hx hb hts inlX9 hown hK h9 0 rfl rfl 11 (by decide) (hts _ mw_109) (fun _ h9 => h9) g9 dX9_copy_173 ?_
      clear h9 g9
      refine lv_aload_n hx hb dX9_copy_176 rfl (lv_at hl 2 rfl) ?_
      obtain ⟨x116, e117, hF⟩ := mg_o hF
      obtain ⟨hr118, fs9, h9, g9⟩ := rdR hP hC hr112 e117
      refine va_get (D := (dC, dI)) (ci := 9) (v := .ref (AD nb ad107 x116)) (C := RX9) (T := TX9) (N := 14) hx hb hts inlX9 hown hK h9 0 rfl rfl 11 (by decide) (hts _ mw_109) (fun _ h9 => h9) g9 dX9_copy_177 ?_
      clear h9 g9
      obtain ⟨fs9, e119, hF⟩ := mg_o hF
      obtain ⟨x120, n122, s123, E124, e121, hF⟩ := mb_o hF
      have hm := mle e121
      have hM1 := mle1 hF
      have hM2 := mle2 hF
      have hm1 := hm.1
      have hm2 := hm.2.1
      have hFc := my_free hD hS hA
      refine va_calli (va_runV (C := RJx4a65c) (As := [.ref (AD nb ad107 x116)]) (rest := []) ⟨hx, hb, hml, hown, hts⟩ (h_Jx4a65c_addAll_f0b43 l dC dI cy nb ad107 n104 s105 E106 hC (x113) (AD nb ad107 x113) hr115 (x116) (AD nb ad107 x116) hr118 H.size x120 n122 s123 E124 e121) (cwV 1 hts (gV mw_1290 mw_1291 mw_1292 mw_12 mw_1293) rfl rfl rfl (by decide +kernel) ⟨Nat.le_of_ble_eq_true rfl, Nat.le_of_ble_eq_true rfl⟩) (hl_preV hP hK hD hE hS hFc (va_recv hK (rdO_ hP hC hr115 e119) (ci := 14) (q0 := 0) rfl rfl)) rfl rfl hl.1 rfl (lv_room (Nat.le_of_ble_eq_true rfl)) dX9_copy_180 ⟨show n104 - n0 + (n122 - n104) ≤ nz - n0 by omega, show s105 - s0 + (s123 - s105) ≤ sz9 - s0 by omega⟩) hS (fun q _ h => hFc q h) hFc (fun r9 u t H1 locs ht hvm hw hB hz1 hk1 hS => ?_)
      obtain ⟨ad125, hax, hP1, hD1⟩ := hB
      rw [ht] at hP1
      have hP := hP1
      have hD := hD1.weaken (fun k q _ h => hFc q.1 h)
      generalize H1 = H at hP hS ⊢
      have hr110 := hr110.mv hC.1 hax
      have hr111 := hr111.mv hC.1 hax
      have hr112 := hr112.mv hC.1 hax
      have hX := hX.trans hax
      have hC := hm.2.2 hC
      have hN : n0 ≤ n122 := Nat.le_trans hN hm1
      have hT : s0 ≤ s123 := Nat.le_trans hT hm2
      refine W.widen (k := n122 - n0) (n := s123 - s0) (by omega) (by omega) ?_
      clear hP1 hD1 hFc hk1 hz1 hvm ht hax hm hm1 hm2 hM1 hM2
      obtain rfl := hw.symm
      refine lv_pop hx hb dX9_copy_183 rfl ?_
      refine lv_aload_n hx hb dX9_copy_184 rfl (lv_at hl 1 rfl) ?_
      refine lv_aload_n hx hb dX9_copy_185 rfl (lv_at hl 2 rfl) ?_
      obtain ⟨x126, e127, hF⟩ := mg_o hF
      obtain ⟨hr128, fs9, h9, g9⟩ := rdR hP hC hr112 e127
      refine va_get (D := (dC, dI)) (ci := 9) (v := .ref (AD nb ad125 x126)) (C := RX9) (T := TX9) (N := 14) hx hb hts inlX9 hown hK h9 0 rfl rfl 12 (by decide) (hts _ mw_110) (fun _ h9 => h9) g9 dX9_copy_186 ?_
      clear h9 g9
      obtain ⟨p134, e135, hF⟩ := mg_o hF
      obtain ⟨x132, n129, s130, E131, hq, hF⟩ := mn_o hF
      have hM1 := mle1 hF
      have hM2 := mle2 hF
      have hq9 := hq.2.1
      have hq8 := hq.2.2.1
      obtain ⟨hp9, hpA⟩ := ch_in (cy := cy) hC hr128 e135
      refine va_clone hx hb (hml.trans hl.1.symm) hown (hts _ mw_1267) (hts _ mw_1268) (hts _ mw_661) (hts _ mw_662) (hts _ mw_1269) hE.cl1 hK hP hD hS hA (x126) 1 (hp9 () ()) rfl (va_nm_int (hK.2 1 _ rfl).2) (fun i v hv => by obtain ⟨x9, rfl⟩ := arr_int hv; rfl) (Nat.le_of_ble_eq_true rfl) (Nat.le_of_ble_eq_true rfl) (show n122 - n0 + 1 ≤ nz - n0 by omega) (show s123 - s0 + p134.1 ≤ sz9 - s0 by omega) dX9_copy_189 (fun q133 H hK9 hP hD hS => ?_)
      clear hK9 hp9 hpA
      obtain ⟨ad136, hax, hr137, hC9, hw9⟩ := new_w (cy := cy) (nb := nb) (ad := ad125) (e := .inl (1, p134.1, .inl p134.2)) trivial (fun _ => rfl) hC q133 hq
      rw [hw9] at hP hD
      have hr110 := hr110.mv hC.1 hax
      have hr111 := hr111.mv hC.1 hax
      have hr112 := hr112.mv hC.1 hax
      have hX := hX.trans hax
      have hC := hC9
      obtain ⟨-, hq1, hq2, -, -⟩ := hq
      have hN : n0 ≤ n129 := by omega
      have hT : s0 ≤ s130 := by omega
      refine W.widen (k := n129 - n0) (n := s130 - s0) (by omega) (by omega) ?_
      clear hM1 hM2 hax hC9 hw9 hq1 hq2 hq8 hq9
      obtain ⟨⟨m9, f9⟩, e138, hF⟩ := mg_o hF
      refine va_castA hx hb hown (hts _ mw_1270) (rdP_ hP hC hr137 e138) 0 rfl (va_nm_int (hK.2 1 _ rfl).2) dX9_copy_192 ?_
      obtain ⟨E139, e140, hF⟩ := mw_o hF
      obtain ⟨q9, fs9, h9, ez9⟩ := wrR (cy := cy) hC hr111 hr137 e140
      refine va_put (D := (dC, dI)) (ci := 9) (v := .ref q133) (ty := (.array .int)) (C := RX9) (T := TX9) (N := 14) hx hb hts inlX9 tyX9 tyX9_ok nmX9 hown hK hP hD hS q9 h9 rfl 12 (by decide) (hts _ mw_110) (fun _ h9 => h9) rfl (by decide +kernel) rfl rfl (Nat.le_of_ble_eq_true rfl) dX9_copy_195 (fun H locs hP hD hS => ?_)
      rw [ez9] at hP hD
      clear ez9 h9
      have hC := sR_clo e140 hC
      refine lv_aload_n hx hb dX9_copy_198 rfl (lv_at hl 1 rfl) ?_
      refine lv_aload_n hx hb dX9_copy_199 rfl (lv_at hl 2 rfl) ?_
      obtain ⟨x141, e142, hF⟩ := mg_o hF
      obtain ⟨hr143, fs9, h9, g9⟩ := rdR hP hC hr112 e142
      refine va_get (D := (dC, dI)) (ci := 9) (v := .ref (AD nb ad136 x141)) (C := RX9) (T := TX9) (N := 14) hx hb hts inlX9 hown hK h9 0 rfl rfl 13 (by decide) (hts _ mw_111) (fun _ h9 => h9) g9 dX9_copy_200 ?_
      clear h9 g9
      obtain ⟨p149, e150, hF⟩ := mg_o hF
      obtain ⟨x147, n144, s145, E146, hq, hF⟩ := mn_o hF
      have hM1 := mle1 hF
      have hM2 := mle2 hF
      have hq9 := hq.2.1
      have hq8 := hq.2.2.1
      obtain ⟨hp9, hpA⟩ := ch_in (cy := cy) hC hr143 e150
      refine va_clone hx hb (hml.trans hl.1.symm) hown (hts _ mw_1267) (hts _ mw_1268) (hts _ mw_661) (hts _ mw_662) (hts _ mw_1269) hE.cl1 hK hP hD hS hA (x141) 1 (hp9 () ()) rfl (va_nm_int (hK.2 1 _ rfl).2) (fun i v hv => by obtain ⟨x9, rfl⟩ := arr_int hv; rfl) (Nat.le_of_ble_eq_true rfl) (Nat.le_of_ble_eq_true rfl) (show n129 - n0 + 1 ≤ nz - n0 by omega) (show s130 - s0 + p149.1 ≤ sz9 - s0 by omega) dX9_copy_203 (fun q148 H hK9 hP hD hS => ?_)
      clear hK9 hp9 hpA
      obtain ⟨ad151, hax, hr152, hC9, hw9⟩ := new_w (cy := cy) (nb := nb) (ad := ad136) (e := .inl (1, p149.1, .inl p149.2)) trivial (fun _ => rfl) hC q148 hq
      rw [hw9] at hP hD
      have hr110 := hr110.mv hC.1 hax
      have hr111 := hr111.mv hC.1 hax
      have hr112 := hr112.mv hC.1 hax
      have hX := hX.trans hax
      have hC := hC9
      obtain ⟨-, hq1, hq2, -, -⟩ := hq
      have hN : n0 ≤ n144 := by omega
      have hT : s0 ≤ s145 := by omega
      refine W.widen (k := n144 - n0) (n := s145 - s0) (by omega) (by omega) ?_
      clear hM1 hM2 hax hC9 hw9 hq1 hq2 hq8 hq9
      obtain ⟨⟨m9, f9⟩, e153, hF⟩ := mg_o hF
      refine va_castA hx hb hown (hts _ mw_1270) (rdP_ hP hC hr152 e153) 0 rfl (va_nm_int (hK.2 1 _ rfl).2) dX9_copy_206 ?_
      obtain ⟨E154, e155, hF⟩ := mw_o hF
      obtain ⟨q9, fs9, h9, ez9⟩ := wrR (cy := cy) hC hr111 hr152 e155
      refine va_put (D := (dC, dI)) (ci := 9) (v := .ref q148) (ty := (.array .int)) (C := RX9) (T := TX9) (N := 14) hx hb hts inlX9 tyX9 tyX9_ok nmX9 hown hK hP hD hS q9 h9 rfl 13 (by decide) (hts _ mw_111) (fun _ h9 => h9) rfl (by decide +kernel) rfl rfl (Nat.le_of_ble_eq_true rfl) dX9_copy_209 (fun H locs hP hD hS => ?_)
      rw [ez9] at hP hD
      clear ez9 h9
      have hC := sR_clo e155 hC
      refine lv_aload_n hx hb dX9_copy_212 rfl (lv_at hl 1 rfl) ?_
      obtain ⟨ht9, hn9, hs9, hE9⟩ := mr_o hF
      subst hn9 hs9 hE9
      have hX9 := hX
      rw [hQ]
      exact W.aret (v := .ref q5) hx hb hr (by first | exact Or.inl ⟨_, rfl⟩ | exact Or.inr ⟨_, rfl⟩) (Or.inr ⟨_, rfl⟩) (fun t ht hW => ⟨⟨(), q5, rfl, trivial, _, hX, (by rw [← ht9]; exact hr111), by rw [ht]; exact hP, hD⟩, hS.F ht⟩) hS.2.2 dX9_copy_213
    have hK156 := mle1 hF
    have hK157 := mle2 hF
    clear hF hm
    have loop158 : ∀ (m159 : Nat)  (n161 s162 : Nat) (E163 : HE), (H_X9_copy_L138 x94 x4 a0 m159 ).1 (n161, s162, E163) = some (t102, n104, s105, E106) → clo n161 E163 → n0 ≤ n161 → s0 ≤ s162 → ∀ (ad160 : Nat → Nat) (H : Heap) (locs : List Loc) (ls : Array Slot), axh n0 ad0 n161 ad160 → rf nb ad160 n161 (x94) ((AD nb ad99 x94)) → rf nb ad160 n161 (x4) (q5) → rf nb ad160 n161 (a0) (Aa0) → va_P (dC, dI) vwCl (CH cy nb ad160 n161 E163) H → va_D A (CH cy nb ad160 n161 E163) → va_S A s.heap H locs → lv_has ls 4 [(2, .ref (AD nb ad99 x94)), (1, .ref q5), (0, .ref Aa0)] → W p l e (headSpec (wsg yX9_copy cX9_copy 4 (some (.object "CardLineLaw$Line"))) ({ frames := 14, cells := nz - n0, slots := sz9 - s0, locals := 900 })).room s m ([.ref Aa0] : List Value).toArray below meth c H locs (n161 - n0) (s162 - s0) Qn (F0 m 138 ls []) := by
      intro m159
      induction m159 with
      | zero => intro  n161 s162 E163 hF; exact (m0_o hF).elim
      | succ m159 ih =>
        intro  n161 s162 E163 hF hC hN hT ad160 H locs ls hX hr164 hr165 hr166 hP hD hS hl
        simp only [H_X9_copy_L138] at hF
        refine lv_aload_n hx hb dX9_copy_138 rfl (lv_at hl 0 rfl) ?_
        obtain ⟨fs9, e167, hF⟩ := mg_o hF
        obtain ⟨x168, n170, s171, E172, e169, hF⟩ := mb_o hF
        have hm := mle e169
        have hM1 := mle1 hF
        have hM2 := mle2 hF
        have hm1 := hm.1
        have hm2 := hm.2.1
        have hFc := my_free hD hS hA
        refine va_callFi (va_runF (C := RJx35411) (As := []) (rest := []) (hK.1 13 _ rfl).2 ⟨hx, hb, hml, hown, hts⟩ (h_Jx35411_hasNext_aae02 l dC dI cy nb ad160 n161 s162 E163 hC (x94) (AD nb ad99 x94) hr164 H.size x168 n170 s171 E172 e169) (va_cwF 0 hts (gF mw_192 mw_193 mw_194 mw_182 mw_195) rfl rfl rfl hE.fw1 (by decide +kernel) ⟨Nat.le_of_ble_eq_true rfl, Nat.le_of_ble_eq_true rfl⟩) (hl_preV hP hK hD hE hS hFc (va_recv hK (rdO_ hP hC hr164 e167) (ci := 13) (q0 := 0) rfl rfl)) rfl rfl hl.1 rfl (lv_room (Nat.le_of_ble_eq_true rfl)) dX9_copy_139 ⟨show n161 - n0 + (n170 - n161) ≤ nz - n0 by omega, show s162 - s0 + (s171 - s162) ≤ sz9 - s0 by omega⟩) hS (fun q _ h => hFc q h) hFc (fun r9 u t H1 locs ht hvm hw hB hz1 hk1 hS => ?_)
        obtain ⟨ad173, hax, hP1, hD1⟩ := hB
        rw [ht] at hP1
        have hP := hP1
        have hD := hD1.weaken (fun k q _ h => hFc q.1 h)
        generalize H1 = H at hP hS ⊢
        have hr164 := hr164.mv hC.1 hax
        have hr165 := hr165.mv hC.1 hax
        have hr166 := hr166.mv hC.1 hax
        have hX := hX.trans hax
        have hC := hm.2.2 hC
        have hN : n0 ≤ n170 := Nat.le_trans hN hm1
        have hT : s0 ≤ s171 := Nat.le_trans hT hm2
        refine W.widen (k := n170 - n0) (n := s171 - s0) (by omega) (by omega) ?_
        clear hP1 hD1 hFc hk1 hz1 hvm ht hax hm hm1 hm2 hM1 hM2
        obtain rfl := hw.symm
        refine lv_if_eq (tgt := 172) hx hb dX9_copy_144 (by decide) (fun c174 => ?_) (fun c174 => ?_)
        · skip
          rw [if_pos c174] at hF
          obtain ⟨ht9, hn9, hs9, hE9⟩ := mr_o hF
          subst hn9 hs9 hE9
          subst ht9
          have hl := lv_sub (l' := [(2, .ref (AD nb ad99 x94)), (1, .ref q5), (0, .ref Aa0)]) hl [0, 1, 2] rfl
          exact kx108 _ _ _ _ hX hr164 hr165 hr166 hP hD hS hl
        · skip
          rw [if_neg c174] at hF
          refine lv_aload_n hx hb dX9_copy_147 rfl (lv_at hl 0 rfl) ?_
          obtain ⟨fs9, e175, hF⟩ := mg_o hF
          obtain ⟨x176, n178, s179, E180, e177, hF⟩ := mb_o hF
          have hm := mle e177
          have hM1 := mle1 hF
          have hM2 := mle2 hF
          have hm1 := hm.1
          have hm2 := hm.2.1
          have hFc := my_free hD hS hA
          refine va_callFr (va_runF (C := RJx35411) (As := []) (rest := []) (hK.1 13 _ rfl).2 ⟨hx, hb, hml, hown, hts⟩ (h_Jx35411_next_0502b l dC dI cy nb ad173 n170 s171 E172 hC (x94) (AD nb ad99 x94) hr164 H.size x176 n178 s179 E180 e177) (va_cwF 0 hts (gF mw_197 mw_198 mw_199 mw_182 mw_200) rfl rfl rfl hE.fw2 (by decide +kernel) ⟨Nat.le_of_ble_eq_true rfl, Nat.le_of_ble_eq_true rfl⟩) (hl_preV hP hK hD hE hS hFc (va_recv hK (rdO_ hP hC hr164 e175) (ci := 13) (q0 := 0) rfl rfl)) rfl rfl hl.1 rfl (lv_room (Nat.le_of_ble_eq_true rfl)) dX9_copy_148 ⟨show n170 - n0 + (n178 - n170) ≤ nz - n0 by omega, show s171 - s0 + (s179 - s171) ≤ sz9 - s0 by omega⟩) hS (fun q _ h => hFc q h) hFc (fun u ra t H1 locs ht hvm hw hB hz1 hk1 hS => ?_)
          obtain ⟨ad181, hax, hr182, hP1, hD1⟩ := hB
          rw [ht] at hP1
          have hP := hP1
          have hD := hD1.weaken (fun k q _ h => hFc q.1 h)
          generalize H1 = H at hP hS ⊢
          have hr164 := hr164.mv hC.1 hax
          have hr165 := hr165.mv hC.1 hax
          have hr166 := hr166.mv hC.1 hax
          have hX := hX.trans hax
          have hC := hm.2.2 hC
          have hN : n0 ≤ n178 := Nat.le_trans hN hm1
          have hT : s0 ≤ s179 := Nat.le_trans hT hm2
          refine W.widen (k := n178 - n0) (n := s179 - s0) (by omega) (by omega) ?_
          clear hP1 hD1 hFc hk1 hz1 hvm ht hax hm hm1 hm2 hM1 hM2
          refine my_top (y := .ref (AD nb ad181 x176)) (congrArg Value.ref hr182.2.symm) ?_
          have hr182 := rf_self hr182
          obtain ⟨fs9, e184, hF⟩ := mg_o hF
          refine va_castS hx hb hown (hts _ mw_174) (hK.1 8 _ rfl).2 (va_recv hK (rdO_ hP hC hr182 e184) (ci := 8) (q0 := 0) rfl rfl) dX9_copy_153 ?_
          refine lv_astore_n (lv' := [(3, .ref (AD nb ad181 x176)), (2, .ref (AD nb ad99 x94)), (1, .ref q5), (0, .ref Aa0)]) hx hb dX9_copy_156 rfl hl (by decide) rfl (fun ls hl => ?_)
          refine lv_aload_n hx hb dX9_copy_157 rfl (lv_at hl 2 rfl) ?_
          obtain ⟨x185, e186, hF⟩ := mg_o hF
          obtain ⟨hr187, fs9, h9, g9⟩ := rdR hP hC hr165 e186
          refine va_get (D := (dC, dI)) (ci := 9) (v := .ref (AD nb ad181 x185)) (C := RX9) (T := TX9) (N := 14) hx hb hts inlX9 hown hK h9 0 rfl rfl 10 (by decide) (hts _ mw_108) (fun _ h9 => h9) g9 dX9_copy_158 ?_
          clear h9 g9
          refine lv_aload_n hx hb dX9_copy_161 rfl (lv_at hl 0 rfl) ?_
          obtain ⟨fs9, e188, hF⟩ := mg_o hF
          obtain ⟨x189, n191, s192, E193, e190, hF⟩ := mb_o hF
          have hm := mle e190
          have hM1 := mle1 hF
          have hM2 := mle2 hF
          have hm1 := hm.1
          have hm2 := hm.2.1
          have hFc := my_free hD hS hA
          refine va_callr (va_runV (C := RX8) (As := []) (rest := [.ref (AD nb ad181 x185)]) ⟨hx, hb, hml, hown, hts⟩ (h_X8_copy l dC dI cy nb ad181 n178 s179 E180 hC (x176) (AD nb ad181 x176) hr182 H.size x189 n191 s192 E193 e190) (cwV 0 hts (gV mw_1298 mw_1299 mw_1300 mw_613 mw_1301) rfl rfl rfl (by decide +kernel) ⟨Nat.le_of_ble_eq_true rfl, Nat.le_of_ble_eq_true rfl⟩) (hl_preV hP hK hD hE hS hFc (va_recv hK (rdO_ hP hC hr182 e188) (ci := 8) (q0 := 0) rfl rfl)) rfl rfl hl.1 rfl (lv_room (Nat.le_of_ble_eq_true rfl)) dX9_copy_162 ⟨show n178 - n0 + (n191 - n178) ≤ nz - n0 by omega, show s179 - s0 + (s192 - s179) ≤ sz9 - s0 by omega⟩) hS (fun q _ h => hFc q h) hFc (fun u ra t H1 locs ht hvm hw hB hz1 hk1 hS => ?_)
          obtain ⟨ad194, hax, hr195, hP1, hD1⟩ := hB
          rw [ht] at hP1
          have hP := hP1
          have hD := hD1.weaken (fun k q _ h => hFc q.1 h)
          generalize H1 = H at hP hS ⊢
          have hr182 := hr182.mv hC.1 hax
          have hr164 := hr164.mv hC.1 hax
          have hr165 := hr165.mv hC.1 hax
          have hr166 := hr166.mv hC.1 hax
          have hr187 := hr187.mv hC.1 hax
          have hX := hX.trans hax
          have hC := hm.2.2 hC
          have hN : n0 ≤ n191 := Nat.le_trans hN hm1
          have hT : s0 ≤ s192 := Nat.le_trans hT hm2
          refine W.widen (k := n191 - n0) (n := s192 - s0) (by omega) (by omega) ?_
          clear hP1 hD1 hFc hk1 hz1 hvm ht hax hm hm1 hm2 hM1 hM2
          refine my_top (y := .ref (AD nb ad194 x189)) (congrArg Value.ref hr195.2.symm) ?_
          have hr195 := rf_self hr195
          obtain ⟨fs9, e197, hF⟩ := mg_o hF
          obtain ⟨x198, n200, s201, E202, e199, hF⟩ := mb_o hF
          have hm := mle e199
          have hM1 := mle1 hF
          have hM2 := mle2 hF
          have hm1 := hm.1
          have hm2 := hm.2.1
          have hFc := my_free hD hS hA
          refine va_calli (va_runV (C := RJx4a65c) (As := [.ref (AD nb ad194 x189)]) (rest := []) ⟨hx, hb, hml, hown, hts⟩ (h_Jx4a65c_add_9ea2d l dC dI cy nb ad194 n191 s192 E193 hC (x185) (AD nb ad181 x185) hr187 (x189) (AD nb ad194 x189) hr195 H.size x198 n200 s201 E202 e199) (cwV 1 hts (gV mw_1289 mw_841 mw_842 mw_12 mw_843) rfl rfl rfl (by decide +kernel) ⟨Nat.le_of_ble_eq_true rfl, Nat.le_of_ble_eq_true rfl⟩) (hl_preV hP hK hD hE hS hFc (va_recv hK (rdO_ hP hC hr187 e197) (ci := 14) (q0 := 0) rfl rfl)) rfl rfl hl.1 rfl (lv_room (Nat.le_of_ble_eq_true rfl)) dX9_copy_165 ⟨show n191 - n0 + (n200 - n191) ≤ nz - n0 by omega, show s192 - s0 + (s201 - s192) ≤ sz9 - s0 by omega⟩) hS (fun q _ h => hFc q h) hFc (fun r9 u t H1 locs ht hvm hw hB hz1 hk1 hS => ?_)
          obtain ⟨ad203, hax, hP1, hD1⟩ := hB
          rw [ht] at hP1
          have hP := hP1
          have hD := hD1.weaken (fun k q _ h => hFc q.1 h)
          generalize H1 = H at hP hS ⊢
          have hr182 := hr182.mv hC.1 hax
          have hr164 := hr164.mv hC.1 hax
          have hr165 := hr165.mv hC.1 hax
          have hr166 := hr166.mv hC.1 hax
          have hX := hX.trans hax
          have hC := hm.2.2 hC
          have hN : n0 ≤ n200 := Nat.le_trans hN hm1
          have hT : s0 ≤ s201 := Nat.le_trans hT hm2
          refine W.widen (k := n200 - n0) (n := s201 - s0) (by omega) (by omega) ?_
          clear hP1 hD1 hFc hk1 hz1 hvm ht hax hm hm1 hm2 hM1 hM2
          obtain rfl := hw.symm
          refine lv_pop hx hb dX9_copy_168 rfl ?_
          refine lv_goto (tgt := 138) hx hb dX9_copy_169 (by decide) ?_
          have hl := lv_sub (l' := [(2, .ref (AD nb ad99 x94)), (1, .ref q5), (0, .ref Aa0)]) hl [1, 2, 3] rfl
          exact ih  _ _ _ hF hC hN hT _ _ _ _ hX hr164 hr165 hr166 hP hD hS hl
    have hl := lv_sub (l' := [(2, .ref (AD nb ad99 x94)), (1, .ref q5), (0, .ref Aa0)]) hl [0, 1, 2] rfl
    exact loop158 FUEL  _ _ _ hL103 hC hN hT _ _ _ _ hX hr100 hr62 hr63 hP hD hS hl
  have hK204 := mle1 hF
  have hK205 := mle2 hF
  clear hF hm
  have loop206 : ∀ (m207 : Nat)  (n209 s210 : Nat) (E211 : HE), (H_X9_copy_L72 x45 x4 a0 m207 ).1 (n209, s210, E211) = some (t53, n55, s56, E57) → clo n209 E211 → n0 ≤ n209 → s0 ≤ s210 → ∀ (ad208 : Nat → Nat) (H : Heap) (locs : List Loc) (ls : Array Slot), axh n0 ad0 n209 ad208 → rf nb ad208 n209 (x45) ((AD nb ad50 x45)) → rf nb ad208 n209 (x4) (q5) → rf nb ad208 n209 (a0) (Aa0) → va_P (dC, dI) vwCl (CH cy nb ad208 n209 E211) H → va_D A (CH cy nb ad208 n209 E211) → va_S A s.heap H locs → lv_has ls 4 [(2, .ref (AD nb ad50 x45)), (1, .ref q5), (0, .ref Aa0)] → W p l e (headSpec (wsg yX9_copy cX9_copy 4 (some (.object "CardLineLaw$Line"))) ({ frames := 14, cells := nz - n0, slots := sz9 - s0, locals := 900 })).room s m ([.ref Aa0] : List Value).toArray below meth c H locs (n209 - n0) (s210 - s0) Qn (F0 m 72 ls []) := by
    intro m207
    induction m207 with
    | zero => intro  n209 s210 E211 hF; exact (m0_o hF).elim
    | succ m207 ih =>
      intro  n209 s210 E211 hF hC hN hT ad208 H locs ls hX hr212 hr213 hr214 hP hD hS hl
      simp only [H_X9_copy_L72] at hF
      refine lv_aload_n hx hb dX9_copy_72 rfl (lv_at hl 0 rfl) ?_
      obtain ⟨fs9, e215, hF⟩ := mg_o hF
      obtain ⟨x216, n218, s219, E220, e217, hF⟩ := mb_o hF
      have hm := mle e217
      have hM1 := mle1 hF
      have hM2 := mle2 hF
      have hm1 := hm.1
      have hm2 := hm.2.1
      have hFc := my_free hD hS hA
      refine va_callFi (va_runF (C := RJx35411) (As := []) (rest := []) (hK.1 13 _ rfl).2 ⟨hx, hb, hml, hown, hts⟩ (h_Jx35411_hasNext_aae02 l dC dI cy nb ad208 n209 s210 E211 hC (x45) (AD nb ad50 x45) hr212 H.size x216 n218 s219 E220 e217) (va_cwF 0 hts (gF mw_192 mw_193 mw_194 mw_182 mw_195) rfl rfl rfl hE.fw1 (by decide +kernel) ⟨Nat.le_of_ble_eq_true rfl, Nat.le_of_ble_eq_true rfl⟩) (hl_preV hP hK hD hE hS hFc (va_recv hK (rdO_ hP hC hr212 e215) (ci := 13) (q0 := 0) rfl rfl)) rfl rfl hl.1 rfl (lv_room (Nat.le_of_ble_eq_true rfl)) dX9_copy_73 ⟨show n209 - n0 + (n218 - n209) ≤ nz - n0 by omega, show s210 - s0 + (s219 - s210) ≤ sz9 - s0 by omega⟩) hS (fun q _ h => hFc q h) hFc (fun r9 u t H1 locs ht hvm hw hB hz1 hk1 hS => ?_)
      obtain ⟨ad221, hax, hP1, hD1⟩ := hB
      rw [ht] at hP1
      have hP := hP1
      have hD := hD1.weaken (fun k q _ h => hFc q.1 h)
      generalize H1 = H at hP hS ⊢
      have hr212 := hr212.mv hC.1 hax
      have hr213 := hr213.mv hC.1 hax
      have hr214 := hr214.mv hC.1 hax
      have hX := hX.trans hax
      have hC := hm.2.2 hC
      have hN : n0 ≤ n218 := Nat.le_trans hN hm1
      have hT : s0 ≤ s219 := Nat.le_trans hT hm2
      refine W.widen (k := n218 - n0) (n := s219 - s0) (by omega) (by omega) ?_
      clear hP1 hD1 hFc hk1 hz1 hvm ht hax hm hm1 hm2 hM1 hM2
      obtain rfl := hw.symm
      refine lv_if_eq (tgt := 106) hx hb dX9_copy_78 (by decide) (fun c222 => ?_) (fun c222 => ?_)
      · skip
        rw [if_pos c222] at hF
        obtain ⟨ht9, hn9, hs9, hE9⟩ := mr_o hF
        subst hn9 hs9 hE9
        subst ht9
        have hl := lv_sub (l' := [(2, .ref (AD nb ad50 x45)), (1, .ref q5), (0, .ref Aa0)]) hl [0, 1, 2] rfl
        exact kx59 _ _ _ _ hX hr212 hr213 hr214 hP hD hS hl
      · skip
        rw [if_neg c222] at hF
        refine lv_aload_n hx hb dX9_copy_81 rfl (lv_at hl 0 rfl) ?_
        obtain ⟨fs9, e223, hF⟩ := mg_o hF
        obtain ⟨x224, n226, s227, E228, e225, hF⟩ := mb_o hF
        have hm := mle e225
        have hM1 := mle1 hF
        have hM2 := mle2 hF
        have hm1 := hm.1
        have hm2 := hm.2.1
        have hFc := my_free hD hS hA
        refine va_callFr (va_runF (C := RJx35411) (As := []) (rest := []) (hK.1 13 _ rfl).2 ⟨hx, hb, hml, hown, hts⟩ (h_Jx35411_next_0502b l dC dI cy nb ad221 n218 s219 E220 hC (x45) (AD nb ad50 x45) hr212 H.size x224 n226 s227 E228 e225) (va_cwF 0 hts (gF mw_197 mw_198 mw_199 mw_182 mw_200) rfl rfl rfl hE.fw2 (by decide +kernel) ⟨Nat.le_of_ble_eq_true rfl, Nat.le_of_ble_eq_true rfl⟩) (hl_preV hP hK hD hE hS hFc (va_recv hK (rdO_ hP hC hr212 e223) (ci := 13) (q0 := 0) rfl rfl)) rfl rfl hl.1 rfl (lv_room (Nat.le_of_ble_eq_true rfl)) dX9_copy_82 ⟨show n218 - n0 + (n226 - n218) ≤ nz - n0 by omega, show s219 - s0 + (s227 - s219) ≤ sz9 - s0 by omega⟩) hS (fun q _ h => hFc q h) hFc (fun u ra t H1 locs ht hvm hw hB hz1 hk1 hS => ?_)
        obtain ⟨ad229, hax, hr230, hP1, hD1⟩ := hB
        rw [ht] at hP1
        have hP := hP1
        have hD := hD1.weaken (fun k q _ h => hFc q.1 h)
        generalize H1 = H at hP hS ⊢
        have hr212 := hr212.mv hC.1 hax
        have hr213 := hr213.mv hC.1 hax
        have hr214 := hr214.mv hC.1 hax
        have hX := hX.trans hax
        have hC := hm.2.2 hC
        have hN : n0 ≤ n226 := Nat.le_trans hN hm1
        have hT : s0 ≤ s227 := Nat.le_trans hT hm2
        refine W.widen (k := n226 - n0) (n := s227 - s0) (by omega) (by omega) ?_
        clear hP1 hD1 hFc hk1 hz1 hvm ht hax hm hm1 hm2 hM1 hM2
        refine my_top (y := .ref (AD nb ad229 x224)) (congrArg Value.ref hr230.2.symm) ?_
        have hr230 := rf_self hr230
        obtain ⟨fs9, e232, hF⟩ := mg_o hF
        refine va_castS hx hb hown (hts _ mw_1266) (hK.1 10 _ rfl).2 (va_recv hK (rdO_ hP hC hr230 e232) (ci := 10) (q0 := 0) rfl rfl) dX9_copy_87 ?_
        refine lv_astore_n (lv' := [(3, .ref (AD nb ad229 x224)), (2, .ref (AD nb ad50 x45)), (1, .ref q5), (0, .ref Aa0)]) hx hb dX9_copy_90 rfl hl (by decide) rfl (fun ls hl => ?_)
        refine lv_aload_n hx hb dX9_copy_91 rfl (lv_at hl 2 rfl) ?_
        obtain ⟨x233, e234, hF⟩ := mg_o hF
        obtain ⟨hr235, fs9, h9, g9⟩ := rdR hP hC hr213 e234
        refine va_get (D := (dC, dI)) (ci := 9) (v := .ref (AD nb ad229 x233)) (C := RX9) (T := TX9) (N := 14) hx hb hts inlX9 hown hK h9 0 rfl rfl 7 (by decide) (hts _ mw_105) (fun _ h9 => h9) g9 dX9_copy_92 ?_
        clear h9 g9
        refine lv_aload_n hx hb dX9_copy_95 rfl (lv_at hl 0 rfl) ?_
        obtain ⟨fs9, e236, hF⟩ := mg_o hF
        obtain ⟨x237, n239, s240, E241, e238, hF⟩ := mb_o hF
        have hm := mle e238
        have hM1 := mle1 hF
        have hM2 := mle2 hF
        have hm1 := hm.1
        have hm2 := hm.2.1
        have hFc := my_free hD hS hA
        refine va_callr (va_runV (C := RX10) (As := []) (rest := [.ref (AD nb ad229 x233)]) ⟨hx, hb, hml, hown, hts⟩ (h_X10_copy l dC dI cy nb ad229 n226 s227 E228 hC (x224) (AD nb ad229 x224) hr230 H.size x237 n239 s240 E241 e238) (cwV 0 hts (gV mw_1272 mw_1273 mw_1274 mw_607 mw_1275) rfl rfl rfl (by decide +kernel) ⟨Nat.le_of_ble_eq_true rfl, Nat.le_of_ble_eq_true rfl⟩) (hl_preV hP hK hD hE hS hFc (va_recv hK (rdO_ hP hC hr230 e236) (ci := 10) (q0 := 0) rfl rfl)) rfl rfl hl.1 rfl (lv_room (Nat.le_of_ble_eq_true rfl)) dX9_copy_96 ⟨show n226 - n0 + (n239 - n226) ≤ nz - n0 by omega, show s227 - s0 + (s240 - s227) ≤ sz9 - s0 by omega⟩) hS (fun q _ h => hFc q h) hFc (fun u ra t H1 locs ht hvm hw hB hz1 hk1 hS => ?_)
        obtain ⟨ad242, hax, hr243, hP1, hD1⟩ := hB
        rw [ht] at hP1
        have hP := hP1
        have hD := hD1.weaken (fun k q _ h => hFc q.1 h)
        generalize H1 = H at hP hS ⊢
        have hr230 := hr230.mv hC.1 hax
        have hr212 := hr212.mv hC.1 hax
        have hr213 := hr213.mv hC.1 hax
        have hr214 := hr214.mv hC.1 hax
        have hr235 := hr235.mv hC.1 hax
        have hX := hX.trans hax
        have hC := hm.2.2 hC
        have hN : n0 ≤ n239 := Nat.le_trans hN hm1
        have hT : s0 ≤ s240 := Nat.le_trans hT hm2
        refine W.widen (k := n239 - n0) (n := s240 - s0) (by omega) (by omega) ?_
        clear hP1 hD1 hFc hk1 hz1 hvm ht hax hm hm1 hm2 hM1 hM2
        refine my_top (y := .ref (AD nb ad242 x237)) (congrArg Value.ref hr243.2.symm) ?_
        have hr243 := rf_self hr243
        obtain ⟨fs9, e245, hF⟩ := mg_o hF
        obtain ⟨x246, n248, s249, E250, e247, hF⟩ := mb_o hF
        have hm := mle e247
        have hM1 := mle1 hF
        have hM2 := mle2 hF
        have hm1 := hm.1
        have hm2 := hm.2.1
        have hFc := my_free hD hS hA
        refine va_calli (va_runV (C := RJx4a65c) (As := [.ref (AD nb ad242 x237)]) (rest := []) ⟨hx, hb, hml, hown, hts⟩ (h_Jx4a65c_add_9ea2d l dC dI cy nb ad242 n239 s240 E241 hC (x233) (AD nb ad229 x233) hr235 (x237) (AD nb ad242 x237) hr243 H.size x246 n248 s249 E250 e247) (cwV 1 hts (gV mw_1289 mw_841 mw_842 mw_12 mw_843) rfl rfl rfl (by decide +kernel) ⟨Nat.le_of_ble_eq_true rfl, Nat.le_of_ble_eq_true rfl⟩) (hl_preV hP hK hD hE hS hFc (va_recv hK (rdO_ hP hC hr235 e245) (ci := 14) (q0 := 0) rfl rfl)) rfl rfl hl.1 rfl (lv_room (Nat.le_of_ble_eq_true rfl)) dX9_copy_99 ⟨show n239 - n0 + (n248 - n239) ≤ nz - n0 by omega, show s240 - s0 + (s249 - s240) ≤ sz9 - s0 by omega⟩) hS (fun q _ h => hFc q h) hFc (fun r9 u t H1 locs ht hvm hw hB hz1 hk1 hS => ?_)
        obtain ⟨ad251, hax, hP1, hD1⟩ := hB
        rw [ht] at hP1
        have hP := hP1
        have hD := hD1.weaken (fun k q _ h => hFc q.1 h)
        generalize H1 = H at hP hS ⊢
        have hr230 := hr230.mv hC.1 hax
        have hr212 := hr212.mv hC.1 hax
        have hr213 := hr213.mv hC.1 hax
        have hr214 := hr214.mv hC.1 hax
        have hX := hX.trans hax
        have hC := hm.2.2 hC
        have hN : n0 ≤ n248 := Nat.le_trans hN hm1
        have hT : s0 ≤ s249 := Nat.le_trans hT hm2
        refine W.widen (k := n248 - n0) (n := s249 - s0) (by omega) (by omega) ?_
        clear hP1 hD1 hFc hk1 hz1 hvm ht hax hm hm1 hm2 hM1 hM2
        obtain rfl := hw.symm
        refine lv_pop hx hb dX9_copy_102 rfl ?_
        refine lv_goto (tgt := 72) hx hb dX9_copy_103 (by decide) ?_
        have hl := lv_sub (l' := [(2, .ref (AD nb ad50 x45)), (1, .ref q5), (0, .ref Aa0)]) hl [1, 2, 3] rfl
        exact ih  _ _ _ hF hC hN hT _ _ _ _ hX hr212 hr213 hr214 hP hD hS hl
  have hl := lv_sub (l' := [(2, .ref (AD nb ad50 x45)), (1, .ref q5), (0, .ref Aa0)]) hl [0, 1, 2] rfl
  exact loop206 FUEL  _ _ _ hL54 hC hN hT _ _ _ _ hX hr51 hr7 ha0 hP hD hS hl
noncomputable def H_X9_many_L10 (x5 : Nat) (a0 : Nat) (a1 : Int32) : Nat → Int32 → MH (Int32)
  | 0, _ => m0
  | m26 + 1, y31 => mb (mg fun n E => fO n E (x5) 13) fun _ => mb (H_Jx35411_hasNext_aae02 (x5)) fun x35 => if x35 = 0 then (mr y31) else (mb (mg fun n E => fO n E (x5) 13) fun _ => mb (H_Jx35411_next_0502b (x5)) fun x43 => mb (mg fun n E => fO n E (x43) 8) fun _ => mb (rI (x43) 8 3) fun x52 => mb (if x52 = a1 then (mr (1 : Int32)) else (mr (0 : Int32)) : MH (Int32)) fun t55 => H_X9_many_L10 x5 a0 a1 m26 ((y31 + t55)))
noncomputable def H_X9_many (a0 : Nat) (a1 : Int32) : MH Int32 := mb (rR (a0) 9 10) fun x1 => mb (mg fun n E => fO n E (x1) 14) fun _ => mb (H_Jx4a65c_iterator_32c93 (x1)) fun x5 => mb (H_X9_many_L10 x5 a0 a1 FUEL ((0 : Int32))) fun t13 => mr t13
set_option maxHeartbeats 4000000 in
set_option maxRecDepth 100000 in
theorem h_X9_many (l : Launch) (dC : Nat → ClassId) (dI : Nat → Nat → Nat) (cy : Nat → ClassId) (nb : Nat → Nat) (ad0 : Nat → Nat) (n0 s0 : Nat) (E0 : HE) (hC : clo n0 E0) (a0 Aa0 : Nat) (ha0 : rf nb ad0 n0 a0 Aa0) (a1 : Int32) (sz : Nat) (ro : Int32) (nz sz9 : Nat) (Ez : HE) (hF : (H_X9_many a0 a1).1 (n0, s0, E0) = some (ro, nz, sz9, Ez)) : Met l yX9_many (wsg yX9_many cX9_many 5 (some .int)) ({ frames := 10, cells := nz - n0, slots := sz9 - s0, locals := 500 }) (va_Pc [.ref Aa0, .int a1] (fun U => U.heap.size = sz ∧ va_P (dC, dI) vwCl (CH cy nb ad0 n0 E0) U.heap ∧ va_K (dC, dI) vwCl (tyL cy) U ∧ va_D (fun _ => True) (CH cy nb ad0 n0 E0) ∧ GL nb (va_A (CH cy nb ad0 n0 E0) sz) U)) (va_Qi (fun (r : Int32) (_ : Unit) => r = ro) (fun _ t => ∃ ad2 : Nat → Nat, axh n0 ad0 nz ad2 ∧ va_P (dC, dI) vwCl (CH cy nb ad2 nz Ez) t.heap ∧ va_D (va_A (CH cy nb ad0 n0 E0) sz) (CH cy nb ad2 nz Ez)) (va_A (CH cy nb ad0 n0 E0) sz)) (nz - n0) (sz9 - s0) (va_A (CH cy nb ad0 n0 E0) sz) := by
  refine Met.ofW (cc := cX9_many) (maxL := 5) (ret := (some .int)) (by decide) rfl ?_
  intro p e s m args below meth c s₁ B hml hv
  obtain ⟨rfl, hsz, hP, hK, hD0, hE⟩ := hv
  have hx := B.exec
  have hb := B.bytes
  have hr := B.returns
  have hts0 := atoms_spec (ws := (wsg yX9_many cX9_many 5 (some .int))) B.pre
  have hts : ∀ w ∈ wsL_law, w.before _ s = true := fun w h => hts0 w (List.mem_cons_of_mem _ h)
  have hown : s.vm.findClass RX9 = some m.cls := by have h9 := findClass_of_methodNamed B.named; exact h9
  subst hsz
  have hD := hD0.self (sz := s.heap.size)
  generalize hAe : va_A (CH cy nb ad0 n0 E0) s.heap.size = A at hD hE ⊢
  have hA : ∀ q : Nat, s.heap.size ≤ q → A q := fun q h => by rw [← hAe]; exact Or.inr h
  have hS : va_S A s.heap s.heap [] := va_S.rf
  have hl := lv_entry ([.ref Aa0, .int a1]) (n := 5) (Nat.le_of_ble_eq_true rfl)
  rw [lg_entry_eq]
  generalize (lg_sl ([.ref Aa0, .int a1]) ++ List.replicate (5 - (lg_sl ([.ref Aa0, .int a1])).length) Slot.unset).toArray = ls at hl ⊢
  have hl : lv_has ls 5 [(0, .ref Aa0), (1, .int a1)] := hl
  generalize hHe : s.heap = H at hP hS ⊢
  have hS : va_S A s.heap H [] := by rw [hHe]; exact hS
  refine my_Q (fun Qn hQ => ?_)
  simp only [H_X9_many] at hF
  have hX : axh n0 ad0 n0 ad0 := axh_refl
  have hN : n0 ≤ n0 := Nat.le_refl _
  have hT : s0 ≤ s0 := Nat.le_refl _
  refine W.widen (k := n0 - n0) (n := s0 - s0) (by omega) (by omega) ?_
  refine lv_iconst (v := 0) hx hb dX9_many_0 (by decide) ?_
  refine lv_istore_n (lv' := [(2, .int 0), (0, .ref Aa0), (1, .int a1)]) hx hb dX9_many_1 rfl hl (by decide) rfl (fun ls hl => ?_)
  refine lv_aload_n hx hb dX9_many_2 rfl (lv_at hl 1 rfl) ?_
  obtain ⟨x1, e2, hF⟩ := mg_o hF
  obtain ⟨hr3, fs9, h9, g9⟩ := rdR hP hC ha0 e2
  refine va_get (D := (dC, dI)) (ci := 9) (v := .ref (AD nb ad0 x1)) (C := RX9) (T := TX9) (N := 14) hx hb hts inlX9 hown hK h9 0 rfl rfl 10 (by decide) (hts _ mw_108) (fun _ h9 => h9) g9 dX9_many_3 ?_
  clear h9 g9
  obtain ⟨fs9, e4, hF⟩ := mg_o hF
  obtain ⟨x5, n7, s8, E9, e6, hF⟩ := mb_o hF
  have hm := mle e6
  have hM1 := mle1 hF
  have hM2 := mle2 hF
  have hm1 := hm.1
  have hm2 := hm.2.1
  have hFc := my_free hD hS hA
  refine va_callr (va_runV (C := RJx4a65c) (As := []) (rest := []) ⟨hx, hb, hml, hown, hts⟩ (h_Jx4a65c_iterator_32c93 l dC dI cy nb ad0 n0 s0 E0 hC (x1) (AD nb ad0 x1) hr3 H.size x5 n7 s8 E9 e6) (cwV 0 hts (gV mw_176 mw_177 mw_178 mw_12 mw_179) rfl rfl rfl (by decide +kernel) ⟨Nat.le_of_ble_eq_true rfl, Nat.le_of_ble_eq_true rfl⟩) (hl_preV hP hK hD hE hS hFc (va_recv hK (rdO_ hP hC hr3 e4) (ci := 14) (q0 := 0) rfl rfl)) rfl rfl hl.1 rfl (lv_room (Nat.le_of_ble_eq_true rfl)) dX9_many_6 ⟨show n0 - n0 + (n7 - n0) ≤ nz - n0 by omega, show s0 - s0 + (s8 - s0) ≤ sz9 - s0 by omega⟩) hS (fun q _ h => hFc q h) hFc (fun u ra t H1 locs ht hvm hw hB hz1 hk1 hS => ?_)
  obtain ⟨ad10, hax, hr11, hP1, hD1⟩ := hB
  rw [ht] at hP1
  have hP := hP1
  have hD := hD1.weaken (fun k q _ h => hFc q.1 h)
  generalize H1 = H at hP hS ⊢
  have ha0 := ha0.mv hC.1 hax
  have hX := hX.trans hax
  have hC := hm.2.2 hC
  have hN : n0 ≤ n7 := Nat.le_trans hN hm1
  have hT : s0 ≤ s8 := Nat.le_trans hT hm2
  refine W.widen (k := n7 - n0) (n := s8 - s0) (by omega) (by omega) ?_
  clear hP1 hD1 hFc hk1 hz1 hvm ht hax hm hm1 hm2 hM1 hM2
  refine my_top (y := .ref (AD nb ad10 x5)) (congrArg Value.ref hr11.2.symm) ?_
  have hr11 := rf_self hr11
  refine lv_astore_n (lv' := [(3, .ref (AD nb ad10 x5)), (2, .int 0), (0, .ref Aa0), (1, .int a1)]) hx hb dX9_many_9 rfl hl (by decide) rfl (fun ls hl => ?_)
  obtain ⟨t13, n15, s16, E17, hL14, hF⟩ := mb_o hF
  have hm := mle hL14
  have kx19 : ∀ (ad18 : Nat → Nat) (H : Heap) (locs : List Loc) (ls : Array Slot), axh n0 ad0 n15 ad18 → rf nb ad18 n15 (x5) ((AD nb ad10 x5)) → rf nb ad18 n15 (a0) (Aa0) → va_P (dC, dI) vwCl (CH cy nb ad18 n15 E17) H → va_D A (CH cy nb ad18 n15 E17) → va_S A s.heap H locs → lv_has ls 5 [(2, .int t13), (3, .ref (AD nb ad10 x5)), (0, .ref Aa0), (1, .int a1)] → W p l e (headSpec (wsg yX9_many cX9_many 5 (some .int)) ({ frames := 10, cells := nz - n0, slots := sz9 - s0, locals := 500 })).room s m ([.ref Aa0, .int a1] : List Value).toArray below meth c H locs (n15 - n0) (s16 - s0) Qn (F0 m 50 ls []) := by
    intro ad18 H locs ls hX hr21 hr22 hP hD hS hl
    have hC := hm.2.2 hC
    have hN : n0 ≤ n15 := Nat.le_trans hN hm.1
    have hT : s0 ≤ s16 := Nat.le_trans hT hm.2.1
    clear hm
    refine lv_iload_n hx hb dX9_many_50 rfl (lv_at hl 0 rfl) ?_
    obtain ⟨ht9, hn9, hs9, hE9⟩ := mr_o hF
    subst hn9 hs9 hE9
    have hX9 := hX
    rw [hQ]
    exact W.iret (v := t13) hx hb hr (fun t ht hW => ⟨⟨t13, (), rfl, ht9, _, hX, by rw [ht]; exact hP, hD⟩, hS.F ht⟩) hS.2.2 dX9_many_51
  have hK23 := mle1 hF
  have hK24 := mle2 hF
  clear hF hm
  have loop25 : ∀ (m26 : Nat) (y31 : Int32) (n28 s29 : Nat) (E30 : HE), (H_X9_many_L10 x5 a0 a1 m26 y31).1 (n28, s29, E30) = some (t13, n15, s16, E17) → clo n28 E30 → n0 ≤ n28 → s0 ≤ s29 → ∀ (ad27 : Nat → Nat) (H : Heap) (locs : List Loc) (ls : Array Slot), axh n0 ad0 n28 ad27 → rf nb ad27 n28 (x5) ((AD nb ad10 x5)) → rf nb ad27 n28 (a0) (Aa0) → va_P (dC, dI) vwCl (CH cy nb ad27 n28 E30) H → va_D A (CH cy nb ad27 n28 E30) → va_S A s.heap H locs → lv_has ls 5 [(2, .int y31), (3, .ref (AD nb ad10 x5)), (0, .ref Aa0), (1, .int a1)] → W p l e (headSpec (wsg yX9_many cX9_many 5 (some .int)) ({ frames := 10, cells := nz - n0, slots := sz9 - s0, locals := 500 })).room s m ([.ref Aa0, .int a1] : List Value).toArray below meth c H locs (n28 - n0) (s29 - s0) Qn (F0 m 10 ls []) := by
    intro m26
    induction m26 with
    | zero => intro y31 n28 s29 E30 hF; exact (m0_o hF).elim
    | succ m26 ih =>
      intro y31 n28 s29 E30 hF hC hN hT ad27 H locs ls hX hr32 hr33 hP hD hS hl
      simp only [H_X9_many_L10] at hF
      refine lv_aload_n hx hb dX9_many_10 rfl (lv_at hl 1 rfl) ?_
      obtain ⟨fs9, e34, hF⟩ := mg_o hF
      obtain ⟨x35, n37, s38, E39, e36, hF⟩ := mb_o hF
      have hm := mle e36
      have hM1 := mle1 hF
      have hM2 := mle2 hF
      have hm1 := hm.1
      have hm2 := hm.2.1
      have hFc := my_free hD hS hA
      refine va_callFi (va_runF (C := RJx35411) (As := []) (rest := []) (hK.1 13 _ rfl).2 ⟨hx, hb, hml, hown, hts⟩ (h_Jx35411_hasNext_aae02 l dC dI cy nb ad27 n28 s29 E30 hC (x5) (AD nb ad10 x5) hr32 H.size x35 n37 s38 E39 e36) (va_cwF 0 hts (gF mw_192 mw_193 mw_194 mw_182 mw_195) rfl rfl rfl hE.fw1 (by decide +kernel) ⟨Nat.le_of_ble_eq_true rfl, Nat.le_of_ble_eq_true rfl⟩) (hl_preV hP hK hD hE hS hFc (va_recv hK (rdO_ hP hC hr32 e34) (ci := 13) (q0 := 0) rfl rfl)) rfl rfl hl.1 rfl (lv_room (Nat.le_of_ble_eq_true rfl)) dX9_many_11 ⟨show n28 - n0 + (n37 - n28) ≤ nz - n0 by omega, show s29 - s0 + (s38 - s29) ≤ sz9 - s0 by omega⟩) hS (fun q _ h => hFc q h) hFc (fun r9 u t H1 locs ht hvm hw hB hz1 hk1 hS => ?_)
      obtain ⟨ad40, hax, hP1, hD1⟩ := hB
      rw [ht] at hP1
      have hP := hP1
      have hD := hD1.weaken (fun k q _ h => hFc q.1 h)
      generalize H1 = H at hP hS ⊢
      have hr32 := hr32.mv hC.1 hax
      have hr33 := hr33.mv hC.1 hax
      have hX := hX.trans hax
      have hC := hm.2.2 hC
      have hN : n0 ≤ n37 := Nat.le_trans hN hm1
      have hT : s0 ≤ s38 := Nat.le_trans hT hm2
      refine W.widen (k := n37 - n0) (n := s38 - s0) (by omega) (by omega) ?_
      clear hP1 hD1 hFc hk1 hz1 hvm ht hax hm hm1 hm2 hM1 hM2
      obtain rfl := hw.symm
      refine lv_if_eq (tgt := 50) hx hb dX9_many_16 (by decide) (fun c41 => ?_) (fun c41 => ?_)
      · skip
        rw [if_pos c41] at hF
        obtain ⟨ht9, hn9, hs9, hE9⟩ := mr_o hF
        subst hn9 hs9 hE9
        subst ht9
        have hl := lv_sub (l' := [(2, .int y31), (3, .ref (AD nb ad10 x5)), (0, .ref Aa0), (1, .int a1)]) hl [0, 1, 2, 3] rfl
        exact kx19 _ _ _ _ hX hr32 hr33 hP hD hS hl
      · skip
        rw [if_neg c41] at hF
        refine lv_aload_n hx hb dX9_many_19 rfl (lv_at hl 1 rfl) ?_
        obtain ⟨fs9, e42, hF⟩ := mg_o hF
        obtain ⟨x43, n45, s46, E47, e44, hF⟩ := mb_o hF
        have hm := mle e44
        have hM1 := mle1 hF
        have hM2 := mle2 hF
        have hm1 := hm.1
        have hm2 := hm.2.1
        have hFc := my_free hD hS hA
        refine va_callFr (va_runF (C := RJx35411) (As := []) (rest := []) (hK.1 13 _ rfl).2 ⟨hx, hb, hml, hown, hts⟩ (h_Jx35411_next_0502b l dC dI cy nb ad40 n37 s38 E39 hC (x5) (AD nb ad10 x5) hr32 H.size x43 n45 s46 E47 e44) (va_cwF 0 hts (gF mw_197 mw_198 mw_199 mw_182 mw_200) rfl rfl rfl hE.fw2 (by decide +kernel) ⟨Nat.le_of_ble_eq_true rfl, Nat.le_of_ble_eq_true rfl⟩) (hl_preV hP hK hD hE hS hFc (va_recv hK (rdO_ hP hC hr32 e42) (ci := 13) (q0 := 0) rfl rfl)) rfl rfl hl.1 rfl (lv_room (Nat.le_of_ble_eq_true rfl)) dX9_many_20 ⟨show n37 - n0 + (n45 - n37) ≤ nz - n0 by omega, show s38 - s0 + (s46 - s38) ≤ sz9 - s0 by omega⟩) hS (fun q _ h => hFc q h) hFc (fun u ra t H1 locs ht hvm hw hB hz1 hk1 hS => ?_)
        obtain ⟨ad48, hax, hr49, hP1, hD1⟩ := hB
        rw [ht] at hP1
        have hP := hP1
        have hD := hD1.weaken (fun k q _ h => hFc q.1 h)
        generalize H1 = H at hP hS ⊢
        have hr32 := hr32.mv hC.1 hax
        have hr33 := hr33.mv hC.1 hax
        have hX := hX.trans hax
        have hC := hm.2.2 hC
        have hN : n0 ≤ n45 := Nat.le_trans hN hm1
        have hT : s0 ≤ s46 := Nat.le_trans hT hm2
        refine W.widen (k := n45 - n0) (n := s46 - s0) (by omega) (by omega) ?_
        clear hP1 hD1 hFc hk1 hz1 hvm ht hax hm hm1 hm2 hM1 hM2
        refine my_top (y := .ref (AD nb ad48 x43)) (congrArg Value.ref hr49.2.symm) ?_
        have hr49 := rf_self hr49
        obtain ⟨fs9, e51, hF⟩ := mg_o hF
        refine va_castS hx hb hown (hts _ mw_174) (hK.1 8 _ rfl).2 (va_recv hK (rdO_ hP hC hr49 e51) (ci := 8) (q0 := 0) rfl rfl) dX9_many_25 ?_
        refine lv_astore (lv' := [(4, .ref (AD nb ad48 x43)), (2, .int y31), (3, .ref (AD nb ad10 x5)), (0, .ref Aa0), (1, .int a1)]) hx hb dX9_many_28 hl (by decide) rfl (fun ls hl => ?_)
        refine lv_iload_n hx hb dX9_many_30 rfl (lv_at hl 1 rfl) ?_
        refine lv_aload hx hb dX9_many_31 (lv_at hl 0 rfl) ?_
        obtain ⟨x52, e53, hF⟩ := mg_o hF
        obtain ⟨fs9, h9, g9⟩ := rdI hP hC hr49 e53
        refine va_get (D := (dC, dI)) (ci := 8) (v := .int x52) (C := RX8) (T := TX8) (N := 9) hx hb hts inlX8 hown hK h9 0 rfl rfl 3 (by decide) (hts _ mw_175) (fun _ h9 => h9) g9 dX9_many_33 ?_
        clear h9 g9
        refine lv_iload_n hx hb dX9_many_36 rfl (lv_at hl 4 rfl) ?_
        obtain ⟨t55, n58, s59, E60, hJ56, hF⟩ := mb_o hF
        have hm := mle hJ56
        have join61 : ∀ (ad57 : Nat → Nat) (H : Heap) (locs : List Loc) (ls : Array Slot), axh n0 ad0 n58 ad57 → rf nb ad57 n58 (x43) ((AD nb ad48 x43)) → rf nb ad57 n58 (x5) ((AD nb ad10 x5)) → rf nb ad57 n58 (a0) (Aa0) → va_P (dC, dI) vwCl (CH cy nb ad57 n58 E60) H → va_D A (CH cy nb ad57 n58 E60) → va_S A s.heap H locs → lv_has ls 5 [(4, .ref (AD nb ad48 x43)), (2, .int y31), (3, .ref (AD nb ad10 x5)), (0, .ref Aa0), (1, .int a1)] → W p l e (headSpec (wsg yX9_many cX9_many 5 (some .int)) ({ frames := 10, cells := nz - n0, slots := sz9 - s0, locals := 500 })).room s m ([.ref Aa0, .int a1] : List Value).toArray below meth c H locs (n58 - n0) (s59 - s0) Qn (F0 m 45 ls [.int t55, .int y31]) := by
          intro ad57 H locs ls hX hr62 hr63 hr64 hP hD hS hl
          have hC := hm.2.2 hC
          have hN : n0 ≤ n58 := Nat.le_trans hN hm.1
          have hT : s0 ≤ s59 := Nat.le_trans hT hm.2.1
          clear hm
          refine lv_iadd hx hb dX9_many_45 ?_
          refine lv_istore_n (lv' := [(2, .int (y31 + t55)), (4, .ref (AD nb ad48 x43)), (3, .ref (AD nb ad10 x5)), (0, .ref Aa0), (1, .int a1)]) hx hb dX9_many_46 rfl hl (by decide) rfl (fun ls hl => ?_)
          refine lv_goto (tgt := 10) hx hb dX9_many_47 (by decide) ?_
          have hl := lv_sub (l' := [(2, .int (y31 + t55)), (3, .ref (AD nb ad10 x5)), (0, .ref Aa0), (1, .int a1)]) hl [0, 2, 3, 4] rfl
          exact ih _ _ _ _ hF hC hN hT _ _ _ _ hX hr63 hr64 hP hD hS hl
        have hK65 := mle1 hF
        have hK66 := mle2 hF
        clear hF hm
        have hF := hJ56
        clear hJ56
        refine lv_icmp_ne (tgt := 44) hx hb dX9_many_37 (by decide) (fun c54 => ?_) (fun c54 => ?_)
        · skip
          rw [if_neg c54] at hF
          refine lv_iconst (v := 0) hx hb dX9_many_44 (by decide) ?_
          obtain ⟨ht9, hn9, hs9, hE9⟩ := mr_o hF
          subst ht9 hn9 hs9 hE9
          have hl := lv_sub (l' := [(4, .ref (AD nb ad48 x43)), (2, .int y31), (3, .ref (AD nb ad10 x5)), (0, .ref Aa0), (1, .int a1)]) hl [0, 1, 2, 3, 4] rfl
          exact join61 _ _ _ _ hX hr49 hr32 hr33 hP hD hS hl
        · skip
          rw [if_pos c54] at hF
          refine lv_iconst (v := 1) hx hb dX9_many_40 (by decide) ?_
          refine lv_goto (tgt := 45) hx hb dX9_many_41 (by decide) ?_
          obtain ⟨ht9, hn9, hs9, hE9⟩ := mr_o hF
          subst ht9 hn9 hs9 hE9
          have hl := lv_sub (l' := [(4, .ref (AD nb ad48 x43)), (2, .int y31), (3, .ref (AD nb ad10 x5)), (0, .ref Aa0), (1, .int a1)]) hl [0, 1, 2, 3, 4] rfl
          exact join61 _ _ _ _ hX hr49 hr32 hr33 hP hD hS hl
  have hl := lv_sub (l' := [(2, .int 0), (3, .ref (AD nb ad10 x5)), (0, .ref Aa0), (1, .int a1)]) hl [1, 0, 2, 3] rfl
  exact loop25 FUEL _ _ _ _ hL14 hC hN hT _ _ _ _ hX hr11 ha0 hP hD hS hl
noncomputable def H_X9_cardsOf_L10 (x5 : Nat) (a0 : Nat) (a1 : Int32) : Nat → Int32 → MH (Int32)
  | 0, _ => m0
  | m26 + 1, y31 => mb (mg fun n E => fO n E (x5) 13) fun _ => mb (H_Jx35411_hasNext_aae02 (x5)) fun x35 => if x35 = 0 then (mr y31) else (mb (mg fun n E => fO n E (x5) 13) fun _ => mb (H_Jx35411_next_0502b (x5)) fun x43 => mb (mg fun n E => fO n E (x43) 8) fun _ => mb (rI (x43) 8 0) fun x52 => mb (if x52 = a1 then (mr (1 : Int32)) else (mr (0 : Int32)) : MH (Int32)) fun t55 => H_X9_cardsOf_L10 x5 a0 a1 m26 ((y31 + t55)))
noncomputable def H_X9_cardsOf (a0 : Nat) (a1 : Int32) : MH Int32 := mb (rR (a0) 9 10) fun x1 => mb (mg fun n E => fO n E (x1) 14) fun _ => mb (H_Jx4a65c_iterator_32c93 (x1)) fun x5 => mb (H_X9_cardsOf_L10 x5 a0 a1 FUEL ((0 : Int32))) fun t13 => mr t13
set_option maxHeartbeats 4000000 in
set_option maxRecDepth 100000 in
theorem h_X9_cardsOf (l : Launch) (dC : Nat → ClassId) (dI : Nat → Nat → Nat) (cy : Nat → ClassId) (nb : Nat → Nat) (ad0 : Nat → Nat) (n0 s0 : Nat) (E0 : HE) (hC : clo n0 E0) (a0 Aa0 : Nat) (ha0 : rf nb ad0 n0 a0 Aa0) (a1 : Int32) (sz : Nat) (ro : Int32) (nz sz9 : Nat) (Ez : HE) (hF : (H_X9_cardsOf a0 a1).1 (n0, s0, E0) = some (ro, nz, sz9, Ez)) : Met l yX9_cardsOf (wsg yX9_cardsOf cX9_cardsOf 5 (some .int)) ({ frames := 10, cells := nz - n0, slots := sz9 - s0, locals := 500 }) (va_Pc [.ref Aa0, .int a1] (fun U => U.heap.size = sz ∧ va_P (dC, dI) vwCl (CH cy nb ad0 n0 E0) U.heap ∧ va_K (dC, dI) vwCl (tyL cy) U ∧ va_D (fun _ => True) (CH cy nb ad0 n0 E0) ∧ GL nb (va_A (CH cy nb ad0 n0 E0) sz) U)) (va_Qi (fun (r : Int32) (_ : Unit) => r = ro) (fun _ t => ∃ ad2 : Nat → Nat, axh n0 ad0 nz ad2 ∧ va_P (dC, dI) vwCl (CH cy nb ad2 nz Ez) t.heap ∧ va_D (va_A (CH cy nb ad0 n0 E0) sz) (CH cy nb ad2 nz Ez)) (va_A (CH cy nb ad0 n0 E0) sz)) (nz - n0) (sz9 - s0) (va_A (CH cy nb ad0 n0 E0) sz) := by
  refine Met.ofW (cc := cX9_cardsOf) (maxL := 5) (ret := (some .int)) (by decide) rfl ?_
  intro p e s m args below meth c s₁ B hml hv
  obtain ⟨rfl, hsz, hP, hK, hD0, hE⟩ := hv
  have hx := B.exec
  have hb := B.bytes
  have hr := B.returns
  have hts0 := atoms_spec (ws := (wsg yX9_cardsOf cX9_cardsOf 5 (some .int))) B.pre
  have hts : ∀ w ∈ wsL_law, w.before _ s = true := fun w h => hts0 w (List.mem_cons_of_mem _ h)
  have hown : s.vm.findClass RX9 = some m.cls := by have h9 := findClass_of_methodNamed B.named; exact h9
  subst hsz
  have hD := hD0.self (sz := s.heap.size)
  generalize hAe : va_A (CH cy nb ad0 n0 E0) s.heap.size = A at hD hE ⊢
  have hA : ∀ q : Nat, s.heap.size ≤ q → A q := fun q h => by rw [← hAe]; exact Or.inr h
  have hS : va_S A s.heap s.heap [] := va_S.rf
  have hl := lv_entry ([.ref Aa0, .int a1]) (n := 5) (Nat.le_of_ble_eq_true rfl)
  rw [lg_entry_eq]
  generalize (lg_sl ([.ref Aa0, .int a1]) ++ List.replicate (5 - (lg_sl ([.ref Aa0, .int a1])).length) Slot.unset).toArray = ls at hl ⊢
  have hl : lv_has ls 5 [(0, .ref Aa0), (1, .int a1)] := hl
  generalize hHe : s.heap = H at hP hS ⊢
  have hS : va_S A s.heap H [] := by rw [hHe]; exact hS
  refine my_Q (fun Qn hQ => ?_)
  simp only [H_X9_cardsOf] at hF
  have hX : axh n0 ad0 n0 ad0 := axh_refl
  have hN : n0 ≤ n0 := Nat.le_refl _
  have hT : s0 ≤ s0 := Nat.le_refl _
  refine W.widen (k := n0 - n0) (n := s0 - s0) (by omega) (by omega) ?_
  refine lv_iconst (v := 0) hx hb dX9_cardsOf_0 (by decide) ?_
  refine lv_istore_n (lv' := [(2, .int 0), (0, .ref Aa0), (1, .int a1)]) hx hb dX9_cardsOf_1 rfl hl (by decide) rfl (fun ls hl => ?_)
  refine lv_aload_n hx hb dX9_cardsOf_2 rfl (lv_at hl 1 rfl) ?_
  obtain ⟨x1, e2, hF⟩ := mg_o hF
  obtain ⟨hr3, fs9, h9, g9⟩ := rdR hP hC ha0 e2
  refine va_get (D := (dC, dI)) (ci := 9) (v := .ref (AD nb ad0 x1)) (C := RX9) (T := TX9) (N := 14) hx hb hts inlX9 hown hK h9 0 rfl rfl 10 (by decide) (hts _ mw_108) (fun _ h9 => h9) g9 dX9_cardsOf_3 ?_
  clear h9 g9
  obtain ⟨fs9, e4, hF⟩ := mg_o hF
  obtain ⟨x5, n7, s8, E9, e6, hF⟩ := mb_o hF
  have hm := mle e6
  have hM1 := mle1 hF
  have hM2 := mle2 hF
  have hm1 := hm.1
  have hm2 := hm.2.1
  have hFc := my_free hD hS hA
  refine va_callr (va_runV (C := RJx4a65c) (As := []) (rest := []) ⟨hx, hb, hml, hown, hts⟩ (h_Jx4a65c_iterator_32c93 l dC dI cy nb ad0 n0 s0 E0 hC (x1) (AD nb ad0 x1) hr3 H.size x5 n7 s8 E9 e6) (cwV 0 hts (gV mw_176 mw_177 mw_178 mw_12 mw_179) rfl rfl rfl (by decide +kernel) ⟨Nat.le_of_ble_eq_true rfl, Nat.le_of_ble_eq_true rfl⟩) (hl_preV hP hK hD hE hS hFc (va_recv hK (rdO_ hP hC hr3 e4) (ci := 14) (q0 := 0) rfl rfl)) rfl rfl hl.1 rfl (lv_room (Nat.le_of_ble_eq_true rfl)) dX9_cardsOf_6 ⟨show n0 - n0 + (n7 - n0) ≤ nz - n0 by omega, show s0 - s0 + (s8 - s0) ≤ sz9 - s0 by omega⟩) hS (fun q _ h => hFc q h) hFc (fun u ra t H1 locs ht hvm hw hB hz1 hk1 hS => ?_)
  obtain ⟨ad10, hax, hr11, hP1, hD1⟩ := hB
  rw [ht] at hP1
  have hP := hP1
  have hD := hD1.weaken (fun k q _ h => hFc q.1 h)
  generalize H1 = H at hP hS ⊢
  have ha0 := ha0.mv hC.1 hax
  have hX := hX.trans hax
  have hC := hm.2.2 hC
  have hN : n0 ≤ n7 := Nat.le_trans hN hm1
  have hT : s0 ≤ s8 := Nat.le_trans hT hm2
  refine W.widen (k := n7 - n0) (n := s8 - s0) (by omega) (by omega) ?_
  clear hP1 hD1 hFc hk1 hz1 hvm ht hax hm hm1 hm2 hM1 hM2
  refine my_top (y := .ref (AD nb ad10 x5)) (congrArg Value.ref hr11.2.symm) ?_
  have hr11 := rf_self hr11
  refine lv_astore_n (lv' := [(3, .ref (AD nb ad10 x5)), (2, .int 0), (0, .ref Aa0), (1, .int a1)]) hx hb dX9_cardsOf_9 rfl hl (by decide) rfl (fun ls hl => ?_)
  obtain ⟨t13, n15, s16, E17, hL14, hF⟩ := mb_o hF
  have hm := mle hL14
  have kx19 : ∀ (ad18 : Nat → Nat) (H : Heap) (locs : List Loc) (ls : Array Slot), axh n0 ad0 n15 ad18 → rf nb ad18 n15 (x5) ((AD nb ad10 x5)) → rf nb ad18 n15 (a0) (Aa0) → va_P (dC, dI) vwCl (CH cy nb ad18 n15 E17) H → va_D A (CH cy nb ad18 n15 E17) → va_S A s.heap H locs → lv_has ls 5 [(2, .int t13), (3, .ref (AD nb ad10 x5)), (0, .ref Aa0), (1, .int a1)] → W p l e (headSpec (wsg yX9_cardsOf cX9_cardsOf 5 (some .int)) ({ frames := 10, cells := nz - n0, slots := sz9 - s0, locals := 500 })).room s m ([.ref Aa0, .int a1] : List Value).toArray below meth c H locs (n15 - n0) (s16 - s0) Qn (F0 m 50 ls []) := by
    intro ad18 H locs ls hX hr21 hr22 hP hD hS hl
    have hC := hm.2.2 hC
    have hN : n0 ≤ n15 := Nat.le_trans hN hm.1
    have hT : s0 ≤ s16 := Nat.le_trans hT hm.2.1
    clear hm
    refine lv_iload_n hx hb dX9_cardsOf_50 rfl (lv_at hl 0 rfl) ?_
    obtain ⟨ht9, hn9, hs9, hE9⟩ := mr_o hF
    subst hn9 hs9 hE9
    have hX9 := hX
    rw [hQ]
    exact W.iret (v := t13) hx hb hr (fun t ht hW => ⟨⟨t13, (), rfl, ht9, _, hX, by rw [ht]; exact hP, hD⟩, hS.F ht⟩) hS.2.2 dX9_cardsOf_51
  have hK23 := mle1 hF
  have hK24 := mle2 hF
  clear hF hm
  have loop25 : ∀ (m26 : Nat) (y31 : Int32) (n28 s29 : Nat) (E30 : HE), (H_X9_cardsOf_L10 x5 a0 a1 m26 y31).1 (n28, s29, E30) = some (t13, n15, s16, E17) → clo n28 E30 → n0 ≤ n28 → s0 ≤ s29 → ∀ (ad27 : Nat → Nat) (H : Heap) (locs : List Loc) (ls : Array Slot), axh n0 ad0 n28 ad27 → rf nb ad27 n28 (x5) ((AD nb ad10 x5)) → rf nb ad27 n28 (a0) (Aa0) → va_P (dC, dI) vwCl (CH cy nb ad27 n28 E30) H → va_D A (CH cy nb ad27 n28 E30) → va_S A s.heap H locs → lv_has ls 5 [(2, .int y31), (3, .ref (AD nb ad10 x5)), (0, .ref Aa0), (1, .int a1)] → W p l e (headSpec (wsg yX9_cardsOf cX9_cardsOf 5 (some .int)) ({ frames := 10, cells := nz - n0, slots := sz9 - s0, locals := 500 })).room s m ([.ref Aa0, .int a1] : List Value).toArray below meth c H locs (n28 - n0) (s29 - s0) Qn (F0 m 10 ls []) := by
    intro m26
    induction m26 with
    | zero => intro y31 n28 s29 E30 hF; exact (m0_o hF).elim
    | succ m26 ih =>
      intro y31 n28 s29 E30 hF hC hN hT ad27 H locs ls hX hr32 hr33 hP hD hS hl
      simp only [H_X9_cardsOf_L10] at hF
      refine lv_aload_n hx hb dX9_cardsOf_10 rfl (lv_at hl 1 rfl) ?_
      obtain ⟨fs9, e34, hF⟩ := mg_o hF
      obtain ⟨x35, n37, s38, E39, e36, hF⟩ := mb_o hF
      have hm := mle e36
      have hM1 := mle1 hF
      have hM2 := mle2 hF
      have hm1 := hm.1
      have hm2 := hm.2.1
      have hFc := my_free hD hS hA
      refine va_callFi (va_runF (C := RJx35411) (As := []) (rest := []) (hK.1 13 _ rfl).2 ⟨hx, hb, hml, hown, hts⟩ (h_Jx35411_hasNext_aae02 l dC dI cy nb ad27 n28 s29 E30 hC (x5) (AD nb ad10 x5) hr32 H.size x35 n37 s38 E39 e36) (va_cwF 0 hts (gF mw_192 mw_193 mw_194 mw_182 mw_195) rfl rfl rfl hE.fw1 (by decide +kernel) ⟨Nat.le_of_ble_eq_true rfl, Nat.le_of_ble_eq_true rfl⟩) (hl_preV hP hK hD hE hS hFc (va_recv hK (rdO_ hP hC hr32 e34) (ci := 13) (q0 := 0) rfl rfl)) rfl rfl hl.1 rfl (lv_room (Nat.le_of_ble_eq_true rfl)) dX9_cardsOf_11 ⟨show n28 - n0 + (n37 - n28) ≤ nz - n0 by omega, show s29 - s0 + (s38 - s29) ≤ sz9 - s0 by omega⟩) hS (fun q _ h => hFc q h) hFc (fun r9 u t H1 locs ht hvm hw hB hz1 hk1 hS => ?_)
      obtain ⟨ad40, hax, hP1, hD1⟩ := hB
      rw [ht] at hP1
      have hP := hP1
      have hD := hD1.weaken (fun k q _ h => hFc q.1 h)
      generalize H1 = H at hP hS ⊢
      have hr32 := hr32.mv hC.1 hax
      have hr33 := hr33.mv hC.1 hax
      have hX := hX.trans hax
      have hC := hm.2.2 hC
      have hN : n0 ≤ n37 := Nat.le_trans hN hm1
      have hT : s0 ≤ s38 := Nat.le_trans hT hm2
      refine W.widen (k := n37 - n0) (n := s38 - s0) (by omega) (by omega) ?_
      clear hP1 hD1 hFc hk1 hz1 hvm ht hax hm hm1 hm2 hM1 hM2
      obtain rfl := hw.symm
      refine lv_if_eq (tgt := 50) hx hb dX9_cardsOf_16 (by decide) (fun c41 => ?_) (fun c41 => ?_)
      · skip
        rw [if_pos c41] at hF
        obtain ⟨ht9, hn9, hs9, hE9⟩ := mr_o hF
        subst hn9 hs9 hE9
        subst ht9
        have hl := lv_sub (l' := [(2, .int y31), (3, .ref (AD nb ad10 x5)), (0, .ref Aa0), (1, .int a1)]) hl [0, 1, 2, 3] rfl
        exact kx19 _ _ _ _ hX hr32 hr33 hP hD hS hl
      · skip
        rw [if_neg c41] at hF
        refine lv_aload_n hx hb dX9_cardsOf_19 rfl (lv_at hl 1 rfl) ?_
        obtain ⟨fs9, e42, hF⟩ := mg_o hF
        obtain ⟨x43, n45, s46, E47, e44, hF⟩ := mb_o hF
        have hm := mle e44
        have hM1 := mle1 hF
        have hM2 := mle2 hF
        have hm1 := hm.1
        have hm2 := hm.2.1
        have hFc := my_free hD hS hA
        refine va_callFr (va_runF (C := RJx35411) (As := []) (rest := []) (hK.1 13 _ rfl).2 ⟨hx, hb, hml, hown, hts⟩ (h_Jx35411_next_0502b l dC dI cy nb ad40 n37 s38 E39 hC (x5) (AD nb ad10 x5) hr32 H.size x43 n45 s46 E47 e44) (va_cwF 0 hts (gF mw_197 mw_198 mw_199 mw_182 mw_200) rfl rfl rfl hE.fw2 (by decide +kernel) ⟨Nat.le_of_ble_eq_true rfl, Nat.le_of_ble_eq_true rfl⟩) (hl_preV hP hK hD hE hS hFc (va_recv hK (rdO_ hP hC hr32 e42) (ci := 13) (q0 := 0) rfl rfl)) rfl rfl hl.1 rfl (lv_room (Nat.le_of_ble_eq_true rfl)) dX9_cardsOf_20 ⟨show n37 - n0 + (n45 - n37) ≤ nz - n0 by omega, show s38 - s0 + (s46 - s38) ≤ sz9 - s0 by omega⟩) hS (fun q _ h => hFc q h) hFc (fun u ra t H1 locs ht hvm hw hB hz1 hk1 hS => ?_)
        obtain ⟨ad48, hax, hr49, hP1, hD1⟩ := hB
        rw [ht] at hP1
        have hP := hP1
        have hD := hD1.weaken (fun k q _ h => hFc q.1 h)
        generalize H1 = H at hP hS ⊢
        have hr32 := hr32.mv hC.1 hax
        have hr33 := hr33.mv hC.1 hax
        have hX := hX.trans hax
        have hC := hm.2.2 hC
        have hN : n0 ≤ n45 := Nat.le_trans hN hm1
        have hT : s0 ≤ s46 := Nat.le_trans hT hm2
        refine W.widen (k := n45 - n0) (n := s46 - s0) (by omega) (by omega) ?_
        clear hP1 hD1 hFc hk1 hz1 hvm ht hax hm hm1 hm2 hM1 hM2
        refine my_top (y := .ref (AD nb ad48 x43)) (congrArg Value.ref hr49.2.symm) ?_
        have hr49 := rf_self hr49
        obtain ⟨fs9, e51, hF⟩ := mg_o hF
        refine va_castS hx hb hown (hts _ mw_174) (hK.1 8 _ rfl).2 (va_recv hK (rdO_ hP hC hr49 e51) (ci := 8) (q0 := 0) rfl rfl) dX9_cardsOf_25 ?_
        refine lv_astore (lv' := [(4, .ref (AD nb ad48 x43)), (2, .int y31), (3, .ref (AD nb ad10 x5)), (0, .ref Aa0), (1, .int a1)]) hx hb dX9_cardsOf_28 hl (by decide) rfl (fun ls hl => ?_)
        refine lv_iload_n hx hb dX9_cardsOf_30 rfl (lv_at hl 1 rfl) ?_
        refine lv_aload hx hb dX9_cardsOf_31 (lv_at hl 0 rfl) ?_
        obtain ⟨x52, e53, hF⟩ := mg_o hF
        obtain ⟨fs9, h9, g9⟩ := rdI hP hC hr49 e53
        refine va_get (D := (dC, dI)) (ci := 8) (v := .int x52) (C := RX8) (T := TX8) (N := 9) hx hb hts inlX8 hown hK h9 0 rfl rfl 0 (by decide) (hts _ mw_344) (fun _ h9 => h9) g9 dX9_cardsOf_33 ?_
        clear h9 g9
        refine lv_iload_n hx hb dX9_cardsOf_36 rfl (lv_at hl 4 rfl) ?_
        obtain ⟨t55, n58, s59, E60, hJ56, hF⟩ := mb_o hF
        have hm := mle hJ56
        have join61 : ∀ (ad57 : Nat → Nat) (H : Heap) (locs : List Loc) (ls : Array Slot), axh n0 ad0 n58 ad57 → rf nb ad57 n58 (x43) ((AD nb ad48 x43)) → rf nb ad57 n58 (x5) ((AD nb ad10 x5)) → rf nb ad57 n58 (a0) (Aa0) → va_P (dC, dI) vwCl (CH cy nb ad57 n58 E60) H → va_D A (CH cy nb ad57 n58 E60) → va_S A s.heap H locs → lv_has ls 5 [(4, .ref (AD nb ad48 x43)), (2, .int y31), (3, .ref (AD nb ad10 x5)), (0, .ref Aa0), (1, .int a1)] → W p l e (headSpec (wsg yX9_cardsOf cX9_cardsOf 5 (some .int)) ({ frames := 10, cells := nz - n0, slots := sz9 - s0, locals := 500 })).room s m ([.ref Aa0, .int a1] : List Value).toArray below meth c H locs (n58 - n0) (s59 - s0) Qn (F0 m 45 ls [.int t55, .int y31]) := by
          intro ad57 H locs ls hX hr62 hr63 hr64 hP hD hS hl
          have hC := hm.2.2 hC
          have hN : n0 ≤ n58 := Nat.le_trans hN hm.1
          have hT : s0 ≤ s59 := Nat.le_trans hT hm.2.1
          clear hm
          refine lv_iadd hx hb dX9_cardsOf_45 ?_
          refine lv_istore_n (lv' := [(2, .int (y31 + t55)), (4, .ref (AD nb ad48 x43)), (3, .ref (AD nb ad10 x5)), (0, .ref Aa0), (1, .int a1)]) hx hb dX9_cardsOf_46 rfl hl (by decide) rfl (fun ls hl => ?_)
          refine lv_goto (tgt := 10) hx hb dX9_cardsOf_47 (by decide) ?_
          have hl := lv_sub (l' := [(2, .int (y31 + t55)), (3, .ref (AD nb ad10 x5)), (0, .ref Aa0), (1, .int a1)]) hl [0, 2, 3, 4] rfl
          exact ih _ _ _ _ hF hC hN hT _ _ _ _ hX hr63 hr64 hP hD hS hl
        have hK65 := mle1 hF
        have hK66 := mle2 hF
        clear hF hm
        have hF := hJ56
        clear hJ56
        refine lv_icmp_ne (tgt := 44) hx hb dX9_cardsOf_37 (by decide) (fun c54 => ?_) (fun c54 => ?_)
        · skip
          rw [if_neg c54] at hF
          refine lv_iconst (v := 0) hx hb dX9_cardsOf_44 (by decide) ?_
          obtain ⟨ht9, hn9, hs9, hE9⟩ := mr_o hF
          subst ht9 hn9 hs9 hE9
          have hl := lv_sub (l' := [(4, .ref (AD nb ad48 x43)), (2, .int y31), (3, .ref (AD nb ad10 x5)), (0, .ref Aa0), (1, .int a1)]) hl [0, 1, 2, 3, 4] rfl
          exact join61 _ _ _ _ hX hr49 hr32 hr33 hP hD hS hl
        · skip
          rw [if_pos c54] at hF
          refine lv_iconst (v := 1) hx hb dX9_cardsOf_40 (by decide) ?_
          refine lv_goto (tgt := 45) hx hb dX9_cardsOf_41 (by decide) ?_
          obtain ⟨ht9, hn9, hs9, hE9⟩ := mr_o hF
          subst ht9 hn9 hs9 hE9
          have hl := lv_sub (l' := [(4, .ref (AD nb ad48 x43)), (2, .int y31), (3, .ref (AD nb ad10 x5)), (0, .ref Aa0), (1, .int a1)]) hl [0, 1, 2, 3, 4] rfl
          exact join61 _ _ _ _ hX hr49 hr32 hr33 hP hD hS hl
  have hl := lv_sub (l' := [(2, .int 0), (3, .ref (AD nb ad10 x5)), (0, .ref Aa0), (1, .int a1)]) hl [1, 0, 2, 3] rfl
  exact loop25 FUEL _ _ _ _ hL14 hC hN hT _ _ _ _ hX hr11 ha0 hP hD hS hl
noncomputable def H_X9_cardOf_L2 (a0 : Nat) (a1 : Int32) (a2 : Int32) : Nat → Int32 → MH (Sum (Int32) (Int32))
  | 0, _ => m0
  | m14 + 1, y19 => mb (rR (a0) 9 10) fun x21 => mb (mg fun n E => fO n E (x21) 14) fun _ => mb (H_Jx4a65c_size_8abf5 (x21)) fun x25 => if x25 ≤ y19 then (mr (.inr y19)) else (mb (rR (a0) 9 10) fun x32 => mb (mg fun n E => fO n E (x32) 14) fun _ => mb (H_Jx4a65c_get_915e3 (x32) (y19)) fun x36 => mb (mg fun n E => fO n E (x36) 8) fun _ => mb (rI (x36) 8 0) fun x45 => if x45 = a1 then (mb (rR (a0) 9 10) fun x48 => mb (mg fun n E => fO n E (x48) 14) fun _ => mb (H_Jx4a65c_get_915e3 (x48) (y19)) fun x52 => mb (mg fun n E => fO n E (x52) 8) fun _ => mb (rI (x52) 8 2) fun x61 => if x61 = a2 then (mr (.inl y19)) else (H_X9_cardOf_L2 a0 a1 a2 m14 ((y19 + 1)))) else (H_X9_cardOf_L2 a0 a1 a2 m14 ((y19 + 1))))
noncomputable def H_X9_cardOf (a0 : Nat) (a1 : Int32) (a2 : Int32) : MH Int32 := mb (H_X9_cardOf_L2 a0 a1 a2 FUEL ((0 : Int32))) fun t1 => match t1 with | .inl r => mr r | .inr t9 => mr (-1 : Int32)
set_option maxHeartbeats 4000000 in
set_option maxRecDepth 100000 in
theorem h_X9_cardOf (l : Launch) (dC : Nat → ClassId) (dI : Nat → Nat → Nat) (cy : Nat → ClassId) (nb : Nat → Nat) (ad0 : Nat → Nat) (n0 s0 : Nat) (E0 : HE) (hC : clo n0 E0) (a0 Aa0 : Nat) (ha0 : rf nb ad0 n0 a0 Aa0) (a1 : Int32) (a2 : Int32) (sz : Nat) (ro : Int32) (nz sz9 : Nat) (Ez : HE) (hF : (H_X9_cardOf a0 a1 a2).1 (n0, s0, E0) = some (ro, nz, sz9, Ez)) : Met l yX9_cardOf (wsg yX9_cardOf cX9_cardOf 4 (some .int)) ({ frames := 11, cells := nz - n0, slots := sz9 - s0, locals := 600 }) (va_Pc [.ref Aa0, .int a1, .int a2] (fun U => U.heap.size = sz ∧ va_P (dC, dI) vwCl (CH cy nb ad0 n0 E0) U.heap ∧ va_K (dC, dI) vwCl (tyL cy) U ∧ va_D (fun _ => True) (CH cy nb ad0 n0 E0) ∧ GL nb (va_A (CH cy nb ad0 n0 E0) sz) U)) (va_Qi (fun (r : Int32) (_ : Unit) => r = ro) (fun _ t => ∃ ad2 : Nat → Nat, axh n0 ad0 nz ad2 ∧ va_P (dC, dI) vwCl (CH cy nb ad2 nz Ez) t.heap ∧ va_D (va_A (CH cy nb ad0 n0 E0) sz) (CH cy nb ad2 nz Ez)) (va_A (CH cy nb ad0 n0 E0) sz)) (nz - n0) (sz9 - s0) (va_A (CH cy nb ad0 n0 E0) sz) := by
  refine Met.ofW (cc := cX9_cardOf) (maxL := 4) (ret := (some .int)) (by decide) rfl ?_
  intro p e s m args below meth c s₁ B hml hv
  obtain ⟨rfl, hsz, hP, hK, hD0, hE⟩ := hv
  have hx := B.exec
  have hb := B.bytes
  have hr := B.returns
  have hts0 := atoms_spec (ws := (wsg yX9_cardOf cX9_cardOf 4 (some .int))) B.pre
  have hts : ∀ w ∈ wsL_law, w.before _ s = true := fun w h => hts0 w (List.mem_cons_of_mem _ h)
  have hown : s.vm.findClass RX9 = some m.cls := by have h9 := findClass_of_methodNamed B.named; exact h9
  subst hsz
  have hD := hD0.self (sz := s.heap.size)
  generalize hAe : va_A (CH cy nb ad0 n0 E0) s.heap.size = A at hD hE ⊢
  have hA : ∀ q : Nat, s.heap.size ≤ q → A q := fun q h => by rw [← hAe]; exact Or.inr h
  have hS : va_S A s.heap s.heap [] := va_S.rf
  have hl := lv_entry ([.ref Aa0, .int a1, .int a2]) (n := 4) (Nat.le_of_ble_eq_true rfl)
  rw [lg_entry_eq]
  generalize (lg_sl ([.ref Aa0, .int a1, .int a2]) ++ List.replicate (4 - (lg_sl ([.ref Aa0, .int a1, .int a2])).length) Slot.unset).toArray = ls at hl ⊢
  have hl : lv_has ls 4 [(0, .ref Aa0), (1, .int a1), (2, .int a2)] := hl
  generalize hHe : s.heap = H at hP hS ⊢
  have hS : va_S A s.heap H [] := by rw [hHe]; exact hS
  refine my_Q (fun Qn hQ => ?_)
  simp only [H_X9_cardOf] at hF
  have hX : axh n0 ad0 n0 ad0 := axh_refl
  have hN : n0 ≤ n0 := Nat.le_refl _
  have hT : s0 ≤ s0 := Nat.le_refl _
  refine W.widen (k := n0 - n0) (n := s0 - s0) (by omega) (by omega) ?_
  refine lv_iconst (v := 0) hx hb dX9_cardOf_0 (by decide) ?_
  refine lv_istore_n (lv' := [(3, .int 0), (0, .ref Aa0), (1, .int a1), (2, .int a2)]) hx hb dX9_cardOf_1 rfl hl (by decide) rfl (fun ls hl => ?_)
  obtain ⟨t1, n3, s4, E5, hL2, hF⟩ := mb_o hF
  have hm := mle hL2
  have kx7 : ∀ (t9 : Int32), t1 = .inr t9 → ∀ (ad6 : Nat → Nat) (H : Heap) (locs : List Loc) (ls : Array Slot), axh n0 ad0 n3 ad6 → rf nb ad6 n3 (a0) (Aa0) → va_P (dC, dI) vwCl (CH cy nb ad6 n3 E5) H → va_D A (CH cy nb ad6 n3 E5) → va_S A s.heap H locs → lv_has ls 4 [(3, .int t9), (0, .ref Aa0), (1, .int a1), (2, .int a2)] → W p l e (headSpec (wsg yX9_cardOf cX9_cardOf 4 (some .int)) ({ frames := 11, cells := nz - n0, slots := sz9 - s0, locals := 600 })).room s m ([.ref Aa0, .int a1, .int a2] : List Value).toArray below meth c H locs (n3 - n0) (s4 - s0) Qn (F0 m 57 ls []) := by
    intro t9 he
    subst he
    intro ad6 H locs ls hX hr10 hP hD hS hl
    have hC := hm.2.2 hC
    have hN : n0 ≤ n3 := Nat.le_trans hN hm.1
    have hT : s0 ≤ s4 := Nat.le_trans hT hm.2.1
    clear hm
    refine lv_iconst (v := (-1)) hx hb dX9_cardOf_57 (by decide) ?_
    obtain ⟨ht9, hn9, hs9, hE9⟩ := mr_o hF
    subst hn9 hs9 hE9
    have hX9 := hX
    rw [hQ]
    exact W.iret (v := (-1)) hx hb hr (fun t ht hW => ⟨⟨(-1), (), rfl, ht9, _, hX, by rw [ht]; exact hP, hD⟩, hS.F ht⟩) hS.2.2 dX9_cardOf_58
  have kr8 : ∀ r : Int32, t1 = .inl r → (mr r : MH _).1 (n3, s4, E5) = some (ro, nz, sz9, Ez) := by
    intro r he
    subst he
    exact hF
  have hK11 := mle1 hF
  have hK12 := mle2 hF
  clear hF hm
  have loop13 : ∀ (m14 : Nat) (y19 : Int32) (n16 s17 : Nat) (E18 : HE), (H_X9_cardOf_L2 a0 a1 a2 m14 y19).1 (n16, s17, E18) = some (t1, n3, s4, E5) → clo n16 E18 → n0 ≤ n16 → s0 ≤ s17 → ∀ (ad15 : Nat → Nat) (H : Heap) (locs : List Loc) (ls : Array Slot), axh n0 ad0 n16 ad15 → rf nb ad15 n16 (a0) (Aa0) → va_P (dC, dI) vwCl (CH cy nb ad15 n16 E18) H → va_D A (CH cy nb ad15 n16 E18) → va_S A s.heap H locs → lv_has ls 4 [(3, .int y19), (0, .ref Aa0), (1, .int a1), (2, .int a2)] → W p l e (headSpec (wsg yX9_cardOf cX9_cardOf 4 (some .int)) ({ frames := 11, cells := nz - n0, slots := sz9 - s0, locals := 600 })).room s m ([.ref Aa0, .int a1, .int a2] : List Value).toArray below meth c H locs (n16 - n0) (s17 - s0) Qn (F0 m 2 ls []) := by
    intro m14
    induction m14 with
    | zero => intro y19 n16 s17 E18 hF; exact (m0_o hF).elim
    | succ m14 ih =>
      intro y19 n16 s17 E18 hF hC hN hT ad15 H locs ls hX hr20 hP hD hS hl
      simp only [H_X9_cardOf_L2] at hF
      refine lv_iload_n hx hb dX9_cardOf_2 rfl (lv_at hl 0 rfl) ?_
      refine lv_aload_n hx hb dX9_cardOf_3 rfl (lv_at hl 1 rfl) ?_
      obtain ⟨x21, e22, hF⟩ := mg_o hF
      obtain ⟨hr23, fs9, h9, g9⟩ := rdR hP hC hr20 e22
      refine va_get (D := (dC, dI)) (ci := 9) (v := .ref (AD nb ad15 x21)) (C := RX9) (T := TX9) (N := 14) hx hb hts inlX9 hown hK h9 0 rfl rfl 10 (by decide) (hts _ mw_108) (fun _ h9 => h9) g9 dX9_cardOf_4 ?_
      clear h9 g9
      obtain ⟨fs9, e24, hF⟩ := mg_o hF
      obtain ⟨x25, n27, s28, E29, e26, hF⟩ := mb_o hF
      have hm := mle e26
      have hM1 := mle1 hF
      have hM2 := mle2 hF
      have hm1 := hm.1
      have hm2 := hm.2.1
      have hFc := my_free hD hS hA
      refine va_calli (va_runV (C := RJx4a65c) (As := []) (rest := [.int y19]) ⟨hx, hb, hml, hown, hts⟩ (h_Jx4a65c_size_8abf5 l dC dI cy nb ad15 n16 s17 E18 hC (x21) (AD nb ad15 x21) hr23 H.size x25 n27 s28 E29 e26) (cwV 0 hts (gV mw_346 mw_166 mw_167 mw_12 mw_168) rfl rfl rfl (by decide +kernel) ⟨Nat.le_of_ble_eq_true rfl, Nat.le_of_ble_eq_true rfl⟩) (hl_preV hP hK hD hE hS hFc (va_recv hK (rdO_ hP hC hr23 e24) (ci := 14) (q0 := 0) rfl rfl)) rfl rfl hl.1 rfl (lv_room (Nat.le_of_ble_eq_true rfl)) dX9_cardOf_7 ⟨show n16 - n0 + (n27 - n16) ≤ nz - n0 by omega, show s17 - s0 + (s28 - s17) ≤ sz9 - s0 by omega⟩) hS (fun q _ h => hFc q h) hFc (fun r9 u t H1 locs ht hvm hw hB hz1 hk1 hS => ?_)
      obtain ⟨ad30, hax, hP1, hD1⟩ := hB
      rw [ht] at hP1
      have hP := hP1
      have hD := hD1.weaken (fun k q _ h => hFc q.1 h)
      generalize H1 = H at hP hS ⊢
      have hr20 := hr20.mv hC.1 hax
      have hX := hX.trans hax
      have hC := hm.2.2 hC
      have hN : n0 ≤ n27 := Nat.le_trans hN hm1
      have hT : s0 ≤ s28 := Nat.le_trans hT hm2
      refine W.widen (k := n27 - n0) (n := s28 - s0) (by omega) (by omega) ?_
      clear hP1 hD1 hFc hk1 hz1 hvm ht hax hm hm1 hm2 hM1 hM2
      obtain rfl := hw.symm
      refine lv_icmp_ge (tgt := 57) hx hb dX9_cardOf_10 (by decide) (fun c31 => ?_) (fun c31 => ?_)
      · skip
        rw [if_pos c31] at hF
        obtain ⟨ht9, hn9, hs9, hE9⟩ := mr_o hF
        subst hn9 hs9 hE9
        have hl := lv_sub (l' := [(3, .int y19), (0, .ref Aa0), (1, .int a1), (2, .int a2)]) hl [0, 1, 2, 3] rfl
        exact kx7 _ ht9.symm _ _ _ _ hX hr20 hP hD hS hl
      · skip
        rw [if_neg c31] at hF
        refine lv_aload_n hx hb dX9_cardOf_13 rfl (lv_at hl 1 rfl) ?_
        obtain ⟨x32, e33, hF⟩ := mg_o hF
        obtain ⟨hr34, fs9, h9, g9⟩ := rdR hP hC hr20 e33
        refine va_get (D := (dC, dI)) (ci := 9) (v := .ref (AD nb ad30 x32)) (C := RX9) (T := TX9) (N := 14) hx hb hts inlX9 hown hK h9 0 rfl rfl 10 (by decide) (hts _ mw_108) (fun _ h9 => h9) g9 dX9_cardOf_14 ?_
        clear h9 g9
        refine lv_iload_n hx hb dX9_cardOf_17 rfl (lv_at hl 0 rfl) ?_
        obtain ⟨fs9, e35, hF⟩ := mg_o hF
        obtain ⟨x36, n38, s39, E40, e37, hF⟩ := mb_o hF
        have hm := mle e37
        have hM1 := mle1 hF
        have hM2 := mle2 hF
        have hm1 := hm.1
        have hm2 := hm.2.1
        have hFc := my_free hD hS hA
        refine va_callr (va_runV (C := RJx4a65c) (As := [.int y19]) (rest := []) ⟨hx, hb, hml, hown, hts⟩ (h_Jx4a65c_get_915e3 l dC dI cy nb ad30 n27 s28 E29 hC (x32) (AD nb ad30 x32) hr34 (y19) H.size x36 n38 s39 E40 e37) (cwV 1 hts (gV mw_347 mw_235 mw_236 mw_12 mw_237) rfl rfl rfl (by decide +kernel) ⟨Nat.le_of_ble_eq_true rfl, Nat.le_of_ble_eq_true rfl⟩) (hl_preV hP hK hD hE hS hFc (va_recv hK (rdO_ hP hC hr34 e35) (ci := 14) (q0 := 0) rfl rfl)) rfl rfl hl.1 rfl (lv_room (Nat.le_of_ble_eq_true rfl)) dX9_cardOf_18 ⟨show n27 - n0 + (n38 - n27) ≤ nz - n0 by omega, show s28 - s0 + (s39 - s28) ≤ sz9 - s0 by omega⟩) hS (fun q _ h => hFc q h) hFc (fun u ra t H1 locs ht hvm hw hB hz1 hk1 hS => ?_)
        obtain ⟨ad41, hax, hr42, hP1, hD1⟩ := hB
        rw [ht] at hP1
        have hP := hP1
        have hD := hD1.weaken (fun k q _ h => hFc q.1 h)
        generalize H1 = H at hP hS ⊢
        have hr20 := hr20.mv hC.1 hax
        have hX := hX.trans hax
        have hC := hm.2.2 hC
        have hN : n0 ≤ n38 := Nat.le_trans hN hm1
        have hT : s0 ≤ s39 := Nat.le_trans hT hm2
        refine W.widen (k := n38 - n0) (n := s39 - s0) (by omega) (by omega) ?_
        clear hP1 hD1 hFc hk1 hz1 hvm ht hax hm hm1 hm2 hM1 hM2
        refine my_top (y := .ref (AD nb ad41 x36)) (congrArg Value.ref hr42.2.symm) ?_
        have hr42 := rf_self hr42
        obtain ⟨fs9, e44, hF⟩ := mg_o hF
        refine va_castS hx hb hown (hts _ mw_174) (hK.1 8 _ rfl).2 (va_recv hK (rdO_ hP hC hr42 e44) (ci := 8) (q0 := 0) rfl rfl) dX9_cardOf_21 ?_
        obtain ⟨x45, e46, hF⟩ := mg_o hF
        obtain ⟨fs9, h9, g9⟩ := rdI hP hC hr42 e46
        refine va_get (D := (dC, dI)) (ci := 8) (v := .int x45) (C := RX8) (T := TX8) (N := 9) hx hb hts inlX8 hown hK h9 0 rfl rfl 0 (by decide) (hts _ mw_344) (fun _ h9 => h9) g9 dX9_cardOf_24 ?_
        clear h9 g9
        refine lv_iload_n hx hb dX9_cardOf_27 rfl (lv_at hl 2 rfl) ?_
        refine lv_icmp_ne (tgt := 51) hx hb dX9_cardOf_28 (by decide) (fun c47 => ?_) (fun c47 => ?_)
        · skip
          rw [if_neg c47] at hF
          refine lv_iinc (v := (y19 + 1)) (lv' := [(3, .int (y19 + 1)), (0, .ref Aa0), (1, .int a1), (2, .int a2)]) hx hb dX9_cardOf_51 hl (k := 0) rfl (by rfl) (by decide) rfl (fun ls hl => ?_)
          refine lv_goto (tgt := 2) hx hb dX9_cardOf_54 (by decide) ?_
          have hl := lv_sub (l' := [(3, .int (y19 + 1)), (0, .ref Aa0), (1, .int a1), (2, .int a2)]) hl [0, 1, 2, 3] rfl
          exact ih _ _ _ _ hF hC hN hT _ _ _ _ hX hr20 hP hD hS hl
        · skip
          rw [if_pos c47] at hF
          refine lv_aload_n hx hb dX9_cardOf_31 rfl (lv_at hl 1 rfl) ?_
          obtain ⟨x48, e49, hF⟩ := mg_o hF
          obtain ⟨hr50, fs9, h9, g9⟩ := rdR hP hC hr20 e49
          refine va_get (D := (dC, dI)) (ci := 9) (v := .ref (AD nb ad41 x48)) (C := RX9) (T := TX9) (N := 14) hx hb hts inlX9 hown hK h9 0 rfl rfl 10 (by decide) (hts _ mw_108) (fun _ h9 => h9) g9 dX9_cardOf_32 ?_
          clear h9 g9
          refine lv_iload_n hx hb dX9_cardOf_35 rfl (lv_at hl 0 rfl) ?_
          obtain ⟨fs9, e51, hF⟩ := mg_o hF
          obtain ⟨x52, n54, s55, E56, e53, hF⟩ := mb_o hF
          have hm := mle e53
          have hM1 := mle1 hF
          have hM2 := mle2 hF
          have hm1 := hm.1
          have hm2 := hm.2.1
          have hFc := my_free hD hS hA
          refine va_callr (va_runV (C := RJx4a65c) (As := [.int y19]) (rest := []) ⟨hx, hb, hml, hown, hts⟩ (h_Jx4a65c_get_915e3 l dC dI cy nb ad41 n38 s39 E40 hC (x48) (AD nb ad41 x48) hr50 (y19) H.size x52 n54 s55 E56 e53) (cwV 1 hts (gV mw_347 mw_235 mw_236 mw_12 mw_237) rfl rfl rfl (by decide +kernel) ⟨Nat.le_of_ble_eq_true rfl, Nat.le_of_ble_eq_true rfl⟩) (hl_preV hP hK hD hE hS hFc (va_recv hK (rdO_ hP hC hr50 e51) (ci := 14) (q0 := 0) rfl rfl)) rfl rfl hl.1 rfl (lv_room (Nat.le_of_ble_eq_true rfl)) dX9_cardOf_36 ⟨show n38 - n0 + (n54 - n38) ≤ nz - n0 by omega, show s39 - s0 + (s55 - s39) ≤ sz9 - s0 by omega⟩) hS (fun q _ h => hFc q h) hFc (fun u ra t H1 locs ht hvm hw hB hz1 hk1 hS => ?_)
          obtain ⟨ad57, hax, hr58, hP1, hD1⟩ := hB
          rw [ht] at hP1
          have hP := hP1
          have hD := hD1.weaken (fun k q _ h => hFc q.1 h)
          generalize H1 = H at hP hS ⊢
          have hr20 := hr20.mv hC.1 hax
          have hX := hX.trans hax
          have hC := hm.2.2 hC
          have hN : n0 ≤ n54 := Nat.le_trans hN hm1
          have hT : s0 ≤ s55 := Nat.le_trans hT hm2
          refine W.widen (k := n54 - n0) (n := s55 - s0) (by omega) (by omega) ?_
          clear hP1 hD1 hFc hk1 hz1 hvm ht hax hm hm1 hm2 hM1 hM2
          refine my_top (y := .ref (AD nb ad57 x52)) (congrArg Value.ref hr58.2.symm) ?_
          have hr58 := rf_self hr58
          obtain ⟨fs9, e60, hF⟩ := mg_o hF
          refine va_castS hx hb hown (hts _ mw_174) (hK.1 8 _ rfl).2 (va_recv hK (rdO_ hP hC hr58 e60) (ci := 8) (q0 := 0) rfl rfl) dX9_cardOf_39 ?_
          obtain ⟨x61, e62, hF⟩ := mg_o hF
          obtain ⟨fs9, h9, g9⟩ := rdI hP hC hr58 e62
          refine va_get (D := (dC, dI)) (ci := 8) (v := .int x61) (C := RX8) (T := TX8) (N := 9) hx hb hts inlX8 hown hK h9 0 rfl rfl 2 (by decide) (hts _ mw_1365) (fun _ h9 => h9) g9 dX9_cardOf_42 ?_
          clear h9 g9
          refine lv_iload_n hx hb dX9_cardOf_45 rfl (lv_at hl 3 rfl) ?_
          refine lv_icmp_ne (tgt := 51) hx hb dX9_cardOf_46 (by decide) (fun c63 => ?_) (fun c63 => ?_)
          · skip
            rw [if_neg c63] at hF
            refine lv_iinc (v := (y19 + 1)) (lv' := [(3, .int (y19 + 1)), (0, .ref Aa0), (1, .int a1), (2, .int a2)]) hx hb dX9_cardOf_51 hl (k := 0) rfl (by rfl) (by decide) rfl (fun ls hl => ?_)
            refine lv_goto (tgt := 2) hx hb dX9_cardOf_54 (by decide) ?_
            have hl := lv_sub (l' := [(3, .int (y19 + 1)), (0, .ref Aa0), (1, .int a1), (2, .int a2)]) hl [0, 1, 2, 3] rfl
            exact ih _ _ _ _ hF hC hN hT _ _ _ _ hX hr20 hP hD hS hl
          · skip
            rw [if_pos c63] at hF
            refine lv_iload_n hx hb dX9_cardOf_49 rfl (lv_at hl 0 rfl) ?_
            obtain ⟨hi9, hn9, hs9, hE9⟩ := mr_o hF
            subst hn9 hs9 hE9
            have hF := kr8 _ hi9.symm
            obtain ⟨ht9, hn9, hs9, hE9⟩ := mr_o hF
            subst hn9 hs9 hE9
            rw [hQ]
            exact W.iret (v := y19) hx hb hr (fun t ht hW => ⟨⟨y19, (), rfl, ht9, _, hX, by rw [ht]; exact hP, hD⟩, hS.F ht⟩) hS.2.2 dX9_cardOf_50
  have hl := lv_sub (l' := [(3, .int 0), (0, .ref Aa0), (1, .int a1), (2, .int a2)]) hl [0, 1, 2, 3] rfl
  exact loop13 FUEL _ _ _ _ hL2 hC hN hT _ _ _ _ hX ha0 hP hD hS hl
noncomputable def H_X9_nextOf_L2 (a0 : Nat) (a1 : Int32) : Nat → Int32 → MH (Sum (Int32) (Int32))
  | 0, _ => m0
  | m14 + 1, y19 => mb (mg fun n E => fO n E (a0) 9) fun _ => mb (H_X9_cardsOf (a0) (a1)) fun x22 => if x22 ≤ y19 then (mr (.inr y19)) else (mb (rR (a0) 9 10) fun x29 => mb (mg fun n E => fO n E (a0) 9) fun _ => mb (H_X9_cardOf (a0) (a1) (y19)) fun x33 => mb (mg fun n E => fO n E (x29) 14) fun _ => mb (H_Jx4a65c_get_915e3 (x29) (x33)) fun x40 => mb (mg fun n E => fO n E (x40) 8) fun _ => mb (rI (x40) 8 3) fun x49 => if 3 ≤ x49 then (H_X9_nextOf_L2 a0 a1 m14 ((y19 + 1))) else (mb (mg fun n E => fO n E (a0) 9) fun _ => mb (H_X9_cardOf (a0) (a1) (y19)) fun x53 => mr (.inl x53)))
noncomputable def H_X9_nextOf (a0 : Nat) (a1 : Int32) : MH Int32 := mb (H_X9_nextOf_L2 a0 a1 FUEL ((0 : Int32))) fun t1 => match t1 with | .inl r => mr r | .inr t9 => mr (-1 : Int32)
set_option maxHeartbeats 4000000 in
set_option maxRecDepth 100000 in
theorem h_X9_nextOf (l : Launch) (dC : Nat → ClassId) (dI : Nat → Nat → Nat) (cy : Nat → ClassId) (nb : Nat → Nat) (ad0 : Nat → Nat) (n0 s0 : Nat) (E0 : HE) (hC : clo n0 E0) (a0 Aa0 : Nat) (ha0 : rf nb ad0 n0 a0 Aa0) (a1 : Int32) (sz : Nat) (ro : Int32) (nz sz9 : Nat) (Ez : HE) (hF : (H_X9_nextOf a0 a1).1 (n0, s0, E0) = some (ro, nz, sz9, Ez)) : Met l yX9_nextOf (wsg yX9_nextOf cX9_nextOf 3 (some .int)) ({ frames := 12, cells := nz - n0, slots := sz9 - s0, locals := 700 }) (va_Pc [.ref Aa0, .int a1] (fun U => U.heap.size = sz ∧ va_P (dC, dI) vwCl (CH cy nb ad0 n0 E0) U.heap ∧ va_K (dC, dI) vwCl (tyL cy) U ∧ va_D (fun _ => True) (CH cy nb ad0 n0 E0) ∧ GL nb (va_A (CH cy nb ad0 n0 E0) sz) U)) (va_Qi (fun (r : Int32) (_ : Unit) => r = ro) (fun _ t => ∃ ad2 : Nat → Nat, axh n0 ad0 nz ad2 ∧ va_P (dC, dI) vwCl (CH cy nb ad2 nz Ez) t.heap ∧ va_D (va_A (CH cy nb ad0 n0 E0) sz) (CH cy nb ad2 nz Ez)) (va_A (CH cy nb ad0 n0 E0) sz)) (nz - n0) (sz9 - s0) (va_A (CH cy nb ad0 n0 E0) sz) := by
  refine Met.ofW (cc := cX9_nextOf) (maxL := 3) (ret := (some .int)) (by decide) rfl ?_
  intro p e s m args below meth c s₁ B hml hv
  obtain ⟨rfl, hsz, hP, hK, hD0, hE⟩ := hv
  have hx := B.exec
  have hb := B.bytes
  have hr := B.returns
  have hts0 := atoms_spec (ws := (wsg yX9_nextOf cX9_nextOf 3 (some .int))) B.pre
  have hts : ∀ w ∈ wsL_law, w.before _ s = true := fun w h => hts0 w (List.mem_cons_of_mem _ h)
  have hown : s.vm.findClass RX9 = some m.cls := by have h9 := findClass_of_methodNamed B.named; exact h9
  subst hsz
  have hD := hD0.self (sz := s.heap.size)
  generalize hAe : va_A (CH cy nb ad0 n0 E0) s.heap.size = A at hD hE ⊢
  have hA : ∀ q : Nat, s.heap.size ≤ q → A q := fun q h => by rw [← hAe]; exact Or.inr h
  have hS : va_S A s.heap s.heap [] := va_S.rf
  have hl := lv_entry ([.ref Aa0, .int a1]) (n := 3) (Nat.le_of_ble_eq_true rfl)
  rw [lg_entry_eq]
  generalize (lg_sl ([.ref Aa0, .int a1]) ++ List.replicate (3 - (lg_sl ([.ref Aa0, .int a1])).length) Slot.unset).toArray = ls at hl ⊢
  have hl : lv_has ls 3 [(0, .ref Aa0), (1, .int a1)] := hl
  generalize hHe : s.heap = H at hP hS ⊢
  have hS : va_S A s.heap H [] := by rw [hHe]; exact hS
  refine my_Q (fun Qn hQ => ?_)
  simp only [H_X9_nextOf] at hF
  have hX : axh n0 ad0 n0 ad0 := axh_refl
  have hN : n0 ≤ n0 := Nat.le_refl _
  have hT : s0 ≤ s0 := Nat.le_refl _
  refine W.widen (k := n0 - n0) (n := s0 - s0) (by omega) (by omega) ?_
  refine lv_iconst (v := 0) hx hb dX9_nextOf_0 (by decide) ?_
  refine lv_istore_n (lv' := [(2, .int 0), (0, .ref Aa0), (1, .int a1)]) hx hb dX9_nextOf_1 rfl hl (by decide) rfl (fun ls hl => ?_)
  obtain ⟨t1, n3, s4, E5, hL2, hF⟩ := mb_o hF
  have hm := mle hL2
  have kx7 : ∀ (t9 : Int32), t1 = .inr t9 → ∀ (ad6 : Nat → Nat) (H : Heap) (locs : List Loc) (ls : Array Slot), axh n0 ad0 n3 ad6 → rf nb ad6 n3 (a0) (Aa0) → va_P (dC, dI) vwCl (CH cy nb ad6 n3 E5) H → va_D A (CH cy nb ad6 n3 E5) → va_S A s.heap H locs → lv_has ls 3 [(2, .int t9), (0, .ref Aa0), (1, .int a1)] → W p l e (headSpec (wsg yX9_nextOf cX9_nextOf 3 (some .int)) ({ frames := 12, cells := nz - n0, slots := sz9 - s0, locals := 700 })).room s m ([.ref Aa0, .int a1] : List Value).toArray below meth c H locs (n3 - n0) (s4 - s0) Qn (F0 m 47 ls []) := by
    intro t9 he
    subst he
    intro ad6 H locs ls hX hr10 hP hD hS hl
    have hC := hm.2.2 hC
    have hN : n0 ≤ n3 := Nat.le_trans hN hm.1
    have hT : s0 ≤ s4 := Nat.le_trans hT hm.2.1
    clear hm
    refine lv_iconst (v := (-1)) hx hb dX9_nextOf_47 (by decide) ?_
    obtain ⟨ht9, hn9, hs9, hE9⟩ := mr_o hF
    subst hn9 hs9 hE9
    have hX9 := hX
    rw [hQ]
    exact W.iret (v := (-1)) hx hb hr (fun t ht hW => ⟨⟨(-1), (), rfl, ht9, _, hX, by rw [ht]; exact hP, hD⟩, hS.F ht⟩) hS.2.2 dX9_nextOf_48
  have kr8 : ∀ r : Int32, t1 = .inl r → (mr r : MH _).1 (n3, s4, E5) = some (ro, nz, sz9, Ez) := by
    intro r he
    subst he
    exact hF
  have hK11 := mle1 hF
  have hK12 := mle2 hF
  clear hF hm
  have loop13 : ∀ (m14 : Nat) (y19 : Int32) (n16 s17 : Nat) (E18 : HE), (H_X9_nextOf_L2 a0 a1 m14 y19).1 (n16, s17, E18) = some (t1, n3, s4, E5) → clo n16 E18 → n0 ≤ n16 → s0 ≤ s17 → ∀ (ad15 : Nat → Nat) (H : Heap) (locs : List Loc) (ls : Array Slot), axh n0 ad0 n16 ad15 → rf nb ad15 n16 (a0) (Aa0) → va_P (dC, dI) vwCl (CH cy nb ad15 n16 E18) H → va_D A (CH cy nb ad15 n16 E18) → va_S A s.heap H locs → lv_has ls 3 [(2, .int y19), (0, .ref Aa0), (1, .int a1)] → W p l e (headSpec (wsg yX9_nextOf cX9_nextOf 3 (some .int)) ({ frames := 12, cells := nz - n0, slots := sz9 - s0, locals := 700 })).room s m ([.ref Aa0, .int a1] : List Value).toArray below meth c H locs (n16 - n0) (s17 - s0) Qn (F0 m 2 ls []) := by
    intro m14
    induction m14 with
    | zero => intro y19 n16 s17 E18 hF; exact (m0_o hF).elim
    | succ m14 ih =>
      intro y19 n16 s17 E18 hF hC hN hT ad15 H locs ls hX hr20 hP hD hS hl
      simp only [H_X9_nextOf_L2] at hF
      refine lv_iload_n hx hb dX9_nextOf_2 rfl (lv_at hl 0 rfl) ?_
      refine lv_aload_n hx hb dX9_nextOf_3 rfl (lv_at hl 1 rfl) ?_
      refine lv_iload_n hx hb dX9_nextOf_4 rfl (lv_at hl 2 rfl) ?_
      obtain ⟨fs9, e21, hF⟩ := mg_o hF
      obtain ⟨x22, n24, s25, E26, e23, hF⟩ := mb_o hF
      have hm := mle e23
      have hM1 := mle1 hF
      have hM2 := mle2 hF
      have hm1 := hm.1
      have hm2 := hm.2.1
      have hFc := my_free hD hS hA
      refine va_calli (va_runV (C := RX9) (As := [.int a1]) (rest := [.int y19]) ⟨hx, hb, hml, hown, hts⟩ (h_X9_cardsOf l dC dI cy nb ad15 n16 s17 E18 hC (a0) Aa0 hr20 (a1) H.size x22 n24 s25 E26 e23) (cwV 1 hts (gV mw_1360 mw_1063 mw_1064 mw_5 mw_1065) rfl rfl rfl (by decide +kernel) ⟨Nat.le_of_ble_eq_true rfl, Nat.le_of_ble_eq_true rfl⟩) (hl_preV hP hK hD hE hS hFc (va_recv hK (rdO_ hP hC hr20 e21) (ci := 9) (q0 := 0) rfl rfl)) rfl rfl hl.1 rfl (lv_room (Nat.le_of_ble_eq_true rfl)) dX9_nextOf_5 ⟨show n16 - n0 + (n24 - n16) ≤ nz - n0 by omega, show s17 - s0 + (s25 - s17) ≤ sz9 - s0 by omega⟩) hS (fun q _ h => hFc q h) hFc (fun r9 u t H1 locs ht hvm hw hB hz1 hk1 hS => ?_)
      obtain ⟨ad27, hax, hP1, hD1⟩ := hB
      rw [ht] at hP1
      have hP := hP1
      have hD := hD1.weaken (fun k q _ h => hFc q.1 h)
      generalize H1 = H at hP hS ⊢
      have hr20 := hr20.mv hC.1 hax
      have hX := hX.trans hax
      have hC := hm.2.2 hC
      have hN : n0 ≤ n24 := Nat.le_trans hN hm1
      have hT : s0 ≤ s25 := Nat.le_trans hT hm2
      refine W.widen (k := n24 - n0) (n := s25 - s0) (by omega) (by omega) ?_
      clear hP1 hD1 hFc hk1 hz1 hvm ht hax hm hm1 hm2 hM1 hM2
      obtain rfl := hw.symm
      refine lv_icmp_ge (tgt := 47) hx hb dX9_nextOf_8 (by decide) (fun c28 => ?_) (fun c28 => ?_)
      · skip
        rw [if_pos c28] at hF
        obtain ⟨ht9, hn9, hs9, hE9⟩ := mr_o hF
        subst hn9 hs9 hE9
        have hl := lv_sub (l' := [(2, .int y19), (0, .ref Aa0), (1, .int a1)]) hl [0, 1, 2] rfl
        exact kx7 _ ht9.symm _ _ _ _ hX hr20 hP hD hS hl
      · skip
        rw [if_neg c28] at hF
        refine lv_aload_n hx hb dX9_nextOf_11 rfl (lv_at hl 1 rfl) ?_
        obtain ⟨x29, e30, hF⟩ := mg_o hF
        obtain ⟨hr31, fs9, h9, g9⟩ := rdR hP hC hr20 e30
        refine va_get (D := (dC, dI)) (ci := 9) (v := .ref (AD nb ad27 x29)) (C := RX9) (T := TX9) (N := 14) hx hb hts inlX9 hown hK h9 0 rfl rfl 10 (by decide) (hts _ mw_108) (fun _ h9 => h9) g9 dX9_nextOf_12 ?_
        clear h9 g9
        refine lv_aload_n hx hb dX9_nextOf_15 rfl (lv_at hl 1 rfl) ?_
        refine lv_iload_n hx hb dX9_nextOf_16 rfl (lv_at hl 2 rfl) ?_
        refine lv_iload_n hx hb dX9_nextOf_17 rfl (lv_at hl 0 rfl) ?_
        obtain ⟨fs9, e32, hF⟩ := mg_o hF
        obtain ⟨x33, n35, s36, E37, e34, hF⟩ := mb_o hF
        have hm := mle e34
        have hM1 := mle1 hF
        have hM2 := mle2 hF
        have hm1 := hm.1
        have hm2 := hm.2.1
        have hFc := my_free hD hS hA
        refine va_calli (va_runV (C := RX9) (As := [.int a1, .int y19]) (rest := [.ref (AD nb ad27 x29)]) ⟨hx, hb, hml, hown, hts⟩ (h_X9_cardOf l dC dI cy nb ad27 n24 s25 E26 hC (a0) Aa0 hr20 (a1) (y19) H.size x33 n35 s36 E37 e34) (cwV 2 hts (gV mw_1361 mw_1362 mw_1363 mw_5 mw_1364) rfl rfl rfl (by decide +kernel) ⟨Nat.le_of_ble_eq_true rfl, Nat.le_of_ble_eq_true rfl⟩) (hl_preV hP hK hD hE hS hFc (va_recv hK (rdO_ hP hC hr20 e32) (ci := 9) (q0 := 0) rfl rfl)) rfl rfl hl.1 rfl (lv_room (Nat.le_of_ble_eq_true rfl)) dX9_nextOf_18 ⟨show n24 - n0 + (n35 - n24) ≤ nz - n0 by omega, show s25 - s0 + (s36 - s25) ≤ sz9 - s0 by omega⟩) hS (fun q _ h => hFc q h) hFc (fun r9 u t H1 locs ht hvm hw hB hz1 hk1 hS => ?_)
        obtain ⟨ad38, hax, hP1, hD1⟩ := hB
        rw [ht] at hP1
        have hP := hP1
        have hD := hD1.weaken (fun k q _ h => hFc q.1 h)
        generalize H1 = H at hP hS ⊢
        have hr20 := hr20.mv hC.1 hax
        have hr31 := hr31.mv hC.1 hax
        have hX := hX.trans hax
        have hC := hm.2.2 hC
        have hN : n0 ≤ n35 := Nat.le_trans hN hm1
        have hT : s0 ≤ s36 := Nat.le_trans hT hm2
        refine W.widen (k := n35 - n0) (n := s36 - s0) (by omega) (by omega) ?_
        clear hP1 hD1 hFc hk1 hz1 hvm ht hax hm hm1 hm2 hM1 hM2
        obtain rfl := hw.symm
        obtain ⟨fs9, e39, hF⟩ := mg_o hF
        obtain ⟨x40, n42, s43, E44, e41, hF⟩ := mb_o hF
        have hm := mle e41
        have hM1 := mle1 hF
        have hM2 := mle2 hF
        have hm1 := hm.1
        have hm2 := hm.2.1
        have hFc := my_free hD hS hA
        refine va_callr (va_runV (C := RJx4a65c) (As := [.int x33]) (rest := []) ⟨hx, hb, hml, hown, hts⟩ (h_Jx4a65c_get_915e3 l dC dI cy nb ad38 n35 s36 E37 hC (x29) (AD nb ad27 x29) hr31 (x33) H.size x40 n42 s43 E44 e41) (cwV 1 hts (gV mw_347 mw_235 mw_236 mw_12 mw_237) rfl rfl rfl (by decide +kernel) ⟨Nat.le_of_ble_eq_true rfl, Nat.le_of_ble_eq_true rfl⟩) (hl_preV hP hK hD hE hS hFc (va_recv hK (rdO_ hP hC hr31 e39) (ci := 14) (q0 := 0) rfl rfl)) rfl rfl hl.1 rfl (lv_room (Nat.le_of_ble_eq_true rfl)) dX9_nextOf_21 ⟨show n35 - n0 + (n42 - n35) ≤ nz - n0 by omega, show s36 - s0 + (s43 - s36) ≤ sz9 - s0 by omega⟩) hS (fun q _ h => hFc q h) hFc (fun u ra t H1 locs ht hvm hw hB hz1 hk1 hS => ?_)
        obtain ⟨ad45, hax, hr46, hP1, hD1⟩ := hB
        rw [ht] at hP1
        have hP := hP1
        have hD := hD1.weaken (fun k q _ h => hFc q.1 h)
        generalize H1 = H at hP hS ⊢
        have hr20 := hr20.mv hC.1 hax
        have hX := hX.trans hax
        have hC := hm.2.2 hC
        have hN : n0 ≤ n42 := Nat.le_trans hN hm1
        have hT : s0 ≤ s43 := Nat.le_trans hT hm2
        refine W.widen (k := n42 - n0) (n := s43 - s0) (by omega) (by omega) ?_
        clear hP1 hD1 hFc hk1 hz1 hvm ht hax hm hm1 hm2 hM1 hM2
        refine my_top (y := .ref (AD nb ad45 x40)) (congrArg Value.ref hr46.2.symm) ?_
        have hr46 := rf_self hr46
        obtain ⟨fs9, e48, hF⟩ := mg_o hF
        refine va_castS hx hb hown (hts _ mw_174) (hK.1 8 _ rfl).2 (va_recv hK (rdO_ hP hC hr46 e48) (ci := 8) (q0 := 0) rfl rfl) dX9_nextOf_24 ?_
        obtain ⟨x49, e50, hF⟩ := mg_o hF
        obtain ⟨fs9, h9, g9⟩ := rdI hP hC hr46 e50
        refine va_get (D := (dC, dI)) (ci := 8) (v := .int x49) (C := RX8) (T := TX8) (N := 9) hx hb hts inlX8 hown hK h9 0 rfl rfl 3 (by decide) (hts _ mw_175) (fun _ h9 => h9) g9 dX9_nextOf_27 ?_
        clear h9 g9
        refine lv_iconst (v := 3) hx hb dX9_nextOf_30 (by decide) ?_
        refine lv_icmp_ge (tgt := 41) hx hb dX9_nextOf_31 (by decide) (fun c51 => ?_) (fun c51 => ?_)
        · skip
          rw [if_pos c51] at hF
          refine lv_iinc (v := (y19 + 1)) (lv' := [(2, .int (y19 + 1)), (0, .ref Aa0), (1, .int a1)]) hx hb dX9_nextOf_41 hl (k := 0) rfl (by rfl) (by decide) rfl (fun ls hl => ?_)
          refine lv_goto (tgt := 2) hx hb dX9_nextOf_44 (by decide) ?_
          have hl := lv_sub (l' := [(2, .int (y19 + 1)), (0, .ref Aa0), (1, .int a1)]) hl [0, 1, 2] rfl
          exact ih _ _ _ _ hF hC hN hT _ _ _ _ hX hr20 hP hD hS hl
        · skip
          rw [if_neg c51] at hF
          refine lv_aload_n hx hb dX9_nextOf_34 rfl (lv_at hl 1 rfl) ?_
          refine lv_iload_n hx hb dX9_nextOf_35 rfl (lv_at hl 2 rfl) ?_
          refine lv_iload_n hx hb dX9_nextOf_36 rfl (lv_at hl 0 rfl) ?_
          obtain ⟨fs9, e52, hF⟩ := mg_o hF
          obtain ⟨x53, n55, s56, E57, e54, hF⟩ := mb_o hF
          have hm := mle e54
          have hM1 := mle1 hF
          have hM2 := mle2 hF
          have hm1 := hm.1
          have hm2 := hm.2.1
          have hFc := my_free hD hS hA
          refine va_calli (va_runV (C := RX9) (As := [.int a1, .int y19]) (rest := []) ⟨hx, hb, hml, hown, hts⟩ (h_X9_cardOf l dC dI cy nb ad45 n42 s43 E44 hC (a0) Aa0 hr20 (a1) (y19) H.size x53 n55 s56 E57 e54) (cwV 2 hts (gV mw_1361 mw_1362 mw_1363 mw_5 mw_1364) rfl rfl rfl (by decide +kernel) ⟨Nat.le_of_ble_eq_true rfl, Nat.le_of_ble_eq_true rfl⟩) (hl_preV hP hK hD hE hS hFc (va_recv hK (rdO_ hP hC hr20 e52) (ci := 9) (q0 := 0) rfl rfl)) rfl rfl hl.1 rfl (lv_room (Nat.le_of_ble_eq_true rfl)) dX9_nextOf_37 ⟨show n42 - n0 + (n55 - n42) ≤ nz - n0 by omega, show s43 - s0 + (s56 - s43) ≤ sz9 - s0 by omega⟩) hS (fun q _ h => hFc q h) hFc (fun r9 u t H1 locs ht hvm hw hB hz1 hk1 hS => ?_)
          obtain ⟨ad58, hax, hP1, hD1⟩ := hB
          rw [ht] at hP1
          have hP := hP1
          have hD := hD1.weaken (fun k q _ h => hFc q.1 h)
          generalize H1 = H at hP hS ⊢
          have hr20 := hr20.mv hC.1 hax
          have hX := hX.trans hax
          have hC := hm.2.2 hC
          have hN : n0 ≤ n55 := Nat.le_trans hN hm1
          have hT : s0 ≤ s56 := Nat.le_trans hT hm2
          refine W.widen (k := n55 - n0) (n := s56 - s0) (by omega) (by omega) ?_
          clear hP1 hD1 hFc hk1 hz1 hvm ht hax hm hm1 hm2 hM1 hM2
          obtain rfl := hw.symm
          obtain ⟨hi9, hn9, hs9, hE9⟩ := mr_o hF
          subst hn9 hs9 hE9
          have hF := kr8 _ hi9.symm
          obtain ⟨ht9, hn9, hs9, hE9⟩ := mr_o hF
          subst hn9 hs9 hE9
          rw [hQ]
          exact W.iret (v := x53) hx hb hr (fun t ht hW => ⟨⟨x53, (), rfl, ht9, _, hX, by rw [ht]; exact hP, hD⟩, hS.F ht⟩) hS.2.2 dX9_nextOf_40
  have hl := lv_sub (l' := [(2, .int 0), (0, .ref Aa0), (1, .int a1)]) hl [0, 1, 2] rfl
  exact loop13 FUEL _ _ _ _ hL2 hC hN hT _ _ _ _ hX ha0 hP hD hS hl
noncomputable def H_X9_nextFed_L119 (y38 : Int32) (a0 : Nat) : Nat → Int32 → MH (Sum (Int32) (Int32))
  | 0, _ => m0
  | m54 + 1, y59 => mb (rR (a0) 9 10) fun x61 => mb (mg fun n E => fO n E (x61) 14) fun _ => mb (H_Jx4a65c_size_8abf5 (x61)) fun x65 => if x65 ≤ y59 then (mr (.inr y59)) else (mb (rR (a0) 9 10) fun x72 => mb (mg fun n E => fO n E (x72) 14) fun _ => mb (H_Jx4a65c_get_915e3 (x72) (y59)) fun x76 => mb (mg fun n E => fO n E (x76) 8) fun _ => mb (rI (x76) 8 3) fun x85 => if x85 = 0 then (mb (rR (a0) 9 8) fun x88 => mb (rR (a0) 9 10) fun x91 => mb (mg fun n E => fO n E (x91) 14) fun _ => mb (H_Jx4a65c_get_915e3 (x91) (y59)) fun x95 => mb (mg fun n E => fO n E (x95) 8) fun _ => mb (rI (x95) 8 0) fun x104 => mb (mg fun n E => fO n E (x88) 14) fun _ => mb (H_Jx4a65c_get_915e3 (x88) (x104)) fun x107 => mb (mp (isIn (x107))) fun _ => mb (mp (isIn (x107))) fun _ => mb (H_J6_intValue_8abf5 (x107)) fun x117 => if x117 = y38 then (mr (.inl y59)) else (H_X9_nextFed_L119 y38 a0 m54 ((y59 + 1)))) else (H_X9_nextFed_L119 y38 a0 m54 ((y59 + 1))))
noncomputable def H_X9_nextFed_L113 (a0 : Nat) : Nat → Int32 → MH (Int32)
  | 0, _ => m0
  | m33 + 1, y38 => if y38 < 0 then (mr y38) else (mb (H_X9_nextFed_L119 y38 a0 FUEL ((0 : Int32))) fun t41 => match t41 with | .inl r => mr r | .inr t49 => H_X9_nextFed_L113 a0 m33 ((y38 + (-1))))
noncomputable def H_X9_nextFed_L42 (a0 : Nat) : Nat → Int32 → MH (Sum (Int32) (Int32))
  | 0, _ => m0
  | m127 + 1, y132 => mb (rR (a0) 9 10) fun x134 => mb (mg fun n E => fO n E (x134) 14) fun _ => mb (H_Jx4a65c_size_8abf5 (x134)) fun x138 => if x138 ≤ y132 then (mr (.inr y132)) else (mb (rR (a0) 9 10) fun x145 => mb (mg fun n E => fO n E (x145) 14) fun _ => mb (H_Jx4a65c_get_915e3 (x145) (y132)) fun x149 => mb (mg fun n E => fO n E (x149) 8) fun _ => mb (rI (x149) 8 3) fun x158 => if x158 = 0 then (mb (rR (a0) 9 10) fun x161 => mb (mg fun n E => fO n E (x161) 14) fun _ => mb (H_Jx4a65c_get_915e3 (x161) (y132)) fun x165 => mb (mg fun n E => fO n E (x165) 8) fun _ => mb (rI (x165) 8 5) fun x174 => mb (rR (a0) 9 10) fun x176 => mb (mg fun n E => fO n E (x176) 14) fun _ => mb (H_Jx4a65c_get_915e3 (x176) (y132)) fun x180 => mb (mg fun n E => fO n E (x180) 8) fun _ => mb (rI (x180) 8 6) fun x189 => if (x174 + x189) ≤ 0 then (H_X9_nextFed_L42 a0 m127 ((y132 + 1))) else (mr (.inl y132))) else (H_X9_nextFed_L42 a0 m127 ((y132 + 1))))
noncomputable def H_X9_nextFed_L4 (a0 : Nat) : Nat → Int32 → MH (Sum (Int32) (Int32))
  | 0, _ => m0
  | m195 + 1, y200 => mb (rR (a0) 9 10) fun x202 => mb (mg fun n E => fO n E (x202) 14) fun _ => mb (H_Jx4a65c_size_8abf5 (x202)) fun x206 => if x206 ≤ y200 then (mr (.inr y200)) else (mb (rR (a0) 9 10) fun x213 => mb (mg fun n E => fO n E (x213) 14) fun _ => mb (H_Jx4a65c_get_915e3 (x213) (y200)) fun x217 => mb (mg fun n E => fO n E (x217) 8) fun _ => mb (rI (x217) 8 8) fun x226 => if x226 = 0 then (H_X9_nextFed_L4 a0 m195 ((y200 + 1))) else (mr (.inl y200)))
noncomputable def H_X9_nextFed (a0 : Nat) : MH Int32 := mb (H_X9_nextFed_L4 a0 FUEL ((0 : Int32))) fun t1 => match t1 with | .inl r => mr r | .inr t9 => mb (H_X9_nextFed_L42 a0 FUEL ((0 : Int32))) fun t11 => match t11 with | .inl r => mr r | .inr t19 => mb (H_X9_nextFed_L113 a0 FUEL ((9 : Int32))) fun t21 => mr (-1 : Int32)
set_option maxHeartbeats 4000000 in
set_option maxRecDepth 100000 in
theorem h_X9_nextFed (l : Launch) (dC : Nat → ClassId) (dI : Nat → Nat → Nat) (cy : Nat → ClassId) (nb : Nat → Nat) (ad0 : Nat → Nat) (n0 s0 : Nat) (E0 : HE) (hC : clo n0 E0) (a0 Aa0 : Nat) (ha0 : rf nb ad0 n0 a0 Aa0) (sz : Nat) (ro : Int32) (nz sz9 : Nat) (Ez : HE) (hF : (H_X9_nextFed a0).1 (n0, s0, E0) = some (ro, nz, sz9, Ez)) : Met l yX9_nextFed (wsg yX9_nextFed cX9_nextFed 4 (some .int)) ({ frames := 11, cells := nz - n0, slots := sz9 - s0, locals := 600 }) (va_Pc [.ref Aa0] (fun U => U.heap.size = sz ∧ va_P (dC, dI) vwCl (CH cy nb ad0 n0 E0) U.heap ∧ va_K (dC, dI) vwCl (tyL cy) U ∧ va_D (fun _ => True) (CH cy nb ad0 n0 E0) ∧ GL nb (va_A (CH cy nb ad0 n0 E0) sz) U)) (va_Qi (fun (r : Int32) (_ : Unit) => r = ro) (fun _ t => ∃ ad2 : Nat → Nat, axh n0 ad0 nz ad2 ∧ va_P (dC, dI) vwCl (CH cy nb ad2 nz Ez) t.heap ∧ va_D (va_A (CH cy nb ad0 n0 E0) sz) (CH cy nb ad2 nz Ez)) (va_A (CH cy nb ad0 n0 E0) sz)) (nz - n0) (sz9 - s0) (va_A (CH cy nb ad0 n0 E0) sz) := by
  refine Met.ofW (cc := cX9_nextFed) (maxL := 4) (ret := (some .int)) (by decide) rfl ?_
  intro p e s m args below meth c s₁ B hml hv
  obtain ⟨rfl, hsz, hP, hK, hD0, hE⟩ := hv
  have hx := B.exec
  have hb := B.bytes
  have hr := B.returns
  have hts0 := atoms_spec (ws := (wsg yX9_nextFed cX9_nextFed 4 (some .int))) B.pre
  have hts : ∀ w ∈ wsL_law, w.before _ s = true := fun w h => hts0 w (List.mem_cons_of_mem _ h)
  have hown : s.vm.findClass RX9 = some m.cls := by have h9 := findClass_of_methodNamed B.named; exact h9
  subst hsz
  have hD := hD0.self (sz := s.heap.size)
  generalize hAe : va_A (CH cy nb ad0 n0 E0) s.heap.size = A at hD hE ⊢
  have hA : ∀ q : Nat, s.heap.size ≤ q → A q := fun q h => by rw [← hAe]; exact Or.inr h
  have hS : va_S A s.heap s.heap [] := va_S.rf
  have hl := lv_entry ([.ref Aa0]) (n := 4) (Nat.le_of_ble_eq_true rfl)
  rw [lg_entry_eq]
  generalize (lg_sl ([.ref Aa0]) ++ List.replicate (4 - (lg_sl ([.ref Aa0])).length) Slot.unset).toArray = ls at hl ⊢
  have hl : lv_has ls 4 [(0, .ref Aa0)] := hl
  generalize hHe : s.heap = H at hP hS ⊢
  have hS : va_S A s.heap H [] := by rw [hHe]; exact hS
  refine my_Q (fun Qn hQ => ?_)
  simp only [H_X9_nextFed] at hF
  have hX : axh n0 ad0 n0 ad0 := axh_refl
  have hN : n0 ≤ n0 := Nat.le_refl _
  have hT : s0 ≤ s0 := Nat.le_refl _
  refine W.widen (k := n0 - n0) (n := s0 - s0) (by omega) (by omega) ?_
  refine lv_iconst (v := (-1)) hx hb dX9_nextFed_0 (by decide) ?_
  refine lv_istore_n (lv' := [(1, .int (-1)), (0, .ref Aa0)]) hx hb dX9_nextFed_1 rfl hl (by decide) rfl (fun ls hl => ?_)
  refine lv_iconst (v := 0) hx hb dX9_nextFed_2 (by decide) ?_
  refine lv_istore_n (lv' := [(2, .int 0), (1, .int (-1)), (0, .ref Aa0)]) hx hb dX9_nextFed_3 rfl hl (by decide) rfl (fun ls hl => ?_)
  obtain ⟨t1, n3, s4, E5, hL2, hF⟩ := mb_o hF
  have hm := mle hL2
  have kx7 : ∀ (t9 : Int32), t1 = .inr t9 → ∀ (ad6 : Nat → Nat) (H : Heap) (locs : List Loc) (ls : Array Slot), axh n0 ad0 n3 ad6 → rf nb ad6 n3 (a0) (Aa0) → va_P (dC, dI) vwCl (CH cy nb ad6 n3 E5) H → va_D A (CH cy nb ad6 n3 E5) → va_S A s.heap H locs → lv_has ls 4 [(2, .int t9), (1, .int (-1)), (0, .ref Aa0)] → W p l e (headSpec (wsg yX9_nextFed cX9_nextFed 4 (some .int)) ({ frames := 11, cells := nz - n0, slots := sz9 - s0, locals := 600 })).room s m ([.ref Aa0] : List Value).toArray below meth c H locs (n3 - n0) (s4 - s0) Qn (F0 m 40 ls []) := by
    intro t9 he
    subst he
    intro ad6 H locs ls hX hr10 hP hD hS hl
    have hC := hm.2.2 hC
    have hN : n0 ≤ n3 := Nat.le_trans hN hm.1
    have hT : s0 ≤ s4 := Nat.le_trans hT hm.2.1
    clear hm
    refine lv_iconst (v := 0) hx hb dX9_nextFed_40 (by decide) ?_
    refine lv_istore_n (lv' := [(2, .int 0), (1, .int (-1)), (0, .ref Aa0)]) hx hb dX9_nextFed_41 rfl hl (by decide) rfl (fun ls hl => ?_)
    obtain ⟨t11, n13, s14, E15, hL12, hF⟩ := mb_o hF
    have hm := mle hL12
    have kx17 : ∀ (t19 : Int32), t11 = .inr t19 → ∀ (ad16 : Nat → Nat) (H : Heap) (locs : List Loc) (ls : Array Slot), axh n0 ad0 n13 ad16 → rf nb ad16 n13 (a0) (Aa0) → va_P (dC, dI) vwCl (CH cy nb ad16 n13 E15) H → va_D A (CH cy nb ad16 n13 E15) → va_S A s.heap H locs → lv_has ls 4 [(2, .int t19), (1, .int (-1)), (0, .ref Aa0)] → W p l e (headSpec (wsg yX9_nextFed cX9_nextFed 4 (some .int)) ({ frames := 11, cells := nz - n0, slots := sz9 - s0, locals := 600 })).room s m ([.ref Aa0] : List Value).toArray below meth c H locs (n13 - n0) (s14 - s0) Qn (F0 m 110 ls []) := by
      intro t19 he
      subst he
      intro ad16 H locs ls hX hr20 hP hD hS hl
      have hC := hm.2.2 hC
      have hN : n0 ≤ n13 := Nat.le_trans hN hm.1
      have hT : s0 ≤ s14 := Nat.le_trans hT hm.2.1
      clear hm
      refine lv_bipush (v := 9) hx hb dX9_nextFed_110 (by decide) ?_
      refine lv_istore_n (lv' := [(2, .int 9), (1, .int (-1)), (0, .ref Aa0)]) hx hb dX9_nextFed_112 rfl hl (by decide) rfl (fun ls hl => ?_)
      obtain ⟨t21, n23, s24, E25, hL22, hF⟩ := mb_o hF
      have hm := mle hL22
      have kx27 : ∀ (ad26 : Nat → Nat) (H : Heap) (locs : List Loc) (ls : Array Slot), axh n0 ad0 n23 ad26 → rf nb ad26 n23 (a0) (Aa0) → va_P (dC, dI) vwCl (CH cy nb ad26 n23 E25) H → va_D A (CH cy nb ad26 n23 E25) → va_S A s.heap H locs → lv_has ls 4 [(2, .int t21), (1, .int (-1)), (0, .ref Aa0)] → W p l e (headSpec (wsg yX9_nextFed cX9_nextFed 4 (some .int)) ({ frames := 11, cells := nz - n0, slots := sz9 - s0, locals := 600 })).room s m ([.ref Aa0] : List Value).toArray below meth c H locs (n23 - n0) (s24 - s0) Qn (F0 m 192 ls []) := by
        intro ad26 H locs ls hX hr29 hP hD hS hl
        have hC := hm.2.2 hC
        have hN : n0 ≤ n23 := Nat.le_trans hN hm.1
        have hT : s0 ≤ s24 := Nat.le_trans hT hm.2.1
        clear hm
        refine lv_iload_n hx hb dX9_nextFed_192 rfl (lv_at hl 1 rfl) ?_
        obtain ⟨ht9, hn9, hs9, hE9⟩ := mr_o hF
        subst hn9 hs9 hE9
        have hX9 := hX
        rw [hQ]
        exact W.iret (v := (-1)) hx hb hr (fun t ht hW => ⟨⟨(-1), (), rfl, ht9, _, hX, by rw [ht]; exact hP, hD⟩, hS.F ht⟩) hS.2.2 dX9_nextFed_193
      have hK30 := mle1 hF
      have hK31 := mle2 hF
      clear hF hm
      have loop32 : ∀ (m33 : Nat) (y38 : Int32) (n35 s36 : Nat) (E37 : HE), (H_X9_nextFed_L113 a0 m33 y38).1 (n35, s36, E37) = some (t21, n23, s24, E25) → clo n35 E37 → n0 ≤ n35 → s0 ≤ s36 → ∀ (ad34 : Nat → Nat) (H : Heap) (locs : List Loc) (ls : Array Slot), axh n0 ad0 n35 ad34 → rf nb ad34 n35 (a0) (Aa0) → va_P (dC, dI) vwCl (CH cy nb ad34 n35 E37) H → va_D A (CH cy nb ad34 n35 E37) → va_S A s.heap H locs → lv_has ls 4 [(2, .int y38), (1, .int (-1)), (0, .ref Aa0)] → W p l e (headSpec (wsg yX9_nextFed cX9_nextFed 4 (some .int)) ({ frames := 11, cells := nz - n0, slots := sz9 - s0, locals := 600 })).room s m ([.ref Aa0] : List Value).toArray below meth c H locs (n35 - n0) (s36 - s0) Qn (F0 m 113 ls []) := by
        intro m33
        induction m33 with
        | zero => intro y38 n35 s36 E37 hF; exact (m0_o hF).elim
        | succ m33 ih =>
          intro y38 n35 s36 E37 hF hC hN hT ad34 H locs ls hX hr39 hP hD hS hl
          simp only [H_X9_nextFed_L113] at hF
          refine lv_iload_n hx hb dX9_nextFed_113 rfl (lv_at hl 0 rfl) ?_
          refine lv_if_lt (tgt := 192) hx hb dX9_nextFed_114 (by decide) (fun c40 => ?_) (fun c40 => ?_)
          · skip
            rw [if_pos c40] at hF
            obtain ⟨ht9, hn9, hs9, hE9⟩ := mr_o hF
            subst hn9 hs9 hE9
            subst ht9
            have hl := lv_sub (l' := [(2, .int y38), (1, .int (-1)), (0, .ref Aa0)]) hl [0, 1, 2] rfl
            exact kx27 _ _ _ _ hX hr39 hP hD hS hl
          · skip
            rw [if_neg c40] at hF
            refine lv_iconst (v := 0) hx hb dX9_nextFed_117 (by decide) ?_
            refine lv_istore_n (lv' := [(3, .int 0), (2, .int y38), (1, .int (-1)), (0, .ref Aa0)]) hx hb dX9_nextFed_118 rfl hl (by decide) rfl (fun ls hl => ?_)
            obtain ⟨t41, n43, s44, E45, hL42, hF⟩ := mb_o hF
            have hm := mle hL42
            have kx47 : ∀ (t49 : Int32), t41 = .inr t49 → ∀ (ad46 : Nat → Nat) (H : Heap) (locs : List Loc) (ls : Array Slot), axh n0 ad0 n43 ad46 → rf nb ad46 n43 (a0) (Aa0) → va_P (dC, dI) vwCl (CH cy nb ad46 n43 E45) H → va_D A (CH cy nb ad46 n43 E45) → va_S A s.heap H locs → lv_has ls 4 [(3, .int t49), (2, .int y38), (1, .int (-1)), (0, .ref Aa0)] → W p l e (headSpec (wsg yX9_nextFed cX9_nextFed 4 (some .int)) ({ frames := 11, cells := nz - n0, slots := sz9 - s0, locals := 600 })).room s m ([.ref Aa0] : List Value).toArray below meth c H locs (n43 - n0) (s44 - s0) Qn (F0 m 186 ls []) := by
              intro t49 he
              subst he
              intro ad46 H locs ls hX hr50 hP hD hS hl
              have hC := hm.2.2 hC
              have hN : n0 ≤ n43 := Nat.le_trans hN hm.1
              have hT : s0 ≤ s44 := Nat.le_trans hT hm.2.1
              clear hm
              refine lv_iinc (v := (y38 + (-1))) (lv' := [(2, .int (y38 + (-1))), (3, .int t49), (1, .int (-1)), (0, .ref Aa0)]) hx hb dX9_nextFed_186 hl (k := 1) rfl (by rfl) (by decide) rfl (fun ls hl => ?_)
              refine lv_goto (tgt := 113) hx hb dX9_nextFed_189 (by decide) ?_
              have hl := lv_sub (l' := [(2, .int (y38 + (-1))), (1, .int (-1)), (0, .ref Aa0)]) hl [0, 2, 3] rfl
              exact ih _ _ _ _ hF hC hN hT _ _ _ _ hX hr50 hP hD hS hl
            have kr48 : ∀ r : Int32, t41 = .inl r → (mr r : MH _).1 (n43, s44, E45) = some (ro, nz, sz9, Ez) := by
              intro r he
              subst he
              exact hF
            have hK51 := mle1 hF
            have hK52 := mle2 hF
            clear hF hm
            have loop53 : ∀ (m54 : Nat) (y59 : Int32) (n56 s57 : Nat) (E58 : HE), (H_X9_nextFed_L119 y38 a0 m54 y59).1 (n56, s57, E58) = some (t41, n43, s44, E45) → clo n56 E58 → n0 ≤ n56 → s0 ≤ s57 → ∀ (ad55 : Nat → Nat) (H : Heap) (locs : List Loc) (ls : Array Slot), axh n0 ad0 n56 ad55 → rf nb ad55 n56 (a0) (Aa0) → va_P (dC, dI) vwCl (CH cy nb ad55 n56 E58) H → va_D A (CH cy nb ad55 n56 E58) → va_S A s.heap H locs → lv_has ls 4 [(3, .int y59), (2, .int y38), (1, .int (-1)), (0, .ref Aa0)] → W p l e (headSpec (wsg yX9_nextFed cX9_nextFed 4 (some .int)) ({ frames := 11, cells := nz - n0, slots := sz9 - s0, locals := 600 })).room s m ([.ref Aa0] : List Value).toArray below meth c H locs (n56 - n0) (s57 - s0) Qn (F0 m 119 ls []) := by
              intro m54
              induction m54 with
              | zero => intro y59 n56 s57 E58 hF; exact (m0_o hF).elim
              | succ m54 ih =>
                intro y59 n56 s57 E58 hF hC hN hT ad55 H locs ls hX hr60 hP hD hS hl
                simp only [H_X9_nextFed_L119] at hF
                refine lv_iload_n hx hb dX9_nextFed_119 rfl (lv_at hl 0 rfl) ?_
                refine lv_aload_n hx hb dX9_nextFed_120 rfl (lv_at hl 3 rfl) ?_
                obtain ⟨x61, e62, hF⟩ := mg_o hF
                obtain ⟨hr63, fs9, h9, g9⟩ := rdR hP hC hr60 e62
                refine va_get (D := (dC, dI)) (ci := 9) (v := .ref (AD nb ad55 x61)) (C := RX9) (T := TX9) (N := 14) hx hb hts inlX9 hown hK h9 0 rfl rfl 10 (by decide) (hts _ mw_108) (fun _ h9 => h9) g9 dX9_nextFed_121 ?_
                clear h9 g9
                obtain ⟨fs9, e64, hF⟩ := mg_o hF
                obtain ⟨x65, n67, s68, E69, e66, hF⟩ := mb_o hF
                have hm := mle e66
                have hM1 := mle1 hF
                have hM2 := mle2 hF
                have hm1 := hm.1
                have hm2 := hm.2.1
                have hFc := my_free hD hS hA
                refine va_calli (va_runV (C := RJx4a65c) (As := []) (rest := [.int y59]) ⟨hx, hb, hml, hown, hts⟩ (h_Jx4a65c_size_8abf5 l dC dI cy nb ad55 n56 s57 E58 hC (x61) (AD nb ad55 x61) hr63 H.size x65 n67 s68 E69 e66) (cwV 0 hts (gV mw_346 mw_166 mw_167 mw_12 mw_168) rfl rfl rfl (by decide +kernel) ⟨Nat.le_of_ble_eq_true rfl, Nat.le_of_ble_eq_true rfl⟩) (hl_preV hP hK hD hE hS hFc (va_recv hK (rdO_ hP hC hr63 e64) (ci := 14) (q0 := 0) rfl rfl)) rfl rfl hl.1 rfl (lv_room (Nat.le_of_ble_eq_true rfl)) dX9_nextFed_124 ⟨show n56 - n0 + (n67 - n56) ≤ nz - n0 by omega, show s57 - s0 + (s68 - s57) ≤ sz9 - s0 by omega⟩) hS (fun q _ h => hFc q h) hFc (fun r9 u t H1 locs ht hvm hw hB hz1 hk1 hS => ?_)
                obtain ⟨ad70, hax, hP1, hD1⟩ := hB
                rw [ht] at hP1
                have hP := hP1
                have hD := hD1.weaken (fun k q _ h => hFc q.1 h)
                generalize H1 = H at hP hS ⊢
                have hr60 := hr60.mv hC.1 hax
                have hX := hX.trans hax
                have hC := hm.2.2 hC
                have hN : n0 ≤ n67 := Nat.le_trans hN hm1
                have hT : s0 ≤ s68 := Nat.le_trans hT hm2
                refine W.widen (k := n67 - n0) (n := s68 - s0) (by omega) (by omega) ?_
                clear hP1 hD1 hFc hk1 hz1 hvm ht hax hm hm1 hm2 hM1 hM2
                obtain rfl := hw.symm
                refine lv_icmp_ge (tgt := 186) hx hb dX9_nextFed_127 (by decide) (fun c71 => ?_) (fun c71 => ?_)
                · skip
                  rw [if_pos c71] at hF
                  obtain ⟨ht9, hn9, hs9, hE9⟩ := mr_o hF
                  subst hn9 hs9 hE9
                  have hl := lv_sub (l' := [(3, .int y59), (2, .int y38), (1, .int (-1)), (0, .ref Aa0)]) hl [0, 1, 2, 3] rfl
                  exact kx47 _ ht9.symm _ _ _ _ hX hr60 hP hD hS hl
                · skip
                  rw [if_neg c71] at hF
                  refine lv_aload_n hx hb dX9_nextFed_130 rfl (lv_at hl 3 rfl) ?_
                  obtain ⟨x72, e73, hF⟩ := mg_o hF
                  obtain ⟨hr74, fs9, h9, g9⟩ := rdR hP hC hr60 e73
                  refine va_get (D := (dC, dI)) (ci := 9) (v := .ref (AD nb ad70 x72)) (C := RX9) (T := TX9) (N := 14) hx hb hts inlX9 hown hK h9 0 rfl rfl 10 (by decide) (hts _ mw_108) (fun _ h9 => h9) g9 dX9_nextFed_131 ?_
                  clear h9 g9
                  refine lv_iload_n hx hb dX9_nextFed_134 rfl (lv_at hl 0 rfl) ?_
                  obtain ⟨fs9, e75, hF⟩ := mg_o hF
                  obtain ⟨x76, n78, s79, E80, e77, hF⟩ := mb_o hF
                  have hm := mle e77
                  have hM1 := mle1 hF
                  have hM2 := mle2 hF
                  have hm1 := hm.1
                  have hm2 := hm.2.1
                  have hFc := my_free hD hS hA
                  refine va_callr (va_runV (C := RJx4a65c) (As := [.int y59]) (rest := []) ⟨hx, hb, hml, hown, hts⟩ (h_Jx4a65c_get_915e3 l dC dI cy nb ad70 n67 s68 E69 hC (x72) (AD nb ad70 x72) hr74 (y59) H.size x76 n78 s79 E80 e77) (cwV 1 hts (gV mw_347 mw_235 mw_236 mw_12 mw_237) rfl rfl rfl (by decide +kernel) ⟨Nat.le_of_ble_eq_true rfl, Nat.le_of_ble_eq_true rfl⟩) (hl_preV hP hK hD hE hS hFc (va_recv hK (rdO_ hP hC hr74 e75) (ci := 14) (q0 := 0) rfl rfl)) rfl rfl hl.1 rfl (lv_room (Nat.le_of_ble_eq_true rfl)) dX9_nextFed_135 ⟨show n67 - n0 + (n78 - n67) ≤ nz - n0 by omega, show s68 - s0 + (s79 - s68) ≤ sz9 - s0 by omega⟩) hS (fun q _ h => hFc q h) hFc (fun u ra t H1 locs ht hvm hw hB hz1 hk1 hS => ?_)
                  obtain ⟨ad81, hax, hr82, hP1, hD1⟩ := hB
                  rw [ht] at hP1
                  have hP := hP1
                  have hD := hD1.weaken (fun k q _ h => hFc q.1 h)
                  generalize H1 = H at hP hS ⊢
                  have hr60 := hr60.mv hC.1 hax
                  have hX := hX.trans hax
                  have hC := hm.2.2 hC
                  have hN : n0 ≤ n78 := Nat.le_trans hN hm1
                  have hT : s0 ≤ s79 := Nat.le_trans hT hm2
                  refine W.widen (k := n78 - n0) (n := s79 - s0) (by omega) (by omega) ?_
                  clear hP1 hD1 hFc hk1 hz1 hvm ht hax hm hm1 hm2 hM1 hM2
                  refine my_top (y := .ref (AD nb ad81 x76)) (congrArg Value.ref hr82.2.symm) ?_
                  have hr82 := rf_self hr82
                  obtain ⟨fs9, e84, hF⟩ := mg_o hF
                  refine va_castS hx hb hown (hts _ mw_174) (hK.1 8 _ rfl).2 (va_recv hK (rdO_ hP hC hr82 e84) (ci := 8) (q0 := 0) rfl rfl) dX9_nextFed_138 ?_
                  obtain ⟨x85, e86, hF⟩ := mg_o hF
                  obtain ⟨fs9, h9, g9⟩ := rdI hP hC hr82 e86
                  refine va_get (D := (dC, dI)) (ci := 8) (v := .int x85) (C := RX8) (T := TX8) (N := 9) hx hb hts inlX8 hown hK h9 0 rfl rfl 3 (by decide) (hts _ mw_175) (fun _ h9 => h9) g9 dX9_nextFed_141 ?_
                  clear h9 g9
                  refine lv_if_ne (tgt := 180) hx hb dX9_nextFed_144 (by decide) (fun c87 => ?_) (fun c87 => ?_)
                  · skip
                    rw [if_neg c87] at hF
                    refine lv_iinc (v := (y59 + 1)) (lv' := [(3, .int (y59 + 1)), (2, .int y38), (1, .int (-1)), (0, .ref Aa0)]) hx hb dX9_nextFed_180 hl (k := 0) rfl (by rfl) (by decide) rfl (fun ls hl => ?_)
                    refine lv_goto (tgt := 119) hx hb dX9_nextFed_183 (by decide) ?_
                    have hl := lv_sub (l' := [(3, .int (y59 + 1)), (2, .int y38), (1, .int (-1)), (0, .ref Aa0)]) hl [0, 1, 2, 3] rfl
                    exact ih _ _ _ _ hF hC hN hT _ _ _ _ hX hr60 hP hD hS hl
                  · skip
                    rw [if_pos c87] at hF
                    refine lv_aload_n hx hb dX9_nextFed_147 rfl (lv_at hl 3 rfl) ?_
                    obtain ⟨x88, e89, hF⟩ := mg_o hF
                    obtain ⟨hr90, fs9, h9, g9⟩ := rdR hP hC hr60 e89
                    refine va_get (D := (dC, dI)) (ci := 9) (v := .ref (AD nb ad81 x88)) (C := RX9) (T := TX9) (N := 14) hx hb hts inlX9 hown hK h9 0 rfl rfl 8 (by decide) (hts _ mw_106) (fun _ h9 => h9) g9 dX9_nextFed_148 ?_
                    clear h9 g9
                    refine lv_aload_n hx hb dX9_nextFed_151 rfl (lv_at hl 3 rfl) ?_
                    obtain ⟨x91, e92, hF⟩ := mg_o hF
                    obtain ⟨hr93, fs9, h9, g9⟩ := rdR hP hC hr60 e92
                    refine va_get (D := (dC, dI)) (ci := 9) (v := .ref (AD nb ad81 x91)) (C := RX9) (T := TX9) (N := 14) hx hb hts inlX9 hown hK h9 0 rfl rfl 10 (by decide) (hts _ mw_108) (fun _ h9 => h9) g9 dX9_nextFed_152 ?_
                    clear h9 g9
                    refine lv_iload_n hx hb dX9_nextFed_155 rfl (lv_at hl 0 rfl) ?_
                    obtain ⟨fs9, e94, hF⟩ := mg_o hF
                    obtain ⟨x95, n97, s98, E99, e96, hF⟩ := mb_o hF
                    have hm := mle e96
                    have hM1 := mle1 hF
                    have hM2 := mle2 hF
                    have hm1 := hm.1
                    have hm2 := hm.2.1
                    have hFc := my_free hD hS hA
                    refine va_callr (va_runV (C := RJx4a65c) (As := [.int y59]) (rest := [.ref (AD nb ad81 x88)]) ⟨hx, hb, hml, hown, hts⟩ (h_Jx4a65c_get_915e3 l dC dI cy nb ad81 n78 s79 E80 hC (x91) (AD nb ad81 x91) hr93 (y59) H.size x95 n97 s98 E99 e96) (cwV 1 hts (gV mw_347 mw_235 mw_236 mw_12 mw_237) rfl rfl rfl (by decide +kernel) ⟨Nat.le_of_ble_eq_true rfl, Nat.le_of_ble_eq_true rfl⟩) (hl_preV hP hK hD hE hS hFc (va_recv hK (rdO_ hP hC hr93 e94) (ci := 14) (q0 := 0) rfl rfl)) rfl rfl hl.1 rfl (lv_room (Nat.le_of_ble_eq_true rfl)) dX9_nextFed_156 ⟨show n78 - n0 + (n97 - n78) ≤ nz - n0 by omega, show s79 - s0 + (s98 - s79) ≤ sz9 - s0 by omega⟩) hS (fun q _ h => hFc q h) hFc (fun u ra t H1 locs ht hvm hw hB hz1 hk1 hS => ?_)
                    obtain ⟨ad100, hax, hr101, hP1, hD1⟩ := hB
                    rw [ht] at hP1
                    have hP := hP1
                    have hD := hD1.weaken (fun k q _ h => hFc q.1 h)
                    generalize H1 = H at hP hS ⊢
                    have hr60 := hr60.mv hC.1 hax
                    have hr90 := hr90.mv hC.1 hax
                    have hX := hX.trans hax
                    have hC := hm.2.2 hC
                    have hN : n0 ≤ n97 := Nat.le_trans hN hm1
                    have hT : s0 ≤ s98 := Nat.le_trans hT hm2
                    refine W.widen (k := n97 - n0) (n := s98 - s0) (by omega) (by omega) ?_
                    clear hP1 hD1 hFc hk1 hz1 hvm ht hax hm hm1 hm2 hM1 hM2
                    refine my_top (y := .ref (AD nb ad100 x95)) (congrArg Value.ref hr101.2.symm) ?_
                    have hr101 := rf_self hr101
                    obtain ⟨fs9, e103, hF⟩ := mg_o hF
                    refine va_castS hx hb hown (hts _ mw_174) (hK.1 8 _ rfl).2 (va_recv hK (rdO_ hP hC hr101 e103) (ci := 8) (q0 := 0) rfl rfl) dX9_nextFed_159 ?_
                    obtain ⟨x104, e105, hF⟩ := mg_o hF
                    obtain ⟨fs9, h9, g9⟩ := rdI hP hC hr101 e105
                    refine va_get (D := (dC, dI)) (ci := 8) (v := .int x104) (C := RX8) (T := TX8) (N := 9) hx hb hts inlX8 hown hK h9 0 rfl rfl 0 (by decide) (hts _ mw_344) (fun _ h9 => h9) g9 dX9_nextFed_162 ?_
                    clear h9 g9
                    obtain ⟨fs9, e106, hF⟩ := mg_o hF
                    obtain ⟨x107, n109, s110, E111, e108, hF⟩ := mb_o hF
                    have hm := mle e108
                    have hM1 := mle1 hF
                    have hM2 := mle2 hF
                    have hm1 := hm.1
                    have hm2 := hm.2.1
                    have hFc := my_free hD hS hA
                    refine va_callr (va_runV (C := RJx4a65c) (As := [.int x104]) (rest := []) ⟨hx, hb, hml, hown, hts⟩ (h_Jx4a65c_get_915e3 l dC dI cy nb ad100 n97 s98 E99 hC (x88) (AD nb ad81 x88) hr90 (x104) H.size x107 n109 s110 E111 e108) (cwV 1 hts (gV mw_347 mw_235 mw_236 mw_12 mw_237) rfl rfl rfl (by decide +kernel) ⟨Nat.le_of_ble_eq_true rfl, Nat.le_of_ble_eq_true rfl⟩) (hl_preV hP hK hD hE hS hFc (va_recv hK (rdO_ hP hC hr90 e106) (ci := 14) (q0 := 0) rfl rfl)) rfl rfl hl.1 rfl (lv_room (Nat.le_of_ble_eq_true rfl)) dX9_nextFed_165 ⟨show n97 - n0 + (n109 - n97) ≤ nz - n0 by omega, show s98 - s0 + (s110 - s98) ≤ sz9 - s0 by omega⟩) hS (fun q _ h => hFc q h) hFc (fun u ra t H1 locs ht hvm hw hB hz1 hk1 hS => ?_)
                    obtain ⟨ad112, hax, hr113, hP1, hD1⟩ := hB
                    rw [ht] at hP1
                    have hP := hP1
                    have hD := hD1.weaken (fun k q _ h => hFc q.1 h)
                    generalize H1 = H at hP hS ⊢
                    have hr60 := hr60.mv hC.1 hax
                    have hX := hX.trans hax
                    have hC := hm.2.2 hC
                    have hN : n0 ≤ n109 := Nat.le_trans hN hm1
                    have hT : s0 ≤ s110 := Nat.le_trans hT hm2
                    refine W.widen (k := n109 - n0) (n := s110 - s0) (by omega) (by omega) ?_
                    clear hP1 hD1 hFc hk1 hz1 hvm ht hax hm hm1 hm2 hM1 hM2
                    refine my_top (y := .ref (AD nb ad112 x107)) (congrArg Value.ref hr113.2.symm) ?_
                    have hr113 := rf_self hr113
                    obtain ⟨_, e115, hF⟩ := mp_o hF
                    refine va_castS hx hb hown (hts _ mw_345) (hK.1 11 _ rfl).2 (hs_isIn hE hS hr113 e115) dX9_nextFed_168 ?_
                    obtain ⟨_, e116, hF⟩ := mp_o hF
                    obtain ⟨x117, n119, s120, E121, e118, hF⟩ := mb_o hF
                    have hm := mle e118
                    have hM1 := mle1 hF
                    have hM2 := mle2 hF
                    have hm1 := hm.1
                    have hm2 := hm.2.1
                    have hFc := my_free hD hS hA
                    refine va_calli (va_runV (C := RJ6) (As := []) (rest := []) ⟨hx, hb, hml, hown, hts⟩ (h_J6_intValue_8abf5 l dC dI cy nb ad112 n109 s110 E111 hC (x107) (AD nb ad112 x107) hr113 H.size x117 n119 s120 E121 e118) (cwV 0 hts (gV mw_348 mw_309 mw_310 mw_311 mw_312) rfl rfl rfl (by decide +kernel) ⟨Nat.le_of_ble_eq_true rfl, Nat.le_of_ble_eq_true rfl⟩) (hl_preV hP hK hD hE hS hFc (hs_isIn hE hS hr113 e116)) rfl rfl hl.1 rfl (lv_room (Nat.le_of_ble_eq_true rfl)) dX9_nextFed_171 ⟨show n109 - n0 + (n119 - n109) ≤ nz - n0 by omega, show s110 - s0 + (s120 - s110) ≤ sz9 - s0 by omega⟩) hS (fun q _ h => hFc q h) hFc (fun r9 u t H1 locs ht hvm hw hB hz1 hk1 hS => ?_)
                    obtain ⟨ad122, hax, hP1, hD1⟩ := hB
                    rw [ht] at hP1
                    have hP := hP1
                    have hD := hD1.weaken (fun k q _ h => hFc q.1 h)
                    generalize H1 = H at hP hS ⊢
                    have hr60 := hr60.mv hC.1 hax
                    have hX := hX.trans hax
                    have hC := hm.2.2 hC
                    have hN : n0 ≤ n119 := Nat.le_trans hN hm1
                    have hT : s0 ≤ s120 := Nat.le_trans hT hm2
                    refine W.widen (k := n119 - n0) (n := s120 - s0) (by omega) (by omega) ?_
                    clear hP1 hD1 hFc hk1 hz1 hvm ht hax hm hm1 hm2 hM1 hM2
                    obtain rfl := hw.symm
                    refine lv_iload_n hx hb dX9_nextFed_174 rfl (lv_at hl 1 rfl) ?_
                    refine lv_icmp_ne (tgt := 180) hx hb dX9_nextFed_175 (by decide) (fun c123 => ?_) (fun c123 => ?_)
                    · skip
                      rw [if_neg c123] at hF
                      refine lv_iinc (v := (y59 + 1)) (lv' := [(3, .int (y59 + 1)), (2, .int y38), (1, .int (-1)), (0, .ref Aa0)]) hx hb dX9_nextFed_180 hl (k := 0) rfl (by rfl) (by decide) rfl (fun ls hl => ?_)
                      refine lv_goto (tgt := 119) hx hb dX9_nextFed_183 (by decide) ?_
                      have hl := lv_sub (l' := [(3, .int (y59 + 1)), (2, .int y38), (1, .int (-1)), (0, .ref Aa0)]) hl [0, 1, 2, 3] rfl
                      exact ih _ _ _ _ hF hC hN hT _ _ _ _ hX hr60 hP hD hS hl
                    · skip
                      rw [if_pos c123] at hF
                      refine lv_iload_n hx hb dX9_nextFed_178 rfl (lv_at hl 0 rfl) ?_
                      obtain ⟨hi9, hn9, hs9, hE9⟩ := mr_o hF
                      subst hn9 hs9 hE9
                      have hF := kr48 _ hi9.symm
                      obtain ⟨ht9, hn9, hs9, hE9⟩ := mr_o hF
                      subst hn9 hs9 hE9
                      rw [hQ]
                      exact W.iret (v := y59) hx hb hr (fun t ht hW => ⟨⟨y59, (), rfl, ht9, _, hX, by rw [ht]; exact hP, hD⟩, hS.F ht⟩) hS.2.2 dX9_nextFed_179
            have hl := lv_sub (l' := [(3, .int 0), (2, .int y38), (1, .int (-1)), (0, .ref Aa0)]) hl [0, 1, 2, 3] rfl
            exact loop53 FUEL _ _ _ _ hL42 hC hN hT _ _ _ _ hX hr39 hP hD hS hl
      have hl := lv_sub (l' := [(2, .int 9), (1, .int (-1)), (0, .ref Aa0)]) hl [0, 1, 2] rfl
      exact loop32 FUEL _ _ _ _ hL22 hC hN hT _ _ _ _ hX hr20 hP hD hS hl
    have kr18 : ∀ r : Int32, t11 = .inl r → (mr r : MH _).1 (n13, s14, E15) = some (ro, nz, sz9, Ez) := by
      intro r he
      subst he
      exact hF
    have hK124 := mle1 hF
    have hK125 := mle2 hF
    clear hF hm
    have loop126 : ∀ (m127 : Nat) (y132 : Int32) (n129 s130 : Nat) (E131 : HE), (H_X9_nextFed_L42 a0 m127 y132).1 (n129, s130, E131) = some (t11, n13, s14, E15) → clo n129 E131 → n0 ≤ n129 → s0 ≤ s130 → ∀ (ad128 : Nat → Nat) (H : Heap) (locs : List Loc) (ls : Array Slot), axh n0 ad0 n129 ad128 → rf nb ad128 n129 (a0) (Aa0) → va_P (dC, dI) vwCl (CH cy nb ad128 n129 E131) H → va_D A (CH cy nb ad128 n129 E131) → va_S A s.heap H locs → lv_has ls 4 [(2, .int y132), (1, .int (-1)), (0, .ref Aa0)] → W p l e (headSpec (wsg yX9_nextFed cX9_nextFed 4 (some .int)) ({ frames := 11, cells := nz - n0, slots := sz9 - s0, locals := 600 })).room s m ([.ref Aa0] : List Value).toArray below meth c H locs (n129 - n0) (s130 - s0) Qn (F0 m 42 ls []) := by
      intro m127
      induction m127 with
      | zero => intro y132 n129 s130 E131 hF; exact (m0_o hF).elim
      | succ m127 ih =>
        intro y132 n129 s130 E131 hF hC hN hT ad128 H locs ls hX hr133 hP hD hS hl
        simp only [H_X9_nextFed_L42] at hF
        refine lv_iload_n hx hb dX9_nextFed_42 rfl (lv_at hl 0 rfl) ?_
        refine lv_aload_n hx hb dX9_nextFed_43 rfl (lv_at hl 2 rfl) ?_
        obtain ⟨x134, e135, hF⟩ := mg_o hF
        obtain ⟨hr136, fs9, h9, g9⟩ := rdR hP hC hr133 e135
        refine va_get (D := (dC, dI)) (ci := 9) (v := .ref (AD nb ad128 x134)) (C := RX9) (T := TX9) (N := 14) hx hb hts inlX9 hown hK h9 0 rfl rfl 10 (by decide) (hts _ mw_108) (fun _ h9 => h9) g9 dX9_nextFed_44 ?_
        clear h9 g9
        obtain ⟨fs9, e137, hF⟩ := mg_o hF
        obtain ⟨x138, n140, s141, E142, e139, hF⟩ := mb_o hF
        have hm := mle e139
        have hM1 := mle1 hF
        have hM2 := mle2 hF
        have hm1 := hm.1
        have hm2 := hm.2.1
        have hFc := my_free hD hS hA
        refine va_calli (va_runV (C := RJx4a65c) (As := []) (rest := [.int y132]) ⟨hx, hb, hml, hown, hts⟩ (h_Jx4a65c_size_8abf5 l dC dI cy nb ad128 n129 s130 E131 hC (x134) (AD nb ad128 x134) hr136 H.size x138 n140 s141 E142 e139) (cwV 0 hts (gV mw_346 mw_166 mw_167 mw_12 mw_168) rfl rfl rfl (by decide +kernel) ⟨Nat.le_of_ble_eq_true rfl, Nat.le_of_ble_eq_true rfl⟩) (hl_preV hP hK hD hE hS hFc (va_recv hK (rdO_ hP hC hr136 e137) (ci := 14) (q0 := 0) rfl rfl)) rfl rfl hl.1 rfl (lv_room (Nat.le_of_ble_eq_true rfl)) dX9_nextFed_47 ⟨show n129 - n0 + (n140 - n129) ≤ nz - n0 by omega, show s130 - s0 + (s141 - s130) ≤ sz9 - s0 by omega⟩) hS (fun q _ h => hFc q h) hFc (fun r9 u t H1 locs ht hvm hw hB hz1 hk1 hS => ?_)
        obtain ⟨ad143, hax, hP1, hD1⟩ := hB
        rw [ht] at hP1
        have hP := hP1
        have hD := hD1.weaken (fun k q _ h => hFc q.1 h)
        generalize H1 = H at hP hS ⊢
        have hr133 := hr133.mv hC.1 hax
        have hX := hX.trans hax
        have hC := hm.2.2 hC
        have hN : n0 ≤ n140 := Nat.le_trans hN hm1
        have hT : s0 ≤ s141 := Nat.le_trans hT hm2
        refine W.widen (k := n140 - n0) (n := s141 - s0) (by omega) (by omega) ?_
        clear hP1 hD1 hFc hk1 hz1 hvm ht hax hm hm1 hm2 hM1 hM2
        obtain rfl := hw.symm
        refine lv_icmp_ge (tgt := 110) hx hb dX9_nextFed_50 (by decide) (fun c144 => ?_) (fun c144 => ?_)
        · skip
          rw [if_pos c144] at hF
          obtain ⟨ht9, hn9, hs9, hE9⟩ := mr_o hF
          subst hn9 hs9 hE9
          have hl := lv_sub (l' := [(2, .int y132), (1, .int (-1)), (0, .ref Aa0)]) hl [0, 1, 2] rfl
          exact kx17 _ ht9.symm _ _ _ _ hX hr133 hP hD hS hl
        · skip
          rw [if_neg c144] at hF
          refine lv_aload_n hx hb dX9_nextFed_53 rfl (lv_at hl 2 rfl) ?_
          obtain ⟨x145, e146, hF⟩ := mg_o hF
          obtain ⟨hr147, fs9, h9, g9⟩ := rdR hP hC hr133 e146
          refine va_get (D := (dC, dI)) (ci := 9) (v := .ref (AD nb ad143 x145)) (C := RX9) (T := TX9) (N := 14) hx hb hts inlX9 hown hK h9 0 rfl rfl 10 (by decide) (hts _ mw_108) (fun _ h9 => h9) g9 dX9_nextFed_54 ?_
          clear h9 g9
          refine lv_iload_n hx hb dX9_nextFed_57 rfl (lv_at hl 0 rfl) ?_
          obtain ⟨fs9, e148, hF⟩ := mg_o hF
          obtain ⟨x149, n151, s152, E153, e150, hF⟩ := mb_o hF
          have hm := mle e150
          have hM1 := mle1 hF
          have hM2 := mle2 hF
          have hm1 := hm.1
          have hm2 := hm.2.1
          have hFc := my_free hD hS hA
          refine va_callr (va_runV (C := RJx4a65c) (As := [.int y132]) (rest := []) ⟨hx, hb, hml, hown, hts⟩ (h_Jx4a65c_get_915e3 l dC dI cy nb ad143 n140 s141 E142 hC (x145) (AD nb ad143 x145) hr147 (y132) H.size x149 n151 s152 E153 e150) (cwV 1 hts (gV mw_347 mw_235 mw_236 mw_12 mw_237) rfl rfl rfl (by decide +kernel) ⟨Nat.le_of_ble_eq_true rfl, Nat.le_of_ble_eq_true rfl⟩) (hl_preV hP hK hD hE hS hFc (va_recv hK (rdO_ hP hC hr147 e148) (ci := 14) (q0 := 0) rfl rfl)) rfl rfl hl.1 rfl (lv_room (Nat.le_of_ble_eq_true rfl)) dX9_nextFed_58 ⟨show n140 - n0 + (n151 - n140) ≤ nz - n0 by omega, show s141 - s0 + (s152 - s141) ≤ sz9 - s0 by omega⟩) hS (fun q _ h => hFc q h) hFc (fun u ra t H1 locs ht hvm hw hB hz1 hk1 hS => ?_)
          obtain ⟨ad154, hax, hr155, hP1, hD1⟩ := hB
          rw [ht] at hP1
          have hP := hP1
          have hD := hD1.weaken (fun k q _ h => hFc q.1 h)
          generalize H1 = H at hP hS ⊢
          have hr133 := hr133.mv hC.1 hax
          have hX := hX.trans hax
          have hC := hm.2.2 hC
          have hN : n0 ≤ n151 := Nat.le_trans hN hm1
          have hT : s0 ≤ s152 := Nat.le_trans hT hm2
          refine W.widen (k := n151 - n0) (n := s152 - s0) (by omega) (by omega) ?_
          clear hP1 hD1 hFc hk1 hz1 hvm ht hax hm hm1 hm2 hM1 hM2
          refine my_top (y := .ref (AD nb ad154 x149)) (congrArg Value.ref hr155.2.symm) ?_
          have hr155 := rf_self hr155
          obtain ⟨fs9, e157, hF⟩ := mg_o hF
          refine va_castS hx hb hown (hts _ mw_174) (hK.1 8 _ rfl).2 (va_recv hK (rdO_ hP hC hr155 e157) (ci := 8) (q0 := 0) rfl rfl) dX9_nextFed_61 ?_
          obtain ⟨x158, e159, hF⟩ := mg_o hF
          obtain ⟨fs9, h9, g9⟩ := rdI hP hC hr155 e159
          refine va_get (D := (dC, dI)) (ci := 8) (v := .int x158) (C := RX8) (T := TX8) (N := 9) hx hb hts inlX8 hown hK h9 0 rfl rfl 3 (by decide) (hts _ mw_175) (fun _ h9 => h9) g9 dX9_nextFed_64 ?_
          clear h9 g9
          refine lv_if_ne (tgt := 104) hx hb dX9_nextFed_67 (by decide) (fun c160 => ?_) (fun c160 => ?_)
          · skip
            rw [if_neg c160] at hF
            refine lv_iinc (v := (y132 + 1)) (lv' := [(2, .int (y132 + 1)), (1, .int (-1)), (0, .ref Aa0)]) hx hb dX9_nextFed_104 hl (k := 0) rfl (by rfl) (by decide) rfl (fun ls hl => ?_)
            refine lv_goto (tgt := 42) hx hb dX9_nextFed_107 (by decide) ?_
            have hl := lv_sub (l' := [(2, .int (y132 + 1)), (1, .int (-1)), (0, .ref Aa0)]) hl [0, 1, 2] rfl
            exact ih _ _ _ _ hF hC hN hT _ _ _ _ hX hr133 hP hD hS hl
          · skip
            rw [if_pos c160] at hF
            refine lv_aload_n hx hb dX9_nextFed_70 rfl (lv_at hl 2 rfl) ?_
            obtain ⟨x161, e162, hF⟩ := mg_o hF
            obtain ⟨hr163, fs9, h9, g9⟩ := rdR hP hC hr133 e162
            refine va_get (D := (dC, dI)) (ci := 9) (v := .ref (AD nb ad154 x161)) (C := RX9) (T := TX9) (N := 14) hx hb hts inlX9 hown hK h9 0 rfl rfl 10 (by decide) (hts _ mw_108) (fun _ h9 => h9) g9 dX9_nextFed_71 ?_
            clear h9 g9
            refine lv_iload_n hx hb dX9_nextFed_74 rfl (lv_at hl 0 rfl) ?_
            obtain ⟨fs9, e164, hF⟩ := mg_o hF
            obtain ⟨x165, n167, s168, E169, e166, hF⟩ := mb_o hF
            have hm := mle e166
            have hM1 := mle1 hF
            have hM2 := mle2 hF
            have hm1 := hm.1
            have hm2 := hm.2.1
            have hFc := my_free hD hS hA
            refine va_callr (va_runV (C := RJx4a65c) (As := [.int y132]) (rest := []) ⟨hx, hb, hml, hown, hts⟩ (h_Jx4a65c_get_915e3 l dC dI cy nb ad154 n151 s152 E153 hC (x161) (AD nb ad154 x161) hr163 (y132) H.size x165 n167 s168 E169 e166) (cwV 1 hts (gV mw_347 mw_235 mw_236 mw_12 mw_237) rfl rfl rfl (by decide +kernel) ⟨Nat.le_of_ble_eq_true rfl, Nat.le_of_ble_eq_true rfl⟩) (hl_preV hP hK hD hE hS hFc (va_recv hK (rdO_ hP hC hr163 e164) (ci := 14) (q0 := 0) rfl rfl)) rfl rfl hl.1 rfl (lv_room (Nat.le_of_ble_eq_true rfl)) dX9_nextFed_75 ⟨show n151 - n0 + (n167 - n151) ≤ nz - n0 by omega, show s152 - s0 + (s168 - s152) ≤ sz9 - s0 by omega⟩) hS (fun q _ h => hFc q h) hFc (fun u ra t H1 locs ht hvm hw hB hz1 hk1 hS => ?_)
            obtain ⟨ad170, hax, hr171, hP1, hD1⟩ := hB
            rw [ht] at hP1
            have hP := hP1
            have hD := hD1.weaken (fun k q _ h => hFc q.1 h)
            generalize H1 = H at hP hS ⊢
            have hr133 := hr133.mv hC.1 hax
            have hX := hX.trans hax
            have hC := hm.2.2 hC
            have hN : n0 ≤ n167 := Nat.le_trans hN hm1
            have hT : s0 ≤ s168 := Nat.le_trans hT hm2
            refine W.widen (k := n167 - n0) (n := s168 - s0) (by omega) (by omega) ?_
            clear hP1 hD1 hFc hk1 hz1 hvm ht hax hm hm1 hm2 hM1 hM2
            refine my_top (y := .ref (AD nb ad170 x165)) (congrArg Value.ref hr171.2.symm) ?_
            have hr171 := rf_self hr171
            obtain ⟨fs9, e173, hF⟩ := mg_o hF
            refine va_castS hx hb hown (hts _ mw_174) (hK.1 8 _ rfl).2 (va_recv hK (rdO_ hP hC hr171 e173) (ci := 8) (q0 := 0) rfl rfl) dX9_nextFed_78 ?_
            obtain ⟨x174, e175, hF⟩ := mg_o hF
            obtain ⟨fs9, h9, g9⟩ := rdI hP hC hr171 e175
            refine va_get (D := (dC, dI)) (ci := 8) (v := .int x174) (C := RX8) (T := TX8) (N := 9) hx hb hts inlX8 hown hK h9 0 rfl rfl 5 (by decide) (hts _ mw_342) (fun _ h9 => h9) g9 dX9_nextFed_81 ?_
            clear h9 g9
            refine lv_aload_n hx hb dX9_nextFed_84 rfl (lv_at hl 2 rfl) ?_
            obtain ⟨x176, e177, hF⟩ := mg_o hF
            obtain ⟨hr178, fs9, h9, g9⟩ := rdR hP hC hr133 e177
            refine va_get (D := (dC, dI)) (ci := 9) (v := .ref (AD nb ad170 x176)) (C := RX9) (T := TX9) (N := 14) hx hb hts inlX9 hown hK h9 0 rfl rfl 10 (by decide) (hts _ mw_108) (fun _ h9 => h9) g9 dX9_nextFed_85 ?_
            clear h9 g9
            refine lv_iload_n hx hb dX9_nextFed_88 rfl (lv_at hl 0 rfl) ?_
            obtain ⟨fs9, e179, hF⟩ := mg_o hF
            obtain ⟨x180, n182, s183, E184, e181, hF⟩ := mb_o hF
            have hm := mle e181
            have hM1 := mle1 hF
            have hM2 := mle2 hF
            have hm1 := hm.1
            have hm2 := hm.2.1
            have hFc := my_free hD hS hA
            refine va_callr (va_runV (C := RJx4a65c) (As := [.int y132]) (rest := [.int x174]) ⟨hx, hb, hml, hown, hts⟩ (h_Jx4a65c_get_915e3 l dC dI cy nb ad170 n167 s168 E169 hC (x176) (AD nb ad170 x176) hr178 (y132) H.size x180 n182 s183 E184 e181) (cwV 1 hts (gV mw_347 mw_235 mw_236 mw_12 mw_237) rfl rfl rfl (by decide +kernel) ⟨Nat.le_of_ble_eq_true rfl, Nat.le_of_ble_eq_true rfl⟩) (hl_preV hP hK hD hE hS hFc (va_recv hK (rdO_ hP hC hr178 e179) (ci := 14) (q0 := 0) rfl rfl)) rfl rfl hl.1 rfl (lv_room (Nat.le_of_ble_eq_true rfl)) dX9_nextFed_89 ⟨show n167 - n0 + (n182 - n167) ≤ nz - n0 by omega, show s168 - s0 + (s183 - s168) ≤ sz9 - s0 by omega⟩) hS (fun q _ h => hFc q h) hFc (fun u ra t H1 locs ht hvm hw hB hz1 hk1 hS => ?_)
            obtain ⟨ad185, hax, hr186, hP1, hD1⟩ := hB
            rw [ht] at hP1
            have hP := hP1
            have hD := hD1.weaken (fun k q _ h => hFc q.1 h)
            generalize H1 = H at hP hS ⊢
            have hr133 := hr133.mv hC.1 hax
            have hX := hX.trans hax
            have hC := hm.2.2 hC
            have hN : n0 ≤ n182 := Nat.le_trans hN hm1
            have hT : s0 ≤ s183 := Nat.le_trans hT hm2
            refine W.widen (k := n182 - n0) (n := s183 - s0) (by omega) (by omega) ?_
            clear hP1 hD1 hFc hk1 hz1 hvm ht hax hm hm1 hm2 hM1 hM2
            refine my_top (y := .ref (AD nb ad185 x180)) (congrArg Value.ref hr186.2.symm) ?_
            have hr186 := rf_self hr186
            obtain ⟨fs9, e188, hF⟩ := mg_o hF
            refine va_castS hx hb hown (hts _ mw_174) (hK.1 8 _ rfl).2 (va_recv hK (rdO_ hP hC hr186 e188) (ci := 8) (q0 := 0) rfl rfl) dX9_nextFed_92 ?_
            obtain ⟨x189, e190, hF⟩ := mg_o hF
            obtain ⟨fs9, h9, g9⟩ := rdI hP hC hr186 e190
            refine va_get (D := (dC, dI)) (ci := 8) (v := .int x189) (C := RX8) (T := TX8) (N := 9) hx hb hts inlX8 hown hK h9 0 rfl rfl 6 (by decide) (hts _ mw_343) (fun _ h9 => h9) g9 dX9_nextFed_95 ?_
            clear h9 g9
            refine lv_iadd hx hb dX9_nextFed_98 ?_
            refine lv_if_le (tgt := 104) hx hb dX9_nextFed_99 (by decide) (fun c191 => ?_) (fun c191 => ?_)
            · skip
              rw [if_pos c191] at hF
              refine lv_iinc (v := (y132 + 1)) (lv' := [(2, .int (y132 + 1)), (1, .int (-1)), (0, .ref Aa0)]) hx hb dX9_nextFed_104 hl (k := 0) rfl (by rfl) (by decide) rfl (fun ls hl => ?_)
              refine lv_goto (tgt := 42) hx hb dX9_nextFed_107 (by decide) ?_
              have hl := lv_sub (l' := [(2, .int (y132 + 1)), (1, .int (-1)), (0, .ref Aa0)]) hl [0, 1, 2] rfl
              exact ih _ _ _ _ hF hC hN hT _ _ _ _ hX hr133 hP hD hS hl
            · skip
              rw [if_neg c191] at hF
              refine lv_iload_n hx hb dX9_nextFed_102 rfl (lv_at hl 0 rfl) ?_
              obtain ⟨hi9, hn9, hs9, hE9⟩ := mr_o hF
              subst hn9 hs9 hE9
              have hF := kr18 _ hi9.symm
              obtain ⟨ht9, hn9, hs9, hE9⟩ := mr_o hF
              subst hn9 hs9 hE9
              rw [hQ]
              exact W.iret (v := y132) hx hb hr (fun t ht hW => ⟨⟨y132, (), rfl, ht9, _, hX, by rw [ht]; exact hP, hD⟩, hS.F ht⟩) hS.2.2 dX9_nextFed_103
    have hl := lv_sub (l' := [(2, .int 0), (1, .int (-1)), (0, .ref Aa0)]) hl [0, 1, 2] rfl
    exact loop126 FUEL _ _ _ _ hL12 hC hN hT _ _ _ _ hX hr10 hP hD hS hl
  have kr8 : ∀ r : Int32, t1 = .inl r → (mr r : MH _).1 (n3, s4, E5) = some (ro, nz, sz9, Ez) := by
    intro r he
    subst he
    exact hF
  have hK192 := mle1 hF
  have hK193 := mle2 hF
  clear hF hm
  have loop194 : ∀ (m195 : Nat) (y200 : Int32) (n197 s198 : Nat) (E199 : HE), (H_X9_nextFed_L4 a0 m195 y200).1 (n197, s198, E199) = some (t1, n3, s4, E5) → clo n197 E199 → n0 ≤ n197 → s0 ≤ s198 → ∀ (ad196 : Nat → Nat) (H : Heap) (locs : List Loc) (ls : Array Slot), axh n0 ad0 n197 ad196 → rf nb ad196 n197 (a0) (Aa0) → va_P (dC, dI) vwCl (CH cy nb ad196 n197 E199) H → va_D A (CH cy nb ad196 n197 E199) → va_S A s.heap H locs → lv_has ls 4 [(2, .int y200), (1, .int (-1)), (0, .ref Aa0)] → W p l e (headSpec (wsg yX9_nextFed cX9_nextFed 4 (some .int)) ({ frames := 11, cells := nz - n0, slots := sz9 - s0, locals := 600 })).room s m ([.ref Aa0] : List Value).toArray below meth c H locs (n197 - n0) (s198 - s0) Qn (F0 m 4 ls []) := by
    intro m195
    induction m195 with
    | zero => intro y200 n197 s198 E199 hF; exact (m0_o hF).elim
    | succ m195 ih =>
      intro y200 n197 s198 E199 hF hC hN hT ad196 H locs ls hX hr201 hP hD hS hl
      simp only [H_X9_nextFed_L4] at hF
      refine lv_iload_n hx hb dX9_nextFed_4 rfl (lv_at hl 0 rfl) ?_
      refine lv_aload_n hx hb dX9_nextFed_5 rfl (lv_at hl 2 rfl) ?_
      obtain ⟨x202, e203, hF⟩ := mg_o hF
      obtain ⟨hr204, fs9, h9, g9⟩ := rdR hP hC hr201 e203
      refine va_get (D := (dC, dI)) (ci := 9) (v := .ref (AD nb ad196 x202)) (C := RX9) (T := TX9) (N := 14) hx hb hts inlX9 hown hK h9 0 rfl rfl 10 (by decide) (hts _ mw_108) (fun _ h9 => h9) g9 dX9_nextFed_6 ?_
      clear h9 g9
      obtain ⟨fs9, e205, hF⟩ := mg_o hF
      obtain ⟨x206, n208, s209, E210, e207, hF⟩ := mb_o hF
      have hm := mle e207
      have hM1 := mle1 hF
      have hM2 := mle2 hF
      have hm1 := hm.1
      have hm2 := hm.2.1
      have hFc := my_free hD hS hA
      refine va_calli (va_runV (C := RJx4a65c) (As := []) (rest := [.int y200]) ⟨hx, hb, hml, hown, hts⟩ (h_Jx4a65c_size_8abf5 l dC dI cy nb ad196 n197 s198 E199 hC (x202) (AD nb ad196 x202) hr204 H.size x206 n208 s209 E210 e207) (cwV 0 hts (gV mw_346 mw_166 mw_167 mw_12 mw_168) rfl rfl rfl (by decide +kernel) ⟨Nat.le_of_ble_eq_true rfl, Nat.le_of_ble_eq_true rfl⟩) (hl_preV hP hK hD hE hS hFc (va_recv hK (rdO_ hP hC hr204 e205) (ci := 14) (q0 := 0) rfl rfl)) rfl rfl hl.1 rfl (lv_room (Nat.le_of_ble_eq_true rfl)) dX9_nextFed_9 ⟨show n197 - n0 + (n208 - n197) ≤ nz - n0 by omega, show s198 - s0 + (s209 - s198) ≤ sz9 - s0 by omega⟩) hS (fun q _ h => hFc q h) hFc (fun r9 u t H1 locs ht hvm hw hB hz1 hk1 hS => ?_)
      obtain ⟨ad211, hax, hP1, hD1⟩ := hB
      rw [ht] at hP1
      have hP := hP1
      have hD := hD1.weaken (fun k q _ h => hFc q.1 h)
      generalize H1 = H at hP hS ⊢
      have hr201 := hr201.mv hC.1 hax
      have hX := hX.trans hax
      have hC := hm.2.2 hC
      have hN : n0 ≤ n208 := Nat.le_trans hN hm1
      have hT : s0 ≤ s209 := Nat.le_trans hT hm2
      refine W.widen (k := n208 - n0) (n := s209 - s0) (by omega) (by omega) ?_
      clear hP1 hD1 hFc hk1 hz1 hvm ht hax hm hm1 hm2 hM1 hM2
      obtain rfl := hw.symm
      refine lv_icmp_ge (tgt := 40) hx hb dX9_nextFed_12 (by decide) (fun c212 => ?_) (fun c212 => ?_)
      · skip
        rw [if_pos c212] at hF
        obtain ⟨ht9, hn9, hs9, hE9⟩ := mr_o hF
        subst hn9 hs9 hE9
        have hl := lv_sub (l' := [(2, .int y200), (1, .int (-1)), (0, .ref Aa0)]) hl [0, 1, 2] rfl
        exact kx7 _ ht9.symm _ _ _ _ hX hr201 hP hD hS hl
      · skip
        rw [if_neg c212] at hF
        refine lv_aload_n hx hb dX9_nextFed_15 rfl (lv_at hl 2 rfl) ?_
        obtain ⟨x213, e214, hF⟩ := mg_o hF
        obtain ⟨hr215, fs9, h9, g9⟩ := rdR hP hC hr201 e214
        refine va_get (D := (dC, dI)) (ci := 9) (v := .ref (AD nb ad211 x213)) (C := RX9) (T := TX9) (N := 14) hx hb hts inlX9 hown hK h9 0 rfl rfl 10 (by decide) (hts _ mw_108) (fun _ h9 => h9) g9 dX9_nextFed_16 ?_
        clear h9 g9
        refine lv_iload_n hx hb dX9_nextFed_19 rfl (lv_at hl 0 rfl) ?_
        obtain ⟨fs9, e216, hF⟩ := mg_o hF
        obtain ⟨x217, n219, s220, E221, e218, hF⟩ := mb_o hF
        have hm := mle e218
        have hM1 := mle1 hF
        have hM2 := mle2 hF
        have hm1 := hm.1
        have hm2 := hm.2.1
        have hFc := my_free hD hS hA
        refine va_callr (va_runV (C := RJx4a65c) (As := [.int y200]) (rest := []) ⟨hx, hb, hml, hown, hts⟩ (h_Jx4a65c_get_915e3 l dC dI cy nb ad211 n208 s209 E210 hC (x213) (AD nb ad211 x213) hr215 (y200) H.size x217 n219 s220 E221 e218) (cwV 1 hts (gV mw_347 mw_235 mw_236 mw_12 mw_237) rfl rfl rfl (by decide +kernel) ⟨Nat.le_of_ble_eq_true rfl, Nat.le_of_ble_eq_true rfl⟩) (hl_preV hP hK hD hE hS hFc (va_recv hK (rdO_ hP hC hr215 e216) (ci := 14) (q0 := 0) rfl rfl)) rfl rfl hl.1 rfl (lv_room (Nat.le_of_ble_eq_true rfl)) dX9_nextFed_20 ⟨show n208 - n0 + (n219 - n208) ≤ nz - n0 by omega, show s209 - s0 + (s220 - s209) ≤ sz9 - s0 by omega⟩) hS (fun q _ h => hFc q h) hFc (fun u ra t H1 locs ht hvm hw hB hz1 hk1 hS => ?_)
        obtain ⟨ad222, hax, hr223, hP1, hD1⟩ := hB
        rw [ht] at hP1
        have hP := hP1
        have hD := hD1.weaken (fun k q _ h => hFc q.1 h)
        generalize H1 = H at hP hS ⊢
        have hr201 := hr201.mv hC.1 hax
        have hX := hX.trans hax
        have hC := hm.2.2 hC
        have hN : n0 ≤ n219 := Nat.le_trans hN hm1
        have hT : s0 ≤ s220 := Nat.le_trans hT hm2
        refine W.widen (k := n219 - n0) (n := s220 - s0) (by omega) (by omega) ?_
        clear hP1 hD1 hFc hk1 hz1 hvm ht hax hm hm1 hm2 hM1 hM2
        refine my_top (y := .ref (AD nb ad222 x217)) (congrArg Value.ref hr223.2.symm) ?_
        have hr223 := rf_self hr223
        obtain ⟨fs9, e225, hF⟩ := mg_o hF
        refine va_castS hx hb hown (hts _ mw_174) (hK.1 8 _ rfl).2 (va_recv hK (rdO_ hP hC hr223 e225) (ci := 8) (q0 := 0) rfl rfl) dX9_nextFed_23 ?_
        obtain ⟨x226, e227, hF⟩ := mg_o hF
        obtain ⟨fs9, h9, g9⟩ := rdI hP hC hr223 e227
        refine va_get (D := (dC, dI)) (ci := 8) (v := .int x226) (C := RX8) (T := TX8) (N := 9) hx hb hts inlX8 hown hK h9 0 rfl rfl 8 (by decide) (hts _ mw_341) (fun _ h9 => h9) g9 dX9_nextFed_26 ?_
        clear h9 g9
        refine lv_if_eq (tgt := 34) hx hb dX9_nextFed_29 (by decide) (fun c228 => ?_) (fun c228 => ?_)
        · skip
          rw [if_pos c228] at hF
          refine lv_iinc (v := (y200 + 1)) (lv' := [(2, .int (y200 + 1)), (1, .int (-1)), (0, .ref Aa0)]) hx hb dX9_nextFed_34 hl (k := 0) rfl (by rfl) (by decide) rfl (fun ls hl => ?_)
          refine lv_goto (tgt := 4) hx hb dX9_nextFed_37 (by decide) ?_
          have hl := lv_sub (l' := [(2, .int (y200 + 1)), (1, .int (-1)), (0, .ref Aa0)]) hl [0, 1, 2] rfl
          exact ih _ _ _ _ hF hC hN hT _ _ _ _ hX hr201 hP hD hS hl
        · skip
          rw [if_neg c228] at hF
          refine lv_iload_n hx hb dX9_nextFed_32 rfl (lv_at hl 0 rfl) ?_
          obtain ⟨hi9, hn9, hs9, hE9⟩ := mr_o hF
          subst hn9 hs9 hE9
          have hF := kr8 _ hi9.symm
          obtain ⟨ht9, hn9, hs9, hE9⟩ := mr_o hF
          subst hn9 hs9 hE9
          rw [hQ]
          exact W.iret (v := y200) hx hb hr (fun t ht hW => ⟨⟨y200, (), rfl, ht9, _, hX, by rw [ht]; exact hP, hD⟩, hS.F ht⟩) hS.2.2 dX9_nextFed_33
  have hl := lv_sub (l' := [(2, .int 0), (1, .int (-1)), (0, .ref Aa0)]) hl [0, 1, 2] rfl
  exact loop194 FUEL _ _ _ _ hL2 hC hN hT _ _ _ _ hX ha0 hP hD hS hl
