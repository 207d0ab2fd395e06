noncomputable def H_X8_init (a0 : Nat) (a1 : Int32) (a2 : Nat) : MH Unit := mb (wI (a0) 8 4 ((-1))) fun _ => mb (wI (a0) 8 7 ((-1))) fun _ => mb (wI (a0) 8 0 (a1)) fun _ => mb (wR (a0) 8 1 (a2)) fun _ => mr ()
set_option maxHeartbeats 4000000 in
set_option maxRecDepth 100000 in
theorem h_X8_init (l : Launch) (dC : Nat → ClassId) (dI : Nat → Nat → Nat) (cy : Nat → ClassId) (nb : Nat → Nat) (ad0 : Nat → Nat) (n0 s0 : Nat) (E0 : HE) (hC : clo n0 E0) (a0 Aa0 : Nat) (ha0 : rf nb ad0 n0 a0 Aa0) (a1 : Int32) (a2 Aa2 : Nat) (ha2 : rf nb ad0 n0 a2 Aa2) (sz : Nat) (nz sz9 : Nat) (Ez : HE) (hF : (H_X8_init a0 a1 a2).1 (n0, s0, E0) = some ((), nz, sz9, Ez)) : Met l yX8_init (wsg yX8_init cX8_init 3 none) ({ frames := 8, cells := nz - n0, slots := sz9 - s0, locals := 300 }) (va_Pc [.ref Aa0, .int a1, .ref Aa2] (fun U => U.heap.size = sz ∧ va_P (dC, dI) vwCl (CH cy nb ad0 n0 E0) U.heap ∧ va_K (dC, dI) vwCl (tyL cy) U ∧ va_D (fun _ => True) (CH cy nb ad0 n0 E0) ∧ GL nb (va_A (CH cy nb ad0 n0 E0) sz) U)) (va_Qv (fun (_ : Unit) => True) (fun _ t => ∃ ad2 : Nat → Nat, axh n0 ad0 nz ad2 ∧ va_P (dC, dI) vwCl (CH cy nb ad2 nz Ez) t.heap ∧ va_D (va_A (CH cy nb ad0 n0 E0) sz) (CH cy nb ad2 nz Ez)) (va_A (CH cy nb ad0 n0 E0) sz)) (nz - n0) (sz9 - s0) (va_A (CH cy nb ad0 n0 E0) sz) := by
  refine Met.ofW (cc := cX8_init) (maxL := 3) (ret := none) (by decide) rfl ?_
  intro p e s m args below meth c s₁ B hml hv
  obtain ⟨rfl, hsz, hP, hK, hD0, hE⟩ := hv
  have hx := B.exec
  have hb := B.bytes
  have hr := B.returns
  have hts0 := atoms_spec (ws := (wsg yX8_init cX8_init 3 none)) B.pre
  have hts : ∀ w ∈ wsL_law, w.before _ s = true := fun w h => hts0 w (List.mem_cons_of_mem _ h)
  have hown : s.vm.findClass RX8 = some m.cls := by have h9 := findClass_of_methodNamed B.named; exact h9
  have hnm : meth.name = "<init>" := by have h9 := B.name; exact h9
  subst hsz
  have hD := hD0.self (sz := s.heap.size)
  generalize hAe : va_A (CH cy nb ad0 n0 E0) s.heap.size = A at hD hE ⊢
  have hA : ∀ q : Nat, s.heap.size ≤ q → A q := fun q h => by rw [← hAe]; exact Or.inr h
  have hS : va_S A s.heap s.heap [] := va_S.rf
  have hl := lv_entry ([.ref Aa0, .int a1, .ref Aa2]) (n := 3) (Nat.le_of_ble_eq_true rfl)
  rw [lg_entry_eq]
  generalize (lg_sl ([.ref Aa0, .int a1, .ref Aa2]) ++ List.replicate (3 - (lg_sl ([.ref Aa0, .int a1, .ref Aa2])).length) Slot.unset).toArray = ls at hl ⊢
  have hl : lv_has ls 3 [(0, .ref Aa0), (1, .int a1), (2, .ref Aa2)] := hl
  generalize hHe : s.heap = H at hP hS ⊢
  have hS : va_S A s.heap H [] := by rw [hHe]; exact hS
  refine my_Q (fun Qn hQ => ?_)
  simp only [H_X8_init] at hF
  have hX : axh n0 ad0 n0 ad0 := axh_refl
  have hN : n0 ≤ n0 := Nat.le_refl _
  have hT : s0 ≤ s0 := Nat.le_refl _
  refine W.widen (k := n0 - n0) (n := s0 - s0) (by omega) (by omega) ?_
  refine lv_aload_n hx hb dX8_init_0 rfl (lv_at hl 0 rfl) ?_
  refine W.objInit hx hb hown (hts _ mw_1057) (hts _ mw_18) (hts _ mw_19) rfl (by rw [hml]; exact hl.1) rfl dX8_init_1 (Nat.le_of_ble_eq_true rfl) (Nat.le_of_ble_eq_true rfl) ?_
  refine W.eq (g2 := F0 m 4 ls []) rfl ?_
  refine lv_aload_n hx hb dX8_init_4 rfl (lv_at hl 0 rfl) ?_
  refine lv_iconst (v := (-1)) hx hb dX8_init_5 (by decide) ?_
  obtain ⟨E1, e2, hF⟩ := mw_o hF
  obtain ⟨q9, fs9, h9, ez9⟩ := wrI (cy := cy) hC ha0 e2
  refine va_put (D := (dC, dI)) (ci := 8) (v := .int (-1)) (ty := .int) (C := RX8) (T := TX8) (N := 9) hx hb hts inlX8 tyX8 tyX8_ok nmX8 hown hK hP hD hS q9 h9 rfl 4 (by decide) (hts _ mw_1058) (fun _ h9 => h9) rfl (by decide +kernel) rfl rfl (Nat.le_of_ble_eq_true rfl) dX8_init_6 (fun H locs hP hD hS => ?_)
  rw [ez9] at hP hD
  clear ez9 h9
  have hC := sI_clo e2 hC
  refine lv_aload_n hx hb dX8_init_9 rfl (lv_at hl 0 rfl) ?_
  refine lv_iconst (v := (-1)) hx hb dX8_init_10 (by decide) ?_
  obtain ⟨E3, e4, hF⟩ := mw_o hF
  obtain ⟨q9, fs9, h9, ez9⟩ := wrI (cy := cy) hC ha0 e4
  refine va_put (D := (dC, dI)) (ci := 8) (v := .int (-1)) (ty := .int) (C := RX8) (T := TX8) (N := 9) hx hb hts inlX8 tyX8 tyX8_ok nmX8 hown hK hP hD hS q9 h9 rfl 7 (by decide) (hts _ mw_1059) (fun _ h9 => h9) rfl (by decide +kernel) rfl rfl (Nat.le_of_ble_eq_true rfl) dX8_init_11 (fun H locs hP hD hS => ?_)
  rw [ez9] at hP hD
  clear ez9 h9
  have hC := sI_clo e4 hC
  refine lv_aload_n hx hb dX8_init_14 rfl (lv_at hl 0 rfl) ?_
  refine lv_iload_n hx hb dX8_init_15 rfl (lv_at hl 1 rfl) ?_
  obtain ⟨E5, e6, hF⟩ := mw_o hF
  obtain ⟨q9, fs9, h9, ez9⟩ := wrI (cy := cy) hC ha0 e6
  refine va_putF (D := (dC, dI)) (ci := 8) (v := .int a1) (ty := .int) (C := RX8) (T := TX8) (N := 9) hx hb hts inlX8 tyX8 tyX8_ok nmX8 hown hK hP hD hS q9 h9 rfl 0 (by decide) (hts _ mw_1060) (fun _ h9 => h9) rfl hnm rfl (by decide +kernel) rfl rfl (Nat.le_of_ble_eq_true rfl) dX8_init_16 (fun H locs hP hD hS => ?_)
  rw [ez9] at hP hD
  clear ez9 h9
  have hC := sI_clo e6 hC
  refine lv_aload_n hx hb dX8_init_19 rfl (lv_at hl 0 rfl) ?_
  refine lv_aload_n hx hb dX8_init_20 rfl (lv_at hl 2 rfl) ?_
  obtain ⟨E7, e8, hF⟩ := mw_o hF
  obtain ⟨q9, fs9, h9, ez9⟩ := wrR (cy := cy) hC ha0 ha2 e8
  refine va_putF (D := (dC, dI)) (ci := 8) (v := .ref Aa2) (ty := (.object "java/lang/String")) (C := RX8) (T := TX8) (N := 9) hx hb hts inlX8 tyX8 tyX8_ok nmX8 hown hK hP hD hS q9 h9 rfl 1 (by decide) (hts _ mw_1061) (fun _ h9 => h9) rfl hnm rfl (by decide +kernel) rfl rfl (Nat.le_of_ble_eq_true rfl) dX8_init_21 (fun H locs hP hD hS => ?_)
  rw [ez9] at hP hD
  clear ez9 h9
  have hC := sR_clo e8 hC
  obtain ⟨ht9, hn9, hs9, hE9⟩ := mr_o hF
  subst hn9 hs9 hE9
  have hX9 := hX
  rw [hQ]
  exact W.vret hx hb hr (fun t ht hW => ⟨⟨(), rfl, trivial, _, hX, by rw [ht]; exact hP, hD⟩, hS.F ht⟩) hS.2.2 dX8_init_24
noncomputable def H_X8_copy (a0 : Nat) : MH Nat := mb (mn 9 (.inr (8, [.int 0, .null, .int 0, .int 0, .int 0, .int 0, .int 0, .int 0, .int 0])) nok_X8) fun x4 => mb (rI (a0) 8 0) fun x8 => mb (rR (a0) 8 1) fun x10 => mb (H_X8_init (x4) (x8) (x10)) fun _ => mb (rI (a0) 8 2) fun x18 => mb (wI (x4) 8 2 (x18)) fun _ => mb (rI (a0) 8 3) fun x22 => mb (wI (x4) 8 3 (x22)) fun _ => mb (rI (a0) 8 4) fun x26 => mb (wI (x4) 8 4 (x26)) fun _ => mb (rI (a0) 8 5) fun x30 => mb (wI (x4) 8 5 (x30)) fun _ => mb (rI (a0) 8 6) fun x34 => mb (wI (x4) 8 6 (x34)) fun _ => mb (rI (a0) 8 7) fun x38 => mb (wI (x4) 8 7 (x38)) fun _ => mb (rI (a0) 8 8) fun x42 => mb (mp (nz x42)) fun x45 => mb (wI (x4) 8 8 (x45)) fun _ => mr x4
set_option maxHeartbeats 4000000 in
set_option maxRecDepth 100000 in
theorem h_X8_copy (l : Launch) (dC : Nat → ClassId) (dI : Nat → Nat → Nat) (cy : Nat → ClassId) (nb : Nat → Nat) (ad0 : Nat → Nat) (n0 s0 : Nat) (E0 : HE) (hC : clo n0 E0) (a0 Aa0 : Nat) (ha0 : rf nb ad0 n0 a0 Aa0) (sz : Nat) (ro : Nat) (nz sz9 : Nat) (Ez : HE) (hF : (H_X8_copy a0).1 (n0, s0, E0) = some (ro, nz, sz9, Ez)) : Met l yX8_copy (wsg yX8_copy cX8_copy 2 (some (.object "CardLineLaw$Card"))) ({ frames := 9, cells := nz - n0, slots := sz9 - s0, locals := 400 }) (va_Pc [.ref Aa0] (fun U => U.heap.size = sz ∧ va_P (dC, dI) vwCl (CH cy nb ad0 n0 E0) U.heap ∧ va_K (dC, dI) vwCl (tyL cy) U ∧ va_D (fun _ => True) (CH cy nb ad0 n0 E0) ∧ GL nb (va_A (CH cy nb ad0 n0 E0) sz) U)) (va_Qr (fun (_ : Unit) => True) (fun _ ra t => ∃ ad2 : Nat → Nat, axh n0 ad0 nz ad2 ∧ rf nb ad2 nz ro ra ∧ va_P (dC, dI) vwCl (CH cy nb ad2 nz Ez) t.heap ∧ va_D (va_A (CH cy nb ad0 n0 E0) sz) (CH cy nb ad2 nz Ez)) (va_A (CH cy nb ad0 n0 E0) sz)) (nz - n0) (sz9 - s0) (va_A (CH cy nb ad0 n0 E0) sz) := by
  refine Met.ofW (cc := cX8_copy) (maxL := 2) (ret := (some (.object "CardLineLaw$Card"))) (by decide) rfl ?_
  intro p e s m args below meth c s₁ B hml hv
  obtain ⟨rfl, hsz, hP, hK, hD0, hE⟩ := hv
  have hx := B.exec
  have hb := B.bytes
  have hr := B.returns
  have hts0 := atoms_spec (ws := (wsg yX8_copy cX8_copy 2 (some (.object "CardLineLaw$Card")))) B.pre
  have hts : ∀ w ∈ wsL_law, w.before _ s = true := fun w h => hts0 w (List.mem_cons_of_mem _ h)
  have hown : s.vm.findClass RX8 = some m.cls := by have h9 := findClass_of_methodNamed B.named; exact h9
  subst hsz
  have hD := hD0.self (sz := s.heap.size)
  generalize hAe : va_A (CH cy nb ad0 n0 E0) s.heap.size = A at hD hE ⊢
  have hA : ∀ q : Nat, s.heap.size ≤ q → A q := fun q h => by rw [← hAe]; exact Or.inr h
  have hS : va_S A s.heap s.heap [] := va_S.rf
  have hl := lv_entry ([.ref Aa0]) (n := 2) (Nat.le_of_ble_eq_true rfl)
  rw [lg_entry_eq]
  generalize (lg_sl ([.ref Aa0]) ++ List.replicate (2 - (lg_sl ([.ref Aa0])).length) Slot.unset).toArray = ls at hl ⊢
  have hl : lv_has ls 2 [(0, .ref Aa0)] := hl
  generalize hHe : s.heap = H at hP hS ⊢
  have hS : va_S A s.heap H [] := by rw [hHe]; exact hS
  refine my_Q (fun Qn hQ => ?_)
  simp only [H_X8_copy] at hF
  have hX : axh n0 ad0 n0 ad0 := axh_refl
  have hN : n0 ≤ n0 := Nat.le_refl _
  have hT : s0 ≤ s0 := Nat.le_refl _
  refine W.widen (k := n0 - n0) (n := s0 - s0) (by omega) (by omega) ?_
  obtain ⟨x4, n1, s2, E3, hq, hF⟩ := mn_o hF
  have hM1 := mle1 hF
  have hM2 := mle2 hF
  have hq9 := hq.2.1
  have hq8 := hq.2.2.1
  refine va_new (ci := 8) (fs := [.int 0, .null, .int 0, .int 0, .int 0, .int 0, .int 0, .int 0, .int 0]) (C := RX8) (T := TX8) (N := 9) hx hb hts inlX8 tyX8 tyX8_ok hown (hts _ mw_1302) (hts _ mw_612) (hts _ mw_613) hK hP hD hS hA rfl (fun j hj => by match j, hj with | 0, _ => rfl | 1, _ => rfl | 2, _ => rfl | 3, _ => rfl | 4, _ => rfl | 5, _ => rfl | 6, _ => rfl | 7, _ => rfl | 8, _ => rfl | (n+9), h => omega) (show n0 - n0 + 1 ≤ nz - n0 by omega) (show s0 - s0 + 9 ≤ sz9 - s0 by omega) dX8_copy_0 (fun q5 H hP hD hS => ?_)
  obtain ⟨ad6, hax, hr7, hC9, hw9⟩ := new_w (cy := cy) (nb := nb) (ad := ad0) (e := .inr (8, [.int 0, .null, .int 0, .int 0, .int 0, .int 0, .int 0, .int 0, .int 0])) nok_X8 (fun _ => rfl) hC q5 hq
  rw [hw9] at hP hD
  have ha0 := ha0.mv hC.1 hax
  have hX := hX.trans hax
  have hC := hC9
  obtain ⟨-, hq1, hq2, -, -⟩ := hq
  have hN : n0 ≤ n1 := by omega
  have hT : s0 ≤ s2 := by omega
  refine W.widen (k := n1 - n0) (n := s2 - s0) (by omega) (by omega) ?_
  clear hM1 hM2 hax hC9 hw9 hq1 hq2 hq8 hq9
  refine lv_dup hx hb dX8_copy_3 rfl ?_
  refine lv_aload_n hx hb dX8_copy_4 rfl (lv_at hl 0 rfl) ?_
  obtain ⟨x8, e9, hF⟩ := mg_o hF
  obtain ⟨fs9, h9, g9⟩ := rdI hP hC ha0 e9
  refine va_get (D := (dC, dI)) (ci := 8) (v := .int x8) (C := RX8) (T := TX8) (N := 9) hx hb hts inlX8 hown hK h9 0 rfl rfl 0 (by decide) (hts _ mw_1060) (fun _ h9 => h9) g9 dX8_copy_5 ?_
  clear h9 g9
  refine lv_aload_n hx hb dX8_copy_8 rfl (lv_at hl 0 rfl) ?_
  obtain ⟨x10, e11, hF⟩ := mg_o hF
  obtain ⟨hr12, fs9, h9, g9⟩ := rdR hP hC ha0 e11
  refine va_get (D := (dC, dI)) (ci := 8) (v := .ref (AD nb ad6 x10)) (C := RX8) (T := TX8) (N := 9) hx hb hts inlX8 hown hK h9 0 rfl rfl 1 (by decide) (hts _ mw_1061) (fun _ h9 => h9) g9 dX8_copy_9 ?_
  clear h9 g9
  obtain ⟨⟨⟩, n14, s15, E16, e13, hF⟩ := mb_o hF
  have hm := mle e13
  have hM1 := mle1 hF
  have hM2 := mle2 hF
  have hm1 := hm.1
  have hm2 := hm.2.1
  have hFc := my_free hD hS hA
  refine va_callv (va_runI (As := [.int x8, .ref (AD nb ad6 x10)]) (rest := [.ref q5]) ⟨hx, hb, hml, hown, hts⟩ (h_X8_init l dC dI cy nb ad6 n1 s2 E3 hC (x4) q5 hr7 (x8) (x10) (AD nb ad6 x10) hr12 H.size n14 s15 E16 e13) (cwI 2 hts (gI mw_1056) rfl rfl rfl (hts _ mw_613) (hts _ mw_1308) (hts _ mw_1055) rfl (by decide +kernel) ⟨Nat.le_of_ble_eq_true rfl, Nat.le_of_ble_eq_true rfl⟩) (hl_preS hP hK hD hE hS hFc) rfl rfl hl.1 rfl (lv_room (Nat.le_of_ble_eq_true rfl)) dX8_copy_12 ⟨show n1 - n0 + (n14 - n1) ≤ nz - n0 by omega, show s2 - s0 + (s15 - s2) ≤ sz9 - s0 by omega⟩) hS (fun q _ h => hFc q h) hFc (fun u t H1 locs ht hvm hw hB hz1 hk1 hS => ?_)
  obtain ⟨ad17, hax, hP1, hD1⟩ := hB
  rw [ht] at hP1
  have hP := hP1
  have hD := hD1.weaken (fun k q _ h => hFc q.1 h)
  generalize H1 = H at hP hS ⊢
  have ha0 := ha0.mv hC.1 hax
  have hr7 := hr7.mv hC.1 hax
  have hX := hX.trans hax
  have hC := hm.2.2 hC
  have hN : n0 ≤ n14 := Nat.le_trans hN hm1
  have hT : s0 ≤ s15 := Nat.le_trans hT hm2
  refine W.widen (k := n14 - n0) (n := s15 - s0) (by omega) (by omega) ?_
  clear hP1 hD1 hFc hk1 hz1 hvm ht hax hm hm1 hm2 hM1 hM2
  refine lv_astore_n (lv' := [(1, .ref q5), (0, .ref Aa0)]) hx hb dX8_copy_15 rfl hl (by decide) rfl (fun ls hl => ?_)
  refine lv_aload_n hx hb dX8_copy_16 rfl (lv_at hl 0 rfl) ?_
  refine lv_aload_n hx hb dX8_copy_17 rfl (lv_at hl 1 rfl) ?_
  obtain ⟨x18, e19, hF⟩ := mg_o hF
  obtain ⟨fs9, h9, g9⟩ := rdI hP hC ha0 e19
  refine va_get (D := (dC, dI)) (ci := 8) (v := .int x18) (C := RX8) (T := TX8) (N := 9) hx hb hts inlX8 hown hK h9 0 rfl rfl 2 (by decide) (hts _ mw_1303) (fun _ h9 => h9) g9 dX8_copy_18 ?_
  clear h9 g9
  obtain ⟨E20, e21, hF⟩ := mw_o hF
  obtain ⟨q9, fs9, h9, ez9⟩ := wrI (cy := cy) hC hr7 e21
  refine va_put (D := (dC, dI)) (ci := 8) (v := .int x18) (ty := .int) (C := RX8) (T := TX8) (N := 9) hx hb hts inlX8 tyX8 tyX8_ok nmX8 hown hK hP hD hS q9 h9 rfl 2 (by decide) (hts _ mw_1303) (fun _ h9 => h9) rfl (by decide +kernel) rfl rfl (Nat.le_of_ble_eq_true rfl) dX8_copy_21 (fun H locs hP hD hS => ?_)
  rw [ez9] at hP hD
  clear ez9 h9
  have hC := sI_clo e21 hC
  refine lv_aload_n hx hb dX8_copy_24 rfl (lv_at hl 0 rfl) ?_
  refine lv_aload_n hx hb dX8_copy_25 rfl (lv_at hl 1 rfl) ?_
  obtain ⟨x22, e23, hF⟩ := mg_o hF
  obtain ⟨fs9, h9, g9⟩ := rdI hP hC ha0 e23
  refine va_get (D := (dC, dI)) (ci := 8) (v := .int x22) (C := RX8) (T := TX8) (N := 9) hx hb hts inlX8 hown hK h9 0 rfl rfl 3 (by decide) (hts _ mw_1304) (fun _ h9 => h9) g9 dX8_copy_26 ?_
  clear h9 g9
  obtain ⟨E24, e25, hF⟩ := mw_o hF
  obtain ⟨q9, fs9, h9, ez9⟩ := wrI (cy := cy) hC hr7 e25
  refine va_put (D := (dC, dI)) (ci := 8) (v := .int x22) (ty := .int) (C := RX8) (T := TX8) (N := 9) hx hb hts inlX8 tyX8 tyX8_ok nmX8 hown hK hP hD hS q9 h9 rfl 3 (by decide) (hts _ mw_1304) (fun _ h9 => h9) rfl (by decide +kernel) rfl rfl (Nat.le_of_ble_eq_true rfl) dX8_copy_29 (fun H locs hP hD hS => ?_)
  rw [ez9] at hP hD
  clear ez9 h9
  have hC := sI_clo e25 hC
  refine lv_aload_n hx hb dX8_copy_32 rfl (lv_at hl 0 rfl) ?_
  refine lv_aload_n hx hb dX8_copy_33 rfl (lv_at hl 1 rfl) ?_
  obtain ⟨x26, e27, hF⟩ := mg_o hF
  obtain ⟨fs9, h9, g9⟩ := rdI hP hC ha0 e27
  refine va_get (D := (dC, dI)) (ci := 8) (v := .int x26) (C := RX8) (T := TX8) (N := 9) hx hb hts inlX8 hown hK h9 0 rfl rfl 4 (by decide) (hts _ mw_1058) (fun _ h9 => h9) g9 dX8_copy_34 ?_
  clear h9 g9
  obtain ⟨E28, e29, hF⟩ := mw_o hF
  obtain ⟨q9, fs9, h9, ez9⟩ := wrI (cy := cy) hC hr7 e29
  refine va_put (D := (dC, dI)) (ci := 8) (v := .int x26) (ty := .int) (C := RX8) (T := TX8) (N := 9) hx hb hts inlX8 tyX8 tyX8_ok nmX8 hown hK hP hD hS q9 h9 rfl 4 (by decide) (hts _ mw_1058) (fun _ h9 => h9) rfl (by decide +kernel) rfl rfl (Nat.le_of_ble_eq_true rfl) dX8_copy_37 (fun H locs hP hD hS => ?_)
  rw [ez9] at hP hD
  clear ez9 h9
  have hC := sI_clo e29 hC
  refine lv_aload_n hx hb dX8_copy_40 rfl (lv_at hl 0 rfl) ?_
  refine lv_aload_n hx hb dX8_copy_41 rfl (lv_at hl 1 rfl) ?_
  obtain ⟨x30, e31, hF⟩ := mg_o hF
  obtain ⟨fs9, h9, g9⟩ := rdI hP hC ha0 e31
  refine va_get (D := (dC, dI)) (ci := 8) (v := .int x30) (C := RX8) (T := TX8) (N := 9) hx hb hts inlX8 hown hK h9 0 rfl rfl 5 (by decide) (hts _ mw_1305) (fun _ h9 => h9) g9 dX8_copy_42 ?_
  clear h9 g9
  obtain ⟨E32, e33, hF⟩ := mw_o hF
  obtain ⟨q9, fs9, h9, ez9⟩ := wrI (cy := cy) hC hr7 e33
  refine va_put (D := (dC, dI)) (ci := 8) (v := .int x30) (ty := .int) (C := RX8) (T := TX8) (N := 9) hx hb hts inlX8 tyX8 tyX8_ok nmX8 hown hK hP hD hS q9 h9 rfl 5 (by decide) (hts _ mw_1305) (fun _ h9 => h9) rfl (by decide +kernel) rfl rfl (Nat.le_of_ble_eq_true rfl) dX8_copy_45 (fun H locs hP hD hS => ?_)
  rw [ez9] at hP hD
  clear ez9 h9
  have hC := sI_clo e33 hC
  refine lv_aload_n hx hb dX8_copy_48 rfl (lv_at hl 0 rfl) ?_
  refine lv_aload_n hx hb dX8_copy_49 rfl (lv_at hl 1 rfl) ?_
  obtain ⟨x34, e35, hF⟩ := mg_o hF
  obtain ⟨fs9, h9, g9⟩ := rdI hP hC ha0 e35
  refine va_get (D := (dC, dI)) (ci := 8) (v := .int x34) (C := RX8) (T := TX8) (N := 9) hx hb hts inlX8 hown hK h9 0 rfl rfl 6 (by decide) (hts _ mw_1306) (fun _ h9 => h9) g9 dX8_copy_50 ?_
  clear h9 g9
  obtain ⟨E36, e37, hF⟩ := mw_o hF
  obtain ⟨q9, fs9, h9, ez9⟩ := wrI (cy := cy) hC hr7 e37
  refine va_put (D := (dC, dI)) (ci := 8) (v := .int x34) (ty := .int) (C := RX8) (T := TX8) (N := 9) hx hb hts inlX8 tyX8 tyX8_ok nmX8 hown hK hP hD hS q9 h9 rfl 6 (by decide) (hts _ mw_1306) (fun _ h9 => h9) rfl (by decide +kernel) rfl rfl (Nat.le_of_ble_eq_true rfl) dX8_copy_53 (fun H locs hP hD hS => ?_)
  rw [ez9] at hP hD
  clear ez9 h9
  have hC := sI_clo e37 hC
  refine lv_aload_n hx hb dX8_copy_56 rfl (lv_at hl 0 rfl) ?_
  refine lv_aload_n hx hb dX8_copy_57 rfl (lv_at hl 1 rfl) ?_
  obtain ⟨x38, e39, hF⟩ := mg_o hF
  obtain ⟨fs9, h9, g9⟩ := rdI hP hC ha0 e39
  refine va_get (D := (dC, dI)) (ci := 8) (v := .int x38) (C := RX8) (T := TX8) (N := 9) hx hb hts inlX8 hown hK h9 0 rfl rfl 7 (by decide) (hts _ mw_1059) (fun _ h9 => h9) g9 dX8_copy_58 ?_
  clear h9 g9
  obtain ⟨E40, e41, hF⟩ := mw_o hF
  obtain ⟨q9, fs9, h9, ez9⟩ := wrI (cy := cy) hC hr7 e41
  refine va_put (D := (dC, dI)) (ci := 8) (v := .int x38) (ty := .int) (C := RX8) (T := TX8) (N := 9) hx hb hts inlX8 tyX8 tyX8_ok nmX8 hown hK hP hD hS q9 h9 rfl 7 (by decide) (hts _ mw_1059) (fun _ h9 => h9) rfl (by decide +kernel) rfl rfl (Nat.le_of_ble_eq_true rfl) dX8_copy_61 (fun H locs hP hD hS => ?_)
  rw [ez9] at hP hD
  clear ez9 h9
  have hC := sI_clo e41 hC
  refine lv_aload_n hx hb dX8_copy_64 rfl (lv_at hl 0 rfl) ?_
  refine lv_aload_n hx hb dX8_copy_65 rfl (lv_at hl 1 rfl) ?_
  obtain ⟨x42, e43, hF⟩ := mg_o hF
  obtain ⟨fs9, h9, g9⟩ := rdI hP hC ha0 e43
  refine va_get (D := (dC, dI)) (ci := 8) (v := .int x42) (C := RX8) (T := TX8) (N := 9) hx hb hts inlX8 hown hK h9 0 rfl rfl 8 (by decide) (hts _ mw_1307) (fun _ h9 => h9) g9 dX8_copy_66 ?_
  clear h9 g9
  obtain ⟨x45, e46, hF⟩ := mp_o hF
  refine my_topi (y := x45) (nz_e e46) ?_
  obtain ⟨E44, e47, hF⟩ := mw_o hF
  obtain ⟨q9, fs9, h9, ez9⟩ := wrI (cy := cy) hC hr7 e47
  refine va_put (D := (dC, dI)) (ci := 8) (v := .int x45) (ty := .boolean) (C := RX8) (T := TX8) (N := 9) hx hb hts inlX8 tyX8 tyX8_ok nmX8 hown hK hP hD hS q9 h9 rfl 8 (by decide) (hts _ mw_1307) (fun _ h9 => h9) rfl (by decide +kernel) (nz_n e46) (nz_f e46) (Nat.le_of_ble_eq_true rfl) dX8_copy_69 (fun H locs hP hD hS => ?_)
  rw [ez9] at hP hD
  clear ez9 h9
  have hC := sI_clo e47 hC
  refine lv_aload_n hx hb dX8_copy_72 rfl (lv_at hl 0 rfl) ?_
  obtain ⟨ht9, hn9, hs9, hE9⟩ := mr_o hF
  subst hn9 hs9 hE9
  have hX9 := hX
  rw [hQ]
  exact W.aret (v := .ref q5) hx hb hr (by first | exact Or.inl ⟨_, rfl⟩ | exact Or.inr ⟨_, rfl⟩) (Or.inr ⟨_, rfl⟩) (fun t ht hW => ⟨⟨(), q5, rfl, trivial, _, hX, (by rw [← ht9]; exact hr7), by rw [ht]; exact hP, hD⟩, hS.F ht⟩) hS.2.2 dX8_copy_73
noncomputable def H_X8_turns_L7 (a0 : Nat) (a1 : Int32) : Nat → Int32 → Int32 → Int32 → MH (Int32 × Int32 × Int32)
  | 0, _, _, _ => m0
  | m13 + 1, y18, y19, y20 => mb (rR (a0) 8 1) fun x22 => mb (mg fun n E => sOk n E (x22)) fun _ => mb (H_J0_length_8abf5 (x22)) fun x26 => if x26 ≤ y18 then (mr (y18, y19, y20)) else (mb (rR (a0) 8 1) fun x33 => mb (mg fun n E => sOk n E (x33)) fun _ => mb (H_J0_charAt_5068e (x33) (y18)) fun x37 => mb (mp (rm (((x37 - 97) - y19) + 26) 26)) fun x43 => mb (if x43 ≤ 13 then (mr x43) else (mr (26 - x43)) : MH (Int32)) fun t46 => H_X8_turns_L7 a0 a1 m13 ((y18 + 1)) ((x37 - 97)) ((y20 + t46)))
noncomputable def H_X8_turns (a0 : Nat) (a1 : Int32) : MH Int32 := mb (H_X8_turns_L7 a0 a1 FUEL ((0 : Int32)) (a1) ((0 : Int32))) fun t1 => mr (t1.2.2)
set_option maxHeartbeats 4000000 in
set_option maxRecDepth 100000 in
theorem h_X8_turns (l : Launch) (dC : Nat → ClassId) (dI : Nat → Nat → Nat) (cy : Nat → ClassId) (nb : Nat → Nat) (ad0 : Nat → Nat) (n0 s0 : Nat) (E0 : HE) (hC : clo n0 E0) (a0 Aa0 : Nat) (ha0 : rf nb ad0 n0 a0 Aa0) (a1 : Int32) (sz : Nat) (ro : Int32) (nz sz9 : Nat) (Ez : HE) (hF : (H_X8_turns a0 a1).1 (n0, s0, E0) = some (ro, nz, sz9, Ez)) : Met l yX8_turns (wsg yX8_turns cX8_turns 7 (some .int)) ({ frames := 12, cells := nz - n0, slots := sz9 - s0, locals := 700 }) (va_Pc [.ref Aa0, .int a1] (fun U => U.heap.size = sz ∧ va_P (dC, dI) vwCl (CH cy nb ad0 n0 E0) U.heap ∧ va_K (dC, dI) vwCl (tyL cy) U ∧ va_D (fun _ => True) (CH cy nb ad0 n0 E0) ∧ GL nb (va_A (CH cy nb ad0 n0 E0) sz) U)) (va_Qi (fun (r : Int32) (_ : Unit) => r = ro) (fun _ t => ∃ ad2 : Nat → Nat, axh n0 ad0 nz ad2 ∧ va_P (dC, dI) vwCl (CH cy nb ad2 nz Ez) t.heap ∧ va_D (va_A (CH cy nb ad0 n0 E0) sz) (CH cy nb ad2 nz Ez)) (va_A (CH cy nb ad0 n0 E0) sz)) (nz - n0) (sz9 - s0) (va_A (CH cy nb ad0 n0 E0) sz) := by
  refine Met.ofW (cc := cX8_turns) (maxL := 7) (ret := (some .int)) (by decide) rfl ?_
  intro p e s m args below meth c s₁ B hml hv
  obtain ⟨rfl, hsz, hP, hK, hD0, hE⟩ := hv
  have hx := B.exec
  have hb := B.bytes
  have hr := B.returns
  have hts0 := atoms_spec (ws := (wsg yX8_turns cX8_turns 7 (some .int))) B.pre
  have hts : ∀ w ∈ wsL_law, w.before _ s = true := fun w h => hts0 w (List.mem_cons_of_mem _ h)
  have hown : s.vm.findClass RX8 = some m.cls := by have h9 := findClass_of_methodNamed B.named; exact h9
  subst hsz
  have hD := hD0.self (sz := s.heap.size)
  generalize hAe : va_A (CH cy nb ad0 n0 E0) s.heap.size = A at hD hE ⊢
  have hA : ∀ q : Nat, s.heap.size ≤ q → A q := fun q h => by rw [← hAe]; exact Or.inr h
  have hS : va_S A s.heap s.heap [] := va_S.rf
  have hl := lv_entry ([.ref Aa0, .int a1]) (n := 7) (Nat.le_of_ble_eq_true rfl)
  rw [lg_entry_eq]
  generalize (lg_sl ([.ref Aa0, .int a1]) ++ List.replicate (7 - (lg_sl ([.ref Aa0, .int a1])).length) Slot.unset).toArray = ls at hl ⊢
  have hl : lv_has ls 7 [(0, .ref Aa0), (1, .int a1)] := hl
  generalize hHe : s.heap = H at hP hS ⊢
  have hS : va_S A s.heap H [] := by rw [hHe]; exact hS
  refine my_Q (fun Qn hQ => ?_)
  simp only [H_X8_turns] at hF
  have hX : axh n0 ad0 n0 ad0 := axh_refl
  have hN : n0 ≤ n0 := Nat.le_refl _
  have hT : s0 ≤ s0 := Nat.le_refl _
  refine W.widen (k := n0 - n0) (n := s0 - s0) (by omega) (by omega) ?_
  refine lv_iconst (v := 0) hx hb dX8_turns_0 (by decide) ?_
  refine lv_istore_n (lv' := [(2, .int 0), (0, .ref Aa0), (1, .int a1)]) hx hb dX8_turns_1 rfl hl (by decide) rfl (fun ls hl => ?_)
  refine lv_iload_n hx hb dX8_turns_2 rfl (lv_at hl 2 rfl) ?_
  refine lv_istore_n (lv' := [(3, .int a1), (2, .int 0), (0, .ref Aa0), (1, .int a1)]) hx hb dX8_turns_3 rfl hl (by decide) rfl (fun ls hl => ?_)
  refine lv_iconst (v := 0) hx hb dX8_turns_4 (by decide) ?_
  refine lv_istore (lv' := [(4, .int 0), (3, .int a1), (2, .int 0), (0, .ref Aa0), (1, .int a1)]) hx hb dX8_turns_5 hl (by decide) rfl (fun ls hl => ?_)
  obtain ⟨t1, n3, s4, E5, hL2, hF⟩ := mb_o hF
  have hm := mle hL2
  have kx7 : ∀ (ad6 : Nat → Nat) (H : Heap) (locs : List Loc) (ls : Array Slot), axh n0 ad0 n3 ad6 → rf nb ad6 n3 (a0) (Aa0) → va_P (dC, dI) vwCl (CH cy nb ad6 n3 E5) H → va_D A (CH cy nb ad6 n3 E5) → va_S A s.heap H locs → lv_has ls 7 [(4, .int (t1.1)), (3, .int (t1.2.1)), (2, .int (t1.2.2)), (0, .ref Aa0), (1, .int a1)] → W p l e (headSpec (wsg yX8_turns cX8_turns 7 (some .int)) ({ frames := 12, cells := nz - n0, slots := sz9 - s0, locals := 700 })).room s m ([.ref Aa0, .int a1] : List Value).toArray below meth c H locs (n3 - n0) (s4 - s0) Qn (F0 m 74 ls []) := by
    intro ad6 H locs ls hX hr9 hP hD hS hl
    have hC := hm.2.2 hC
    have hN : n0 ≤ n3 := Nat.le_trans hN hm.1
    have hT : s0 ≤ s4 := Nat.le_trans hT hm.2.1
    clear hm
    refine lv_iload_n hx hb dX8_turns_74 rfl (lv_at hl 2 rfl) ?_
    obtain ⟨ht9, hn9, hs9, hE9⟩ := mr_o hF
    subst hn9 hs9 hE9
    have hX9 := hX
    rw [hQ]
    exact W.iret (v := (t1.2.2)) hx hb hr (fun t ht hW => ⟨⟨(t1.2.2), (), rfl, ht9, _, hX, by rw [ht]; exact hP, hD⟩, hS.F ht⟩) hS.2.2 dX8_turns_75
  have hK10 := mle1 hF
  have hK11 := mle2 hF
  clear hF hm
  have loop12 : ∀ (m13 : Nat) (y18 : Int32) (y19 : Int32) (y20 : Int32) (n15 s16 : Nat) (E17 : HE), (H_X8_turns_L7 a0 a1 m13 y18 y19 y20).1 (n15, s16, E17) = some (t1, n3, s4, E5) → clo n15 E17 → n0 ≤ n15 → s0 ≤ s16 → ∀ (ad14 : Nat → Nat) (H : Heap) (locs : List Loc) (ls : Array Slot), axh n0 ad0 n15 ad14 → rf nb ad14 n15 (a0) (Aa0) → va_P (dC, dI) vwCl (CH cy nb ad14 n15 E17) H → va_D A (CH cy nb ad14 n15 E17) → va_S A s.heap H locs → lv_has ls 7 [(4, .int y18), (3, .int y19), (2, .int y20), (0, .ref Aa0), (1, .int a1)] → W p l e (headSpec (wsg yX8_turns cX8_turns 7 (some .int)) ({ frames := 12, cells := nz - n0, slots := sz9 - s0, locals := 700 })).room s m ([.ref Aa0, .int a1] : List Value).toArray below meth c H locs (n15 - n0) (s16 - s0) Qn (F0 m 7 ls []) := by
    intro m13
    induction m13 with
    | zero => intro y18 y19 y20 n15 s16 E17 hF; exact (m0_o hF).elim
    | succ m13 ih =>
      intro y18 y19 y20 n15 s16 E17 hF hC hN hT ad14 H locs ls hX hr21 hP hD hS hl
      simp only [H_X8_turns_L7] at hF
      refine lv_iload hx hb dX8_turns_7 (lv_at hl 0 rfl) ?_
      refine lv_aload_n hx hb dX8_turns_9 rfl (lv_at hl 3 rfl) ?_
      obtain ⟨x22, e23, hF⟩ := mg_o hF
      obtain ⟨hr24, fs9, h9, g9⟩ := rdR hP hC hr21 e23
      refine va_get (D := (dC, dI)) (ci := 8) (v := .ref (AD nb ad14 x22)) (C := RX8) (T := TX8) (N := 9) hx hb hts inlX8 hown hK h9 0 rfl rfl 1 (by decide) (hts _ mw_1061) (fun _ h9 => h9) g9 dX8_turns_10 ?_
      clear h9 g9
      obtain ⟨_, e25, hF⟩ := mg_o hF
      obtain ⟨x26, n28, s29, E30, e27, hF⟩ := mb_o hF
      have hm := mle e27
      have hM1 := mle1 hF
      have hM2 := mle2 hF
      have hm1 := hm.1
      have hm2 := hm.2.1
      have hFc := my_free hD hS hA
      refine va_calli (va_runV (C := RJ0) (As := []) (rest := [.int y18]) ⟨hx, hb, hml, hown, hts⟩ (h_J0_length_8abf5 l dC dI cy nb ad14 n15 s16 E17 hC (x22) (AD nb ad14 x22) hr24 H.size x26 n28 s29 E30 e27) (cwV 0 hts (gV mw_1353 mw_275 mw_276 mw_277 mw_278) rfl rfl rfl (by decide +kernel) ⟨Nat.le_of_ble_eq_true rfl, Nat.le_of_ble_eq_true rfl⟩) (hl_preV hP hK hD hE hS hFc (hs_srecv hK hP hC hE hS hr24 e25)) rfl rfl hl.1 rfl (lv_room (Nat.le_of_ble_eq_true rfl)) dX8_turns_13 ⟨show n15 - n0 + (n28 - n15) ≤ nz - n0 by omega, show s16 - s0 + (s29 - s16) ≤ sz9 - s0 by omega⟩) hS (fun q _ h => hFc q h) hFc (fun r9 u t H1 locs ht hvm hw hB hz1 hk1 hS => ?_)
      obtain ⟨ad31, hax, hP1, hD1⟩ := hB
      rw [ht] at hP1
      have hP := hP1
      have hD := hD1.weaken (fun k q _ h => hFc q.1 h)
      generalize H1 = H at hP hS ⊢
      have hr21 := hr21.mv hC.1 hax
      have hX := hX.trans hax
      have hC := hm.2.2 hC
      have hN : n0 ≤ n28 := Nat.le_trans hN hm1
      have hT : s0 ≤ s29 := Nat.le_trans hT hm2
      refine W.widen (k := n28 - n0) (n := s29 - s0) (by omega) (by omega) ?_
      clear hP1 hD1 hFc hk1 hz1 hvm ht hax hm hm1 hm2 hM1 hM2
      obtain rfl := hw.symm
      refine lv_icmp_ge (tgt := 74) hx hb dX8_turns_16 (by decide) (fun c32 => ?_) (fun c32 => ?_)
      · skip
        rw [if_pos c32] at hF
        obtain ⟨ht9, hn9, hs9, hE9⟩ := mr_o hF
        subst hn9 hs9 hE9
        subst ht9
        have hl := lv_sub (l' := [(4, .int y18), (3, .int y19), (2, .int y20), (0, .ref Aa0), (1, .int a1)]) hl [0, 1, 2, 3, 4] rfl
        exact kx7 _ _ _ _ hX hr21 hP hD hS hl
      · skip
        rw [if_neg c32] at hF
        refine lv_aload_n hx hb dX8_turns_19 rfl (lv_at hl 3 rfl) ?_
        obtain ⟨x33, e34, hF⟩ := mg_o hF
        obtain ⟨hr35, fs9, h9, g9⟩ := rdR hP hC hr21 e34
        refine va_get (D := (dC, dI)) (ci := 8) (v := .ref (AD nb ad31 x33)) (C := RX8) (T := TX8) (N := 9) hx hb hts inlX8 hown hK h9 0 rfl rfl 1 (by decide) (hts _ mw_1061) (fun _ h9 => h9) g9 dX8_turns_20 ?_
        clear h9 g9
        refine lv_iload hx hb dX8_turns_23 (lv_at hl 0 rfl) ?_
        obtain ⟨_, e36, hF⟩ := mg_o hF
        obtain ⟨x37, n39, s40, E41, e38, hF⟩ := mb_o hF
        have hm := mle e38
        have hM1 := mle1 hF
        have hM2 := mle2 hF
        have hm1 := hm.1
        have hm2 := hm.2.1
        have hFc := my_free hD hS hA
        refine va_calli (va_runV (C := RJ0) (As := [.int y18]) (rest := []) ⟨hx, hb, hml, hown, hts⟩ (h_J0_charAt_5068e l dC dI cy nb ad31 n28 s29 E30 hC (x33) (AD nb ad31 x33) hr35 (y18) H.size x37 n39 s40 E41 e38) (cwV 1 hts (gV mw_1354 mw_943 mw_944 mw_277 mw_945) rfl rfl rfl (by decide +kernel) ⟨Nat.le_of_ble_eq_true rfl, Nat.le_of_ble_eq_true rfl⟩) (hl_preV hP hK hD hE hS hFc (hs_srecv hK hP hC hE hS hr35 e36)) rfl rfl hl.1 rfl (lv_room (Nat.le_of_ble_eq_true rfl)) dX8_turns_25 ⟨show n28 - n0 + (n39 - n28) ≤ nz - n0 by omega, show s29 - s0 + (s40 - s29) ≤ sz9 - s0 by omega⟩) hS (fun q _ h => hFc q h) hFc (fun r9 u t H1 locs ht hvm hw hB hz1 hk1 hS => ?_)
        obtain ⟨ad42, hax, hP1, hD1⟩ := hB
        rw [ht] at hP1
        have hP := hP1
        have hD := hD1.weaken (fun k q _ h => hFc q.1 h)
        generalize H1 = H at hP hS ⊢
        have hr21 := hr21.mv hC.1 hax
        have hX := hX.trans hax
        have hC := hm.2.2 hC
        have hN : n0 ≤ n39 := Nat.le_trans hN hm1
        have hT : s0 ≤ s40 := Nat.le_trans hT hm2
        refine W.widen (k := n39 - n0) (n := s40 - s0) (by omega) (by omega) ?_
        clear hP1 hD1 hFc hk1 hz1 hvm ht hax hm hm1 hm2 hM1 hM2
        obtain rfl := hw.symm
        refine lv_bipush (v := 97) hx hb dX8_turns_28 (by decide) ?_
        refine lv_isub hx hb dX8_turns_30 ?_
        refine lv_istore (lv' := [(5, .int (x37 - 97)), (4, .int y18), (3, .int y19), (2, .int y20), (0, .ref Aa0), (1, .int a1)]) hx hb dX8_turns_31 hl (by decide) rfl (fun ls hl => ?_)
        refine lv_iload hx hb dX8_turns_33 (lv_at hl 0 rfl) ?_
        refine lv_iload_n hx hb dX8_turns_35 rfl (lv_at hl 2 rfl) ?_
        refine lv_isub hx hb dX8_turns_36 ?_
        refine lv_bipush (v := 26) hx hb dX8_turns_37 (by decide) ?_
        refine lv_iadd hx hb dX8_turns_39 ?_
        refine lv_bipush (v := 26) hx hb dX8_turns_40 (by decide) ?_
        obtain ⟨x43, e44, hF⟩ := mp_o hF
        refine lv_irem hx hb dX8_turns_42 (rm_ne e44) ?_
        refine my_topi (y := x43) (rm_eq e44) ?_
        refine lv_istore (lv' := [(6, .int x43), (5, .int (x37 - 97)), (4, .int y18), (3, .int y19), (2, .int y20), (0, .ref Aa0), (1, .int a1)]) hx hb dX8_turns_43 hl (by decide) rfl (fun ls hl => ?_)
        refine lv_iload_n hx hb dX8_turns_45 rfl (lv_at hl 4 rfl) ?_
        refine lv_iload hx hb dX8_turns_46 (lv_at hl 0 rfl) ?_
        refine lv_bipush (v := 13) hx hb dX8_turns_48 (by decide) ?_
        obtain ⟨t46, n49, s50, E51, hJ47, hF⟩ := mb_o hF
        have hm := mle hJ47
        have join52 : ∀ (ad48 : Nat → Nat) (H : Heap) (locs : List Loc) (ls : Array Slot), axh n0 ad0 n49 ad48 → rf nb ad48 n49 (a0) (Aa0) → va_P (dC, dI) vwCl (CH cy nb ad48 n49 E51) H → va_D A (CH cy nb ad48 n49 E51) → va_S A s.heap H locs → lv_has ls 7 [(6, .int x43), (5, .int (x37 - 97)), (4, .int y18), (3, .int y19), (2, .int y20), (0, .ref Aa0), (1, .int a1)] → W p l e (headSpec (wsg yX8_turns cX8_turns 7 (some .int)) ({ frames := 12, cells := nz - n0, slots := sz9 - s0, locals := 700 })).room s m ([.ref Aa0, .int a1] : List Value).toArray below meth c H locs (n49 - n0) (s50 - s0) Qn (F0 m 63 ls [.int t46, .int y20]) := by
          intro ad48 H locs ls hX hr53 hP hD hS hl
          have hC := hm.2.2 hC
          have hN : n0 ≤ n49 := Nat.le_trans hN hm.1
          have hT : s0 ≤ s50 := Nat.le_trans hT hm.2.1
          clear hm
          refine lv_iadd hx hb dX8_turns_63 ?_
          refine lv_istore_n (lv' := [(2, .int (y20 + t46)), (6, .int x43), (5, .int (x37 - 97)), (4, .int y18), (3, .int y19), (0, .ref Aa0), (1, .int a1)]) hx hb dX8_turns_64 rfl hl (by decide) rfl (fun ls hl => ?_)
          refine lv_iload hx hb dX8_turns_65 (lv_at hl 2 rfl) ?_
          refine lv_istore_n (lv' := [(3, .int (x37 - 97)), (2, .int (y20 + t46)), (6, .int x43), (5, .int (x37 - 97)), (4, .int y18), (0, .ref Aa0), (1, .int a1)]) hx hb dX8_turns_67 rfl hl (by decide) rfl (fun ls hl => ?_)
          refine lv_iinc (v := (y18 + 1)) (lv' := [(4, .int (y18 + 1)), (3, .int (x37 - 97)), (2, .int (y20 + t46)), (6, .int x43), (5, .int (x37 - 97)), (0, .ref Aa0), (1, .int a1)]) hx hb dX8_turns_68 hl (k := 4) rfl (by rfl) (by decide) rfl (fun ls hl => ?_)
          refine lv_goto (tgt := 7) hx hb dX8_turns_71 (by decide) ?_
          have hl := lv_sub (l' := [(4, .int (y18 + 1)), (3, .int (x37 - 97)), (2, .int (y20 + t46)), (0, .ref Aa0), (1, .int a1)]) hl [0, 1, 2, 5, 6] rfl
          exact ih _ _ _ _ _ _ hF hC hN hT _ _ _ _ hX hr53 hP hD hS hl
        have hK54 := mle1 hF
        have hK55 := mle2 hF
        clear hF hm
        have hF := hJ47
        clear hJ47
        refine lv_icmp_le (tgt := 61) hx hb dX8_turns_50 (by decide) (fun c45 => ?_) (fun c45 => ?_)
        · skip
          rw [if_pos c45] at hF
          refine lv_iload hx hb dX8_turns_61 (lv_at hl 0 rfl) ?_
          obtain ⟨ht9, hn9, hs9, hE9⟩ := mr_o hF
          subst ht9 hn9 hs9 hE9
          have hl := lv_sub (l' := [(6, .int x43), (5, .int (x37 - 97)), (4, .int y18), (3, .int y19), (2, .int y20), (0, .ref Aa0), (1, .int a1)]) hl [0, 1, 2, 3, 4, 5, 6] rfl
          exact join52 _ _ _ _ hX hr21 hP hD hS hl
        · skip
          rw [if_neg c45] at hF
          refine lv_bipush (v := 26) hx hb dX8_turns_53 (by decide) ?_
          refine lv_iload hx hb dX8_turns_55 (lv_at hl 0 rfl) ?_
          refine lv_isub hx hb dX8_turns_57 ?_
          refine lv_goto (tgt := 63) hx hb dX8_turns_58 (by decide) ?_
          obtain ⟨ht9, hn9, hs9, hE9⟩ := mr_o hF
          subst ht9 hn9 hs9 hE9
          have hl := lv_sub (l' := [(6, .int x43), (5, .int (x37 - 97)), (4, .int y18), (3, .int y19), (2, .int y20), (0, .ref Aa0), (1, .int a1)]) hl [0, 1, 2, 3, 4, 5, 6] rfl
          exact join52 _ _ _ _ hX hr21 hP hD hS hl
  have hl := lv_sub (l' := [(4, .int 0), (3, .int a1), (2, .int 0), (0, .ref Aa0), (1, .int a1)]) hl [0, 1, 2, 3, 4] rfl
  exact loop12 FUEL _ _ _ _ _ _ hL2 hC hN hT _ _ _ _ hX ha0 hP hD hS hl
noncomputable def H_X10_init (a0 : Nat) (a1 : Int32) (a2 : Int32) (a3 : Nat) : MH Unit := mb (wI (a0) 10 3 ((-1))) fun _ => mb (wI (a0) 10 0 (a1)) fun _ => mb (wI (a0) 10 2 (a2)) fun _ => mb (wR (a0) 10 1 (a3)) fun _ => mr ()
set_option maxHeartbeats 4000000 in
set_option maxRecDepth 100000 in
theorem h_X10_init (l : Launch) (dC : Nat → ClassId) (dI : Nat → Nat → Nat) (cy : Nat → ClassId) (nb : Nat → Nat) (ad0 : Nat → Nat) (n0 s0 : Nat) (E0 : HE) (hC : clo n0 E0) (a0 Aa0 : Nat) (ha0 : rf nb ad0 n0 a0 Aa0) (a1 : Int32) (a2 : Int32) (a3 Aa3 : Nat) (ha3 : rf nb ad0 n0 a3 Aa3) (sz : Nat) (nz sz9 : Nat) (Ez : HE) (hF : (H_X10_init a0 a1 a2 a3).1 (n0, s0, E0) = some ((), nz, sz9, Ez)) : Met l yX10_init (wsg yX10_init cX10_init 4 none) ({ frames := 8, cells := nz - n0, slots := sz9 - s0, locals := 300 }) (va_Pc [.ref Aa0, .int a1, .int a2, .ref Aa3] (fun U => U.heap.size = sz ∧ va_P (dC, dI) vwCl (CH cy nb ad0 n0 E0) U.heap ∧ va_K (dC, dI) vwCl (tyL cy) U ∧ va_D (fun _ => True) (CH cy nb ad0 n0 E0) ∧ GL nb (va_A (CH cy nb ad0 n0 E0) sz) U)) (va_Qv (fun (_ : Unit) => True) (fun _ t => ∃ ad2 : Nat → Nat, axh n0 ad0 nz ad2 ∧ va_P (dC, dI) vwCl (CH cy nb ad2 nz Ez) t.heap ∧ va_D (va_A (CH cy nb ad0 n0 E0) sz) (CH cy nb ad2 nz Ez)) (va_A (CH cy nb ad0 n0 E0) sz)) (nz - n0) (sz9 - s0) (va_A (CH cy nb ad0 n0 E0) sz) := by
  refine Met.ofW (cc := cX10_init) (maxL := 4) (ret := none) (by decide) rfl ?_
  intro p e s m args below meth c s₁ B hml hv
  obtain ⟨rfl, hsz, hP, hK, hD0, hE⟩ := hv
  have hx := B.exec
  have hb := B.bytes
  have hr := B.returns
  have hts0 := atoms_spec (ws := (wsg yX10_init cX10_init 4 none)) B.pre
  have hts : ∀ w ∈ wsL_law, w.before _ s = true := fun w h => hts0 w (List.mem_cons_of_mem _ h)
  have hown : s.vm.findClass RX10 = some m.cls := by have h9 := findClass_of_methodNamed B.named; exact h9
  have hnm : meth.name = "<init>" := by have h9 := B.name; exact h9
  subst hsz
  have hD := hD0.self (sz := s.heap.size)
  generalize hAe : va_A (CH cy nb ad0 n0 E0) s.heap.size = A at hD hE ⊢
  have hA : ∀ q : Nat, s.heap.size ≤ q → A q := fun q h => by rw [← hAe]; exact Or.inr h
  have hS : va_S A s.heap s.heap [] := va_S.rf
  have hl := lv_entry ([.ref Aa0, .int a1, .int a2, .ref Aa3]) (n := 4) (Nat.le_of_ble_eq_true rfl)
  rw [lg_entry_eq]
  generalize (lg_sl ([.ref Aa0, .int a1, .int a2, .ref Aa3]) ++ List.replicate (4 - (lg_sl ([.ref Aa0, .int a1, .int a2, .ref Aa3])).length) Slot.unset).toArray = ls at hl ⊢
  have hl : lv_has ls 4 [(0, .ref Aa0), (1, .int a1), (2, .int a2), (3, .ref Aa3)] := hl
  generalize hHe : s.heap = H at hP hS ⊢
  have hS : va_S A s.heap H [] := by rw [hHe]; exact hS
  refine my_Q (fun Qn hQ => ?_)
  simp only [H_X10_init] at hF
  have hX : axh n0 ad0 n0 ad0 := axh_refl
  have hN : n0 ≤ n0 := Nat.le_refl _
  have hT : s0 ≤ s0 := Nat.le_refl _
  refine W.widen (k := n0 - n0) (n := s0 - s0) (by omega) (by omega) ?_
  refine lv_aload_n hx hb dX10_init_0 rfl (lv_at hl 0 rfl) ?_
  refine W.objInit hx hb hown (hts _ mw_835) (hts _ mw_18) (hts _ mw_19) rfl (by rw [hml]; exact hl.1) rfl dX10_init_1 (Nat.le_of_ble_eq_true rfl) (Nat.le_of_ble_eq_true rfl) ?_
  refine W.eq (g2 := F0 m 4 ls []) rfl ?_
  refine lv_aload_n hx hb dX10_init_4 rfl (lv_at hl 0 rfl) ?_
  refine lv_iconst (v := (-1)) hx hb dX10_init_5 (by decide) ?_
  obtain ⟨E1, e2, hF⟩ := mw_o hF
  obtain ⟨q9, fs9, h9, ez9⟩ := wrI (cy := cy) hC ha0 e2
  refine va_put (D := (dC, dI)) (ci := 10) (v := .int (-1)) (ty := .int) (C := RX10) (T := TX10) (N := 15) hx hb hts inlX10 tyX10 tyX10_ok nmX10 hown hK hP hD hS q9 h9 rfl 3 (by decide) (hts _ mw_836) (fun _ h9 => h9) rfl (by decide +kernel) rfl rfl (Nat.le_of_ble_eq_true rfl) dX10_init_6 (fun H locs hP hD hS => ?_)
  rw [ez9] at hP hD
  clear ez9 h9
  have hC := sI_clo e2 hC
  refine lv_aload_n hx hb dX10_init_9 rfl (lv_at hl 0 rfl) ?_
  refine lv_iload_n hx hb dX10_init_10 rfl (lv_at hl 1 rfl) ?_
  obtain ⟨E3, e4, hF⟩ := mw_o hF
  obtain ⟨q9, fs9, h9, ez9⟩ := wrI (cy := cy) hC ha0 e4
  refine va_putF (D := (dC, dI)) (ci := 10) (v := .int a1) (ty := .int) (C := RX10) (T := TX10) (N := 15) hx hb hts inlX10 tyX10 tyX10_ok nmX10 hown hK hP hD hS q9 h9 rfl 0 (by decide) (hts _ mw_837) (fun _ h9 => h9) rfl hnm rfl (by decide +kernel) rfl rfl (Nat.le_of_ble_eq_true rfl) dX10_init_11 (fun H locs hP hD hS => ?_)
  rw [ez9] at hP hD
  clear ez9 h9
  have hC := sI_clo e4 hC
  refine lv_aload_n hx hb dX10_init_14 rfl (lv_at hl 0 rfl) ?_
  refine lv_iload_n hx hb dX10_init_15 rfl (lv_at hl 2 rfl) ?_
  obtain ⟨E5, e6, hF⟩ := mw_o hF
  obtain ⟨q9, fs9, h9, ez9⟩ := wrI (cy := cy) hC ha0 e6
  refine va_put (D := (dC, dI)) (ci := 10) (v := .int a2) (ty := .int) (C := RX10) (T := TX10) (N := 15) hx hb hts inlX10 tyX10 tyX10_ok nmX10 hown hK hP hD hS q9 h9 rfl 2 (by decide) (hts _ mw_838) (fun _ h9 => h9) rfl (by decide +kernel) rfl rfl (Nat.le_of_ble_eq_true rfl) dX10_init_16 (fun H locs hP hD hS => ?_)
  rw [ez9] at hP hD
  clear ez9 h9
  have hC := sI_clo e6 hC
  refine lv_aload_n hx hb dX10_init_19 rfl (lv_at hl 0 rfl) ?_
  refine lv_aload_n hx hb dX10_init_20 rfl (lv_at hl 3 rfl) ?_
  obtain ⟨E7, e8, hF⟩ := mw_o hF
  obtain ⟨q9, fs9, h9, ez9⟩ := wrR (cy := cy) hC ha0 ha3 e8
  refine va_putF (D := (dC, dI)) (ci := 10) (v := .ref Aa3) (ty := (.object "java/lang/String")) (C := RX10) (T := TX10) (N := 15) hx hb hts inlX10 tyX10 tyX10_ok nmX10 hown hK hP hD hS q9 h9 rfl 1 (by decide) (hts _ mw_839) (fun _ h9 => h9) rfl hnm rfl (by decide +kernel) rfl rfl (Nat.le_of_ble_eq_true rfl) dX10_init_21 (fun H locs hP hD hS => ?_)
  rw [ez9] at hP hD
  clear ez9 h9
  have hC := sR_clo e8 hC
  obtain ⟨ht9, hn9, hs9, hE9⟩ := mr_o hF
  subst hn9 hs9 hE9
  have hX9 := hX
  rw [hQ]
  exact W.vret hx hb hr (fun t ht hW => ⟨⟨(), rfl, trivial, _, hX, by rw [ht]; exact hP, hD⟩, hS.F ht⟩) hS.2.2 dX10_init_24
noncomputable def H_X10_copy (a0 : Nat) : MH Nat := mb (mn 15 (.inr (10, [.int 0, .null, .int 0, .int 0, .int 0, .int 0, .int 0, .int 0, .int 0, .int 0, .int 0, .int 0, .int 0, .int 0, .int 0])) nok_X10) fun x4 => mb (rI (a0) 10 0) fun x8 => mb (rI (a0) 10 2) fun x10 => mb (rR (a0) 10 1) fun x12 => mb (H_X10_init (x4) (x8) (x10) (x12)) fun _ => mb (rI (a0) 10 3) fun x20 => mb (wI (x4) 10 3 (x20)) fun _ => mb (rI (a0) 10 4) fun x24 => mb (wI (x4) 10 4 (x24)) fun _ => mb (rI (a0) 10 5) fun x28 => mb (wI (x4) 10 5 (x28)) fun _ => mb (rI (a0) 10 6) fun x32 => mb (wI (x4) 10 6 (x32)) fun _ => mb (rI (a0) 10 7) fun x36 => mb (wI (x4) 10 7 (x36)) fun _ => mb (rI (a0) 10 8) fun x40 => mb (wI (x4) 10 8 (x40)) fun _ => mb (rI (a0) 10 9) fun x44 => mb (wI (x4) 10 9 (x44)) fun _ => mb (rI (a0) 10 10) fun x48 => mb (wI (x4) 10 10 (x48)) fun _ => mb (rI (a0) 10 11) fun x52 => mb (wI (x4) 10 11 (x52)) fun _ => mb (rI (a0) 10 12) fun x56 => mb (wI (x4) 10 12 (x56)) fun _ => mb (rI (a0) 10 13) fun x60 => mb (wI (x4) 10 13 (x60)) fun _ => mb (rI (a0) 10 14) fun x64 => mb (mp (nz x64)) fun x67 => mb (wI (x4) 10 14 (x67)) fun _ => mr x4
set_option maxHeartbeats 4000000 in
set_option maxRecDepth 100000 in
theorem h_X10_copy (l : Launch) (dC : Nat → ClassId) (dI : Nat → Nat → Nat) (cy : Nat → ClassId) (nb : Nat → Nat) (ad0 : Nat → Nat) (n0 s0 : Nat) (E0 : HE) (hC : clo n0 E0) (a0 Aa0 : Nat) (ha0 : rf nb ad0 n0 a0 Aa0) (sz : Nat) (ro : Nat) (nz sz9 : Nat) (Ez : HE) (hF : (H_X10_copy a0).1 (n0, s0, E0) = some (ro, nz, sz9, Ez)) : Met l yX10_copy (wsg yX10_copy cX10_copy 2 (some (.object "CardLineLaw$Station"))) ({ frames := 9, cells := nz - n0, slots := sz9 - s0, locals := 400 }) (va_Pc [.ref Aa0] (fun U => U.heap.size = sz ∧ va_P (dC, dI) vwCl (CH cy nb ad0 n0 E0) U.heap ∧ va_K (dC, dI) vwCl (tyL cy) U ∧ va_D (fun _ => True) (CH cy nb ad0 n0 E0) ∧ GL nb (va_A (CH cy nb ad0 n0 E0) sz) U)) (va_Qr (fun (_ : Unit) => True) (fun _ ra t => ∃ ad2 : Nat → Nat, axh n0 ad0 nz ad2 ∧ rf nb ad2 nz ro ra ∧ va_P (dC, dI) vwCl (CH cy nb ad2 nz Ez) t.heap ∧ va_D (va_A (CH cy nb ad0 n0 E0) sz) (CH cy nb ad2 nz Ez)) (va_A (CH cy nb ad0 n0 E0) sz)) (nz - n0) (sz9 - s0) (va_A (CH cy nb ad0 n0 E0) sz) := by
  refine Met.ofW (cc := cX10_copy) (maxL := 2) (ret := (some (.object "CardLineLaw$Station"))) (by decide) rfl ?_
  intro p e s m args below meth c s₁ B hml hv
  obtain ⟨rfl, hsz, hP, hK, hD0, hE⟩ := hv
  have hx := B.exec
  have hb := B.bytes
  have hr := B.returns
  have hts0 := atoms_spec (ws := (wsg yX10_copy cX10_copy 2 (some (.object "CardLineLaw$Station")))) B.pre
  have hts : ∀ w ∈ wsL_law, w.before _ s = true := fun w h => hts0 w (List.mem_cons_of_mem _ h)
  have hown : s.vm.findClass RX10 = some m.cls := by have h9 := findClass_of_methodNamed B.named; exact h9
  subst hsz
  have hD := hD0.self (sz := s.heap.size)
  generalize hAe : va_A (CH cy nb ad0 n0 E0) s.heap.size = A at hD hE ⊢
  have hA : ∀ q : Nat, s.heap.size ≤ q → A q := fun q h => by rw [← hAe]; exact Or.inr h
  have hS : va_S A s.heap s.heap [] := va_S.rf
  have hl := lv_entry ([.ref Aa0]) (n := 2) (Nat.le_of_ble_eq_true rfl)
  rw [lg_entry_eq]
  generalize (lg_sl ([.ref Aa0]) ++ List.replicate (2 - (lg_sl ([.ref Aa0])).length) Slot.unset).toArray = ls at hl ⊢
  have hl : lv_has ls 2 [(0, .ref Aa0)] := hl
  generalize hHe : s.heap = H at hP hS ⊢
  have hS : va_S A s.heap H [] := by rw [hHe]; exact hS
  refine my_Q (fun Qn hQ => ?_)
  simp only [H_X10_copy] at hF
  have hX : axh n0 ad0 n0 ad0 := axh_refl
  have hN : n0 ≤ n0 := Nat.le_refl _
  have hT : s0 ≤ s0 := Nat.le_refl _
  refine W.widen (k := n0 - n0) (n := s0 - s0) (by omega) (by omega) ?_
  obtain ⟨x4, n1, s2, E3, hq, hF⟩ := mn_o hF
  have hM1 := mle1 hF
  have hM2 := mle2 hF
  have hq9 := hq.2.1
  have hq8 := hq.2.2.1
  refine va_new (ci := 10) (fs := [.int 0, .null, .int 0, .int 0, .int 0, .int 0, .int 0, .int 0, .int 0, .int 0, .int 0, .int 0, .int 0, .int 0, .int 0]) (C := RX10) (T := TX10) (N := 15) hx hb hts inlX10 tyX10 tyX10_ok hown (hts _ mw_1276) (hts _ mw_606) (hts _ mw_607) hK hP hD hS hA rfl (fun j hj => by match j, hj with | 0, _ => rfl | 1, _ => rfl | 2, _ => rfl | 3, _ => rfl | 4, _ => rfl | 5, _ => rfl | 6, _ => rfl | 7, _ => rfl | 8, _ => rfl | 9, _ => rfl | 10, _ => rfl | 11, _ => rfl | 12, _ => rfl | 13, _ => rfl | 14, _ => rfl | (n+15), h => omega) (show n0 - n0 + 1 ≤ nz - n0 by omega) (show s0 - s0 + 15 ≤ sz9 - s0 by omega) dX10_copy_0 (fun q5 H hP hD hS => ?_)
  obtain ⟨ad6, hax, hr7, hC9, hw9⟩ := new_w (cy := cy) (nb := nb) (ad := ad0) (e := .inr (10, [.int 0, .null, .int 0, .int 0, .int 0, .int 0, .int 0, .int 0, .int 0, .int 0, .int 0, .int 0, .int 0, .int 0, .int 0])) nok_X10 (fun _ => rfl) hC q5 hq
  rw [hw9] at hP hD
  have ha0 := ha0.mv hC.1 hax
  have hX := hX.trans hax
  have hC := hC9
  obtain ⟨-, hq1, hq2, -, -⟩ := hq
  have hN : n0 ≤ n1 := by omega
  have hT : s0 ≤ s2 := by omega
  refine W.widen (k := n1 - n0) (n := s2 - s0) (by omega) (by omega) ?_
  clear hM1 hM2 hax hC9 hw9 hq1 hq2 hq8 hq9
  refine lv_dup hx hb dX10_copy_3 rfl ?_
  refine lv_aload_n hx hb dX10_copy_4 rfl (lv_at hl 0 rfl) ?_
  obtain ⟨x8, e9, hF⟩ := mg_o hF
  obtain ⟨fs9, h9, g9⟩ := rdI hP hC ha0 e9
  refine va_get (D := (dC, dI)) (ci := 10) (v := .int x8) (C := RX10) (T := TX10) (N := 15) hx hb hts inlX10 hown hK h9 0 rfl rfl 0 (by decide) (hts _ mw_837) (fun _ h9 => h9) g9 dX10_copy_5 ?_
  clear h9 g9
  refine lv_aload_n hx hb dX10_copy_8 rfl (lv_at hl 0 rfl) ?_
  obtain ⟨x10, e11, hF⟩ := mg_o hF
  obtain ⟨fs9, h9, g9⟩ := rdI hP hC ha0 e11
  refine va_get (D := (dC, dI)) (ci := 10) (v := .int x10) (C := RX10) (T := TX10) (N := 15) hx hb hts inlX10 hown hK h9 0 rfl rfl 2 (by decide) (hts _ mw_838) (fun _ h9 => h9) g9 dX10_copy_9 ?_
  clear h9 g9
  refine lv_aload_n hx hb dX10_copy_12 rfl (lv_at hl 0 rfl) ?_
  obtain ⟨x12, e13, hF⟩ := mg_o hF
  obtain ⟨hr14, fs9, h9, g9⟩ := rdR hP hC ha0 e13
  refine va_get (D := (dC, dI)) (ci := 10) (v := .ref (AD nb ad6 x12)) (C := RX10) (T := TX10) (N := 15) hx hb hts inlX10 hown hK h9 0 rfl rfl 1 (by decide) (hts _ mw_839) (fun _ h9 => h9) g9 dX10_copy_13 ?_
  clear h9 g9
  obtain ⟨⟨⟩, n16, s17, E18, e15, hF⟩ := mb_o hF
  have hm := mle e15
  have hM1 := mle1 hF
  have hM2 := mle2 hF
  have hm1 := hm.1
  have hm2 := hm.2.1
  have hFc := my_free hD hS hA
  refine va_callv (va_runI (As := [.int x8, .int x10, .ref (AD nb ad6 x12)]) (rest := [.ref q5]) ⟨hx, hb, hml, hown, hts⟩ (h_X10_init l dC dI cy nb ad6 n1 s2 E3 hC (x4) q5 hr7 (x8) (x10) (x12) (AD nb ad6 x12) hr14 H.size n16 s17 E18 e15) (cwI 3 hts (gI mw_834) rfl rfl rfl (hts _ mw_607) (hts _ mw_1288) (hts _ mw_833) rfl (by decide +kernel) ⟨Nat.le_of_ble_eq_true rfl, Nat.le_of_ble_eq_true rfl⟩) (hl_preS hP hK hD hE hS hFc) rfl rfl hl.1 rfl (lv_room (Nat.le_of_ble_eq_true rfl)) dX10_copy_16 ⟨show n1 - n0 + (n16 - n1) ≤ nz - n0 by omega, show s2 - s0 + (s17 - s2) ≤ sz9 - s0 by omega⟩) hS (fun q _ h => hFc q h) hFc (fun u t H1 locs ht hvm hw hB hz1 hk1 hS => ?_)
  obtain ⟨ad19, hax, hP1, hD1⟩ := hB
  rw [ht] at hP1
  have hP := hP1
  have hD := hD1.weaken (fun k q _ h => hFc q.1 h)
  generalize H1 = H at hP hS ⊢
  have ha0 := ha0.mv hC.1 hax
  have hr7 := hr7.mv hC.1 hax
  have hX := hX.trans hax
  have hC := hm.2.2 hC
  have hN : n0 ≤ n16 := Nat.le_trans hN hm1
  have hT : s0 ≤ s17 := Nat.le_trans hT hm2
  refine W.widen (k := n16 - n0) (n := s17 - s0) (by omega) (by omega) ?_
  clear hP1 hD1 hFc hk1 hz1 hvm ht hax hm hm1 hm2 hM1 hM2
  refine lv_astore_n (lv' := [(1, .ref q5), (0, .ref Aa0)]) hx hb dX10_copy_19 rfl hl (by decide) rfl (fun ls hl => ?_)
  refine lv_aload_n hx hb dX10_copy_20 rfl (lv_at hl 0 rfl) ?_
  refine lv_aload_n hx hb dX10_copy_21 rfl (lv_at hl 1 rfl) ?_
  obtain ⟨x20, e21, hF⟩ := mg_o hF
  obtain ⟨fs9, h9, g9⟩ := rdI hP hC ha0 e21
  refine va_get (D := (dC, dI)) (ci := 10) (v := .int x20) (C := RX10) (T := TX10) (N := 15) hx hb hts inlX10 hown hK h9 0 rfl rfl 3 (by decide) (hts _ mw_836) (fun _ h9 => h9) g9 dX10_copy_22 ?_
  clear h9 g9
  obtain ⟨E22, e23, hF⟩ := mw_o hF
  obtain ⟨q9, fs9, h9, ez9⟩ := wrI (cy := cy) hC hr7 e23
  refine va_put (D := (dC, dI)) (ci := 10) (v := .int x20) (ty := .int) (C := RX10) (T := TX10) (N := 15) hx hb hts inlX10 tyX10 tyX10_ok nmX10 hown hK hP hD hS q9 h9 rfl 3 (by decide) (hts _ mw_836) (fun _ h9 => h9) rfl (by decide +kernel) rfl rfl (Nat.le_of_ble_eq_true rfl) dX10_copy_25 (fun H locs hP hD hS => ?_)
  rw [ez9] at hP hD
  clear ez9 h9
  have hC := sI_clo e23 hC
  refine lv_aload_n hx hb dX10_copy_28 rfl (lv_at hl 0 rfl) ?_
  refine lv_aload_n hx hb dX10_copy_29 rfl (lv_at hl 1 rfl) ?_
  obtain ⟨x24, e25, hF⟩ := mg_o hF
  obtain ⟨fs9, h9, g9⟩ := rdI hP hC ha0 e25
  refine va_get (D := (dC, dI)) (ci := 10) (v := .int x24) (C := RX10) (T := TX10) (N := 15) hx hb hts inlX10 hown hK h9 0 rfl rfl 4 (by decide) (hts _ mw_1277) (fun _ h9 => h9) g9 dX10_copy_30 ?_
  clear h9 g9
  obtain ⟨E26, e27, hF⟩ := mw_o hF
  obtain ⟨q9, fs9, h9, ez9⟩ := wrI (cy := cy) hC hr7 e27
  refine va_put (D := (dC, dI)) (ci := 10) (v := .int x24) (ty := .int) (C := RX10) (T := TX10) (N := 15) hx hb hts inlX10 tyX10 tyX10_ok nmX10 hown hK hP hD hS q9 h9 rfl 4 (by decide) (hts _ mw_1277) (fun _ h9 => h9) rfl (by decide +kernel) rfl rfl (Nat.le_of_ble_eq_true rfl) dX10_copy_33 (fun H locs hP hD hS => ?_)
  rw [ez9] at hP hD
  clear ez9 h9
  have hC := sI_clo e27 hC
  refine lv_aload_n hx hb dX10_copy_36 rfl (lv_at hl 0 rfl) ?_
  refine lv_aload_n hx hb dX10_copy_37 rfl (lv_at hl 1 rfl) ?_
  obtain ⟨x28, e29, hF⟩ := mg_o hF
  obtain ⟨fs9, h9, g9⟩ := rdI hP hC ha0 e29
  refine va_get (D := (dC, dI)) (ci := 10) (v := .int x28) (C := RX10) (T := TX10) (N := 15) hx hb hts inlX10 hown hK h9 0 rfl rfl 5 (by decide) (hts _ mw_1278) (fun _ h9 => h9) g9 dX10_copy_38 ?_
  clear h9 g9
  obtain ⟨E30, e31, hF⟩ := mw_o hF
  obtain ⟨q9, fs9, h9, ez9⟩ := wrI (cy := cy) hC hr7 e31
  refine va_put (D := (dC, dI)) (ci := 10) (v := .int x28) (ty := .int) (C := RX10) (T := TX10) (N := 15) hx hb hts inlX10 tyX10 tyX10_ok nmX10 hown hK hP hD hS q9 h9 rfl 5 (by decide) (hts _ mw_1278) (fun _ h9 => h9) rfl (by decide +kernel) rfl rfl (Nat.le_of_ble_eq_true rfl) dX10_copy_41 (fun H locs hP hD hS => ?_)
  rw [ez9] at hP hD
  clear ez9 h9
  have hC := sI_clo e31 hC
  refine lv_aload_n hx hb dX10_copy_44 rfl (lv_at hl 0 rfl) ?_
  refine lv_aload_n hx hb dX10_copy_45 rfl (lv_at hl 1 rfl) ?_
  obtain ⟨x32, e33, hF⟩ := mg_o hF
  obtain ⟨fs9, h9, g9⟩ := rdI hP hC ha0 e33
  refine va_get (D := (dC, dI)) (ci := 10) (v := .int x32) (C := RX10) (T := TX10) (N := 15) hx hb hts inlX10 hown hK h9 0 rfl rfl 6 (by decide) (hts _ mw_1279) (fun _ h9 => h9) g9 dX10_copy_46 ?_
  clear h9 g9
  obtain ⟨E34, e35, hF⟩ := mw_o hF
  obtain ⟨q9, fs9, h9, ez9⟩ := wrI (cy := cy) hC hr7 e35
  refine va_put (D := (dC, dI)) (ci := 10) (v := .int x32) (ty := .int) (C := RX10) (T := TX10) (N := 15) hx hb hts inlX10 tyX10 tyX10_ok nmX10 hown hK hP hD hS q9 h9 rfl 6 (by decide) (hts _ mw_1279) (fun _ h9 => h9) rfl (by decide +kernel) rfl rfl (Nat.le_of_ble_eq_true rfl) dX10_copy_49 (fun H locs hP hD hS => ?_)
  rw [ez9] at hP hD
  clear ez9 h9
  have hC := sI_clo e35 hC
  refine lv_aload_n hx hb dX10_copy_52 rfl (lv_at hl 0 rfl) ?_
  refine lv_aload_n hx hb dX10_copy_53 rfl (lv_at hl 1 rfl) ?_
  obtain ⟨x36, e37, hF⟩ := mg_o hF
  obtain ⟨fs9, h9, g9⟩ := rdI hP hC ha0 e37
  refine va_get (D := (dC, dI)) (ci := 10) (v := .int x36) (C := RX10) (T := TX10) (N := 15) hx hb hts inlX10 hown hK h9 0 rfl rfl 7 (by decide) (hts _ mw_1280) (fun _ h9 => h9) g9 dX10_copy_54 ?_
  clear h9 g9
  obtain ⟨E38, e39, hF⟩ := mw_o hF
  obtain ⟨q9, fs9, h9, ez9⟩ := wrI (cy := cy) hC hr7 e39
  refine va_put (D := (dC, dI)) (ci := 10) (v := .int x36) (ty := .int) (C := RX10) (T := TX10) (N := 15) hx hb hts inlX10 tyX10 tyX10_ok nmX10 hown hK hP hD hS q9 h9 rfl 7 (by decide) (hts _ mw_1280) (fun _ h9 => h9) rfl (by decide +kernel) rfl rfl (Nat.le_of_ble_eq_true rfl) dX10_copy_57 (fun H locs hP hD hS => ?_)
  rw [ez9] at hP hD
  clear ez9 h9
  have hC := sI_clo e39 hC
  refine lv_aload_n hx hb dX10_copy_60 rfl (lv_at hl 0 rfl) ?_
  refine lv_aload_n hx hb dX10_copy_61 rfl (lv_at hl 1 rfl) ?_
  obtain ⟨x40, e41, hF⟩ := mg_o hF
  obtain ⟨fs9, h9, g9⟩ := rdI hP hC ha0 e41
  refine va_get (D := (dC, dI)) (ci := 10) (v := .int x40) (C := RX10) (T := TX10) (N := 15) hx hb hts inlX10 hown hK h9 0 rfl rfl 8 (by decide) (hts _ mw_1281) (fun _ h9 => h9) g9 dX10_copy_62 ?_
  clear h9 g9
  obtain ⟨E42, e43, hF⟩ := mw_o hF
  obtain ⟨q9, fs9, h9, ez9⟩ := wrI (cy := cy) hC hr7 e43
  refine va_put (D := (dC, dI)) (ci := 10) (v := .int x40) (ty := .int) (C := RX10) (T := TX10) (N := 15) hx hb hts inlX10 tyX10 tyX10_ok nmX10 hown hK hP hD hS q9 h9 rfl 8 (by decide) (hts _ mw_1281) (fun _ h9 => h9) rfl (by decide +kernel) rfl rfl (Nat.le_of_ble_eq_true rfl) dX10_copy_65 (fun H locs hP hD hS => ?_)
  rw [ez9] at hP hD
  clear ez9 h9
  have hC := sI_clo e43 hC
  refine lv_aload_n hx hb dX10_copy_68 rfl (lv_at hl 0 rfl) ?_
  refine lv_aload_n hx hb dX10_copy_69 rfl (lv_at hl 1 rfl) ?_
  obtain ⟨x44, e45, hF⟩ := mg_o hF
  obtain ⟨fs9, h9, g9⟩ := rdI hP hC ha0 e45
  refine va_get (D := (dC, dI)) (ci := 10) (v := .int x44) (C := RX10) (T := TX10) (N := 15) hx hb hts inlX10 hown hK h9 0 rfl rfl 9 (by decide) (hts _ mw_1282) (fun _ h9 => h9) g9 dX10_copy_70 ?_
  clear h9 g9
  obtain ⟨E46, e47, hF⟩ := mw_o hF
  obtain ⟨q9, fs9, h9, ez9⟩ := wrI (cy := cy) hC hr7 e47
  refine va_put (D := (dC, dI)) (ci := 10) (v := .int x44) (ty := .int) (C := RX10) (T := TX10) (N := 15) hx hb hts inlX10 tyX10 tyX10_ok nmX10 hown hK hP hD hS q9 h9 rfl 9 (by decide) (hts _ mw_1282) (fun _ h9 => h9) rfl (by decide +kernel) rfl rfl (Nat.le_of_ble_eq_true rfl) dX10_copy_73 (fun H locs hP hD hS => ?_)
  rw [ez9] at hP hD
  clear ez9 h9
  have hC := sI_clo e47 hC
  refine lv_aload_n hx hb dX10_copy_76 rfl (lv_at hl 0 rfl) ?_
  refine lv_aload_n hx hb dX10_copy_77 rfl (lv_at hl 1 rfl) ?_
  obtain ⟨x48, e49, hF⟩ := mg_o hF
  obtain ⟨fs9, h9, g9⟩ := rdI hP hC ha0 e49
  refine va_get (D := (dC, dI)) (ci := 10) (v := .int x48) (C := RX10) (T := TX10) (N := 15) hx hb hts inlX10 hown hK h9 0 rfl rfl 10 (by decide) (hts _ mw_1283) (fun _ h9 => h9) g9 dX10_copy_78 ?_
  clear h9 g9
  obtain ⟨E50, e51, hF⟩ := mw_o hF
  obtain ⟨q9, fs9, h9, ez9⟩ := wrI (cy := cy) hC hr7 e51
  refine va_put (D := (dC, dI)) (ci := 10) (v := .int x48) (ty := .int) (C := RX10) (T := TX10) (N := 15) hx hb hts inlX10 tyX10 tyX10_ok nmX10 hown hK hP hD hS q9 h9 rfl 10 (by decide) (hts _ mw_1283) (fun _ h9 => h9) rfl (by decide +kernel) rfl rfl (Nat.le_of_ble_eq_true rfl) dX10_copy_81 (fun H locs hP hD hS => ?_)
  rw [ez9] at hP hD
  clear ez9 h9
  have hC := sI_clo e51 hC
  refine lv_aload_n hx hb dX10_copy_84 rfl (lv_at hl 0 rfl) ?_
  refine lv_aload_n hx hb dX10_copy_85 rfl (lv_at hl 1 rfl) ?_
  obtain ⟨x52, e53, hF⟩ := mg_o hF
  obtain ⟨fs9, h9, g9⟩ := rdI hP hC ha0 e53
  refine va_get (D := (dC, dI)) (ci := 10) (v := .int x52) (C := RX10) (T := TX10) (N := 15) hx hb hts inlX10 hown hK h9 0 rfl rfl 11 (by decide) (hts _ mw_1284) (fun _ h9 => h9) g9 dX10_copy_86 ?_
  clear h9 g9
  obtain ⟨E54, e55, hF⟩ := mw_o hF
  obtain ⟨q9, fs9, h9, ez9⟩ := wrI (cy := cy) hC hr7 e55
  refine va_put (D := (dC, dI)) (ci := 10) (v := .int x52) (ty := .int) (C := RX10) (T := TX10) (N := 15) hx hb hts inlX10 tyX10 tyX10_ok nmX10 hown hK hP hD hS q9 h9 rfl 11 (by decide) (hts _ mw_1284) (fun _ h9 => h9) rfl (by decide +kernel) rfl rfl (Nat.le_of_ble_eq_true rfl) dX10_copy_89 (fun H locs hP hD hS => ?_)
  rw [ez9] at hP hD
  clear ez9 h9
  have hC := sI_clo e55 hC
  refine lv_aload_n hx hb dX10_copy_92 rfl (lv_at hl 0 rfl) ?_
  refine lv_aload_n hx hb dX10_copy_93 rfl (lv_at hl 1 rfl) ?_
  obtain ⟨x56, e57, hF⟩ := mg_o hF
  obtain ⟨fs9, h9, g9⟩ := rdI hP hC ha0 e57
  refine va_get (D := (dC, dI)) (ci := 10) (v := .int x56) (C := RX10) (T := TX10) (N := 15) hx hb hts inlX10 hown hK h9 0 rfl rfl 12 (by decide) (hts _ mw_1285) (fun _ h9 => h9) g9 dX10_copy_94 ?_
  clear h9 g9
  obtain ⟨E58, e59, hF⟩ := mw_o hF
  obtain ⟨q9, fs9, h9, ez9⟩ := wrI (cy := cy) hC hr7 e59
  refine va_put (D := (dC, dI)) (ci := 10) (v := .int x56) (ty := .int) (C := RX10) (T := TX10) (N := 15) hx hb hts inlX10 tyX10 tyX10_ok nmX10 hown hK hP hD hS q9 h9 rfl 12 (by decide) (hts _ mw_1285) (fun _ h9 => h9) rfl (by decide +kernel) rfl rfl (Nat.le_of_ble_eq_true rfl) dX10_copy_97 (fun H locs hP hD hS => ?_)
  rw [ez9] at hP hD
  clear ez9 h9
  have hC := sI_clo e59 hC
  refine lv_aload_n hx hb dX10_copy_100 rfl (lv_at hl 0 rfl) ?_
  refine lv_aload_n hx hb dX10_copy_101 rfl (lv_at hl 1 rfl) ?_
  obtain ⟨x60, e61, hF⟩ := mg_o hF
  obtain ⟨fs9, h9, g9⟩ := rdI hP hC ha0 e61
  refine va_get (D := (dC, dI)) (ci := 10) (v := .int x60) (C := RX10) (T := TX10) (N := 15) hx hb hts inlX10 hown hK h9 0 rfl rfl 13 (by decide) (hts _ mw_1286) (fun _ h9 => h9) g9 dX10_copy_102 ?_
  clear h9 g9
  obtain ⟨E62, e63, hF⟩ := mw_o hF
  obtain ⟨q9, fs9, h9, ez9⟩ := wrI (cy := cy) hC hr7 e63
  refine va_put (D := (dC, dI)) (ci := 10) (v := .int x60) (ty := .int) (C := RX10) (T := TX10) (N := 15) hx hb hts inlX10 tyX10 tyX10_ok nmX10 hown hK hP hD hS q9 h9 rfl 13 (by decide) (hts _ mw_1286) (fun _ h9 => h9) rfl (by decide +kernel) rfl rfl (Nat.le_of_ble_eq_true rfl) dX10_copy_105 (fun H locs hP hD hS => ?_)
  rw [ez9] at hP hD
  clear ez9 h9
  have hC := sI_clo e63 hC
  refine lv_aload_n hx hb dX10_copy_108 rfl (lv_at hl 0 rfl) ?_
  refine lv_aload_n hx hb dX10_copy_109 rfl (lv_at hl 1 rfl) ?_
  obtain ⟨x64, e65, hF⟩ := mg_o hF
  obtain ⟨fs9, h9, g9⟩ := rdI hP hC ha0 e65
  refine va_get (D := (dC, dI)) (ci := 10) (v := .int x64) (C := RX10) (T := TX10) (N := 15) hx hb hts inlX10 hown hK h9 0 rfl rfl 14 (by decide) (hts _ mw_1287) (fun _ h9 => h9) g9 dX10_copy_110 ?_
  clear h9 g9
  obtain ⟨x67, e68, hF⟩ := mp_o hF
  refine my_topi (y := x67) (nz_e e68) ?_
  obtain ⟨E66, e69, hF⟩ := mw_o hF
  obtain ⟨q9, fs9, h9, ez9⟩ := wrI (cy := cy) hC hr7 e69
  refine va_put (D := (dC, dI)) (ci := 10) (v := .int x67) (ty := .boolean) (C := RX10) (T := TX10) (N := 15) hx hb hts inlX10 tyX10 tyX10_ok nmX10 hown hK hP hD hS q9 h9 rfl 14 (by decide) (hts _ mw_1287) (fun _ h9 => h9) rfl (by decide +kernel) (nz_n e68) (nz_f e68) (Nat.le_of_ble_eq_true rfl) dX10_copy_113 (fun H locs hP hD hS => ?_)
  rw [ez9] at hP hD
  clear ez9 h9
  have hC := sI_clo e69 hC
  refine lv_aload_n hx hb dX10_copy_116 rfl (lv_at hl 0 rfl) ?_
  obtain ⟨ht9, hn9, hs9, hE9⟩ := mr_o hF
  subst hn9 hs9 hE9
  have hX9 := hX
  rw [hQ]
  exact W.aret (v := .ref q5) hx hb hr (by first | exact Or.inl ⟨_, rfl⟩ | exact Or.inr ⟨_, rfl⟩) (Or.inr ⟨_, rfl⟩) (fun t ht hW => ⟨⟨(), q5, rfl, trivial, _, hX, (by rw [← ht9]; exact hr7), by rw [ht]; exact hP, hD⟩, hS.F ht⟩) hS.2.2 dX10_copy_117
noncomputable def H_X10_ticksFor (a0 : Nat) (a1 : Nat) : MH Int32 := mb (rI (a0) 10 0) fun x1 => mb (if 3 ≤ x1 then (mb (rR (a1) 8 1) fun x15 => mb (mg fun n E => sOk n E (x15)) fun _ => mb (H_J0_length_8abf5 (x15)) fun x19 => mb (rI (a0) 10 8) fun x25 => mb (mg fun n E => fO n E (a1) 8) fun _ => mb (H_X8_turns (a1) (x25)) fun x28 => mb (rI (a0) 10 2) fun x34 => mb (rI (a0) 10 2) fun x36 => mb (mp (dv ((x28 + x34) - 1) x36)) fun x38 => mr (x19 + x38)) else (mb (rI (a0) 10 2) fun x40 => mr x40) : MH (Int32)) fun t4 => mr t4
set_option maxHeartbeats 4000000 in
set_option maxRecDepth 100000 in
theorem h_X10_ticksFor (l : Launch) (dC : Nat → ClassId) (dI : Nat → Nat → Nat) (cy : Nat → ClassId) (nb : Nat → Nat) (ad0 : Nat → Nat) (n0 s0 : Nat) (E0 : HE) (hC : clo n0 E0) (a0 Aa0 : Nat) (ha0 : rf nb ad0 n0 a0 Aa0) (a1 Aa1 : Nat) (ha1 : rf nb ad0 n0 a1 Aa1) (sz : Nat) (ro : Int32) (nz sz9 : Nat) (Ez : HE) (hF : (H_X10_ticksFor a0 a1).1 (n0, s0, E0) = some (ro, nz, sz9, Ez)) : Met l yX10_ticksFor (wsg yX10_ticksFor cX10_ticksFor 2 (some .int)) ({ frames := 13, cells := nz - n0, slots := sz9 - s0, locals := 800 }) (va_Pc [.ref Aa0, .ref Aa1] (fun U => U.heap.size = sz ∧ va_P (dC, dI) vwCl (CH cy nb ad0 n0 E0) U.heap ∧ va_K (dC, dI) vwCl (tyL cy) U ∧ va_D (fun _ => True) (CH cy nb ad0 n0 E0) ∧ GL nb (va_A (CH cy nb ad0 n0 E0) sz) U)) (va_Qi (fun (r : Int32) (_ : Unit) => r = ro) (fun _ t => ∃ ad2 : Nat → Nat, axh n0 ad0 nz ad2 ∧ va_P (dC, dI) vwCl (CH cy nb ad2 nz Ez) t.heap ∧ va_D (va_A (CH cy nb ad0 n0 E0) sz) (CH cy nb ad2 nz Ez)) (va_A (CH cy nb ad0 n0 E0) sz)) (nz - n0) (sz9 - s0) (va_A (CH cy nb ad0 n0 E0) sz) := by
  refine Met.ofW (cc := cX10_ticksFor) (maxL := 2) (ret := (some .int)) (by decide) rfl ?_
  intro p e s m args below meth c s₁ B hml hv
  obtain ⟨rfl, hsz, hP, hK, hD0, hE⟩ := hv
  have hx := B.exec
  have hb := B.bytes
  have hr := B.returns
  have hts0 := atoms_spec (ws := (wsg yX10_ticksFor cX10_ticksFor 2 (some .int))) B.pre
  have hts : ∀ w ∈ wsL_law, w.before _ s = true := fun w h => hts0 w (List.mem_cons_of_mem _ h)
  have hown : s.vm.findClass RX10 = some m.cls := by have h9 := findClass_of_methodNamed B.named; exact h9
  subst hsz
  have hD := hD0.self (sz := s.heap.size)
  generalize hAe : va_A (CH cy nb ad0 n0 E0) s.heap.size = A at hD hE ⊢
  have hA : ∀ q : Nat, s.heap.size ≤ q → A q := fun q h => by rw [← hAe]; exact Or.inr h
  have hS : va_S A s.heap s.heap [] := va_S.rf
  have hl := lv_entry ([.ref Aa0, .ref Aa1]) (n := 2) (Nat.le_of_ble_eq_true rfl)
  rw [lg_entry_eq]
  generalize (lg_sl ([.ref Aa0, .ref Aa1]) ++ List.replicate (2 - (lg_sl ([.ref Aa0, .ref Aa1])).length) Slot.unset).toArray = ls at hl ⊢
  have hl : lv_has ls 2 [(0, .ref Aa0), (1, .ref Aa1)] := hl
  generalize hHe : s.heap = H at hP hS ⊢
  have hS : va_S A s.heap H [] := by rw [hHe]; exact hS
  refine my_Q (fun Qn hQ => ?_)
  simp only [H_X10_ticksFor] at hF
  have hX : axh n0 ad0 n0 ad0 := axh_refl
  have hN : n0 ≤ n0 := Nat.le_refl _
  have hT : s0 ≤ s0 := Nat.le_refl _
  refine W.widen (k := n0 - n0) (n := s0 - s0) (by omega) (by omega) ?_
  refine lv_aload_n hx hb dX10_ticksFor_0 rfl (lv_at hl 0 rfl) ?_
  obtain ⟨x1, e2, hF⟩ := mg_o hF
  obtain ⟨fs9, h9, g9⟩ := rdI hP hC ha0 e2
  refine va_get (D := (dC, dI)) (ci := 10) (v := .int x1) (C := RX10) (T := TX10) (N := 15) hx hb hts inlX10 hown hK h9 0 rfl rfl 0 (by decide) (hts _ mw_837) (fun _ h9 => h9) g9 dX10_ticksFor_1 ?_
  clear h9 g9
  refine lv_iconst (v := 3) hx hb dX10_ticksFor_4 (by decide) ?_
  obtain ⟨t4, n7, s8, E9, hJ5, hF⟩ := mb_o hF
  have hm := mle hJ5
  have join10 : ∀ (ad6 : Nat → Nat) (H : Heap) (locs : List Loc) (ls : Array Slot), axh n0 ad0 n7 ad6 → rf nb ad6 n7 (a0) (Aa0) → rf nb ad6 n7 (a1) (Aa1) → va_P (dC, dI) vwCl (CH cy nb ad6 n7 E9) H → va_D A (CH cy nb ad6 n7 E9) → va_S A s.heap H locs → lv_has ls 2 [(0, .ref Aa0), (1, .ref Aa1)] → W p l e (headSpec (wsg yX10_ticksFor cX10_ticksFor 2 (some .int)) ({ frames := 13, cells := nz - n0, slots := sz9 - s0, locals := 800 })).room s m ([.ref Aa0, .ref Aa1] : List Value).toArray below meth c H locs (n7 - n0) (s8 - s0) Qn (F0 m 43 ls [.int t4]) := by
    intro ad6 H locs ls hX hr11 hr12 hP hD hS hl
    have hC := hm.2.2 hC
    have hN : n0 ≤ n7 := Nat.le_trans hN hm.1
    have hT : s0 ≤ s8 := Nat.le_trans hT hm.2.1
    clear hm
    obtain ⟨ht9, hn9, hs9, hE9⟩ := mr_o hF
    subst hn9 hs9 hE9
    have hX9 := hX
    rw [hQ]
    exact W.iret (v := t4) hx hb hr (fun t ht hW => ⟨⟨t4, (), rfl, ht9, _, hX, by rw [ht]; exact hP, hD⟩, hS.F ht⟩) hS.2.2 dX10_ticksFor_43
  have hK13 := mle1 hF
  have hK14 := mle2 hF
  clear hF hm
  have hF := hJ5
  clear hJ5
  refine lv_icmp_ge (tgt := 15) hx hb dX10_ticksFor_5 (by decide) (fun c3 => ?_) (fun c3 => ?_)
  · skip
    rw [if_pos c3] at hF
    refine lv_aload_n hx hb dX10_ticksFor_15 rfl (lv_at hl 1 rfl) ?_
    obtain ⟨x15, e16, hF⟩ := mg_o hF
    obtain ⟨hr17, fs9, h9, g9⟩ := rdR hP hC ha1 e16
    refine va_get (D := (dC, dI)) (ci := 8) (v := .ref (AD nb ad0 x15)) (C := RX8) (T := TX8) (N := 9) hx hb hts inlX8 hown hK h9 0 rfl rfl 1 (by decide) (hts _ mw_1347) (fun _ h9 => h9) g9 dX10_ticksFor_16 ?_
    clear h9 g9
    obtain ⟨_, e18, hF⟩ := mg_o hF
    obtain ⟨x19, n21, s22, E23, e20, hF⟩ := mb_o hF
    have hm := mle e20
    have hM1 := mle1 hF
    have hM2 := mle2 hF
    have hm1 := hm.1
    have hm2 := hm.2.1
    have hFc := my_free hD hS hA
    refine va_calli (va_runV (C := RJ0) (As := []) (rest := []) ⟨hx, hb, hml, hown, hts⟩ (h_J0_length_8abf5 l dC dI cy nb ad0 n0 s0 E0 hC (x15) (AD nb ad0 x15) hr17 H.size x19 n21 s22 E23 e20) (cwV 0 hts (gV mw_1348 mw_275 mw_276 mw_277 mw_278) rfl rfl rfl (by decide +kernel) ⟨Nat.le_of_ble_eq_true rfl, Nat.le_of_ble_eq_true rfl⟩) (hl_preV hP hK hD hE hS hFc (hs_srecv hK hP hC hE hS hr17 e18)) rfl rfl hl.1 rfl (lv_room (Nat.le_of_ble_eq_true rfl)) dX10_ticksFor_19 ⟨show n0 - n0 + (n21 - n0) ≤ nz - n0 by omega, show s0 - s0 + (s22 - s0) ≤ sz9 - s0 by omega⟩) hS (fun q _ h => hFc q h) hFc (fun r9 u t H1 locs ht hvm hw hB hz1 hk1 hS => ?_)
    obtain ⟨ad24, hax, hP1, hD1⟩ := hB
    rw [ht] at hP1
    have hP := hP1
    have hD := hD1.weaken (fun k q _ h => hFc q.1 h)
    generalize H1 = H at hP hS ⊢
    have ha0 := ha0.mv hC.1 hax
    have ha1 := ha1.mv hC.1 hax
    have hX := hX.trans hax
    have hC := hm.2.2 hC
    have hN : n0 ≤ n21 := Nat.le_trans hN hm1
    have hT : s0 ≤ s22 := Nat.le_trans hT hm2
    refine W.widen (k := n21 - n0) (n := s22 - s0) (by omega) (by omega) ?_
    clear hP1 hD1 hFc hk1 hz1 hvm ht hax hm hm1 hm2 hM1 hM2
    obtain rfl := hw.symm
    refine lv_aload_n hx hb dX10_ticksFor_22 rfl (lv_at hl 1 rfl) ?_
    refine lv_aload_n hx hb dX10_ticksFor_23 rfl (lv_at hl 0 rfl) ?_
    obtain ⟨x25, e26, hF⟩ := mg_o hF
    obtain ⟨fs9, h9, g9⟩ := rdI hP hC ha0 e26
    refine va_get (D := (dC, dI)) (ci := 10) (v := .int x25) (C := RX10) (T := TX10) (N := 15) hx hb hts inlX10 hown hK h9 0 rfl rfl 8 (by decide) (hts _ mw_1281) (fun _ h9 => h9) g9 dX10_ticksFor_24 ?_
    clear h9 g9
    obtain ⟨fs9, e27, hF⟩ := mg_o hF
    obtain ⟨x28, n30, s31, E32, e29, hF⟩ := mb_o hF
    have hm := mle e29
    have hM1 := mle1 hF
    have hM2 := mle2 hF
    have hm1 := hm.1
    have hm2 := hm.2.1
    have hFc := my_free hD hS hA
    refine va_calli (va_runV (C := RX8) (As := [.int x25]) (rest := [.int x19]) ⟨hx, hb, hml, hown, hts⟩ (h_X8_turns l dC dI cy nb ad24 n21 s22 E23 hC (a1) Aa1 ha1 (x25) H.size x28 n30 s31 E32 e29) (cwV 1 hts (gV mw_1349 mw_1350 mw_1351 mw_613 mw_1352) rfl rfl rfl (by decide +kernel) ⟨Nat.le_of_ble_eq_true rfl, Nat.le_of_ble_eq_true rfl⟩) (hl_preV hP hK hD hE hS hFc (va_recv hK (rdO_ hP hC ha1 e27) (ci := 8) (q0 := 0) rfl rfl)) rfl rfl hl.1 rfl (lv_room (Nat.le_of_ble_eq_true rfl)) dX10_ticksFor_27 ⟨show n21 - n0 + (n30 - n21) ≤ nz - n0 by omega, show s22 - s0 + (s31 - s22) ≤ sz9 - s0 by omega⟩) hS (fun q _ h => hFc q h) hFc (fun r9 u t H1 locs ht hvm hw hB hz1 hk1 hS => ?_)
    obtain ⟨ad33, hax, hP1, hD1⟩ := hB
    rw [ht] at hP1
    have hP := hP1
    have hD := hD1.weaken (fun k q _ h => hFc q.1 h)
    generalize H1 = H at hP hS ⊢
    have ha0 := ha0.mv hC.1 hax
    have ha1 := ha1.mv hC.1 hax
    have hX := hX.trans hax
    have hC := hm.2.2 hC
    have hN : n0 ≤ n30 := Nat.le_trans hN hm1
    have hT : s0 ≤ s31 := Nat.le_trans hT hm2
    refine W.widen (k := n30 - n0) (n := s31 - s0) (by omega) (by omega) ?_
    clear hP1 hD1 hFc hk1 hz1 hvm ht hax hm hm1 hm2 hM1 hM2
    obtain rfl := hw.symm
    refine lv_aload_n hx hb dX10_ticksFor_30 rfl (lv_at hl 0 rfl) ?_
    obtain ⟨x34, e35, hF⟩ := mg_o hF
    obtain ⟨fs9, h9, g9⟩ := rdI hP hC ha0 e35
    refine va_get (D := (dC, dI)) (ci := 10) (v := .int x34) (C := RX10) (T := TX10) (N := 15) hx hb hts inlX10 hown hK h9 0 rfl rfl 2 (by decide) (hts _ mw_838) (fun _ h9 => h9) g9 dX10_ticksFor_31 ?_
    clear h9 g9
    refine lv_iadd hx hb dX10_ticksFor_34 ?_
    refine lv_iconst (v := 1) hx hb dX10_ticksFor_35 (by decide) ?_
    refine lv_isub hx hb dX10_ticksFor_36 ?_
    refine lv_aload_n hx hb dX10_ticksFor_37 rfl (lv_at hl 0 rfl) ?_
    obtain ⟨x36, e37, hF⟩ := mg_o hF
    obtain ⟨fs9, h9, g9⟩ := rdI hP hC ha0 e37
    refine va_get (D := (dC, dI)) (ci := 10) (v := .int x36) (C := RX10) (T := TX10) (N := 15) hx hb hts inlX10 hown hK h9 0 rfl rfl 2 (by decide) (hts _ mw_838) (fun _ h9 => h9) g9 dX10_ticksFor_38 ?_
    clear h9 g9
    obtain ⟨x38, e39, hF⟩ := mp_o hF
    refine lv_idiv hx hb dX10_ticksFor_41 (dv_ne e39) ?_
    refine my_topi (y := x38) (dv_eq e39) ?_
    refine lv_iadd hx hb dX10_ticksFor_42 ?_
    obtain ⟨ht9, hn9, hs9, hE9⟩ := mr_o hF
    subst ht9 hn9 hs9 hE9
    have hl := lv_sub (l' := [(0, .ref Aa0), (1, .ref Aa1)]) hl [0, 1] rfl
    exact join10 _ _ _ _ hX ha0 ha1 hP hD hS hl
  · skip
    rw [if_neg c3] at hF
    refine lv_aload_n hx hb dX10_ticksFor_8 rfl (lv_at hl 0 rfl) ?_
    obtain ⟨x40, e41, hF⟩ := mg_o hF
    obtain ⟨fs9, h9, g9⟩ := rdI hP hC ha0 e41
    refine va_get (D := (dC, dI)) (ci := 10) (v := .int x40) (C := RX10) (T := TX10) (N := 15) hx hb hts inlX10 hown hK h9 0 rfl rfl 2 (by decide) (hts _ mw_838) (fun _ h9 => h9) g9 dX10_ticksFor_9 ?_
    clear h9 g9
    refine lv_goto (tgt := 43) hx hb dX10_ticksFor_12 (by decide) ?_
    obtain ⟨ht9, hn9, hs9, hE9⟩ := mr_o hF
    subst ht9 hn9 hs9 hE9
    have hl := lv_sub (l' := [(0, .ref Aa0), (1, .ref Aa1)]) hl [0, 1] rfl
    exact join10 _ _ _ _ hX ha0 ha1 hP hD hS hl
