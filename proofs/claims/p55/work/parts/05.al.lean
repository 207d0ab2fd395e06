noncomputable def H_Jxa1e45_init_da8c8 (a0 : Nat) : MH Unit := mr ()
set_option maxHeartbeats 4000000 in
set_option maxRecDepth 100000 in
theorem h_Jxa1e45_init_da8c8 (l : Launch) (dC : Nat → ClassId) (dI : Nat → Nat → Nat) (cy : Nat → ClassId) (nb : Nat → Nat) (ad0 : Nat → Nat) (n0 s0 : Nat) (E0 : HE) (hC : clo n0 E0) (a0 Aa0 : Nat) (ha0 : rf nb ad0 n0 a0 Aa0) (sz : Nat) (nz sz9 : Nat) (Ez : HE) (hF : (H_Jxa1e45_init_da8c8 a0).1 (n0, s0, E0) = some ((), nz, sz9, Ez)) : Met l yJxa1e45_init_da8c8 (wsg yJxa1e45_init_da8c8 cJxa1e45_init_da8c8 1 none) ({ frames := 8, cells := nz - n0, slots := sz9 - s0, locals := 300 }) (va_Pc [.ref Aa0] (fun U => U.heap.size = sz ∧ va_P (dC, dI) vwCl (CH cy nb ad0 n0 E0) U.heap ∧ va_K (dC, dI) vwCl (tyL cy) U ∧ va_D (fun _ => True) (CH cy nb ad0 n0 E0) ∧ GL nb (va_A (CH cy nb ad0 n0 E0) sz) U)) (va_Qv (fun (_ : Unit) => True) (fun _ t => ∃ ad2 : Nat → Nat, axh n0 ad0 nz ad2 ∧ va_P (dC, dI) vwCl (CH cy nb ad2 nz Ez) t.heap ∧ va_D (va_A (CH cy nb ad0 n0 E0) sz) (CH cy nb ad2 nz Ez)) (va_A (CH cy nb ad0 n0 E0) sz)) (nz - n0) (sz9 - s0) (va_A (CH cy nb ad0 n0 E0) sz) := by
  refine Met.ofW (cc := cJxa1e45_init_da8c8) (maxL := 1) (ret := none) (by decide) rfl ?_
  intro p e s m args below meth c s₁ B hml hv
  obtain ⟨rfl, hsz, hP, hK, hD0, hE⟩ := hv
  have hx := B.exec
  have hb := B.bytes
  have hr := B.returns
  have hts0 := atoms_spec (ws := (wsg yJxa1e45_init_da8c8 cJxa1e45_init_da8c8 1 none)) B.pre
  have hts : ∀ w ∈ wsL_law, w.before _ s = true := fun w h => hts0 w (List.mem_cons_of_mem _ h)
  have hown : s.vm.findClass RJxa1e45 = some m.cls := by have h9 := findClass_of_methodNamed B.named; exact h9
  have hnm : meth.name = "<init>" := by have h9 := B.name; exact h9
  subst hsz
  have hD := hD0.self (sz := s.heap.size)
  generalize hAe : va_A (CH cy nb ad0 n0 E0) s.heap.size = A at hD hE ⊢
  have hA : ∀ q : Nat, s.heap.size ≤ q → A q := fun q h => by rw [← hAe]; exact Or.inr h
  have hS : va_S A s.heap s.heap [] := va_S.rf
  have hl := lv_entry ([.ref Aa0]) (n := 1) (Nat.le_of_ble_eq_true rfl)
  rw [lg_entry_eq]
  generalize (lg_sl ([.ref Aa0]) ++ List.replicate (1 - (lg_sl ([.ref Aa0])).length) Slot.unset).toArray = ls at hl ⊢
  have hl : lv_has ls 1 [(0, .ref Aa0)] := hl
  generalize hHe : s.heap = H at hP hS ⊢
  have hS : va_S A s.heap H [] := by rw [hHe]; exact hS
  refine my_Q (fun Qn hQ => ?_)
  simp only [H_Jxa1e45_init_da8c8] at hF
  have hX : axh n0 ad0 n0 ad0 := axh_refl
  have hN : n0 ≤ n0 := Nat.le_refl _
  have hT : s0 ≤ s0 := Nat.le_refl _
  refine W.widen (k := n0 - n0) (n := s0 - s0) (by omega) (by omega) ?_
  refine lv_aload_n hx hb dJxa1e45_init_da8c8_0 rfl (lv_at hl 0 rfl) ?_
  refine W.objInit hx hb hown (hts _ mw_126) (hts _ mw_18) (hts _ mw_19) rfl (by rw [hml]; exact hl.1) rfl dJxa1e45_init_da8c8_1 (Nat.le_of_ble_eq_true rfl) (Nat.le_of_ble_eq_true rfl) ?_
  refine W.eq (g2 := F0 m 4 ls []) rfl ?_
  obtain ⟨ht9, hn9, hs9, hE9⟩ := mr_o hF
  subst hn9 hs9 hE9
  have hX9 := hX
  rw [hQ]
  exact W.vret hx hb hr (fun t ht hW => ⟨⟨(), rfl, trivial, _, hX, by rw [ht]; exact hP, hD⟩, hS.F ht⟩) hS.2.2 dJxa1e45_init_da8c8_4
noncomputable def H_Jxc12de_init_da8c8 (a0 : Nat) : MH Unit := mb (H_Jxa1e45_init_da8c8 (a0)) fun _ => mb (wI (a0) 14 0 (0)) fun _ => mr ()
set_option maxHeartbeats 4000000 in
set_option maxRecDepth 100000 in
theorem h_Jxc12de_init_da8c8 (l : Launch) (dC : Nat → ClassId) (dI : Nat → Nat → Nat) (cy : Nat → ClassId) (nb : Nat → Nat) (ad0 : Nat → Nat) (n0 s0 : Nat) (E0 : HE) (hC : clo n0 E0) (a0 Aa0 : Nat) (ha0 : rf nb ad0 n0 a0 Aa0) (sz : Nat) (nz sz9 : Nat) (Ez : HE) (hF : (H_Jxc12de_init_da8c8 a0).1 (n0, s0, E0) = some ((), nz, sz9, Ez)) : Met l yJxc12de_init_da8c8 (wsg yJxc12de_init_da8c8 cJxc12de_init_da8c8 1 none) ({ frames := 9, cells := nz - n0, slots := sz9 - s0, locals := 400 }) (va_Pc [.ref Aa0] (fun U => U.heap.size = sz ∧ va_P (dC, dI) vwCl (CH cy nb ad0 n0 E0) U.heap ∧ va_K (dC, dI) vwCl (tyL cy) U ∧ va_D (fun _ => True) (CH cy nb ad0 n0 E0) ∧ GL nb (va_A (CH cy nb ad0 n0 E0) sz) U)) (va_Qv (fun (_ : Unit) => True) (fun _ t => ∃ ad2 : Nat → Nat, axh n0 ad0 nz ad2 ∧ va_P (dC, dI) vwCl (CH cy nb ad2 nz Ez) t.heap ∧ va_D (va_A (CH cy nb ad0 n0 E0) sz) (CH cy nb ad2 nz Ez)) (va_A (CH cy nb ad0 n0 E0) sz)) (nz - n0) (sz9 - s0) (va_A (CH cy nb ad0 n0 E0) sz) := by
  refine Met.ofW (cc := cJxc12de_init_da8c8) (maxL := 1) (ret := none) (by decide) rfl ?_
  intro p e s m args below meth c s₁ B hml hv
  obtain ⟨rfl, hsz, hP, hK, hD0, hE⟩ := hv
  have hx := B.exec
  have hb := B.bytes
  have hr := B.returns
  have hts0 := atoms_spec (ws := (wsg yJxc12de_init_da8c8 cJxc12de_init_da8c8 1 none)) B.pre
  have hts : ∀ w ∈ wsL_law, w.before _ s = true := fun w h => hts0 w (List.mem_cons_of_mem _ h)
  have hown : s.vm.findClass RJxc12de = some m.cls := by have h9 := findClass_of_methodNamed B.named; exact h9
  have hnm : meth.name = "<init>" := by have h9 := B.name; exact h9
  subst hsz
  have hD := hD0.self (sz := s.heap.size)
  generalize hAe : va_A (CH cy nb ad0 n0 E0) s.heap.size = A at hD hE ⊢
  have hA : ∀ q : Nat, s.heap.size ≤ q → A q := fun q h => by rw [← hAe]; exact Or.inr h
  have hS : va_S A s.heap s.heap [] := va_S.rf
  have hl := lv_entry ([.ref Aa0]) (n := 1) (Nat.le_of_ble_eq_true rfl)
  rw [lg_entry_eq]
  generalize (lg_sl ([.ref Aa0]) ++ List.replicate (1 - (lg_sl ([.ref Aa0])).length) Slot.unset).toArray = ls at hl ⊢
  have hl : lv_has ls 1 [(0, .ref Aa0)] := hl
  generalize hHe : s.heap = H at hP hS ⊢
  have hS : va_S A s.heap H [] := by rw [hHe]; exact hS
  refine my_Q (fun Qn hQ => ?_)
  simp only [H_Jxc12de_init_da8c8] at hF
  have hX : axh n0 ad0 n0 ad0 := axh_refl
  have hN : n0 ≤ n0 := Nat.le_refl _
  have hT : s0 ≤ s0 := Nat.le_refl _
  refine W.widen (k := n0 - n0) (n := s0 - s0) (by omega) (by omega) ?_
  refine lv_aload_n hx hb dJxc12de_init_da8c8_0 rfl (lv_at hl 0 rfl) ?_
  obtain ⟨⟨⟩, n2, s3, E4, e1, hF⟩ := mb_o hF
  have hm := mle e1
  have hM1 := mle1 hF
  have hM2 := mle2 hF
  have hm1 := hm.1
  have hm2 := hm.2.1
  have hFc := my_free hD hS hA
  refine va_callv (va_runI (As := []) (rest := []) ⟨hx, hb, hml, hown, hts⟩ (h_Jxa1e45_init_da8c8 l dC dI cy nb ad0 n0 s0 E0 hC (a0) Aa0 ha0 H.size n2 s3 E4 e1) (cwI 0 hts (gI mw_125) rfl rfl rfl (hts _ mw_124) (hts _ mw_122) (hts _ mw_123) rfl (by decide +kernel) ⟨Nat.le_of_ble_eq_true rfl, Nat.le_of_ble_eq_true rfl⟩) (hl_preS hP hK hD hE hS hFc) rfl rfl hl.1 rfl (lv_room (Nat.le_of_ble_eq_true rfl)) dJxc12de_init_da8c8_1 ⟨show n0 - n0 + (n2 - n0) ≤ nz - n0 by omega, show s0 - s0 + (s3 - s0) ≤ sz9 - s0 by omega⟩) hS (fun q _ h => hFc q h) hFc (fun u t H1 locs ht hvm hw hB hz1 hk1 hS => ?_)
  obtain ⟨ad5, hax, hP1, hD1⟩ := hB
  rw [ht] at hP1
  have hP := hP1
  have hD := hD1.weaken (fun k q _ h => hFc q.1 h)
  generalize H1 = H at hP hS ⊢
  have ha0 := ha0.mv hC.1 hax
  have hX := hX.trans hax
  have hC := hm.2.2 hC
  have hN : n0 ≤ n2 := Nat.le_trans hN hm1
  have hT : s0 ≤ s3 := Nat.le_trans hT hm2
  refine W.widen (k := n2 - n0) (n := s3 - s0) (by omega) (by omega) ?_
  clear hP1 hD1 hFc hk1 hz1 hvm ht hax hm hm1 hm2 hM1 hM2
  refine lv_aload_n hx hb dJxc12de_init_da8c8_4 rfl (lv_at hl 0 rfl) ?_
  refine lv_iconst (v := 0) hx hb dJxc12de_init_da8c8_5 (by decide) ?_
  obtain ⟨E6, e7, hF⟩ := mw_o hF
  obtain ⟨q9, fs9, h9, ez9⟩ := wrI (cy := cy) hC ha0 e7
  refine va_put (D := (dC, dI)) (ci := 14) (v := .int 0) (ty := .int) (C := RJx4a65c) (T := TJx4a65c) (N := 3) hx hb hts inlJx4a65c tyJx4a65c tyJx4a65c_ok nmJx4a65c hown hK hP hD hS q9 h9 rfl 0 (by decide) (hts _ mw_121) (fun _ h9 => h9) rfl (by decide +kernel) rfl rfl (Nat.le_of_ble_eq_true rfl) dJxc12de_init_da8c8_6 (fun H locs hP hD hS => ?_)
  rw [ez9] at hP hD
  clear ez9 h9
  have hC := sI_clo e7 hC
  obtain ⟨ht9, hn9, hs9, hE9⟩ := mr_o hF
  subst hn9 hs9 hE9
  have hX9 := hX
  rw [hQ]
  exact W.vret hx hb hr (fun t ht hW => ⟨⟨(), rfl, trivial, _, hX, by rw [ht]; exact hP, hD⟩, hS.F ht⟩) hS.2.2 dJxc12de_init_da8c8_9
noncomputable def H_Jx4a65c_init_da8c8 (a0 : Nat) : MH Unit := mb (H_Jxc12de_init_da8c8 (a0)) fun _ => mb (wR (a0) 14 1 (1001990)) fun _ => mr ()
set_option maxHeartbeats 4000000 in
set_option maxRecDepth 100000 in
theorem h_Jx4a65c_init_da8c8 (l : Launch) (dC : Nat → ClassId) (dI : Nat → Nat → Nat) (cy : Nat → ClassId) (nb : Nat → Nat) (ad0 : Nat → Nat) (n0 s0 : Nat) (E0 : HE) (hC : clo n0 E0) (a0 Aa0 : Nat) (ha0 : rf nb ad0 n0 a0 Aa0) (sz : Nat) (nz sz9 : Nat) (Ez : HE) (hF : (H_Jx4a65c_init_da8c8 a0).1 (n0, s0, E0) = some ((), nz, sz9, Ez)) : Met l yJx4a65c_init_da8c8 (wsg yJx4a65c_init_da8c8 cJx4a65c_init_da8c8 1 none) ({ frames := 10, cells := nz - n0, slots := sz9 - s0, locals := 500 }) (va_Pc [.ref Aa0] (fun U => U.heap.size = sz ∧ va_P (dC, dI) vwCl (CH cy nb ad0 n0 E0) U.heap ∧ va_K (dC, dI) vwCl (tyL cy) U ∧ va_D (fun _ => True) (CH cy nb ad0 n0 E0) ∧ GL nb (va_A (CH cy nb ad0 n0 E0) sz) U)) (va_Qv (fun (_ : Unit) => True) (fun _ t => ∃ ad2 : Nat → Nat, axh n0 ad0 nz ad2 ∧ va_P (dC, dI) vwCl (CH cy nb ad2 nz Ez) t.heap ∧ va_D (va_A (CH cy nb ad0 n0 E0) sz) (CH cy nb ad2 nz Ez)) (va_A (CH cy nb ad0 n0 E0) sz)) (nz - n0) (sz9 - s0) (va_A (CH cy nb ad0 n0 E0) sz) := by
  refine Met.ofW (cc := cJx4a65c_init_da8c8) (maxL := 1) (ret := none) (by decide) rfl ?_
  intro p e s m args below meth c s₁ B hml hv
  obtain ⟨rfl, hsz, hP, hK, hD0, hE⟩ := hv
  have hx := B.exec
  have hb := B.bytes
  have hr := B.returns
  have hts0 := atoms_spec (ws := (wsg yJx4a65c_init_da8c8 cJx4a65c_init_da8c8 1 none)) B.pre
  have hts : ∀ w ∈ wsL_law, w.before _ s = true := fun w h => hts0 w (List.mem_cons_of_mem _ h)
  have hown : s.vm.findClass RJx4a65c = some m.cls := by have h9 := findClass_of_methodNamed B.named; exact h9
  have hnm : meth.name = "<init>" := by have h9 := B.name; exact h9
  subst hsz
  have hD := hD0.self (sz := s.heap.size)
  generalize hAe : va_A (CH cy nb ad0 n0 E0) s.heap.size = A at hD hE ⊢
  have hA : ∀ q : Nat, s.heap.size ≤ q → A q := fun q h => by rw [← hAe]; exact Or.inr h
  have hS : va_S A s.heap s.heap [] := va_S.rf
  have hl := lv_entry ([.ref Aa0]) (n := 1) (Nat.le_of_ble_eq_true rfl)
  rw [lg_entry_eq]
  generalize (lg_sl ([.ref Aa0]) ++ List.replicate (1 - (lg_sl ([.ref Aa0])).length) Slot.unset).toArray = ls at hl ⊢
  have hl : lv_has ls 1 [(0, .ref Aa0)] := hl
  generalize hHe : s.heap = H at hP hS ⊢
  have hS : va_S A s.heap H [] := by rw [hHe]; exact hS
  refine my_Q (fun Qn hQ => ?_)
  simp only [H_Jx4a65c_init_da8c8] at hF
  have hX : axh n0 ad0 n0 ad0 := axh_refl
  have hN : n0 ≤ n0 := Nat.le_refl _
  have hT : s0 ≤ s0 := Nat.le_refl _
  refine W.widen (k := n0 - n0) (n := s0 - s0) (by omega) (by omega) ?_
  refine lv_aload_n hx hb dJx4a65c_init_da8c8_0 rfl (lv_at hl 0 rfl) ?_
  obtain ⟨⟨⟩, n2, s3, E4, e1, hF⟩ := mb_o hF
  have hm := mle e1
  have hM1 := mle1 hF
  have hM2 := mle2 hF
  have hm1 := hm.1
  have hm2 := hm.2.1
  have hFc := my_free hD hS hA
  refine va_callv (va_runI (As := []) (rest := []) ⟨hx, hb, hml, hown, hts⟩ (h_Jxc12de_init_da8c8 l dC dI cy nb ad0 n0 s0 E0 hC (a0) Aa0 ha0 H.size n2 s3 E4 e1) (cwI 0 hts (gI mw_120) rfl rfl rfl (hts _ mw_119) (hts _ mw_117) (hts _ mw_118) rfl (by decide +kernel) ⟨Nat.le_of_ble_eq_true rfl, Nat.le_of_ble_eq_true rfl⟩) (hl_preS hP hK hD hE hS hFc) rfl rfl hl.1 rfl (lv_room (Nat.le_of_ble_eq_true rfl)) dJx4a65c_init_da8c8_1 ⟨show n0 - n0 + (n2 - n0) ≤ nz - n0 by omega, show s0 - s0 + (s3 - s0) ≤ sz9 - s0 by omega⟩) hS (fun q _ h => hFc q h) hFc (fun u t H1 locs ht hvm hw hB hz1 hk1 hS => ?_)
  obtain ⟨ad5, hax, hP1, hD1⟩ := hB
  rw [ht] at hP1
  have hP := hP1
  have hD := hD1.weaken (fun k q _ h => hFc q.1 h)
  generalize H1 = H at hP hS ⊢
  have ha0 := ha0.mv hC.1 hax
  have hX := hX.trans hax
  have hC := hm.2.2 hC
  have hN : n0 ≤ n2 := Nat.le_trans hN hm1
  have hT : s0 ≤ s3 := Nat.le_trans hT hm2
  refine W.widen (k := n2 - n0) (n := s3 - s0) (by omega) (by omega) ?_
  clear hP1 hD1 hFc hk1 hz1 hvm ht hax hm hm1 hm2 hM1 hM2
  refine lv_aload_n hx hb dJx4a65c_init_da8c8_4 rfl (lv_at hl 0 rfl) ?_
  refine va_gets (C := "java/util/ArrayList") (n := "DEFAULTCAPACITY_EMPTY_ELEMENTDATA") (d := "[Ljava/lang/Object;") (ref := "java/util/ArrayList") (v := .ref (nb 1990)) hx hb hE.dcp.1 hS hown (hts _ mw_115) (fun _ h9 => h9) dJx4a65c_init_da8c8_5 ?_
  obtain ⟨E6, e7, hF⟩ := mw_o hF
  obtain ⟨q9, fs9, h9, ez9⟩ := wrR (cy := cy) hC ha0 rf_c e7
  refine va_put (D := (dC, dI)) (ci := 14) (v := .ref (nb 1990)) (ty := (.array (.object "java/lang/Object"))) (C := RJx4a65c) (T := TJx4a65c) (N := 3) hx hb hts inlJx4a65c tyJx4a65c tyJx4a65c_ok nmJx4a65c hown hK hP hD hS q9 h9 rfl 1 (by decide) (hts _ mw_116) (fun _ h9 => h9) rfl (by decide +kernel) rfl rfl (Nat.le_of_ble_eq_true rfl) dJx4a65c_init_da8c8_8 (fun H locs hP hD hS => ?_)
  rw [ez9] at hP hD
  clear ez9 h9
  have hC := sR_clo e7 hC
  obtain ⟨ht9, hn9, hs9, hE9⟩ := mr_o hF
  subst hn9 hs9 hE9
  have hX9 := hX
  rw [hQ]
  exact W.vret hx hb hr (fun t ht hW => ⟨⟨(), rfl, trivial, _, hX, by rw [ht]; exact hP, hD⟩, hS.F ht⟩) hS.2.2 dJx4a65c_init_da8c8_11
noncomputable def H_Jx4a65c_size_8abf5 (a0 : Nat) : MH Int32 := mb (rI (a0) 14 2) fun x1 => mr x1
set_option maxHeartbeats 4000000 in
set_option maxRecDepth 100000 in
theorem h_Jx4a65c_size_8abf5 (l : Launch) (dC : Nat → ClassId) (dI : Nat → Nat → Nat) (cy : Nat → ClassId) (nb : Nat → Nat) (ad0 : Nat → Nat) (n0 s0 : Nat) (E0 : HE) (hC : clo n0 E0) (a0 Aa0 : Nat) (ha0 : rf nb ad0 n0 a0 Aa0) (sz : Nat) (ro : Int32) (nz sz9 : Nat) (Ez : HE) (hF : (H_Jx4a65c_size_8abf5 a0).1 (n0, s0, E0) = some (ro, nz, sz9, Ez)) : Met l yJx4a65c_size_8abf5 (wsg yJx4a65c_size_8abf5 cJx4a65c_size_8abf5 1 (some .int)) ({ frames := 8, cells := nz - n0, slots := sz9 - s0, locals := 300 }) (va_Pc [.ref Aa0] (fun U => U.heap.size = sz ∧ va_P (dC, dI) vwCl (CH cy nb ad0 n0 E0) U.heap ∧ va_K (dC, dI) vwCl (tyL cy) U ∧ va_D (fun _ => True) (CH cy nb ad0 n0 E0) ∧ GL nb (va_A (CH cy nb ad0 n0 E0) sz) U)) (va_Qi (fun (r : Int32) (_ : Unit) => r = ro) (fun _ t => ∃ ad2 : Nat → Nat, axh n0 ad0 nz ad2 ∧ va_P (dC, dI) vwCl (CH cy nb ad2 nz Ez) t.heap ∧ va_D (va_A (CH cy nb ad0 n0 E0) sz) (CH cy nb ad2 nz Ez)) (va_A (CH cy nb ad0 n0 E0) sz)) (nz - n0) (sz9 - s0) (va_A (CH cy nb ad0 n0 E0) sz) := by
  refine Met.ofW (cc := cJx4a65c_size_8abf5) (maxL := 1) (ret := (some .int)) (by decide) rfl ?_
  intro p e s m args below meth c s₁ B hml hv
  obtain ⟨rfl, hsz, hP, hK, hD0, hE⟩ := hv
  have hx := B.exec
  have hb := B.bytes
  have hr := B.returns
  have hts0 := atoms_spec (ws := (wsg yJx4a65c_size_8abf5 cJx4a65c_size_8abf5 1 (some .int))) B.pre
  have hts : ∀ w ∈ wsL_law, w.before _ s = true := fun w h => hts0 w (List.mem_cons_of_mem _ h)
  have hown : s.vm.findClass RJx4a65c = some m.cls := by have h9 := findClass_of_methodNamed B.named; exact h9
  subst hsz
  have hD := hD0.self (sz := s.heap.size)
  generalize hAe : va_A (CH cy nb ad0 n0 E0) s.heap.size = A at hD hE ⊢
  have hA : ∀ q : Nat, s.heap.size ≤ q → A q := fun q h => by rw [← hAe]; exact Or.inr h
  have hS : va_S A s.heap s.heap [] := va_S.rf
  have hl := lv_entry ([.ref Aa0]) (n := 1) (Nat.le_of_ble_eq_true rfl)
  rw [lg_entry_eq]
  generalize (lg_sl ([.ref Aa0]) ++ List.replicate (1 - (lg_sl ([.ref Aa0])).length) Slot.unset).toArray = ls at hl ⊢
  have hl : lv_has ls 1 [(0, .ref Aa0)] := hl
  generalize hHe : s.heap = H at hP hS ⊢
  have hS : va_S A s.heap H [] := by rw [hHe]; exact hS
  refine my_Q (fun Qn hQ => ?_)
  simp only [H_Jx4a65c_size_8abf5] at hF
  have hX : axh n0 ad0 n0 ad0 := axh_refl
  have hN : n0 ≤ n0 := Nat.le_refl _
  have hT : s0 ≤ s0 := Nat.le_refl _
  refine W.widen (k := n0 - n0) (n := s0 - s0) (by omega) (by omega) ?_
  refine lv_aload_n hx hb dJx4a65c_size_8abf5_0 rfl (lv_at hl 0 rfl) ?_
  obtain ⟨x1, e2, hF⟩ := mg_o hF
  obtain ⟨fs9, h9, g9⟩ := rdI hP hC ha0 e2
  refine va_get (D := (dC, dI)) (ci := 14) (v := .int x1) (C := RJx4a65c) (T := TJx4a65c) (N := 3) hx hb hts inlJx4a65c hown hK h9 0 rfl rfl 2 (by decide) (hts _ mw_169) (fun _ h9 => h9) g9 dJx4a65c_size_8abf5_1 ?_
  clear h9 g9
  obtain ⟨ht9, hn9, hs9, hE9⟩ := mr_o hF
  subst hn9 hs9 hE9
  have hX9 := hX
  rw [hQ]
  exact W.iret (v := x1) hx hb hr (fun t ht hW => ⟨⟨x1, (), rfl, ht9, _, hX, by rw [ht]; exact hP, hD⟩, hS.F ht⟩) hS.2.2 dJx4a65c_size_8abf5_4
noncomputable def H_Jx4a65c_isEmpty_aae02 (a0 : Nat) : MH Int32 := mb (rI (a0) 14 2) fun x1 => mb (if x1 = 0 then (mr (1 : Int32)) else (mr (0 : Int32)) : MH (Int32)) fun t4 => mb (mp (nz t4)) fun x12 => mr x12
set_option maxHeartbeats 4000000 in
set_option maxRecDepth 100000 in
theorem h_Jx4a65c_isEmpty_aae02 (l : Launch) (dC : Nat → ClassId) (dI : Nat → Nat → Nat) (cy : Nat → ClassId) (nb : Nat → Nat) (ad0 : Nat → Nat) (n0 s0 : Nat) (E0 : HE) (hC : clo n0 E0) (a0 Aa0 : Nat) (ha0 : rf nb ad0 n0 a0 Aa0) (sz : Nat) (ro : Int32) (nz sz9 : Nat) (Ez : HE) (hF : (H_Jx4a65c_isEmpty_aae02 a0).1 (n0, s0, E0) = some (ro, nz, sz9, Ez)) : Met l yJx4a65c_isEmpty_aae02 (wsg yJx4a65c_isEmpty_aae02 cJx4a65c_isEmpty_aae02 1 (some .boolean)) ({ frames := 8, cells := nz - n0, slots := sz9 - s0, locals := 300 }) (va_Pc [.ref Aa0] (fun U => U.heap.size = sz ∧ va_P (dC, dI) vwCl (CH cy nb ad0 n0 E0) U.heap ∧ va_K (dC, dI) vwCl (tyL cy) U ∧ va_D (fun _ => True) (CH cy nb ad0 n0 E0) ∧ GL nb (va_A (CH cy nb ad0 n0 E0) sz) U)) (va_Qi (fun (r : Int32) (_ : Unit) => r = ro) (fun _ t => ∃ ad2 : Nat → Nat, axh n0 ad0 nz ad2 ∧ va_P (dC, dI) vwCl (CH cy nb ad2 nz Ez) t.heap ∧ va_D (va_A (CH cy nb ad0 n0 E0) sz) (CH cy nb ad2 nz Ez)) (va_A (CH cy nb ad0 n0 E0) sz)) (nz - n0) (sz9 - s0) (va_A (CH cy nb ad0 n0 E0) sz) := by
  refine Met.ofW (cc := cJx4a65c_isEmpty_aae02) (maxL := 1) (ret := (some .boolean)) (by decide) rfl ?_
  intro p e s m args below meth c s₁ B hml hv
  obtain ⟨rfl, hsz, hP, hK, hD0, hE⟩ := hv
  have hx := B.exec
  have hb := B.bytes
  have hr := B.returns
  have hts0 := atoms_spec (ws := (wsg yJx4a65c_isEmpty_aae02 cJx4a65c_isEmpty_aae02 1 (some .boolean))) B.pre
  have hts : ∀ w ∈ wsL_law, w.before _ s = true := fun w h => hts0 w (List.mem_cons_of_mem _ h)
  have hown : s.vm.findClass RJx4a65c = some m.cls := by have h9 := findClass_of_methodNamed B.named; exact h9
  subst hsz
  have hD := hD0.self (sz := s.heap.size)
  generalize hAe : va_A (CH cy nb ad0 n0 E0) s.heap.size = A at hD hE ⊢
  have hA : ∀ q : Nat, s.heap.size ≤ q → A q := fun q h => by rw [← hAe]; exact Or.inr h
  have hS : va_S A s.heap s.heap [] := va_S.rf
  have hl := lv_entry ([.ref Aa0]) (n := 1) (Nat.le_of_ble_eq_true rfl)
  rw [lg_entry_eq]
  generalize (lg_sl ([.ref Aa0]) ++ List.replicate (1 - (lg_sl ([.ref Aa0])).length) Slot.unset).toArray = ls at hl ⊢
  have hl : lv_has ls 1 [(0, .ref Aa0)] := hl
  generalize hHe : s.heap = H at hP hS ⊢
  have hS : va_S A s.heap H [] := by rw [hHe]; exact hS
  refine my_Q (fun Qn hQ => ?_)
  simp only [H_Jx4a65c_isEmpty_aae02] at hF
  have hX : axh n0 ad0 n0 ad0 := axh_refl
  have hN : n0 ≤ n0 := Nat.le_refl _
  have hT : s0 ≤ s0 := Nat.le_refl _
  refine W.widen (k := n0 - n0) (n := s0 - s0) (by omega) (by omega) ?_
  refine lv_aload_n hx hb dJx4a65c_isEmpty_aae02_0 rfl (lv_at hl 0 rfl) ?_
  obtain ⟨x1, e2, hF⟩ := mg_o hF
  obtain ⟨fs9, h9, g9⟩ := rdI hP hC ha0 e2
  refine va_get (D := (dC, dI)) (ci := 14) (v := .int x1) (C := RJx4a65c) (T := TJx4a65c) (N := 3) hx hb hts inlJx4a65c hown hK h9 0 rfl rfl 2 (by decide) (hts _ mw_169) (fun _ h9 => h9) g9 dJx4a65c_isEmpty_aae02_1 ?_
  clear h9 g9
  obtain ⟨t4, n7, s8, E9, hJ5, hF⟩ := mb_o hF
  have hm := mle hJ5
  have join10 : ∀ (ad6 : Nat → Nat) (H : Heap) (locs : List Loc) (ls : Array Slot), axh n0 ad0 n7 ad6 → rf nb ad6 n7 (a0) (Aa0) → va_P (dC, dI) vwCl (CH cy nb ad6 n7 E9) H → va_D A (CH cy nb ad6 n7 E9) → va_S A s.heap H locs → lv_has ls 1 [(0, .ref Aa0)] → W p l e (headSpec (wsg yJx4a65c_isEmpty_aae02 cJx4a65c_isEmpty_aae02 1 (some .boolean)) ({ frames := 8, cells := nz - n0, slots := sz9 - s0, locals := 300 })).room s m ([.ref Aa0] : List Value).toArray below meth c H locs (n7 - n0) (s8 - s0) Qn (F0 m 12 ls [.int t4]) := by
    intro ad6 H locs ls hX hr11 hP hD hS hl
    have hC := hm.2.2 hC
    have hN : n0 ≤ n7 := Nat.le_trans hN hm.1
    have hT : s0 ≤ s8 := Nat.le_trans hT hm.2.1
    clear hm
    obtain ⟨x12, e13, hF⟩ := mp_o hF
    refine my_topi (y := x12) (nz_e e13) ?_
    obtain ⟨ht9, hn9, hs9, hE9⟩ := mr_o hF
    subst hn9 hs9 hE9
    have hX9 := hX
    rw [hQ]
    exact W.zret (v := x12) hx hb hr (nz_n e13) (fun t ht hW => ⟨⟨x12, (), rfl, ht9, _, hX, by rw [ht]; exact hP, hD⟩, hS.F ht⟩) hS.2.2 dJx4a65c_isEmpty_aae02_12
  have hK14 := mle1 hF
  have hK15 := mle2 hF
  clear hF hm
  have hF := hJ5
  clear hJ5
  refine lv_if_ne (tgt := 11) hx hb dJx4a65c_isEmpty_aae02_4 (by decide) (fun c3 => ?_) (fun c3 => ?_)
  · skip
    rw [if_neg c3] at hF
    refine lv_iconst (v := 0) hx hb dJx4a65c_isEmpty_aae02_11 (by decide) ?_
    obtain ⟨ht9, hn9, hs9, hE9⟩ := mr_o hF
    subst ht9 hn9 hs9 hE9
    have hl := lv_sub (l' := [(0, .ref Aa0)]) hl [0] rfl
    exact join10 _ _ _ _ hX ha0 hP hD hS hl
  · skip
    rw [if_pos c3] at hF
    refine lv_iconst (v := 1) hx hb dJx4a65c_isEmpty_aae02_7 (by decide) ?_
    refine lv_goto (tgt := 12) hx hb dJx4a65c_isEmpty_aae02_8 (by decide) ?_
    obtain ⟨ht9, hn9, hs9, hE9⟩ := mr_o hF
    subst ht9 hn9 hs9 hE9
    have hl := lv_sub (l' := [(0, .ref Aa0)]) hl [0] rfl
    exact join10 _ _ _ _ hX ha0 hP hD hS hl
noncomputable def H_Jx4a65c_elementData_915e3 (a0 : Nat) (a1 : Int32) : MH Nat := mb (rR (a0) 14 1) fun x1 => mb (rQ (x1) 9 (a1)) fun x4 => mr x4
set_option maxHeartbeats 4000000 in
set_option maxRecDepth 100000 in
theorem h_Jx4a65c_elementData_915e3 (l : Launch) (dC : Nat → ClassId) (dI : Nat → Nat → Nat) (cy : Nat → ClassId) (nb : Nat → Nat) (ad0 : Nat → Nat) (n0 s0 : Nat) (E0 : HE) (hC : clo n0 E0) (a0 Aa0 : Nat) (ha0 : rf nb ad0 n0 a0 Aa0) (a1 : Int32) (sz : Nat) (ro : Nat) (nz sz9 : Nat) (Ez : HE) (hF : (H_Jx4a65c_elementData_915e3 a0 a1).1 (n0, s0, E0) = some (ro, nz, sz9, Ez)) : Met l yJx4a65c_elementData_915e3 (wsg yJx4a65c_elementData_915e3 cJx4a65c_elementData_915e3 2 (some (.object "java/lang/Object"))) ({ frames := 8, cells := nz - n0, slots := sz9 - s0, locals := 300 }) (va_Pc [.ref Aa0, .int a1] (fun U => U.heap.size = sz ∧ va_P (dC, dI) vwCl (CH cy nb ad0 n0 E0) U.heap ∧ va_K (dC, dI) vwCl (tyL cy) U ∧ va_D (fun _ => True) (CH cy nb ad0 n0 E0) ∧ GL nb (va_A (CH cy nb ad0 n0 E0) sz) U)) (va_Qr (fun (_ : Unit) => True) (fun _ ra t => ∃ ad2 : Nat → Nat, axh n0 ad0 nz ad2 ∧ rf nb ad2 nz ro ra ∧ va_P (dC, dI) vwCl (CH cy nb ad2 nz Ez) t.heap ∧ va_D (va_A (CH cy nb ad0 n0 E0) sz) (CH cy nb ad2 nz Ez)) (va_A (CH cy nb ad0 n0 E0) sz)) (nz - n0) (sz9 - s0) (va_A (CH cy nb ad0 n0 E0) sz) := by
  refine Met.ofW (cc := cJx4a65c_elementData_915e3) (maxL := 2) (ret := (some (.object "java/lang/Object"))) (by decide) rfl ?_
  intro p e s m args below meth c s₁ B hml hv
  obtain ⟨rfl, hsz, hP, hK, hD0, hE⟩ := hv
  have hx := B.exec
  have hb := B.bytes
  have hr := B.returns
  have hts0 := atoms_spec (ws := (wsg yJx4a65c_elementData_915e3 cJx4a65c_elementData_915e3 2 (some (.object "java/lang/Object")))) B.pre
  have hts : ∀ w ∈ wsL_law, w.before _ s = true := fun w h => hts0 w (List.mem_cons_of_mem _ h)
  have hown : s.vm.findClass RJx4a65c = some m.cls := by have h9 := findClass_of_methodNamed B.named; exact h9
  subst hsz
  have hD := hD0.self (sz := s.heap.size)
  generalize hAe : va_A (CH cy nb ad0 n0 E0) s.heap.size = A at hD hE ⊢
  have hA : ∀ q : Nat, s.heap.size ≤ q → A q := fun q h => by rw [← hAe]; exact Or.inr h
  have hS : va_S A s.heap s.heap [] := va_S.rf
  have hl := lv_entry ([.ref Aa0, .int a1]) (n := 2) (Nat.le_of_ble_eq_true rfl)
  rw [lg_entry_eq]
  generalize (lg_sl ([.ref Aa0, .int a1]) ++ List.replicate (2 - (lg_sl ([.ref Aa0, .int a1])).length) Slot.unset).toArray = ls at hl ⊢
  have hl : lv_has ls 2 [(0, .ref Aa0), (1, .int a1)] := hl
  generalize hHe : s.heap = H at hP hS ⊢
  have hS : va_S A s.heap H [] := by rw [hHe]; exact hS
  refine my_Q (fun Qn hQ => ?_)
  simp only [H_Jx4a65c_elementData_915e3] at hF
  have hX : axh n0 ad0 n0 ad0 := axh_refl
  have hN : n0 ≤ n0 := Nat.le_refl _
  have hT : s0 ≤ s0 := Nat.le_refl _
  refine W.widen (k := n0 - n0) (n := s0 - s0) (by omega) (by omega) ?_
  refine lv_aload_n hx hb dJx4a65c_elementData_915e3_0 rfl (lv_at hl 0 rfl) ?_
  obtain ⟨x1, e2, hF⟩ := mg_o hF
  obtain ⟨hr3, fs9, h9, g9⟩ := rdR hP hC ha0 e2
  refine va_get (D := (dC, dI)) (ci := 14) (v := .ref (AD nb ad0 x1)) (C := RJx4a65c) (T := TJx4a65c) (N := 3) hx hb hts inlJx4a65c hown hK h9 0 rfl rfl 1 (by decide) (hts _ mw_116) (fun _ h9 => h9) g9 dJx4a65c_elementData_915e3_1 ?_
  clear h9 g9
  refine lv_iload_n hx hb dJx4a65c_elementData_915e3_4 rfl (lv_at hl 1 rfl) ?_
  obtain ⟨x4, e5, hF⟩ := mg_o hF
  obtain ⟨hr6, m9, f9, h9, i9, g9⟩ := rdQ hP hC hr3 e5
  refine va_aldq hx hb hK h9 0 9 rfl rfl i9 dJx4a65c_elementData_915e3_5 ?_
  refine my_top (y := .ref (AD nb ad0 x4)) g9 ?_
  clear h9 i9 g9
  obtain ⟨ht9, hn9, hs9, hE9⟩ := mr_o hF
  subst hn9 hs9 hE9
  have hX9 := hX
  rw [hQ]
  exact W.aret (v := .ref (AD nb ad0 x4)) hx hb hr (by first | exact Or.inl ⟨_, rfl⟩ | exact Or.inr ⟨_, rfl⟩) (Or.inr ⟨_, rfl⟩) (fun t ht hW => ⟨⟨(), (AD nb ad0 x4), rfl, trivial, _, hX, (by rw [← ht9]; exact hr6), by rw [ht]; exact hP, hD⟩, hS.F ht⟩) hS.2.2 dJx4a65c_elementData_915e3_6
noncomputable def H_Jx4a65c_get_915e3 (a0 : Nat) (a1 : Int32) : MH Nat := mb (rI (a0) 14 2) fun x1 => mb (H_J15_checkIndex_7cf53 (a1) (x1)) fun x3 => mb (mg fun n E => fO n E (a0) 14) fun _ => mb (H_Jx4a65c_elementData_915e3 (a0) (a1)) fun x10 => mr x10
set_option maxHeartbeats 4000000 in
set_option maxRecDepth 100000 in
theorem h_Jx4a65c_get_915e3 (l : Launch) (dC : Nat → ClassId) (dI : Nat → Nat → Nat) (cy : Nat → ClassId) (nb : Nat → Nat) (ad0 : Nat → Nat) (n0 s0 : Nat) (E0 : HE) (hC : clo n0 E0) (a0 Aa0 : Nat) (ha0 : rf nb ad0 n0 a0 Aa0) (a1 : Int32) (sz : Nat) (ro : Nat) (nz sz9 : Nat) (Ez : HE) (hF : (H_Jx4a65c_get_915e3 a0 a1).1 (n0, s0, E0) = some (ro, nz, sz9, Ez)) : Met l yJx4a65c_get_915e3 (wsg yJx4a65c_get_915e3 cJx4a65c_get_915e3 2 (some (.object "java/lang/Object"))) ({ frames := 10, cells := nz - n0, slots := sz9 - s0, locals := 500 }) (va_Pc [.ref Aa0, .int a1] (fun U => U.heap.size = sz ∧ va_P (dC, dI) vwCl (CH cy nb ad0 n0 E0) U.heap ∧ va_K (dC, dI) vwCl (tyL cy) U ∧ va_D (fun _ => True) (CH cy nb ad0 n0 E0) ∧ GL nb (va_A (CH cy nb ad0 n0 E0) sz) U)) (va_Qr (fun (_ : Unit) => True) (fun _ ra t => ∃ ad2 : Nat → Nat, axh n0 ad0 nz ad2 ∧ rf nb ad2 nz ro ra ∧ va_P (dC, dI) vwCl (CH cy nb ad2 nz Ez) t.heap ∧ va_D (va_A (CH cy nb ad0 n0 E0) sz) (CH cy nb ad2 nz Ez)) (va_A (CH cy nb ad0 n0 E0) sz)) (nz - n0) (sz9 - s0) (va_A (CH cy nb ad0 n0 E0) sz) := by
  refine Met.ofW (cc := cJx4a65c_get_915e3) (maxL := 2) (ret := (some (.object "java/lang/Object"))) (by decide) rfl ?_
  intro p e s m args below meth c s₁ B hml hv
  obtain ⟨rfl, hsz, hP, hK, hD0, hE⟩ := hv
  have hx := B.exec
  have hb := B.bytes
  have hr := B.returns
  have hts0 := atoms_spec (ws := (wsg yJx4a65c_get_915e3 cJx4a65c_get_915e3 2 (some (.object "java/lang/Object")))) B.pre
  have hts : ∀ w ∈ wsL_law, w.before _ s = true := fun w h => hts0 w (List.mem_cons_of_mem _ h)
  have hown : s.vm.findClass RJx4a65c = some m.cls := by have h9 := findClass_of_methodNamed B.named; exact h9
  subst hsz
  have hD := hD0.self (sz := s.heap.size)
  generalize hAe : va_A (CH cy nb ad0 n0 E0) s.heap.size = A at hD hE ⊢
  have hA : ∀ q : Nat, s.heap.size ≤ q → A q := fun q h => by rw [← hAe]; exact Or.inr h
  have hS : va_S A s.heap s.heap [] := va_S.rf
  have hl := lv_entry ([.ref Aa0, .int a1]) (n := 2) (Nat.le_of_ble_eq_true rfl)
  rw [lg_entry_eq]
  generalize (lg_sl ([.ref Aa0, .int a1]) ++ List.replicate (2 - (lg_sl ([.ref Aa0, .int a1])).length) Slot.unset).toArray = ls at hl ⊢
  have hl : lv_has ls 2 [(0, .ref Aa0), (1, .int a1)] := hl
  generalize hHe : s.heap = H at hP hS ⊢
  have hS : va_S A s.heap H [] := by rw [hHe]; exact hS
  refine my_Q (fun Qn hQ => ?_)
  simp only [H_Jx4a65c_get_915e3] at hF
  have hX : axh n0 ad0 n0 ad0 := axh_refl
  have hN : n0 ≤ n0 := Nat.le_refl _
  have hT : s0 ≤ s0 := Nat.le_refl _
  refine W.widen (k := n0 - n0) (n := s0 - s0) (by omega) (by omega) ?_
  refine lv_iload_n hx hb dJx4a65c_get_915e3_0 rfl (lv_at hl 1 rfl) ?_
  refine lv_aload_n hx hb dJx4a65c_get_915e3_1 rfl (lv_at hl 0 rfl) ?_
  obtain ⟨x1, e2, hF⟩ := mg_o hF
  obtain ⟨fs9, h9, g9⟩ := rdI hP hC ha0 e2
  refine va_get (D := (dC, dI)) (ci := 14) (v := .int x1) (C := RJx4a65c) (T := TJx4a65c) (N := 3) hx hb hts inlJx4a65c hown hK h9 0 rfl rfl 2 (by decide) (hts _ mw_169) (fun _ h9 => h9) g9 dJx4a65c_get_915e3_2 ?_
  clear h9 g9
  obtain ⟨x3, n5, s6, E7, e4, hF⟩ := mb_o hF
  have hm := mle e4
  have hM1 := mle1 hF
  have hM2 := mle2 hF
  have hm1 := hm.1
  have hm2 := hm.2.1
  have hFc := my_free hD hS hA
  refine va_calli (va_runS (As := [.int a1, .int x1]) (rest := []) ⟨hx, hb, hml, hown, hts⟩ (h_J15_checkIndex_7cf53 l dC dI cy nb ad0 n0 s0 E0 hC (a1) (x1) H.size x3 n5 s6 E7 e4) (va_cwS 2 hts (gS mw_238 mw_239 mw_240 mw_241) rfl rfl rfl (by decide +kernel) ⟨Nat.le_of_ble_eq_true rfl, Nat.le_of_ble_eq_true rfl⟩) (hl_preS hP hK hD hE hS hFc) rfl rfl hl.1 rfl (lv_room (Nat.le_of_ble_eq_true rfl)) dJx4a65c_get_915e3_5 ⟨show n0 - n0 + (n5 - n0) ≤ nz - n0 by omega, show s0 - s0 + (s6 - s0) ≤ sz9 - s0 by omega⟩) hS (fun q _ h => hFc q h) hFc (fun r9 u t H1 locs ht hvm hw hB hz1 hk1 hS => ?_)
  obtain ⟨ad8, hax, hP1, hD1⟩ := hB
  rw [ht] at hP1
  have hP := hP1
  have hD := hD1.weaken (fun k q _ h => hFc q.1 h)
  generalize H1 = H at hP hS ⊢
  have ha0 := ha0.mv hC.1 hax
  have hX := hX.trans hax
  have hC := hm.2.2 hC
  have hN : n0 ≤ n5 := Nat.le_trans hN hm1
  have hT : s0 ≤ s6 := Nat.le_trans hT hm2
  refine W.widen (k := n5 - n0) (n := s6 - s0) (by omega) (by omega) ?_
  clear hP1 hD1 hFc hk1 hz1 hvm ht hax hm hm1 hm2 hM1 hM2
  obtain rfl := hw.symm
  refine lv_pop hx hb dJx4a65c_get_915e3_8 rfl ?_
  refine lv_aload_n hx hb dJx4a65c_get_915e3_9 rfl (lv_at hl 0 rfl) ?_
  refine lv_iload_n hx hb dJx4a65c_get_915e3_10 rfl (lv_at hl 1 rfl) ?_
  obtain ⟨fs9, e9, hF⟩ := mg_o hF
  obtain ⟨x10, n12, s13, E14, e11, hF⟩ := mb_o hF
  have hm := mle e11
  have hM1 := mle1 hF
  have hM2 := mle2 hF
  have hm1 := hm.1
  have hm2 := hm.2.1
  have hFc := my_free hD hS hA
  refine va_callr (va_runV (C := RJx4a65c) (As := [.int a1]) (rest := []) ⟨hx, hb, hml, hown, hts⟩ (h_Jx4a65c_elementData_915e3 l dC dI cy nb ad8 n5 s6 E7 hC (a0) Aa0 ha0 (a1) H.size x10 n12 s13 E14 e11) (cwV 1 hts (gV mw_246 mw_247 mw_248 mw_12 mw_249) rfl rfl rfl (by decide +kernel) ⟨Nat.le_of_ble_eq_true rfl, Nat.le_of_ble_eq_true rfl⟩) (hl_preV hP hK hD hE hS hFc (va_recv hK (rdO_ hP hC ha0 e9) (ci := 14) (q0 := 0) rfl rfl)) rfl rfl hl.1 rfl (lv_room (Nat.le_of_ble_eq_true rfl)) dJx4a65c_get_915e3_11 ⟨show n5 - n0 + (n12 - n5) ≤ nz - n0 by omega, show s6 - s0 + (s13 - s6) ≤ sz9 - s0 by omega⟩) hS (fun q _ h => hFc q h) hFc (fun u ra t H1 locs ht hvm hw hB hz1 hk1 hS => ?_)
  obtain ⟨ad15, hax, hr16, hP1, hD1⟩ := hB
  rw [ht] at hP1
  have hP := hP1
  have hD := hD1.weaken (fun k q _ h => hFc q.1 h)
  generalize H1 = H at hP hS ⊢
  have ha0 := ha0.mv hC.1 hax
  have hX := hX.trans hax
  have hC := hm.2.2 hC
  have hN : n0 ≤ n12 := Nat.le_trans hN hm1
  have hT : s0 ≤ s13 := Nat.le_trans hT hm2
  refine W.widen (k := n12 - n0) (n := s13 - s0) (by omega) (by omega) ?_
  clear hP1 hD1 hFc hk1 hz1 hvm ht hax hm hm1 hm2 hM1 hM2
  refine my_top (y := .ref (AD nb ad15 x10)) (congrArg Value.ref hr16.2.symm) ?_
  have hr16 := rf_self hr16
  obtain ⟨ht9, hn9, hs9, hE9⟩ := mr_o hF
  subst hn9 hs9 hE9
  have hX9 := hX
  rw [hQ]
  exact W.aret (v := .ref (AD nb ad15 x10)) hx hb hr (by first | exact Or.inl ⟨_, rfl⟩ | exact Or.inr ⟨_, rfl⟩) (Or.inr ⟨_, rfl⟩) (fun t ht hW => ⟨⟨(), (AD nb ad15 x10), rfl, trivial, _, hX, (by rw [← ht9]; exact hr16), by rw [ht]; exact hP, hD⟩, hS.F ht⟩) hS.2.2 dJx4a65c_get_915e3_14
noncomputable def H_Jx4a65c_set_bcc79 (a0 : Nat) (a1 : Int32) (a2 : Nat) : MH Nat := mb (rI (a0) 14 2) fun x1 => mb (H_J15_checkIndex_7cf53 (a1) (x1)) fun x3 => mb (mg fun n E => fO n E (a0) 14) fun _ => mb (H_Jx4a65c_elementData_915e3 (a0) (a1)) fun x10 => mb (rR (a0) 14 1) fun x18 => mb (mg fun n E => okA n E 9 (a2)) fun _ => mb (wQ (x18) 9 (a1) (a2)) fun _ => mr x10
set_option maxHeartbeats 4000000 in
set_option maxRecDepth 100000 in
theorem h_Jx4a65c_set_bcc79 (l : Launch) (dC : Nat → ClassId) (dI : Nat → Nat → Nat) (cy : Nat → ClassId) (nb : Nat → Nat) (ad0 : Nat → Nat) (n0 s0 : Nat) (E0 : HE) (hC : clo n0 E0) (a0 Aa0 : Nat) (ha0 : rf nb ad0 n0 a0 Aa0) (a1 : Int32) (a2 Aa2 : Nat) (ha2 : rf nb ad0 n0 a2 Aa2) (sz : Nat) (ro : Nat) (nz sz9 : Nat) (Ez : HE) (hF : (H_Jx4a65c_set_bcc79 a0 a1 a2).1 (n0, s0, E0) = some (ro, nz, sz9, Ez)) : Met l yJx4a65c_set_bcc79 (wsg yJx4a65c_set_bcc79 cJx4a65c_set_bcc79 4 (some (.object "java/lang/Object"))) ({ frames := 10, cells := nz - n0, slots := sz9 - s0, locals := 500 }) (va_Pc [.ref Aa0, .int a1, .ref Aa2] (fun U => U.heap.size = sz ∧ va_P (dC, dI) vwCl (CH cy nb ad0 n0 E0) U.heap ∧ va_K (dC, dI) vwCl (tyL cy) U ∧ va_D (fun _ => True) (CH cy nb ad0 n0 E0) ∧ GL nb (va_A (CH cy nb ad0 n0 E0) sz) U)) (va_Qr (fun (_ : Unit) => True) (fun _ ra t => ∃ ad2 : Nat → Nat, axh n0 ad0 nz ad2 ∧ rf nb ad2 nz ro ra ∧ va_P (dC, dI) vwCl (CH cy nb ad2 nz Ez) t.heap ∧ va_D (va_A (CH cy nb ad0 n0 E0) sz) (CH cy nb ad2 nz Ez)) (va_A (CH cy nb ad0 n0 E0) sz)) (nz - n0) (sz9 - s0) (va_A (CH cy nb ad0 n0 E0) sz) := by
  refine Met.ofW (cc := cJx4a65c_set_bcc79) (maxL := 4) (ret := (some (.object "java/lang/Object"))) (by decide) rfl ?_
  intro p e s m args below meth c s₁ B hml hv
  obtain ⟨rfl, hsz, hP, hK, hD0, hE⟩ := hv
  have hx := B.exec
  have hb := B.bytes
  have hr := B.returns
  have hts0 := atoms_spec (ws := (wsg yJx4a65c_set_bcc79 cJx4a65c_set_bcc79 4 (some (.object "java/lang/Object")))) B.pre
  have hts : ∀ w ∈ wsL_law, w.before _ s = true := fun w h => hts0 w (List.mem_cons_of_mem _ h)
  have hown : s.vm.findClass RJx4a65c = some m.cls := by have h9 := findClass_of_methodNamed B.named; exact h9
  subst hsz
  have hD := hD0.self (sz := s.heap.size)
  generalize hAe : va_A (CH cy nb ad0 n0 E0) s.heap.size = A at hD hE ⊢
  have hA : ∀ q : Nat, s.heap.size ≤ q → A q := fun q h => by rw [← hAe]; exact Or.inr h
  have hS : va_S A s.heap s.heap [] := va_S.rf
  have hl := lv_entry ([.ref Aa0, .int a1, .ref Aa2]) (n := 4) (Nat.le_of_ble_eq_true rfl)
  rw [lg_entry_eq]
  generalize (lg_sl ([.ref Aa0, .int a1, .ref Aa2]) ++ List.replicate (4 - (lg_sl ([.ref Aa0, .int a1, .ref Aa2])).length) Slot.unset).toArray = ls at hl ⊢
  have hl : lv_has ls 4 [(0, .ref Aa0), (1, .int a1), (2, .ref Aa2)] := hl
  generalize hHe : s.heap = H at hP hS ⊢
  have hS : va_S A s.heap H [] := by rw [hHe]; exact hS
  refine my_Q (fun Qn hQ => ?_)
  simp only [H_Jx4a65c_set_bcc79] at hF
  have hX : axh n0 ad0 n0 ad0 := axh_refl
  have hN : n0 ≤ n0 := Nat.le_refl _
  have hT : s0 ≤ s0 := Nat.le_refl _
  refine W.widen (k := n0 - n0) (n := s0 - s0) (by omega) (by omega) ?_
  refine lv_iload_n hx hb dJx4a65c_set_bcc79_0 rfl (lv_at hl 1 rfl) ?_
  refine lv_aload_n hx hb dJx4a65c_set_bcc79_1 rfl (lv_at hl 0 rfl) ?_
  obtain ⟨x1, e2, hF⟩ := mg_o hF
  obtain ⟨fs9, h9, g9⟩ := rdI hP hC ha0 e2
  refine va_get (D := (dC, dI)) (ci := 14) (v := .int x1) (C := RJx4a65c) (T := TJx4a65c) (N := 3) hx hb hts inlJx4a65c hown hK h9 0 rfl rfl 2 (by decide) (hts _ mw_169) (fun _ h9 => h9) g9 dJx4a65c_set_bcc79_2 ?_
  clear h9 g9
  obtain ⟨x3, n5, s6, E7, e4, hF⟩ := mb_o hF
  have hm := mle e4
  have hM1 := mle1 hF
  have hM2 := mle2 hF
  have hm1 := hm.1
  have hm2 := hm.2.1
  have hFc := my_free hD hS hA
  refine va_calli (va_runS (As := [.int a1, .int x1]) (rest := []) ⟨hx, hb, hml, hown, hts⟩ (h_J15_checkIndex_7cf53 l dC dI cy nb ad0 n0 s0 E0 hC (a1) (x1) H.size x3 n5 s6 E7 e4) (va_cwS 2 hts (gS mw_238 mw_239 mw_240 mw_241) rfl rfl rfl (by decide +kernel) ⟨Nat.le_of_ble_eq_true rfl, Nat.le_of_ble_eq_true rfl⟩) (hl_preS hP hK hD hE hS hFc) rfl rfl hl.1 rfl (lv_room (Nat.le_of_ble_eq_true rfl)) dJx4a65c_set_bcc79_5 ⟨show n0 - n0 + (n5 - n0) ≤ nz - n0 by omega, show s0 - s0 + (s6 - s0) ≤ sz9 - s0 by omega⟩) hS (fun q _ h => hFc q h) hFc (fun r9 u t H1 locs ht hvm hw hB hz1 hk1 hS => ?_)
  obtain ⟨ad8, hax, hP1, hD1⟩ := hB
  rw [ht] at hP1
  have hP := hP1
  have hD := hD1.weaken (fun k q _ h => hFc q.1 h)
  generalize H1 = H at hP hS ⊢
  have ha0 := ha0.mv hC.1 hax
  have ha2 := ha2.mv hC.1 hax
  have hX := hX.trans hax
  have hC := hm.2.2 hC
  have hN : n0 ≤ n5 := Nat.le_trans hN hm1
  have hT : s0 ≤ s6 := Nat.le_trans hT hm2
  refine W.widen (k := n5 - n0) (n := s6 - s0) (by omega) (by omega) ?_
  clear hP1 hD1 hFc hk1 hz1 hvm ht hax hm hm1 hm2 hM1 hM2
  obtain rfl := hw.symm
  refine lv_pop hx hb dJx4a65c_set_bcc79_8 rfl ?_
  refine lv_aload_n hx hb dJx4a65c_set_bcc79_9 rfl (lv_at hl 0 rfl) ?_
  refine lv_iload_n hx hb dJx4a65c_set_bcc79_10 rfl (lv_at hl 1 rfl) ?_
  obtain ⟨fs9, e9, hF⟩ := mg_o hF
  obtain ⟨x10, n12, s13, E14, e11, hF⟩ := mb_o hF
  have hm := mle e11
  have hM1 := mle1 hF
  have hM2 := mle2 hF
  have hm1 := hm.1
  have hm2 := hm.2.1
  have hFc := my_free hD hS hA
  refine va_callr (va_runV (C := RJx4a65c) (As := [.int a1]) (rest := []) ⟨hx, hb, hml, hown, hts⟩ (h_Jx4a65c_elementData_915e3 l dC dI cy nb ad8 n5 s6 E7 hC (a0) Aa0 ha0 (a1) H.size x10 n12 s13 E14 e11) (cwV 1 hts (gV mw_246 mw_247 mw_248 mw_12 mw_249) rfl rfl rfl (by decide +kernel) ⟨Nat.le_of_ble_eq_true rfl, Nat.le_of_ble_eq_true rfl⟩) (hl_preV hP hK hD hE hS hFc (va_recv hK (rdO_ hP hC ha0 e9) (ci := 14) (q0 := 0) rfl rfl)) rfl rfl hl.1 rfl (lv_room (Nat.le_of_ble_eq_true rfl)) dJx4a65c_set_bcc79_11 ⟨show n5 - n0 + (n12 - n5) ≤ nz - n0 by omega, show s6 - s0 + (s13 - s6) ≤ sz9 - s0 by omega⟩) hS (fun q _ h => hFc q h) hFc (fun u ra t H1 locs ht hvm hw hB hz1 hk1 hS => ?_)
  obtain ⟨ad15, hax, hr16, hP1, hD1⟩ := hB
  rw [ht] at hP1
  have hP := hP1
  have hD := hD1.weaken (fun k q _ h => hFc q.1 h)
  generalize H1 = H at hP hS ⊢
  have ha0 := ha0.mv hC.1 hax
  have ha2 := ha2.mv hC.1 hax
  have hX := hX.trans hax
  have hC := hm.2.2 hC
  have hN : n0 ≤ n12 := Nat.le_trans hN hm1
  have hT : s0 ≤ s13 := Nat.le_trans hT hm2
  refine W.widen (k := n12 - n0) (n := s13 - s0) (by omega) (by omega) ?_
  clear hP1 hD1 hFc hk1 hz1 hvm ht hax hm hm1 hm2 hM1 hM2
  refine my_top (y := .ref (AD nb ad15 x10)) (congrArg Value.ref hr16.2.symm) ?_
  have hr16 := rf_self hr16
  refine lv_astore_n (lv' := [(3, .ref (AD nb ad15 x10)), (0, .ref Aa0), (1, .int a1), (2, .ref Aa2)]) hx hb dJx4a65c_set_bcc79_14 rfl hl (by decide) rfl (fun ls hl => ?_)
  refine lv_aload_n hx hb dJx4a65c_set_bcc79_15 rfl (lv_at hl 1 rfl) ?_
  obtain ⟨x18, e19, hF⟩ := mg_o hF
  obtain ⟨hr20, fs9, h9, g9⟩ := rdR hP hC ha0 e19
  refine va_get (D := (dC, dI)) (ci := 14) (v := .ref (AD nb ad15 x18)) (C := RJx4a65c) (T := TJx4a65c) (N := 3) hx hb hts inlJx4a65c hown hK h9 0 rfl rfl 1 (by decide) (hts _ mw_116) (fun _ h9 => h9) g9 dJx4a65c_set_bcc79_16 ?_
  clear h9 g9
  refine lv_iload_n hx hb dJx4a65c_set_bcc79_19 rfl (lv_at hl 2 rfl) ?_
  refine lv_aload_n hx hb dJx4a65c_set_bcc79_20 rfl (lv_at hl 3 rfl) ?_
  obtain ⟨_, e22, hF⟩ := mg_o hF
  obtain ⟨E21, e23, hF⟩ := mw_o hF
  obtain ⟨q9, m9, f9, h9, i9, ez9⟩ := wrQ (cy := cy) hC hr20 ha2 e23
  refine va_astqM hx hb hK hP hD hS q9 9 h9 rfl (hs_any9 hK hP hC hE hS ha2 e22) i9 dJx4a65c_set_bcc79_21 (fun H locs hP hD hS => ?_)
  clear i9
  rw [ez9] at hP hD
  clear ez9 h9
  have hC := sQ_clo e23 hC
  refine lv_aload_n hx hb dJx4a65c_set_bcc79_22 rfl (lv_at hl 0 rfl) ?_
  obtain ⟨ht9, hn9, hs9, hE9⟩ := mr_o hF
  subst hn9 hs9 hE9
  have hX9 := hX
  rw [hQ]
  exact W.aret (v := .ref (AD nb ad15 x10)) hx hb hr (by first | exact Or.inl ⟨_, rfl⟩ | exact Or.inr ⟨_, rfl⟩) (Or.inr ⟨_, rfl⟩) (fun t ht hW => ⟨⟨(), (AD nb ad15 x10), rfl, trivial, _, hX, (by rw [← ht9]; exact hr16), by rw [ht]; exact hP, hD⟩, hS.F ht⟩) hS.2.2 dJx4a65c_set_bcc79_23
noncomputable def H_Jx4a65c_grow_92f84 (a0 : Nat) (a1 : Int32) : MH Nat := mb (rR (a0) 14 1) fun x1 => mb (mg fun n E => lO n E (x1)) fun x4 => if 0 < x4 then (mb (H_J8_newLength_cabcc (x4) ((a1 - x4)) ((x4 >>> ((1 : Int32) &&& 31)))) fun x7 => mb (rR (a0) 14 1) fun x13 => mb (H_J7_copyOf_1904c (x13) (x7)) fun x16 => mb (wR (a0) 14 1 (x16)) fun _ => mr x16) else (mb (rR (a0) 14 1) fun x26 => mb (mp (deq (x26) 1001990)) fun _ => mb (mp (ln (if (10 : Int32) < a1 then a1 else (10 : Int32)))) fun k30 => mb (nQ 9 k30) fun x35 => mb (wR (a0) 14 1 (x35)) fun _ => mr x35)
set_option maxHeartbeats 4000000 in
set_option maxRecDepth 100000 in
theorem h_Jx4a65c_grow_92f84 (l : Launch) (dC : Nat → ClassId) (dI : Nat → Nat → Nat) (cy : Nat → ClassId) (nb : Nat → Nat) (ad0 : Nat → Nat) (n0 s0 : Nat) (E0 : HE) (hC : clo n0 E0) (a0 Aa0 : Nat) (ha0 : rf nb ad0 n0 a0 Aa0) (a1 : Int32) (sz : Nat) (ro : Nat) (nz sz9 : Nat) (Ez : HE) (hF : (H_Jx4a65c_grow_92f84 a0 a1).1 (n0, s0, E0) = some (ro, nz, sz9, Ez)) : Met l yJx4a65c_grow_92f84 (wsg yJx4a65c_grow_92f84 cJx4a65c_grow_92f84 4 (some (.array (.object "java/lang/Object")))) ({ frames := 10, cells := nz - n0, slots := sz9 - s0, locals := 500 }) (va_Pc [.ref Aa0, .int a1] (fun U => U.heap.size = sz ∧ va_P (dC, dI) vwCl (CH cy nb ad0 n0 E0) U.heap ∧ va_K (dC, dI) vwCl (tyL cy) U ∧ va_D (fun _ => True) (CH cy nb ad0 n0 E0) ∧ GL nb (va_A (CH cy nb ad0 n0 E0) sz) U)) (va_Qr (fun (_ : Unit) => True) (fun _ ra t => ∃ ad2 : Nat → Nat, axh n0 ad0 nz ad2 ∧ rf nb ad2 nz ro ra ∧ va_P (dC, dI) vwCl (CH cy nb ad2 nz Ez) t.heap ∧ va_D (va_A (CH cy nb ad0 n0 E0) sz) (CH cy nb ad2 nz Ez)) (va_A (CH cy nb ad0 n0 E0) sz)) (nz - n0) (sz9 - s0) (va_A (CH cy nb ad0 n0 E0) sz) := by
  refine Met.ofW (cc := cJx4a65c_grow_92f84) (maxL := 4) (ret := (some (.array (.object "java/lang/Object")))) (by decide) rfl ?_
  intro p e s m args below meth c s₁ B hml hv
  obtain ⟨rfl, hsz, hP, hK, hD0, hE⟩ := hv
  have hx := B.exec
  have hb := B.bytes
  have hr := B.returns
  have hts0 := atoms_spec (ws := (wsg yJx4a65c_grow_92f84 cJx4a65c_grow_92f84 4 (some (.array (.object "java/lang/Object"))))) B.pre
  have hts : ∀ w ∈ wsL_law, w.before _ s = true := fun w h => hts0 w (List.mem_cons_of_mem _ h)
  have hown : s.vm.findClass RJx4a65c = some m.cls := by have h9 := findClass_of_methodNamed B.named; exact h9
  subst hsz
  have hD := hD0.self (sz := s.heap.size)
  generalize hAe : va_A (CH cy nb ad0 n0 E0) s.heap.size = A at hD hE ⊢
  have hA : ∀ q : Nat, s.heap.size ≤ q → A q := fun q h => by rw [← hAe]; exact Or.inr h
  have hS : va_S A s.heap s.heap [] := va_S.rf
  have hl := lv_entry ([.ref Aa0, .int a1]) (n := 4) (Nat.le_of_ble_eq_true rfl)
  rw [lg_entry_eq]
  generalize (lg_sl ([.ref Aa0, .int a1]) ++ List.replicate (4 - (lg_sl ([.ref Aa0, .int a1])).length) Slot.unset).toArray = ls at hl ⊢
  have hl : lv_has ls 4 [(0, .ref Aa0), (1, .int a1)] := hl
  generalize hHe : s.heap = H at hP hS ⊢
  have hS : va_S A s.heap H [] := by rw [hHe]; exact hS
  refine my_Q (fun Qn hQ => ?_)
  simp only [H_Jx4a65c_grow_92f84] at hF
  have hX : axh n0 ad0 n0 ad0 := axh_refl
  have hN : n0 ≤ n0 := Nat.le_refl _
  have hT : s0 ≤ s0 := Nat.le_refl _
  refine W.widen (k := n0 - n0) (n := s0 - s0) (by omega) (by omega) ?_
  refine lv_aload_n hx hb dJx4a65c_grow_92f84_0 rfl (lv_at hl 0 rfl) ?_
  obtain ⟨x1, e2, hF⟩ := mg_o hF
  obtain ⟨hr3, fs9, h9, g9⟩ := rdR hP hC ha0 e2
  refine va_get (D := (dC, dI)) (ci := 14) (v := .ref (AD nb ad0 x1)) (C := RJx4a65c) (T := TJx4a65c) (N := 3) hx hb hts inlJx4a65c hown hK h9 0 rfl rfl 1 (by decide) (hts _ mw_116) (fun _ h9 => h9) g9 dJx4a65c_grow_92f84_1 ?_
  clear h9 g9
  obtain ⟨x4, e5, hF⟩ := mg_o hF
  refine hs_lO hx hb hK hP hC hE hS hr3 e5 dJx4a65c_grow_92f84_4 ?_
  refine lv_istore_n (lv' := [(2, .int x4), (0, .ref Aa0), (1, .int a1)]) hx hb dJx4a65c_grow_92f84_5 rfl hl (by decide) rfl (fun ls hl => ?_)
  refine lv_iload_n hx hb dJx4a65c_grow_92f84_6 rfl (lv_at hl 0 rfl) ?_
  refine lv_if_gt (tgt := 20) hx hb dJx4a65c_grow_92f84_7 (by decide) (fun c6 => ?_) (fun c6 => ?_)
  · skip
    rw [if_pos c6] at hF
    refine lv_iload_n hx hb dJx4a65c_grow_92f84_20 rfl (lv_at hl 0 rfl) ?_
    refine lv_iload_n hx hb dJx4a65c_grow_92f84_21 rfl (lv_at hl 2 rfl) ?_
    refine lv_iload_n hx hb dJx4a65c_grow_92f84_22 rfl (lv_at hl 0 rfl) ?_
    refine lv_isub hx hb dJx4a65c_grow_92f84_23 ?_
    refine lv_iload_n hx hb dJx4a65c_grow_92f84_24 rfl (lv_at hl 0 rfl) ?_
    refine lv_iconst (v := 1) hx hb dJx4a65c_grow_92f84_25 (by decide) ?_
    refine lv_ishr hx hb dJx4a65c_grow_92f84_26 ?_
    obtain ⟨x7, n9, s10, E11, e8, hF⟩ := mb_o hF
    have hm := mle e8
    have hM1 := mle1 hF
    have hM2 := mle2 hF
    have hm1 := hm.1
    have hm2 := hm.2.1
    have hFc := my_free hD hS hA
    refine va_calli (va_runS (As := [.int x4, .int (a1 - x4), .int (x4 >>> ((1 : Int32) &&& 31))]) (rest := []) ⟨hx, hb, hml, hown, hts⟩ (h_J8_newLength_cabcc l dC dI cy nb ad0 n0 s0 E0 hC (x4) ((a1 - x4)) ((x4 >>> ((1 : Int32) &&& 31))) H.size x7 n9 s10 E11 e8) (va_cwS 3 hts (gS mw_859 mw_645 mw_646 mw_647) rfl rfl rfl (by decide +kernel) ⟨Nat.le_of_ble_eq_true rfl, Nat.le_of_ble_eq_true rfl⟩) (hl_preS hP hK hD hE hS hFc) rfl rfl hl.1 rfl (lv_room (Nat.le_of_ble_eq_true rfl)) dJx4a65c_grow_92f84_27 ⟨show n0 - n0 + (n9 - n0) ≤ nz - n0 by omega, show s0 - s0 + (s10 - s0) ≤ sz9 - s0 by omega⟩) hS (fun q _ h => hFc q h) hFc (fun r9 u t H1 locs ht hvm hw hB hz1 hk1 hS => ?_)
    obtain ⟨ad12, hax, hP1, hD1⟩ := hB
    rw [ht] at hP1
    have hP := hP1
    have hD := hD1.weaken (fun k q _ h => hFc q.1 h)
    generalize H1 = H at hP hS ⊢
    have ha0 := ha0.mv hC.1 hax
    have hX := hX.trans hax
    have hC := hm.2.2 hC
    have hN : n0 ≤ n9 := Nat.le_trans hN hm1
    have hT : s0 ≤ s10 := Nat.le_trans hT hm2
    refine W.widen (k := n9 - n0) (n := s10 - s0) (by omega) (by omega) ?_
    clear hP1 hD1 hFc hk1 hz1 hvm ht hax hm hm1 hm2 hM1 hM2
    obtain rfl := hw.symm
    refine lv_istore_n (lv' := [(3, .int x7), (2, .int x4), (0, .ref Aa0), (1, .int a1)]) hx hb dJx4a65c_grow_92f84_30 rfl hl (by decide) rfl (fun ls hl => ?_)
    refine lv_aload_n hx hb dJx4a65c_grow_92f84_31 rfl (lv_at hl 2 rfl) ?_
    refine lv_aload_n hx hb dJx4a65c_grow_92f84_32 rfl (lv_at hl 2 rfl) ?_
    obtain ⟨x13, e14, hF⟩ := mg_o hF
    obtain ⟨hr15, fs9, h9, g9⟩ := rdR hP hC ha0 e14
    refine va_get (D := (dC, dI)) (ci := 14) (v := .ref (AD nb ad12 x13)) (C := RJx4a65c) (T := TJx4a65c) (N := 3) hx hb hts inlJx4a65c hown hK h9 0 rfl rfl 1 (by decide) (hts _ mw_116) (fun _ h9 => h9) g9 dJx4a65c_grow_92f84_33 ?_
    clear h9 g9
    refine lv_iload_n hx hb dJx4a65c_grow_92f84_36 rfl (lv_at hl 0 rfl) ?_
    obtain ⟨x16, n18, s19, E20, e17, hF⟩ := mb_o hF
    have hm := mle e17
    have hM1 := mle1 hF
    have hM2 := mle2 hF
    have hm1 := hm.1
    have hm2 := hm.2.1
    have hFc := my_free hD hS hA
    refine va_callr (va_runS (As := [.ref (AD nb ad12 x13), .int x7]) (rest := [.ref Aa0]) ⟨hx, hb, hml, hown, hts⟩ (h_J7_copyOf_1904c l dC dI cy nb ad12 n9 s10 E11 hC (x13) (AD nb ad12 x13) hr15 (x7) H.size x16 n18 s19 E20 e17) (va_cwS 2 hts (gS mw_860 mw_861 mw_96 mw_862) rfl rfl rfl (by decide +kernel) ⟨Nat.le_of_ble_eq_true rfl, Nat.le_of_ble_eq_true rfl⟩) (hl_preS hP hK hD hE hS hFc) rfl rfl hl.1 rfl (lv_room (Nat.le_of_ble_eq_true rfl)) dJx4a65c_grow_92f84_37 ⟨show n9 - n0 + (n18 - n9) ≤ nz - n0 by omega, show s10 - s0 + (s19 - s10) ≤ sz9 - s0 by omega⟩) hS (fun q _ h => hFc q h) hFc (fun u ra t H1 locs ht hvm hw hB hz1 hk1 hS => ?_)
    obtain ⟨ad21, hax, hr22, hP1, hD1⟩ := hB
    rw [ht] at hP1
    have hP := hP1
    have hD := hD1.weaken (fun k q _ h => hFc q.1 h)
    generalize H1 = H at hP hS ⊢
    have ha0 := ha0.mv hC.1 hax
    have hX := hX.trans hax
    have hC := hm.2.2 hC
    have hN : n0 ≤ n18 := Nat.le_trans hN hm1
    have hT : s0 ≤ s19 := Nat.le_trans hT hm2
    refine W.widen (k := n18 - n0) (n := s19 - s0) (by omega) (by omega) ?_
    clear hP1 hD1 hFc hk1 hz1 hvm ht hax hm hm1 hm2 hM1 hM2
    refine my_top (y := .ref (AD nb ad21 x16)) (congrArg Value.ref hr22.2.symm) ?_
    have hr22 := rf_self hr22
    refine lv_dup_x1 hx hb dJx4a65c_grow_92f84_40 rfl rfl ?_
    obtain ⟨E24, e25, hF⟩ := mw_o hF
    obtain ⟨q9, fs9, h9, ez9⟩ := wrR (cy := cy) hC ha0 hr22 e25
    refine va_put (D := (dC, dI)) (ci := 14) (v := .ref (AD nb ad21 x16)) (ty := (.array (.object "java/lang/Object"))) (C := RJx4a65c) (T := TJx4a65c) (N := 3) hx hb hts inlJx4a65c tyJx4a65c tyJx4a65c_ok nmJx4a65c hown hK hP hD hS q9 h9 rfl 1 (by decide) (hts _ mw_116) (fun _ h9 => h9) rfl (by decide +kernel) rfl rfl (Nat.le_of_ble_eq_true rfl) dJx4a65c_grow_92f84_41 (fun H locs hP hD hS => ?_)
    rw [ez9] at hP hD
    clear ez9 h9
    have hC := sR_clo e25 hC
    obtain ⟨ht9, hn9, hs9, hE9⟩ := mr_o hF
    subst hn9 hs9 hE9
    have hX9 := hX
    rw [hQ]
    exact W.aret (v := .ref (AD nb ad21 x16)) hx hb hr (by first | exact Or.inl ⟨_, rfl⟩ | exact Or.inr ⟨_, rfl⟩) (Or.inr ⟨_, rfl⟩) (fun t ht hW => ⟨⟨(), (AD nb ad21 x16), rfl, trivial, _, hX, (by rw [← ht9]; exact hr22), by rw [ht]; exact hP, hD⟩, hS.F ht⟩) hS.2.2 dJx4a65c_grow_92f84_44
  · skip
    rw [if_neg c6] at hF
    refine lv_aload_n hx hb dJx4a65c_grow_92f84_10 rfl (lv_at hl 1 rfl) ?_
    obtain ⟨x26, e27, hF⟩ := mg_o hF
    obtain ⟨hr28, fs9, h9, g9⟩ := rdR hP hC ha0 e27
    refine va_get (D := (dC, dI)) (ci := 14) (v := .ref (AD nb ad0 x26)) (C := RJx4a65c) (T := TJx4a65c) (N := 3) hx hb hts inlJx4a65c hown hK h9 0 rfl rfl 1 (by decide) (hts _ mw_116) (fun _ h9 => h9) g9 dJx4a65c_grow_92f84_11 ?_
    clear h9 g9
    refine va_gets (C := "java/util/ArrayList") (n := "DEFAULTCAPACITY_EMPTY_ELEMENTDATA") (d := "[Ljava/lang/Object;") (ref := "java/util/ArrayList") (v := .ref (nb 1990)) hx hb hE.dcp.1 hS hown (hts _ mw_115) (fun _ h9 => h9) dJx4a65c_grow_92f84_14 ?_
    obtain ⟨_, e29, hF⟩ := mp_o hF
    have hz9 := deq_a hr28 e29
    refine lv_acmp_eq (rx := some ((AD nb ad0 x26))) (ry := some (nb 1990)) (tgt := 45) hx hb dJx4a65c_grow_92f84_17 (by decide) (fun _ => ?_) (fun h => absurd (congrArg some hz9) h)
    clear hz9
    refine lv_aload_n hx hb dJx4a65c_grow_92f84_45 rfl (lv_at hl 1 rfl) ?_
    refine lv_bipush (v := 10) hx hb dJx4a65c_grow_92f84_46 (by decide) ?_
    refine lv_iload_n hx hb dJx4a65c_grow_92f84_48 rfl (lv_at hl 2 rfl) ?_
    refine va_mmax hx hb (hml.trans hl.1.symm) hown (hts _ mw_857) (hts _ mw_649) (hts _ mw_650) (hts _ mw_651) (Nat.le_of_ble_eq_true rfl) (Nat.le_of_ble_eq_true rfl) (Nat.le_of_ble_eq_true rfl) (Nat.le_of_ble_eq_true rfl) dJx4a65c_grow_92f84_49 ?_
    obtain ⟨k30, e31, hF⟩ := mp_o hF
    obtain ⟨x35, n32, s33, E34, hq, hF⟩ := mn_o hF
    have hM1 := mle1 hF
    have hM2 := mle2 hF
    have hq9 := hq.2.1
    have hq8 := hq.2.2.1
    obtain ⟨l1, l2, l3⟩ := ln_s e31
    refine va_newq (C := "java/lang/Object") hx hb hown (hts _ mw_858) hE.ao0 hK hP hD hS hA l1 l2 (show k30 * 4 ≤ 536870912 by omega) (show n0 - n0 + 1 ≤ nz - n0 by omega) (show s0 - s0 + k30 ≤ sz9 - s0 by omega) dJx4a65c_grow_92f84_52 (fun q36 cA H hK9 hP hD hS => ?_)
    have hcA := my_cA hK9 hK 9 rfl
    subst hcA
    clear hK9 l1 l2 l3
    obtain ⟨ad37, hax, hr38, hC9, hw9⟩ := new_w (cy := cy) (nb := nb) (ad := ad0) (e := .inl (9, k30, .inr (.inr (.inr (.inr fun _ => none))))) (fun _ _ h => by cases h) (fun _ => rfl) hC q36 hq
    rw [hw9] at hP hD
    have ha0 := ha0.mv hC.1 hax
    have hX := hX.trans hax
    have hC := hC9
    obtain ⟨-, hq1, hq2, -, -⟩ := hq
    have hN : n0 ≤ n32 := by omega
    have hT : s0 ≤ s33 := by omega
    refine W.widen (k := n32 - n0) (n := s33 - s0) (by omega) (by omega) ?_
    clear hM1 hM2 hax hC9 hw9 hq1 hq2 hq8 hq9
    refine lv_dup_x1 hx hb dJx4a65c_grow_92f84_55 rfl rfl ?_
    obtain ⟨E39, e40, hF⟩ := mw_o hF
    obtain ⟨q9, fs9, h9, ez9⟩ := wrR (cy := cy) hC ha0 hr38 e40
    refine va_put (D := (dC, dI)) (ci := 14) (v := .ref q36) (ty := (.array (.object "java/lang/Object"))) (C := RJx4a65c) (T := TJx4a65c) (N := 3) hx hb hts inlJx4a65c tyJx4a65c tyJx4a65c_ok nmJx4a65c hown hK hP hD hS q9 h9 rfl 1 (by decide) (hts _ mw_116) (fun _ h9 => h9) rfl (by decide +kernel) rfl rfl (Nat.le_of_ble_eq_true rfl) dJx4a65c_grow_92f84_56 (fun H locs hP hD hS => ?_)
    rw [ez9] at hP hD
    clear ez9 h9
    have hC := sR_clo e40 hC
    obtain ⟨ht9, hn9, hs9, hE9⟩ := mr_o hF
    subst hn9 hs9 hE9
    have hX9 := hX
    rw [hQ]
    exact W.aret (v := .ref q36) hx hb hr (by first | exact Or.inl ⟨_, rfl⟩ | exact Or.inr ⟨_, rfl⟩) (Or.inr ⟨_, rfl⟩) (fun t ht hW => ⟨⟨(), q36, rfl, trivial, _, hX, (by rw [← ht9]; exact hr38), by rw [ht]; exact hP, hD⟩, hS.F ht⟩) hS.2.2 dJx4a65c_grow_92f84_59
noncomputable def H_Jx4a65c_grow_d5877 (a0 : Nat) : MH Nat := mb (rI (a0) 14 2) fun x1 => mb (mg fun n E => fO n E (a0) 14) fun _ => mb (H_Jx4a65c_grow_92f84 (a0) ((x1 + 1))) fun x4 => mr x4
set_option maxHeartbeats 4000000 in
set_option maxRecDepth 100000 in
theorem h_Jx4a65c_grow_d5877 (l : Launch) (dC : Nat → ClassId) (dI : Nat → Nat → Nat) (cy : Nat → ClassId) (nb : Nat → Nat) (ad0 : Nat → Nat) (n0 s0 : Nat) (E0 : HE) (hC : clo n0 E0) (a0 Aa0 : Nat) (ha0 : rf nb ad0 n0 a0 Aa0) (sz : Nat) (ro : Nat) (nz sz9 : Nat) (Ez : HE) (hF : (H_Jx4a65c_grow_d5877 a0).1 (n0, s0, E0) = some (ro, nz, sz9, Ez)) : Met l yJx4a65c_grow_d5877 (wsg yJx4a65c_grow_d5877 cJx4a65c_grow_d5877 1 (some (.array (.object "java/lang/Object")))) ({ frames := 11, cells := nz - n0, slots := sz9 - s0, locals := 600 }) (va_Pc [.ref Aa0] (fun U => U.heap.size = sz ∧ va_P (dC, dI) vwCl (CH cy nb ad0 n0 E0) U.heap ∧ va_K (dC, dI) vwCl (tyL cy) U ∧ va_D (fun _ => True) (CH cy nb ad0 n0 E0) ∧ GL nb (va_A (CH cy nb ad0 n0 E0) sz) U)) (va_Qr (fun (_ : Unit) => True) (fun _ ra t => ∃ ad2 : Nat → Nat, axh n0 ad0 nz ad2 ∧ rf nb ad2 nz ro ra ∧ va_P (dC, dI) vwCl (CH cy nb ad2 nz Ez) t.heap ∧ va_D (va_A (CH cy nb ad0 n0 E0) sz) (CH cy nb ad2 nz Ez)) (va_A (CH cy nb ad0 n0 E0) sz)) (nz - n0) (sz9 - s0) (va_A (CH cy nb ad0 n0 E0) sz) := by
  refine Met.ofW (cc := cJx4a65c_grow_d5877) (maxL := 1) (ret := (some (.array (.object "java/lang/Object")))) (by decide) rfl ?_
  intro p e s m args below meth c s₁ B hml hv
  obtain ⟨rfl, hsz, hP, hK, hD0, hE⟩ := hv
  have hx := B.exec
  have hb := B.bytes
  have hr := B.returns
  have hts0 := atoms_spec (ws := (wsg yJx4a65c_grow_d5877 cJx4a65c_grow_d5877 1 (some (.array (.object "java/lang/Object"))))) B.pre
  have hts : ∀ w ∈ wsL_law, w.before _ s = true := fun w h => hts0 w (List.mem_cons_of_mem _ h)
  have hown : s.vm.findClass RJx4a65c = some m.cls := by have h9 := findClass_of_methodNamed B.named; exact h9
  subst hsz
  have hD := hD0.self (sz := s.heap.size)
  generalize hAe : va_A (CH cy nb ad0 n0 E0) s.heap.size = A at hD hE ⊢
  have hA : ∀ q : Nat, s.heap.size ≤ q → A q := fun q h => by rw [← hAe]; exact Or.inr h
  have hS : va_S A s.heap s.heap [] := va_S.rf
  have hl := lv_entry ([.ref Aa0]) (n := 1) (Nat.le_of_ble_eq_true rfl)
  rw [lg_entry_eq]
  generalize (lg_sl ([.ref Aa0]) ++ List.replicate (1 - (lg_sl ([.ref Aa0])).length) Slot.unset).toArray = ls at hl ⊢
  have hl : lv_has ls 1 [(0, .ref Aa0)] := hl
  generalize hHe : s.heap = H at hP hS ⊢
  have hS : va_S A s.heap H [] := by rw [hHe]; exact hS
  refine my_Q (fun Qn hQ => ?_)
  simp only [H_Jx4a65c_grow_d5877] at hF
  have hX : axh n0 ad0 n0 ad0 := axh_refl
  have hN : n0 ≤ n0 := Nat.le_refl _
  have hT : s0 ≤ s0 := Nat.le_refl _
  refine W.widen (k := n0 - n0) (n := s0 - s0) (by omega) (by omega) ?_
  refine lv_aload_n hx hb dJx4a65c_grow_d5877_0 rfl (lv_at hl 0 rfl) ?_
  refine lv_aload_n hx hb dJx4a65c_grow_d5877_1 rfl (lv_at hl 0 rfl) ?_
  obtain ⟨x1, e2, hF⟩ := mg_o hF
  obtain ⟨fs9, h9, g9⟩ := rdI hP hC ha0 e2
  refine va_get (D := (dC, dI)) (ci := 14) (v := .int x1) (C := RJx4a65c) (T := TJx4a65c) (N := 3) hx hb hts inlJx4a65c hown hK h9 0 rfl rfl 2 (by decide) (hts _ mw_169) (fun _ h9 => h9) g9 dJx4a65c_grow_d5877_2 ?_
  clear h9 g9
  refine lv_iconst (v := 1) hx hb dJx4a65c_grow_d5877_5 (by decide) ?_
  refine lv_iadd hx hb dJx4a65c_grow_d5877_6 ?_
  obtain ⟨fs9, e3, hF⟩ := mg_o hF
  obtain ⟨x4, n6, s7, E8, e5, hF⟩ := mb_o hF
  have hm := mle e5
  have hM1 := mle1 hF
  have hM2 := mle2 hF
  have hm1 := hm.1
  have hm2 := hm.2.1
  have hFc := my_free hD hS hA
  refine va_callr (va_runV (C := RJx4a65c) (As := [.int (x1 + 1)]) (rest := []) ⟨hx, hb, hml, hown, hts⟩ (h_Jx4a65c_grow_92f84 l dC dI cy nb ad0 n0 s0 E0 hC (a0) Aa0 ha0 ((x1 + 1)) H.size x4 n6 s7 E8 e5) (cwV 1 hts (gV mw_853 mw_854 mw_855 mw_12 mw_856) rfl rfl rfl (by decide +kernel) ⟨Nat.le_of_ble_eq_true rfl, Nat.le_of_ble_eq_true rfl⟩) (hl_preV hP hK hD hE hS hFc (va_recv hK (rdO_ hP hC ha0 e3) (ci := 14) (q0 := 0) rfl rfl)) rfl rfl hl.1 rfl (lv_room (Nat.le_of_ble_eq_true rfl)) dJx4a65c_grow_d5877_7 ⟨show n0 - n0 + (n6 - n0) ≤ nz - n0 by omega, show s0 - s0 + (s7 - s0) ≤ sz9 - s0 by omega⟩) hS (fun q _ h => hFc q h) hFc (fun u ra t H1 locs ht hvm hw hB hz1 hk1 hS => ?_)
  obtain ⟨ad9, hax, hr10, hP1, hD1⟩ := hB
  rw [ht] at hP1
  have hP := hP1
  have hD := hD1.weaken (fun k q _ h => hFc q.1 h)
  generalize H1 = H at hP hS ⊢
  have ha0 := ha0.mv hC.1 hax
  have hX := hX.trans hax
  have hC := hm.2.2 hC
  have hN : n0 ≤ n6 := Nat.le_trans hN hm1
  have hT : s0 ≤ s7 := Nat.le_trans hT hm2
  refine W.widen (k := n6 - n0) (n := s7 - s0) (by omega) (by omega) ?_
  clear hP1 hD1 hFc hk1 hz1 hvm ht hax hm hm1 hm2 hM1 hM2
  refine my_top (y := .ref (AD nb ad9 x4)) (congrArg Value.ref hr10.2.symm) ?_
  have hr10 := rf_self hr10
  obtain ⟨ht9, hn9, hs9, hE9⟩ := mr_o hF
  subst hn9 hs9 hE9
  have hX9 := hX
  rw [hQ]
  exact W.aret (v := .ref (AD nb ad9 x4)) hx hb hr (by first | exact Or.inl ⟨_, rfl⟩ | exact Or.inr ⟨_, rfl⟩) (Or.inr ⟨_, rfl⟩) (fun t ht hW => ⟨⟨(), (AD nb ad9 x4), rfl, trivial, _, hX, (by rw [← ht9]; exact hr10), by rw [ht]; exact hP, hD⟩, hS.F ht⟩) hS.2.2 dJx4a65c_grow_d5877_10
noncomputable def H_Jx4a65c_add_72be8 (a0 : Nat) (a1 : Nat) (a2 : Nat) (a3 : Int32) : MH Unit := mb (mg fun n E => lO n E (a2)) fun x1 => mb (if a3 = x1 then (mb (mg fun n E => fO n E (a0) 14) fun _ => mb (H_Jx4a65c_grow_d5877 (a0)) fun x22 => mr x22) else (mr a2) : MH (Nat)) fun t4 => mb (mg fun n E => okA n E 9 (a1)) fun _ => mb (wQ (t4) 9 (a3) (a1)) fun _ => mb (wI (a0) 14 2 ((a3 + 1))) fun _ => mr ()
set_option maxHeartbeats 4000000 in
set_option maxRecDepth 100000 in
theorem h_Jx4a65c_add_72be8 (l : Launch) (dC : Nat → ClassId) (dI : Nat → Nat → Nat) (cy : Nat → ClassId) (nb : Nat → Nat) (ad0 : Nat → Nat) (n0 s0 : Nat) (E0 : HE) (hC : clo n0 E0) (a0 Aa0 : Nat) (ha0 : rf nb ad0 n0 a0 Aa0) (a1 Aa1 : Nat) (ha1 : rf nb ad0 n0 a1 Aa1) (a2 Aa2 : Nat) (ha2 : rf nb ad0 n0 a2 Aa2) (a3 : Int32) (sz : Nat) (nz sz9 : Nat) (Ez : HE) (hF : (H_Jx4a65c_add_72be8 a0 a1 a2 a3).1 (n0, s0, E0) = some ((), nz, sz9, Ez)) : Met l yJx4a65c_add_72be8 (wsg yJx4a65c_add_72be8 cJx4a65c_add_72be8 4 none) ({ frames := 12, cells := nz - n0, slots := sz9 - s0, locals := 700 }) (va_Pc [.ref Aa0, .ref Aa1, .ref Aa2, .int a3] (fun U => U.heap.size = sz ∧ va_P (dC, dI) vwCl (CH cy nb ad0 n0 E0) U.heap ∧ va_K (dC, dI) vwCl (tyL cy) U ∧ va_D (fun _ => True) (CH cy nb ad0 n0 E0) ∧ GL nb (va_A (CH cy nb ad0 n0 E0) sz) U)) (va_Qv (fun (_ : Unit) => True) (fun _ t => ∃ ad2 : Nat → Nat, axh n0 ad0 nz ad2 ∧ va_P (dC, dI) vwCl (CH cy nb ad2 nz Ez) t.heap ∧ va_D (va_A (CH cy nb ad0 n0 E0) sz) (CH cy nb ad2 nz Ez)) (va_A (CH cy nb ad0 n0 E0) sz)) (nz - n0) (sz9 - s0) (va_A (CH cy nb ad0 n0 E0) sz) := by
  refine Met.ofW (cc := cJx4a65c_add_72be8) (maxL := 4) (ret := none) (by decide) rfl ?_
  intro p e s m args below meth c s₁ B hml hv
  obtain ⟨rfl, hsz, hP, hK, hD0, hE⟩ := hv
  have hx := B.exec
  have hb := B.bytes
  have hr := B.returns
  have hts0 := atoms_spec (ws := (wsg yJx4a65c_add_72be8 cJx4a65c_add_72be8 4 none)) B.pre
  have hts : ∀ w ∈ wsL_law, w.before _ s = true := fun w h => hts0 w (List.mem_cons_of_mem _ h)
  have hown : s.vm.findClass RJx4a65c = some m.cls := by have h9 := findClass_of_methodNamed B.named; exact h9
  subst hsz
  have hD := hD0.self (sz := s.heap.size)
  generalize hAe : va_A (CH cy nb ad0 n0 E0) s.heap.size = A at hD hE ⊢
  have hA : ∀ q : Nat, s.heap.size ≤ q → A q := fun q h => by rw [← hAe]; exact Or.inr h
  have hS : va_S A s.heap s.heap [] := va_S.rf
  have hl := lv_entry ([.ref Aa0, .ref Aa1, .ref Aa2, .int a3]) (n := 4) (Nat.le_of_ble_eq_true rfl)
  rw [lg_entry_eq]
  generalize (lg_sl ([.ref Aa0, .ref Aa1, .ref Aa2, .int a3]) ++ List.replicate (4 - (lg_sl ([.ref Aa0, .ref Aa1, .ref Aa2, .int a3])).length) Slot.unset).toArray = ls at hl ⊢
  have hl : lv_has ls 4 [(0, .ref Aa0), (1, .ref Aa1), (2, .ref Aa2), (3, .int a3)] := hl
  generalize hHe : s.heap = H at hP hS ⊢
  have hS : va_S A s.heap H [] := by rw [hHe]; exact hS
  refine my_Q (fun Qn hQ => ?_)
  simp only [H_Jx4a65c_add_72be8] at hF
  have hX : axh n0 ad0 n0 ad0 := axh_refl
  have hN : n0 ≤ n0 := Nat.le_refl _
  have hT : s0 ≤ s0 := Nat.le_refl _
  refine W.widen (k := n0 - n0) (n := s0 - s0) (by omega) (by omega) ?_
  refine lv_iload_n hx hb dJx4a65c_add_72be8_0 rfl (lv_at hl 3 rfl) ?_
  refine lv_aload_n hx hb dJx4a65c_add_72be8_1 rfl (lv_at hl 2 rfl) ?_
  obtain ⟨x1, e2, hF⟩ := mg_o hF
  refine hs_lO hx hb hK hP hC hE hS ha2 e2 dJx4a65c_add_72be8_2 ?_
  obtain ⟨t4, n7, s8, E9, hJ5, hF⟩ := mb_o hF
  have hm := mle hJ5
  have join10 : ∀ (ad6 : Nat → Nat) (H : Heap) (locs : List Loc) (ls : Array Slot), axh n0 ad0 n7 ad6 → rf nb ad6 n7 (a0) (Aa0) → rf nb ad6 n7 (a1) (Aa1) → rf nb ad6 n7 (t4) ((AD nb ad6 t4)) → va_P (dC, dI) vwCl (CH cy nb ad6 n7 E9) H → va_D A (CH cy nb ad6 n7 E9) → va_S A s.heap H locs → lv_has ls 4 [(0, .ref Aa0), (1, .ref Aa1), (2, .ref (AD nb ad6 t4)), (3, .int a3)] → W p l e (headSpec (wsg yJx4a65c_add_72be8 cJx4a65c_add_72be8 4 none) ({ frames := 12, cells := nz - n0, slots := sz9 - s0, locals := 700 })).room s m ([.ref Aa0, .ref Aa1, .ref Aa2, .int a3] : List Value).toArray below meth c H locs (n7 - n0) (s8 - s0) Qn (F0 m 11 ls []) := by
    intro ad6 H locs ls hX hr11 hr12 hr13 hP hD hS hl
    have hC := hm.2.2 hC
    have hN : n0 ≤ n7 := Nat.le_trans hN hm.1
    have hT : s0 ≤ s8 := Nat.le_trans hT hm.2.1
    clear hm
    refine lv_aload_n hx hb dJx4a65c_add_72be8_11 rfl (lv_at hl 2 rfl) ?_
    refine lv_iload_n hx hb dJx4a65c_add_72be8_12 rfl (lv_at hl 3 rfl) ?_
    refine lv_aload_n hx hb dJx4a65c_add_72be8_13 rfl (lv_at hl 1 rfl) ?_
    obtain ⟨_, e15, hF⟩ := mg_o hF
    obtain ⟨E14, e16, hF⟩ := mw_o hF
    obtain ⟨q9, m9, f9, h9, i9, ez9⟩ := wrQ (cy := cy) hC hr13 hr12 e16
    refine va_astqM hx hb hK hP hD hS q9 9 h9 rfl (hs_any9 hK hP hC hE hS hr12 e15) i9 dJx4a65c_add_72be8_14 (fun H locs hP hD hS => ?_)
    clear i9
    rw [ez9] at hP hD
    clear ez9 h9
    have hC := sQ_clo e16 hC
    refine lv_aload_n hx hb dJx4a65c_add_72be8_15 rfl (lv_at hl 0 rfl) ?_
    refine lv_iload_n hx hb dJx4a65c_add_72be8_16 rfl (lv_at hl 3 rfl) ?_
    refine lv_iconst (v := 1) hx hb dJx4a65c_add_72be8_17 (by decide) ?_
    refine lv_iadd hx hb dJx4a65c_add_72be8_18 ?_
    obtain ⟨E17, e18, hF⟩ := mw_o hF
    obtain ⟨q9, fs9, h9, ez9⟩ := wrI (cy := cy) hC hr11 e18
    refine va_put (D := (dC, dI)) (ci := 14) (v := .int (a3 + 1)) (ty := .int) (C := RJx4a65c) (T := TJx4a65c) (N := 3) hx hb hts inlJx4a65c tyJx4a65c tyJx4a65c_ok nmJx4a65c hown hK hP hD hS q9 h9 rfl 2 (by decide) (hts _ mw_169) (fun _ h9 => h9) rfl (by decide +kernel) rfl rfl (Nat.le_of_ble_eq_true rfl) dJx4a65c_add_72be8_19 (fun H locs hP hD hS => ?_)
    rw [ez9] at hP hD
    clear ez9 h9
    have hC := sI_clo e18 hC
    obtain ⟨ht9, hn9, hs9, hE9⟩ := mr_o hF
    subst hn9 hs9 hE9
    have hX9 := hX
    rw [hQ]
    exact W.vret hx hb hr (fun t ht hW => ⟨⟨(), rfl, trivial, _, hX, by rw [ht]; exact hP, hD⟩, hS.F ht⟩) hS.2.2 dJx4a65c_add_72be8_22
  have hK19 := mle1 hF
  have hK20 := mle2 hF
  clear hF hm
  have hF := hJ5
  clear hJ5
  refine lv_icmp_ne (tgt := 11) hx hb dJx4a65c_add_72be8_3 (by decide) (fun c3 => ?_) (fun c3 => ?_)
  · skip
    rw [if_neg c3] at hF
    obtain ⟨ht9, hn9, hs9, hE9⟩ := mr_o hF
    subst ht9 hn9 hs9 hE9
    have hl := lv_sub (l' := [(0, .ref Aa0), (1, .ref Aa1), (2, .ref Aa2), (3, .int a3)]) hl [0, 1, 2, 3] rfl
    have hl : lv_has ls 4 [(0, .ref Aa0), (1, .ref Aa1), (2, .ref (AD nb ad0 (a2))), (3, .int a3)] := by try rw [ha2.2]; exact hl
    exact join10 _ _ _ _ hX ha0 ha1 (rf_self ha2) hP hD hS hl
  · skip
    rw [if_pos c3] at hF
    refine lv_aload_n hx hb dJx4a65c_add_72be8_6 rfl (lv_at hl 0 rfl) ?_
    obtain ⟨fs9, e21, hF⟩ := mg_o hF
    obtain ⟨x22, n24, s25, E26, e23, hF⟩ := mb_o hF
    have hm := mle e23
    have hM1 := mle1 hF
    have hM2 := mle2 hF
    have hm1 := hm.1
    have hm2 := hm.2.1
    have hFc := my_free hD hS hA
    refine va_callr (va_runV (C := RJx4a65c) (As := []) (rest := []) ⟨hx, hb, hml, hown, hts⟩ (h_Jx4a65c_grow_d5877 l dC dI cy nb ad0 n0 s0 E0 hC (a0) Aa0 ha0 H.size x22 n24 s25 E26 e23) (cwV 0 hts (gV mw_849 mw_850 mw_851 mw_12 mw_852) rfl rfl rfl (by decide +kernel) ⟨Nat.le_of_ble_eq_true rfl, Nat.le_of_ble_eq_true rfl⟩) (hl_preV hP hK hD hE hS hFc (va_recv hK (rdO_ hP hC ha0 e21) (ci := 14) (q0 := 0) rfl rfl)) rfl rfl hl.1 rfl (lv_room (Nat.le_of_ble_eq_true rfl)) dJx4a65c_add_72be8_7 ⟨show n0 - n0 + (n24 - n0) ≤ nz - n0 by omega, show s0 - s0 + (s25 - s0) ≤ sz9 - s0 by omega⟩) hS (fun q _ h => hFc q h) hFc (fun u ra t H1 locs ht hvm hw hB hz1 hk1 hS => ?_)
    obtain ⟨ad27, hax, hr28, hP1, hD1⟩ := hB
    rw [ht] at hP1
    have hP := hP1
    have hD := hD1.weaken (fun k q _ h => hFc q.1 h)
    generalize H1 = H at hP hS ⊢
    have ha0 := ha0.mv hC.1 hax
    have ha1 := ha1.mv hC.1 hax
    have ha2 := ha2.mv hC.1 hax
    have hX := hX.trans hax
    have hC := hm.2.2 hC
    have hN : n0 ≤ n24 := Nat.le_trans hN hm1
    have hT : s0 ≤ s25 := Nat.le_trans hT hm2
    refine W.widen (k := n24 - n0) (n := s25 - s0) (by omega) (by omega) ?_
    clear hP1 hD1 hFc hk1 hz1 hvm ht hax hm hm1 hm2 hM1 hM2
    refine my_top (y := .ref (AD nb ad27 x22)) (congrArg Value.ref hr28.2.symm) ?_
    have hr28 := rf_self hr28
    refine lv_astore_n (lv' := [(2, .ref (AD nb ad27 x22)), (0, .ref Aa0), (1, .ref Aa1), (3, .int a3)]) hx hb dJx4a65c_add_72be8_10 rfl hl (by decide) rfl (fun ls hl => ?_)
    obtain ⟨ht9, hn9, hs9, hE9⟩ := mr_o hF
    subst ht9 hn9 hs9 hE9
    have hl := lv_sub (l' := [(0, .ref Aa0), (1, .ref Aa1), (2, .ref (AD nb ad27 x22)), (3, .int a3)]) hl [1, 2, 0, 3] rfl
    have hl : lv_has ls 4 [(0, .ref Aa0), (1, .ref Aa1), (2, .ref (AD nb ad27 (x22))), (3, .int a3)] := by try rw [hr28.2]; exact hl
    exact join10 _ _ _ _ hX ha0 ha1 (rf_self hr28) hP hD hS hl
noncomputable def H_Jx4a65c_add_9ea2d (a0 : Nat) (a1 : Nat) : MH Int32 := mb (rI (a0) 14 0) fun x1 => mb (wI (a0) 14 0 ((x1 + 1))) fun _ => mb (rR (a0) 14 1) fun x5 => mb (rI (a0) 14 2) fun x8 => mb (mg fun n E => fO n E (a0) 14) fun _ => mb (H_Jx4a65c_add_72be8 (a0) (a1) (x5) (x8)) fun _ => mr (1 : Int32)
set_option maxHeartbeats 4000000 in
set_option maxRecDepth 100000 in
theorem h_Jx4a65c_add_9ea2d (l : Launch) (dC : Nat → ClassId) (dI : Nat → Nat → Nat) (cy : Nat → ClassId) (nb : Nat → Nat) (ad0 : Nat → Nat) (n0 s0 : Nat) (E0 : HE) (hC : clo n0 E0) (a0 Aa0 : Nat) (ha0 : rf nb ad0 n0 a0 Aa0) (a1 Aa1 : Nat) (ha1 : rf nb ad0 n0 a1 Aa1) (sz : Nat) (ro : Int32) (nz sz9 : Nat) (Ez : HE) (hF : (H_Jx4a65c_add_9ea2d a0 a1).1 (n0, s0, E0) = some (ro, nz, sz9, Ez)) : Met l yJx4a65c_add_9ea2d (wsg yJx4a65c_add_9ea2d cJx4a65c_add_9ea2d 2 (some .boolean)) ({ frames := 13, cells := nz - n0, slots := sz9 - s0, locals := 800 }) (va_Pc [.ref Aa0, .ref Aa1] (fun U => U.heap.size = sz ∧ va_P (dC, dI) vwCl (CH cy nb ad0 n0 E0) U.heap ∧ va_K (dC, dI) vwCl (tyL cy) U ∧ va_D (fun _ => True) (CH cy nb ad0 n0 E0) ∧ GL nb (va_A (CH cy nb ad0 n0 E0) sz) U)) (va_Qi (fun (r : Int32) (_ : Unit) => r = ro) (fun _ t => ∃ ad2 : Nat → Nat, axh n0 ad0 nz ad2 ∧ va_P (dC, dI) vwCl (CH cy nb ad2 nz Ez) t.heap ∧ va_D (va_A (CH cy nb ad0 n0 E0) sz) (CH cy nb ad2 nz Ez)) (va_A (CH cy nb ad0 n0 E0) sz)) (nz - n0) (sz9 - s0) (va_A (CH cy nb ad0 n0 E0) sz) := by
  refine Met.ofW (cc := cJx4a65c_add_9ea2d) (maxL := 2) (ret := (some .boolean)) (by decide) rfl ?_
  intro p e s m args below meth c s₁ B hml hv
  obtain ⟨rfl, hsz, hP, hK, hD0, hE⟩ := hv
  have hx := B.exec
  have hb := B.bytes
  have hr := B.returns
  have hts0 := atoms_spec (ws := (wsg yJx4a65c_add_9ea2d cJx4a65c_add_9ea2d 2 (some .boolean))) B.pre
  have hts : ∀ w ∈ wsL_law, w.before _ s = true := fun w h => hts0 w (List.mem_cons_of_mem _ h)
  have hown : s.vm.findClass RJx4a65c = some m.cls := by have h9 := findClass_of_methodNamed B.named; exact h9
  subst hsz
  have hD := hD0.self (sz := s.heap.size)
  generalize hAe : va_A (CH cy nb ad0 n0 E0) s.heap.size = A at hD hE ⊢
  have hA : ∀ q : Nat, s.heap.size ≤ q → A q := fun q h => by rw [← hAe]; exact Or.inr h
  have hS : va_S A s.heap s.heap [] := va_S.rf
  have hl := lv_entry ([.ref Aa0, .ref Aa1]) (n := 2) (Nat.le_of_ble_eq_true rfl)
  rw [lg_entry_eq]
  generalize (lg_sl ([.ref Aa0, .ref Aa1]) ++ List.replicate (2 - (lg_sl ([.ref Aa0, .ref Aa1])).length) Slot.unset).toArray = ls at hl ⊢
  have hl : lv_has ls 2 [(0, .ref Aa0), (1, .ref Aa1)] := hl
  generalize hHe : s.heap = H at hP hS ⊢
  have hS : va_S A s.heap H [] := by rw [hHe]; exact hS
  refine my_Q (fun Qn hQ => ?_)
  simp only [H_Jx4a65c_add_9ea2d] at hF
  have hX : axh n0 ad0 n0 ad0 := axh_refl
  have hN : n0 ≤ n0 := Nat.le_refl _
  have hT : s0 ≤ s0 := Nat.le_refl _
  refine W.widen (k := n0 - n0) (n := s0 - s0) (by omega) (by omega) ?_
  refine lv_aload_n hx hb dJx4a65c_add_9ea2d_0 rfl (lv_at hl 0 rfl) ?_
  refine lv_dup hx hb dJx4a65c_add_9ea2d_1 rfl ?_
  obtain ⟨x1, e2, hF⟩ := mg_o hF
  obtain ⟨fs9, h9, g9⟩ := rdI hP hC ha0 e2
  refine va_get (D := (dC, dI)) (ci := 14) (v := .int x1) (C := RJx4a65c) (T := TJx4a65c) (N := 3) hx hb hts inlJx4a65c hown hK h9 0 rfl rfl 0 (by decide) (hts _ mw_844) (u_same (hts _ mw_190)) g9 dJx4a65c_add_9ea2d_2 ?_
  clear h9 g9
  refine lv_iconst (v := 1) hx hb dJx4a65c_add_9ea2d_5 (by decide) ?_
  refine lv_iadd hx hb dJx4a65c_add_9ea2d_6 ?_
  obtain ⟨E3, e4, hF⟩ := mw_o hF
  obtain ⟨q9, fs9, h9, ez9⟩ := wrI (cy := cy) hC ha0 e4
  refine va_put (D := (dC, dI)) (ci := 14) (v := .int (x1 + 1)) (ty := .int) (C := RJx4a65c) (T := TJx4a65c) (N := 3) hx hb hts inlJx4a65c tyJx4a65c tyJx4a65c_ok nmJx4a65c hown hK hP hD hS q9 h9 rfl 0 (by decide) (hts _ mw_844) (u_same (hts _ mw_190)) rfl (by decide +kernel) rfl rfl (Nat.le_of_ble_eq_true rfl) dJx4a65c_add_9ea2d_7 (fun H locs hP hD hS => ?_)
  rw [ez9] at hP hD
  clear ez9 h9
  have hC := sI_clo e4 hC
  refine lv_aload_n hx hb dJx4a65c_add_9ea2d_10 rfl (lv_at hl 0 rfl) ?_
  refine lv_aload_n hx hb dJx4a65c_add_9ea2d_11 rfl (lv_at hl 1 rfl) ?_
  refine lv_aload_n hx hb dJx4a65c_add_9ea2d_12 rfl (lv_at hl 0 rfl) ?_
  obtain ⟨x5, e6, hF⟩ := mg_o hF
  obtain ⟨hr7, fs9, h9, g9⟩ := rdR hP hC ha0 e6
  refine va_get (D := (dC, dI)) (ci := 14) (v := .ref (AD nb ad0 x5)) (C := RJx4a65c) (T := TJx4a65c) (N := 3) hx hb hts inlJx4a65c hown hK h9 0 rfl rfl 1 (by decide) (hts _ mw_116) (fun _ h9 => h9) g9 dJx4a65c_add_9ea2d_13 ?_
  clear h9 g9
  refine lv_aload_n hx hb dJx4a65c_add_9ea2d_16 rfl (lv_at hl 0 rfl) ?_
  obtain ⟨x8, e9, hF⟩ := mg_o hF
  obtain ⟨fs9, h9, g9⟩ := rdI hP hC ha0 e9
  refine va_get (D := (dC, dI)) (ci := 14) (v := .int x8) (C := RJx4a65c) (T := TJx4a65c) (N := 3) hx hb hts inlJx4a65c hown hK h9 0 rfl rfl 2 (by decide) (hts _ mw_169) (fun _ h9 => h9) g9 dJx4a65c_add_9ea2d_17 ?_
  clear h9 g9
  obtain ⟨fs9, e10, hF⟩ := mg_o hF
  obtain ⟨⟨⟩, n12, s13, E14, e11, hF⟩ := mb_o hF
  have hm := mle e11
  have hM1 := mle1 hF
  have hM2 := mle2 hF
  have hm1 := hm.1
  have hm2 := hm.2.1
  have hFc := my_free hD hS hA
  refine va_callv (va_runV (C := RJx4a65c) (As := [.ref Aa1, .ref (AD nb ad0 x5), .int x8]) (rest := []) ⟨hx, hb, hml, hown, hts⟩ (h_Jx4a65c_add_72be8 l dC dI cy nb ad0 n0 s0 E3 hC (a0) Aa0 ha0 (a1) Aa1 ha1 (x5) (AD nb ad0 x5) hr7 (x8) H.size n12 s13 E14 e11) (cwV 3 hts (gV mw_845 mw_846 mw_847 mw_12 mw_848) rfl rfl rfl (by decide +kernel) ⟨Nat.le_of_ble_eq_true rfl, Nat.le_of_ble_eq_true rfl⟩) (hl_preV hP hK hD hE hS hFc (va_recv hK (rdO_ hP hC ha0 e10) (ci := 14) (q0 := 0) rfl rfl)) rfl rfl hl.1 rfl (lv_room (Nat.le_of_ble_eq_true rfl)) dJx4a65c_add_9ea2d_20 ⟨show n0 - n0 + (n12 - n0) ≤ nz - n0 by omega, show s0 - s0 + (s13 - s0) ≤ sz9 - s0 by omega⟩) hS (fun q _ h => hFc q h) hFc (fun u t H1 locs ht hvm hw hB hz1 hk1 hS => ?_)
  obtain ⟨ad15, hax, hP1, hD1⟩ := hB
  rw [ht] at hP1
  have hP := hP1
  have hD := hD1.weaken (fun k q _ h => hFc q.1 h)
  generalize H1 = H at hP hS ⊢
  have ha0 := ha0.mv hC.1 hax
  have ha1 := ha1.mv hC.1 hax
  have hX := hX.trans hax
  have hC := hm.2.2 hC
  have hN : n0 ≤ n12 := Nat.le_trans hN hm1
  have hT : s0 ≤ s13 := Nat.le_trans hT hm2
  refine W.widen (k := n12 - n0) (n := s13 - s0) (by omega) (by omega) ?_
  clear hP1 hD1 hFc hk1 hz1 hvm ht hax hm hm1 hm2 hM1 hM2
  refine lv_iconst (v := 1) hx hb dJx4a65c_add_9ea2d_23 (by decide) ?_
  obtain ⟨ht9, hn9, hs9, hE9⟩ := mr_o hF
  subst hn9 hs9 hE9
  have hX9 := hX
  rw [hQ]
  exact W.zret (v := 1) hx hb hr (by rfl) (fun t ht hW => ⟨⟨1, (), rfl, ht9, _, hX, by rw [ht]; exact hP, hD⟩, hS.F ht⟩) hS.2.2 dJx4a65c_add_9ea2d_24
