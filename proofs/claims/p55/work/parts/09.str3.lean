noncomputable def H_J0_checkIndex_df160 (a1 : Int32) (a2 : Int32) : MH Unit := mb (H_J3_checkIndex_8e157 (a1) (a2)) fun x3 => mr ()
set_option maxHeartbeats 4000000 in
set_option maxRecDepth 100000 in
theorem h_J0_checkIndex_df160 (l : Launch) (dC : Nat → ClassId) (dI : Nat → Nat → Nat) (cy : Nat → ClassId) (nb : Nat → Nat) (ad0 : Nat → Nat) (n0 s0 : Nat) (E0 : HE) (hC : clo n0 E0) (a1 : Int32) (a2 : Int32) (sz : Nat) (nz sz9 : Nat) (Ez : HE) (hF : (H_J0_checkIndex_df160 a1 a2).1 (n0, s0, E0) = some ((), nz, sz9, Ez)) : Met l yJ0_checkIndex_df160 (wsg yJ0_checkIndex_df160 cJ0_checkIndex_df160 2 none) ({ frames := 9, cells := nz - n0, slots := sz9 - s0, locals := 400 }) (va_Pc [.int a1, .int a2] (fun U => U.heap.size = sz ∧ va_P (dC, dI) vwCl (CH cy nb ad0 n0 E0) U.heap ∧ va_K (dC, dI) vwCl (tyL cy) U ∧ va_D (fun _ => True) (CH cy nb ad0 n0 E0) ∧ GL nb (va_A (CH cy nb ad0 n0 E0) sz) U)) (va_Qv (fun (_ : Unit) => True) (fun _ t => ∃ ad2 : Nat → Nat, axh n0 ad0 nz ad2 ∧ va_P (dC, dI) vwCl (CH cy nb ad2 nz Ez) t.heap ∧ va_D (va_A (CH cy nb ad0 n0 E0) sz) (CH cy nb ad2 nz Ez)) (va_A (CH cy nb ad0 n0 E0) sz)) (nz - n0) (sz9 - s0) (va_A (CH cy nb ad0 n0 E0) sz) := by
  refine Met.ofW (cc := cJ0_checkIndex_df160) (maxL := 2) (ret := none) (by decide) rfl ?_
  intro p e s m args below meth c s₁ B hml hv
  obtain ⟨rfl, hsz, hP, hK, hD0, hE⟩ := hv
  have hx := B.exec
  have hb := B.bytes
  have hr := B.returns
  have hts0 := atoms_spec (ws := (wsg yJ0_checkIndex_df160 cJ0_checkIndex_df160 2 none)) B.pre
  have hts : ∀ w ∈ wsL_law, w.before _ s = true := fun w h => hts0 w (List.mem_cons_of_mem _ h)
  have hown : s.vm.findClass RJ0 = some m.cls := by have h9 := findClass_of_methodNamed B.named; exact h9
  subst hsz
  have hD := hD0.self (sz := s.heap.size)
  generalize hAe : va_A (CH cy nb ad0 n0 E0) s.heap.size = A at hD hE ⊢
  have hA : ∀ q : Nat, s.heap.size ≤ q → A q := fun q h => by rw [← hAe]; exact Or.inr h
  have hS : va_S A s.heap s.heap [] := va_S.rf
  have hl := lv_entry ([.int a1, .int a2]) (n := 2) (Nat.le_of_ble_eq_true rfl)
  rw [lg_entry_eq]
  generalize (lg_sl ([.int a1, .int a2]) ++ List.replicate (2 - (lg_sl ([.int a1, .int a2])).length) Slot.unset).toArray = ls at hl ⊢
  have hl : lv_has ls 2 [(0, .int a1), (1, .int a2)] := hl
  generalize hHe : s.heap = H at hP hS ⊢
  have hS : va_S A s.heap H [] := by rw [hHe]; exact hS
  refine my_Q (fun Qn hQ => ?_)
  simp only [H_J0_checkIndex_df160] at hF
  have hX : axh n0 ad0 n0 ad0 := axh_refl
  have hN : n0 ≤ n0 := Nat.le_refl _
  have hT : s0 ≤ s0 := Nat.le_refl _
  refine W.widen (k := n0 - n0) (n := s0 - s0) (by omega) (by omega) ?_
  refine lv_iload_n hx hb dJ0_checkIndex_df160_0 rfl (lv_at hl 0 rfl) ?_
  refine lv_iload_n hx hb dJ0_checkIndex_df160_1 rfl (lv_at hl 1 rfl) ?_
  obtain ⟨v1, hv2, hz9⟩ := zq_v hE.ge.fm
  refine va_gets (C := "jdk/internal/util/Preconditions") (n := "SIOOBE_FORMATTER") (d := "Ljava/util/function/BiFunction;") (ref := "jdk/internal/util/Preconditions") (v := v1) hx hb hz9 hS hown (hts _ mw_687) (fun _ h9 => h9) dJ0_checkIndex_df160_2 ?_
  obtain ⟨x3, n5, s6, E7, e4, hF⟩ := mb_o hF
  have hm := mle e4
  have hM1 := mle1 hF
  have hM2 := mle2 hF
  have hm1 := hm.1
  have hm2 := hm.2.1
  have hFc := my_free hD hS hA
  refine va_calli (va_runS (As := [.int a1, .int a2, v1]) (rest := []) ⟨hx, hb, hml, hown, hts⟩ (h_J3_checkIndex_8e157 l dC dI cy nb ad0 n0 s0 E0 hC (a1) (a2) v1 hv2 H.size x3 n5 s6 E7 e4) (va_cwS 3 hts (gS mw_779 mw_243 mw_244 mw_245) rfl rfl rfl (by decide +kernel) ⟨Nat.le_of_ble_eq_true rfl, Nat.le_of_ble_eq_true rfl⟩) (hl_preS hP hK hD hE hS hFc) rfl rfl hl.1 rfl (lv_room (Nat.le_of_ble_eq_true rfl)) dJ0_checkIndex_df160_5 ⟨show n0 - n0 + (n5 - n0) ≤ nz - n0 by omega, show s0 - s0 + (s6 - s0) ≤ sz9 - s0 by omega⟩) hS (fun q _ h => hFc q h) hFc (fun r9 u t H1 locs ht hvm hw hB hz1 hk1 hS => ?_)
  obtain ⟨ad8, hax, hP1, hD1⟩ := hB
  rw [ht] at hP1
  have hP := hP1
  have hD := hD1.weaken (fun k q _ h => hFc q.1 h)
  generalize H1 = H at hP hS ⊢
  have hX := hX.trans hax
  have hC := hm.2.2 hC
  have hN : n0 ≤ n5 := Nat.le_trans hN hm1
  have hT : s0 ≤ s6 := Nat.le_trans hT hm2
  refine W.widen (k := n5 - n0) (n := s6 - s0) (by omega) (by omega) ?_
  clear hP1 hD1 hFc hk1 hz1 hvm ht hax hm hm1 hm2 hM1 hM2
  obtain rfl := hw.symm
  refine lv_pop hx hb dJ0_checkIndex_df160_8 rfl ?_
  obtain ⟨ht9, hn9, hs9, hE9⟩ := mr_o hF
  subst hn9 hs9 hE9
  have hX9 := hX
  rw [hQ]
  exact W.vret hx hb hr (fun t ht hW => ⟨⟨(), rfl, trivial, _, hX, by rw [ht]; exact hP, hD⟩, hS.F ht⟩) hS.2.2 dJ0_checkIndex_df160_9
noncomputable def H_J1_charAt_3b067 (a1 : Nat) (a2 : Int32) : MH Int32 := mb (mg fun n E => lB n E (a1)) fun x1 => mb (H_J0_checkIndex_df160 (a2) (x1)) fun _ => mb (mg fun n E => gB n E (a1) (a2)) fun x8 => mb (mp (nc (((x8 &&& 255).toUInt32 % 65536).toInt32))) fun x10 => mr x10
set_option maxHeartbeats 4000000 in
set_option maxRecDepth 100000 in
theorem h_J1_charAt_3b067 (l : Launch) (dC : Nat → ClassId) (dI : Nat → Nat → Nat) (cy : Nat → ClassId) (nb : Nat → Nat) (ad0 : Nat → Nat) (n0 s0 : Nat) (E0 : HE) (hC : clo n0 E0) (a1 Aa1 : Nat) (ha1 : rf nb ad0 n0 a1 Aa1) (a2 : Int32) (sz : Nat) (ro : Int32) (nz sz9 : Nat) (Ez : HE) (hF : (H_J1_charAt_3b067 a1 a2).1 (n0, s0, E0) = some (ro, nz, sz9, Ez)) : Met l yJ1_charAt_3b067 (wsg yJ1_charAt_3b067 cJ1_charAt_3b067 2 (some .char)) ({ frames := 10, cells := nz - n0, slots := sz9 - s0, locals := 500 }) (va_Pc [.ref Aa1, .int a2] (fun U => U.heap.size = sz ∧ va_P (dC, dI) vwCl (CH cy nb ad0 n0 E0) U.heap ∧ va_K (dC, dI) vwCl (tyL cy) U ∧ va_D (fun _ => True) (CH cy nb ad0 n0 E0) ∧ GL nb (va_A (CH cy nb ad0 n0 E0) sz) U)) (va_Qi (fun (r : Int32) (_ : Unit) => r = ro) (fun _ t => ∃ ad2 : Nat → Nat, axh n0 ad0 nz ad2 ∧ va_P (dC, dI) vwCl (CH cy nb ad2 nz Ez) t.heap ∧ va_D (va_A (CH cy nb ad0 n0 E0) sz) (CH cy nb ad2 nz Ez)) (va_A (CH cy nb ad0 n0 E0) sz)) (nz - n0) (sz9 - s0) (va_A (CH cy nb ad0 n0 E0) sz) := by
  refine Met.ofW (cc := cJ1_charAt_3b067) (maxL := 2) (ret := (some .char)) (by decide) rfl ?_
  intro p e s m args below meth c s₁ B hml hv
  obtain ⟨rfl, hsz, hP, hK, hD0, hE⟩ := hv
  have hx := B.exec
  have hb := B.bytes
  have hr := B.returns
  have hts0 := atoms_spec (ws := (wsg yJ1_charAt_3b067 cJ1_charAt_3b067 2 (some .char))) B.pre
  have hts : ∀ w ∈ wsL_law, w.before _ s = true := fun w h => hts0 w (List.mem_cons_of_mem _ h)
  have hown : s.vm.findClass RJ1 = some m.cls := by have h9 := findClass_of_methodNamed B.named; exact h9
  subst hsz
  have hD := hD0.self (sz := s.heap.size)
  generalize hAe : va_A (CH cy nb ad0 n0 E0) s.heap.size = A at hD hE ⊢
  have hA : ∀ q : Nat, s.heap.size ≤ q → A q := fun q h => by rw [← hAe]; exact Or.inr h
  have hS : va_S A s.heap s.heap [] := va_S.rf
  have hl := lv_entry ([.ref Aa1, .int a2]) (n := 2) (Nat.le_of_ble_eq_true rfl)
  rw [lg_entry_eq]
  generalize (lg_sl ([.ref Aa1, .int a2]) ++ List.replicate (2 - (lg_sl ([.ref Aa1, .int a2])).length) Slot.unset).toArray = ls at hl ⊢
  have hl : lv_has ls 2 [(0, .ref Aa1), (1, .int a2)] := hl
  generalize hHe : s.heap = H at hP hS ⊢
  have hS : va_S A s.heap H [] := by rw [hHe]; exact hS
  refine my_Q (fun Qn hQ => ?_)
  simp only [H_J1_charAt_3b067] at hF
  have hX : axh n0 ad0 n0 ad0 := axh_refl
  have hN : n0 ≤ n0 := Nat.le_refl _
  have hT : s0 ≤ s0 := Nat.le_refl _
  refine W.widen (k := n0 - n0) (n := s0 - s0) (by omega) (by omega) ?_
  refine lv_iload_n hx hb dJ1_charAt_3b067_0 rfl (lv_at hl 1 rfl) ?_
  refine lv_aload_n hx hb dJ1_charAt_3b067_1 rfl (lv_at hl 0 rfl) ?_
  obtain ⟨x1, e2, hF⟩ := mg_o hF
  refine hs_lB hx hb hK hP hC hE hS ha1 e2 dJ1_charAt_3b067_2 ?_
  obtain ⟨⟨⟩, n4, s5, E6, e3, hF⟩ := mb_o hF
  have hm := mle e3
  have hM1 := mle1 hF
  have hM2 := mle2 hF
  have hm1 := hm.1
  have hm2 := hm.2.1
  have hFc := my_free hD hS hA
  refine va_callv (va_runS (As := [.int a2, .int x1]) (rest := []) ⟨hx, hb, hml, hown, hts⟩ (h_J0_checkIndex_df160 l dC dI cy nb ad0 n0 s0 E0 hC (a2) (x1) H.size n4 s5 E6 e3) (va_cwS 2 hts (gS mw_950 mw_777 mw_277 mw_778) rfl rfl rfl (by decide +kernel) ⟨Nat.le_of_ble_eq_true rfl, Nat.le_of_ble_eq_true rfl⟩) (hl_preS hP hK hD hE hS hFc) rfl rfl hl.1 rfl (lv_room (Nat.le_of_ble_eq_true rfl)) dJ1_charAt_3b067_3 ⟨show n0 - n0 + (n4 - n0) ≤ nz - n0 by omega, show s0 - s0 + (s5 - s0) ≤ sz9 - s0 by omega⟩) hS (fun q _ h => hFc q h) hFc (fun u t H1 locs ht hvm hw hB hz1 hk1 hS => ?_)
  obtain ⟨ad7, hax, hP1, hD1⟩ := hB
  rw [ht] at hP1
  have hP := hP1
  have hD := hD1.weaken (fun k q _ h => hFc q.1 h)
  generalize H1 = H at hP hS ⊢
  have ha1 := ha1.mv hC.1 hax
  have hX := hX.trans hax
  have hC := hm.2.2 hC
  have hN : n0 ≤ n4 := Nat.le_trans hN hm1
  have hT : s0 ≤ s5 := Nat.le_trans hT hm2
  refine W.widen (k := n4 - n0) (n := s5 - s0) (by omega) (by omega) ?_
  clear hP1 hD1 hFc hk1 hz1 hvm ht hax hm hm1 hm2 hM1 hM2
  refine lv_aload_n hx hb dJ1_charAt_3b067_6 rfl (lv_at hl 0 rfl) ?_
  refine lv_iload_n hx hb dJ1_charAt_3b067_7 rfl (lv_at hl 1 rfl) ?_
  obtain ⟨x8, e9, hF⟩ := mg_o hF
  refine hs_gB hx hb hK hP hC hE hS ha1 e9 dJ1_charAt_3b067_8 ?_
  refine lv_sipush (v := 255) hx hb dJ1_charAt_3b067_9 (by decide) ?_
  refine lv_iand hx hb dJ1_charAt_3b067_12 ?_
  refine lv_i2c (v := ((x8 &&& 255).toUInt32 % 65536).toInt32) hx hb dJ1_charAt_3b067_13 rfl ?_
  obtain ⟨x10, e11, hF⟩ := mp_o hF
  refine my_topi (y := x10) (nc_e e11) ?_
  obtain ⟨ht9, hn9, hs9, hE9⟩ := mr_o hF
  subst hn9 hs9 hE9
  have hX9 := hX
  rw [hQ]
  exact W.zret (v := x10) hx hb hr (nc_n e11) (fun t ht hW => ⟨⟨x10, (), rfl, ht9, _, hX, by rw [ht]; exact hP, hD⟩, hS.F ht⟩) hS.2.2 dJ1_charAt_3b067_14
noncomputable def H_J0_charAt_5068e (a0 : Nat) (a1 : Int32) : MH Int32 := mb (mg fun n E => sOk n E (a0)) fun _ => mb (H_J0_isLatin1_aae02 (a0)) fun x2 => if x2 = 0 then (mb (mg fun n E => sVl n E (a0)) fun x9 => m0) else (mb (mg fun n E => sVl n E (a0)) fun x12 => mb (H_J1_charAt_3b067 (x12) (a1)) fun x15 => mb (mp (nc x15)) fun x21 => mr x21)
set_option maxHeartbeats 4000000 in
set_option maxRecDepth 100000 in
theorem h_J0_charAt_5068e (l : Launch) (dC : Nat → ClassId) (dI : Nat → Nat → Nat) (cy : Nat → ClassId) (nb : Nat → Nat) (ad0 : Nat → Nat) (n0 s0 : Nat) (E0 : HE) (hC : clo n0 E0) (a0 Aa0 : Nat) (ha0 : rf nb ad0 n0 a0 Aa0) (a1 : Int32) (sz : Nat) (ro : Int32) (nz sz9 : Nat) (Ez : HE) (hF : (H_J0_charAt_5068e a0 a1).1 (n0, s0, E0) = some (ro, nz, sz9, Ez)) : Met l yJ0_charAt_5068e (wsg yJ0_charAt_5068e cJ0_charAt_5068e 2 (some .char)) ({ frames := 11, cells := nz - n0, slots := sz9 - s0, locals := 600 }) (va_Pc [.ref Aa0, .int a1] (fun U => U.heap.size = sz ∧ va_P (dC, dI) vwCl (CH cy nb ad0 n0 E0) U.heap ∧ va_K (dC, dI) vwCl (tyL cy) U ∧ va_D (fun _ => True) (CH cy nb ad0 n0 E0) ∧ GL nb (va_A (CH cy nb ad0 n0 E0) sz) U)) (va_Qi (fun (r : Int32) (_ : Unit) => r = ro) (fun _ t => ∃ ad2 : Nat → Nat, axh n0 ad0 nz ad2 ∧ va_P (dC, dI) vwCl (CH cy nb ad2 nz Ez) t.heap ∧ va_D (va_A (CH cy nb ad0 n0 E0) sz) (CH cy nb ad2 nz Ez)) (va_A (CH cy nb ad0 n0 E0) sz)) (nz - n0) (sz9 - s0) (va_A (CH cy nb ad0 n0 E0) sz) := by
  refine Met.ofW (cc := cJ0_charAt_5068e) (maxL := 2) (ret := (some .char)) (by decide) rfl ?_
  intro p e s m args below meth c s₁ B hml hv
  obtain ⟨rfl, hsz, hP, hK, hD0, hE⟩ := hv
  have hx := B.exec
  have hb := B.bytes
  have hr := B.returns
  have hts0 := atoms_spec (ws := (wsg yJ0_charAt_5068e cJ0_charAt_5068e 2 (some .char))) B.pre
  have hts : ∀ w ∈ wsL_law, w.before _ s = true := fun w h => hts0 w (List.mem_cons_of_mem _ h)
  have hown : s.vm.findClass RJ0 = some m.cls := by have h9 := findClass_of_methodNamed B.named; exact h9
  subst hsz
  have hD := hD0.self (sz := s.heap.size)
  generalize hAe : va_A (CH cy nb ad0 n0 E0) s.heap.size = A at hD hE ⊢
  have hA : ∀ q : Nat, s.heap.size ≤ q → A q := fun q h => by rw [← hAe]; exact Or.inr h
  have hS : va_S A s.heap s.heap [] := va_S.rf
  have hl := lv_entry ([.ref Aa0, .int a1]) (n := 2) (Nat.le_of_ble_eq_true rfl)
  rw [lg_entry_eq]
  generalize (lg_sl ([.ref Aa0, .int a1]) ++ List.replicate (2 - (lg_sl ([.ref Aa0, .int a1])).length) Slot.unset).toArray = ls at hl ⊢
  have hl : lv_has ls 2 [(0, .ref Aa0), (1, .int a1)] := hl
  generalize hHe : s.heap = H at hP hS ⊢
  have hS : va_S A s.heap H [] := by rw [hHe]; exact hS
  refine my_Q (fun Qn hQ => ?_)
  simp only [H_J0_charAt_5068e] at hF
  have hX : axh n0 ad0 n0 ad0 := axh_refl
  have hN : n0 ≤ n0 := Nat.le_refl _
  have hT : s0 ≤ s0 := Nat.le_refl _
  refine W.widen (k := n0 - n0) (n := s0 - s0) (by omega) (by omega) ?_
  refine lv_aload_n hx hb dJ0_charAt_5068e_0 rfl (lv_at hl 0 rfl) ?_
  obtain ⟨_, e1, hF⟩ := mg_o hF
  obtain ⟨x2, n4, s5, E6, e3, hF⟩ := mb_o hF
  have hm := mle e3
  have hM1 := mle1 hF
  have hM2 := mle2 hF
  have hm1 := hm.1
  have hm2 := hm.2.1
  have hFc := my_free hD hS hA
  refine va_calli (va_runV (C := RJ0) (As := []) (rest := []) ⟨hx, hb, hml, hown, hts⟩ (h_J0_isLatin1_aae02 l dC dI cy nb ad0 n0 s0 E0 hC (a0) Aa0 ha0 H.size x2 n4 s5 E6 e3) (cwV 0 hts (gV mw_946 mw_935 mw_936 mw_277 mw_937) rfl rfl rfl (by decide +kernel) ⟨Nat.le_of_ble_eq_true rfl, Nat.le_of_ble_eq_true rfl⟩) (hl_preV hP hK hD hE hS hFc (hs_srecv hK hP hC hE hS ha0 e1)) rfl rfl hl.1 rfl (lv_room (Nat.le_of_ble_eq_true rfl)) dJ0_charAt_5068e_1 ⟨show n0 - n0 + (n4 - n0) ≤ nz - n0 by omega, show s0 - s0 + (s5 - s0) ≤ sz9 - s0 by omega⟩) hS (fun q _ h => hFc q h) hFc (fun r9 u t H1 locs ht hvm hw hB hz1 hk1 hS => ?_)
  obtain ⟨ad7, hax, hP1, hD1⟩ := hB
  rw [ht] at hP1
  have hP := hP1
  have hD := hD1.weaken (fun k q _ h => hFc q.1 h)
  generalize H1 = H at hP hS ⊢
  have ha0 := ha0.mv hC.1 hax
  have hX := hX.trans hax
  have hC := hm.2.2 hC
  have hN : n0 ≤ n4 := Nat.le_trans hN hm1
  have hT : s0 ≤ s5 := Nat.le_trans hT hm2
  refine W.widen (k := n4 - n0) (n := s5 - s0) (by omega) (by omega) ?_
  clear hP1 hD1 hFc hk1 hz1 hvm ht hax hm hm1 hm2 hM1 hM2
  obtain rfl := hw.symm
  refine lv_if_eq (tgt := 16) hx hb dJ0_charAt_5068e_4 (by decide) (fun c8 => ?_) (fun c8 => ?_)
  · skip
    rw [if_pos c8] at hF
    refine lv_aload_n hx hb dJ0_charAt_5068e_16 rfl (lv_at hl 0 rfl) ?_
    obtain ⟨x9, e10, hF⟩ := mg_o hF
    refine hs_sval hx hb hts inlJ0 hown hK hP hC hE hS ha0 e10 (hts _ mw_279) dJ0_charAt_5068e_17 ?_
    have hr11 := sVl_r hC e10 (nb := nb) (ad := ad7)
    refine lv_iload_n hx hb dJ0_charAt_5068e_20 rfl (lv_at hl 1 rfl) ?_
    exact (m0_o hF).elim
  · skip
    rw [if_neg c8] at hF
    refine lv_aload_n hx hb dJ0_charAt_5068e_7 rfl (lv_at hl 0 rfl) ?_
    obtain ⟨x12, e13, hF⟩ := mg_o hF
    refine hs_sval hx hb hts inlJ0 hown hK hP hC hE hS ha0 e13 (hts _ mw_279) dJ0_charAt_5068e_8 ?_
    have hr14 := sVl_r hC e13 (nb := nb) (ad := ad7)
    refine lv_iload_n hx hb dJ0_charAt_5068e_11 rfl (lv_at hl 1 rfl) ?_
    obtain ⟨x15, n17, s18, E19, e16, hF⟩ := mb_o hF
    have hm := mle e16
    have hM1 := mle1 hF
    have hM2 := mle2 hF
    have hm1 := hm.1
    have hm2 := hm.2.1
    have hFc := my_free hD hS hA
    refine va_calli (va_runS (As := [.ref (AD nb ad7 x12), .int a1]) (rest := []) ⟨hx, hb, hml, hown, hts⟩ (h_J1_charAt_3b067 l dC dI cy nb ad7 n4 s5 E6 hC (x12) (AD nb ad7 x12) hr14 (a1) H.size x15 n17 s18 E19 e16) (va_cwS 2 hts (gS mw_947 mw_948 mw_715 mw_949) rfl rfl rfl (by decide +kernel) ⟨Nat.le_of_ble_eq_true rfl, Nat.le_of_ble_eq_true rfl⟩) (hl_preS hP hK hD hE hS hFc) rfl rfl hl.1 rfl (lv_room (Nat.le_of_ble_eq_true rfl)) dJ0_charAt_5068e_12 ⟨show n4 - n0 + (n17 - n4) ≤ nz - n0 by omega, show s5 - s0 + (s18 - s5) ≤ sz9 - s0 by omega⟩) hS (fun q _ h => hFc q h) hFc (fun r9 u t H1 locs ht hvm hw hB hz1 hk1 hS => ?_)
    obtain ⟨ad20, hax, hP1, hD1⟩ := hB
    rw [ht] at hP1
    have hP := hP1
    have hD := hD1.weaken (fun k q _ h => hFc q.1 h)
    generalize H1 = H at hP hS ⊢
    have ha0 := ha0.mv hC.1 hax
    have hX := hX.trans hax
    have hC := hm.2.2 hC
    have hN : n0 ≤ n17 := Nat.le_trans hN hm1
    have hT : s0 ≤ s18 := Nat.le_trans hT hm2
    refine W.widen (k := n17 - n0) (n := s18 - s0) (by omega) (by omega) ?_
    clear hP1 hD1 hFc hk1 hz1 hvm ht hax hm hm1 hm2 hM1 hM2
    obtain rfl := hw.symm
    obtain ⟨x21, e22, hF⟩ := mp_o hF
    refine my_topi (y := x21) (nc_e e22) ?_
    obtain ⟨ht9, hn9, hs9, hE9⟩ := mr_o hF
    subst hn9 hs9 hE9
    have hX9 := hX
    rw [hQ]
    exact W.zret (v := x21) hx hb hr (nc_n e22) (fun t ht hW => ⟨⟨x21, (), rfl, ht9, _, hX, by rw [ht]; exact hP, hD⟩, hS.F ht⟩) hS.2.2 dJ0_charAt_5068e_15
noncomputable def H_J0_init_031fb (a0 : Nat) (a1 : Nat) (a2 : Int32) : MH Unit := mb (wR (a0) 0 0 (a1)) fun _ => mb (mp (nbt a2)) fun x4 => mb (wI (a0) 0 1 (x4)) fun _ => mr ()
set_option maxHeartbeats 4000000 in
set_option maxRecDepth 100000 in
theorem h_J0_init_031fb (l : Launch) (dC : Nat → ClassId) (dI : Nat → Nat → Nat) (cy : Nat → ClassId) (nb : Nat → Nat) (ad0 : Nat → Nat) (n0 s0 : Nat) (E0 : HE) (hC : clo n0 E0) (a0 Aa0 : Nat) (ha0 : rf nb ad0 n0 a0 Aa0) (a1 Aa1 : Nat) (ha1 : rf nb ad0 n0 a1 Aa1) (a2 : Int32) (sz : Nat) (nz sz9 : Nat) (Ez : HE) (hF : (H_J0_init_031fb a0 a1 a2).1 (n0, s0, E0) = some ((), nz, sz9, Ez)) : Met l yJ0_init_031fb (wsg yJ0_init_031fb cJ0_init_031fb 3 none) ({ frames := 8, cells := nz - n0, slots := sz9 - s0, locals := 300 }) (va_Pc [.ref Aa0, .ref Aa1, .int a2] (fun U => U.heap.size = sz ∧ va_P (dC, dI) vwCl (CH cy nb ad0 n0 E0) U.heap ∧ va_K (dC, dI) vwCl (tyL cy) U ∧ va_D (fun _ => True) (CH cy nb ad0 n0 E0) ∧ GL nb (va_A (CH cy nb ad0 n0 E0) sz) U)) (va_Qv (fun (_ : Unit) => True) (fun _ t => ∃ ad2 : Nat → Nat, axh n0 ad0 nz ad2 ∧ va_P (dC, dI) vwCl (CH cy nb ad2 nz Ez) t.heap ∧ va_D (va_A (CH cy nb ad0 n0 E0) sz) (CH cy nb ad2 nz Ez)) (va_A (CH cy nb ad0 n0 E0) sz)) (nz - n0) (sz9 - s0) (va_A (CH cy nb ad0 n0 E0) sz) := by
  refine Met.ofW (cc := cJ0_init_031fb) (maxL := 3) (ret := none) (by decide) rfl ?_
  intro p e s m args below meth c s₁ B hml hv
  obtain ⟨rfl, hsz, hP, hK, hD0, hE⟩ := hv
  have hx := B.exec
  have hb := B.bytes
  have hr := B.returns
  have hts0 := atoms_spec (ws := (wsg yJ0_init_031fb cJ0_init_031fb 3 none)) B.pre
  have hts : ∀ w ∈ wsL_law, w.before _ s = true := fun w h => hts0 w (List.mem_cons_of_mem _ h)
  have hown : s.vm.findClass RJ0 = some m.cls := by have h9 := findClass_of_methodNamed B.named; exact h9
  have hnm : meth.name = "<init>" := by have h9 := B.name; exact h9
  subst hsz
  have hD := hD0.self (sz := s.heap.size)
  generalize hAe : va_A (CH cy nb ad0 n0 E0) s.heap.size = A at hD hE ⊢
  have hA : ∀ q : Nat, s.heap.size ≤ q → A q := fun q h => by rw [← hAe]; exact Or.inr h
  have hS : va_S A s.heap s.heap [] := va_S.rf
  have hl := lv_entry ([.ref Aa0, .ref Aa1, .int a2]) (n := 3) (Nat.le_of_ble_eq_true rfl)
  rw [lg_entry_eq]
  generalize (lg_sl ([.ref Aa0, .ref Aa1, .int a2]) ++ List.replicate (3 - (lg_sl ([.ref Aa0, .ref Aa1, .int a2])).length) Slot.unset).toArray = ls at hl ⊢
  have hl : lv_has ls 3 [(0, .ref Aa0), (1, .ref Aa1), (2, .int a2)] := hl
  generalize hHe : s.heap = H at hP hS ⊢
  have hS : va_S A s.heap H [] := by rw [hHe]; exact hS
  refine my_Q (fun Qn hQ => ?_)
  simp only [H_J0_init_031fb] at hF
  have hX : axh n0 ad0 n0 ad0 := axh_refl
  have hN : n0 ≤ n0 := Nat.le_refl _
  have hT : s0 ≤ s0 := Nat.le_refl _
  refine W.widen (k := n0 - n0) (n := s0 - s0) (by omega) (by omega) ?_
  refine lv_aload_n hx hb dJ0_init_031fb_0 rfl (lv_at hl 0 rfl) ?_
  refine W.objInit hx hb hown (hts _ mw_792) (hts _ mw_18) (hts _ mw_19) rfl (by rw [hml]; exact hl.1) rfl dJ0_init_031fb_1 (Nat.le_of_ble_eq_true rfl) (Nat.le_of_ble_eq_true rfl) ?_
  refine W.eq (g2 := F0 m 4 ls []) rfl ?_
  refine lv_aload_n hx hb dJ0_init_031fb_4 rfl (lv_at hl 0 rfl) ?_
  refine lv_aload_n hx hb dJ0_init_031fb_5 rfl (lv_at hl 1 rfl) ?_
  obtain ⟨E1, e2, hF⟩ := mw_o hF
  obtain ⟨q9, fs9, h9, ez9⟩ := wrR (cy := cy) hC ha0 ha1 e2
  refine va_putF (D := (dC, dI)) (ci := 0) (v := .ref Aa1) (ty := (.array .byte)) (C := RJ0) (T := TJ0) (N := 4) hx hb hts inlJ0 tyJ0 tyJ0_ok nmJ0 hown hK hP hD hS q9 h9 rfl 0 (by decide) (hts _ mw_279) (fun _ h9 => h9) rfl hnm rfl (by decide +kernel) rfl rfl (Nat.le_of_ble_eq_true rfl) dJ0_init_031fb_6 (fun H locs hP hD hS => ?_)
  rw [ez9] at hP hD
  clear ez9 h9
  have hC := sR_clo e2 hC
  refine lv_aload_n hx hb dJ0_init_031fb_9 rfl (lv_at hl 0 rfl) ?_
  refine lv_iload_n hx hb dJ0_init_031fb_10 rfl (lv_at hl 2 rfl) ?_
  obtain ⟨x4, e5, hF⟩ := mp_o hF
  refine my_topi (y := x4) (nbt_e e5) ?_
  obtain ⟨E3, e6, hF⟩ := mw_o hF
  obtain ⟨q9, fs9, h9, ez9⟩ := wrI (cy := cy) hC ha0 e6
  refine va_putF (D := (dC, dI)) (ci := 0) (v := .int x4) (ty := .byte) (C := RJ0) (T := TJ0) (N := 4) hx hb hts inlJ0 tyJ0 tyJ0_ok nmJ0 hown hK hP hD hS q9 h9 rfl 1 (by decide) (hts _ mw_285) (fun _ h9 => h9) rfl hnm rfl (by decide +kernel) (nbt_n e5) (nbt_f e5) (Nat.le_of_ble_eq_true rfl) dJ0_init_031fb_11 (fun H locs hP hD hS => ?_)
  rw [ez9] at hP hD
  clear ez9 h9
  have hC := sI_clo e6 hC
  obtain ⟨ht9, hn9, hs9, hE9⟩ := mr_o hF
  subst hn9 hs9 hE9
  have hX9 := hX
  rw [hQ]
  exact W.vret hx hb hr (fun t ht hW => ⟨⟨(), rfl, trivial, _, hX, by rw [ht]; exact hP, hD⟩, hS.F ht⟩) hS.2.2 dJ0_init_031fb_14
noncomputable def H_J1_newString_b4f7a (a1 : Nat) (a2 : Int32) (a3 : Int32) : MH Nat := if a3 = 0 then (m0) else (mb (mn 4 (.inr (0, [.null, .int 0, .int 0, .int 0])) nok_J0) fun x5 => mb (H_J7_copyOfRange_39247 (a1) (a2) ((a2 + a3))) fun x9 => mb (H_J0_init_031fb (x5) (x9) (0)) fun _ => mr x5)
set_option maxHeartbeats 4000000 in
set_option maxRecDepth 100000 in
theorem h_J1_newString_b4f7a (l : Launch) (dC : Nat → ClassId) (dI : Nat → Nat → Nat) (cy : Nat → ClassId) (nb : Nat → Nat) (ad0 : Nat → Nat) (n0 s0 : Nat) (E0 : HE) (hC : clo n0 E0) (a1 Aa1 : Nat) (ha1 : rf nb ad0 n0 a1 Aa1) (a2 : Int32) (a3 : Int32) (sz : Nat) (ro : Nat) (nz sz9 : Nat) (Ez : HE) (hF : (H_J1_newString_b4f7a a1 a2 a3).1 (n0, s0, E0) = some (ro, nz, sz9, Ez)) : Met l yJ1_newString_b4f7a (wsg yJ1_newString_b4f7a cJ1_newString_b4f7a 3 (some (.object "java/lang/String"))) ({ frames := 11, cells := nz - n0, slots := sz9 - s0, locals := 600 }) (va_Pc [.ref Aa1, .int a2, .int a3] (fun U => U.heap.size = sz ∧ va_P (dC, dI) vwCl (CH cy nb ad0 n0 E0) U.heap ∧ va_K (dC, dI) vwCl (tyL cy) U ∧ va_D (fun _ => True) (CH cy nb ad0 n0 E0) ∧ GL nb (va_A (CH cy nb ad0 n0 E0) sz) U)) (va_Qr (fun (_ : Unit) => True) (fun _ ra t => ∃ ad2 : Nat → Nat, axh n0 ad0 nz ad2 ∧ rf nb ad2 nz ro ra ∧ va_P (dC, dI) vwCl (CH cy nb ad2 nz Ez) t.heap ∧ va_D (va_A (CH cy nb ad0 n0 E0) sz) (CH cy nb ad2 nz Ez)) (va_A (CH cy nb ad0 n0 E0) sz)) (nz - n0) (sz9 - s0) (va_A (CH cy nb ad0 n0 E0) sz) := by
  refine Met.ofW (cc := cJ1_newString_b4f7a) (maxL := 3) (ret := (some (.object "java/lang/String"))) (by decide) rfl ?_
  intro p e s m args below meth c s₁ B hml hv
  obtain ⟨rfl, hsz, hP, hK, hD0, hE⟩ := hv
  have hx := B.exec
  have hb := B.bytes
  have hr := B.returns
  have hts0 := atoms_spec (ws := (wsg yJ1_newString_b4f7a cJ1_newString_b4f7a 3 (some (.object "java/lang/String")))) B.pre
  have hts : ∀ w ∈ wsL_law, w.before _ s = true := fun w h => hts0 w (List.mem_cons_of_mem _ h)
  have hown : s.vm.findClass RJ1 = some m.cls := by have h9 := findClass_of_methodNamed B.named; exact h9
  subst hsz
  have hD := hD0.self (sz := s.heap.size)
  generalize hAe : va_A (CH cy nb ad0 n0 E0) s.heap.size = A at hD hE ⊢
  have hA : ∀ q : Nat, s.heap.size ≤ q → A q := fun q h => by rw [← hAe]; exact Or.inr h
  have hS : va_S A s.heap s.heap [] := va_S.rf
  have hl := lv_entry ([.ref Aa1, .int a2, .int a3]) (n := 3) (Nat.le_of_ble_eq_true rfl)
  rw [lg_entry_eq]
  generalize (lg_sl ([.ref Aa1, .int a2, .int a3]) ++ List.replicate (3 - (lg_sl ([.ref Aa1, .int a2, .int a3])).length) Slot.unset).toArray = ls at hl ⊢
  have hl : lv_has ls 3 [(0, .ref Aa1), (1, .int a2), (2, .int a3)] := hl
  generalize hHe : s.heap = H at hP hS ⊢
  have hS : va_S A s.heap H [] := by rw [hHe]; exact hS
  refine my_Q (fun Qn hQ => ?_)
  simp only [H_J1_newString_b4f7a] at hF
  have hX : axh n0 ad0 n0 ad0 := axh_refl
  have hN : n0 ≤ n0 := Nat.le_refl _
  have hT : s0 ≤ s0 := Nat.le_refl _
  refine W.widen (k := n0 - n0) (n := s0 - s0) (by omega) (by omega) ?_
  refine lv_iload_n hx hb dJ1_newString_b4f7a_0 rfl (lv_at hl 2 rfl) ?_
  refine lv_if_ne (tgt := 7) hx hb dJ1_newString_b4f7a_1 (by decide) (fun c1 => ?_) (fun c1 => ?_)
  · skip
    rw [if_neg c1] at hF
    obtain ⟨x5, n2, s3, E4, hq, hF⟩ := mn_o hF
    have hM1 := mle1 hF
    have hM2 := mle2 hF
    have hq9 := hq.2.1
    have hq8 := hq.2.2.1
    refine va_new (ci := 0) (fs := [.null, .int 0, .int 0, .int 0]) (C := RJ0) (T := TJ0) (N := 4) hx hb hts inlJ0 tyJ0 tyJ0_ok hown (hts _ mw_1498) (hts _ mw_785) (hts _ mw_277) hK hP hD hS hA rfl (fun j hj => by match j, hj with | 0, _ => rfl | 1, _ => rfl | 2, _ => rfl | 3, _ => rfl | (n+4), h => omega) (show n0 - n0 + 1 ≤ nz - n0 by omega) (show s0 - s0 + 4 ≤ sz9 - s0 by omega) dJ1_newString_b4f7a_7 (fun q6 H hP hD hS => ?_)
    obtain ⟨ad7, hax, hr8, hC9, hw9⟩ := new_w (cy := cy) (nb := nb) (ad := ad0) (e := .inr (0, [.null, .int 0, .int 0, .int 0])) nok_J0 (fun _ => rfl) hC q6 hq
    rw [hw9] at hP hD
    have ha1 := ha1.mv hC.1 hax
    have hX := hX.trans hax
    have hC := hC9
    obtain ⟨-, hq1, hq2, -, -⟩ := hq
    have hN : n0 ≤ n2 := by omega
    have hT : s0 ≤ s3 := by omega
    refine W.widen (k := n2 - n0) (n := s3 - s0) (by omega) (by omega) ?_
    clear hM1 hM2 hax hC9 hw9 hq1 hq2 hq8 hq9
    refine lv_dup hx hb dJ1_newString_b4f7a_10 rfl ?_
    refine lv_aload_n hx hb dJ1_newString_b4f7a_11 rfl (lv_at hl 0 rfl) ?_
    refine lv_iload_n hx hb dJ1_newString_b4f7a_12 rfl (lv_at hl 1 rfl) ?_
    refine lv_iload_n hx hb dJ1_newString_b4f7a_13 rfl (lv_at hl 1 rfl) ?_
    refine lv_iload_n hx hb dJ1_newString_b4f7a_14 rfl (lv_at hl 2 rfl) ?_
    refine lv_iadd hx hb dJ1_newString_b4f7a_15 ?_
    obtain ⟨x9, n11, s12, E13, e10, hF⟩ := mb_o hF
    have hm := mle e10
    have hM1 := mle1 hF
    have hM2 := mle2 hF
    have hm1 := hm.1
    have hm2 := hm.2.1
    have hFc := my_free hD hS hA
    refine va_callr (va_runS (As := [.ref Aa1, .int a2, .int (a2 + a3)]) (rest := [.ref q6, .ref q6]) ⟨hx, hb, hml, hown, hts⟩ (h_J7_copyOfRange_39247 l dC dI cy nb ad7 n2 s3 E4 hC (a1) Aa1 ha1 (a2) ((a2 + a3)) H.size x9 n11 s12 E13 e10) (va_cwS 3 hts (gS mw_1499 mw_810 mw_96 mw_811) rfl rfl rfl (by decide +kernel) ⟨Nat.le_of_ble_eq_true rfl, Nat.le_of_ble_eq_true rfl⟩) (hl_preS hP hK hD hE hS hFc) rfl rfl hl.1 rfl (lv_room (Nat.le_of_ble_eq_true rfl)) dJ1_newString_b4f7a_16 ⟨show n2 - n0 + (n11 - n2) ≤ nz - n0 by omega, show s3 - s0 + (s12 - s3) ≤ sz9 - s0 by omega⟩) hS (fun q _ h => hFc q h) hFc (fun u ra t H1 locs ht hvm hw hB hz1 hk1 hS => ?_)
    obtain ⟨ad14, hax, hr15, hP1, hD1⟩ := hB
    rw [ht] at hP1
    have hP := hP1
    have hD := hD1.weaken (fun k q _ h => hFc q.1 h)
    generalize H1 = H at hP hS ⊢
    have ha1 := ha1.mv hC.1 hax
    have hr8 := hr8.mv hC.1 hax
    have hX := hX.trans hax
    have hC := hm.2.2 hC
    have hN : n0 ≤ n11 := Nat.le_trans hN hm1
    have hT : s0 ≤ s12 := Nat.le_trans hT hm2
    refine W.widen (k := n11 - n0) (n := s12 - s0) (by omega) (by omega) ?_
    clear hP1 hD1 hFc hk1 hz1 hvm ht hax hm hm1 hm2 hM1 hM2
    refine my_top (y := .ref (AD nb ad14 x9)) (congrArg Value.ref hr15.2.symm) ?_
    have hr15 := rf_self hr15
    refine lv_iconst (v := 0) hx hb dJ1_newString_b4f7a_19 (by decide) ?_
    obtain ⟨⟨⟩, n18, s19, E20, e17, hF⟩ := mb_o hF
    have hm := mle e17
    have hM1 := mle1 hF
    have hM2 := mle2 hF
    have hm1 := hm.1
    have hm2 := hm.2.1
    have hFc := my_free hD hS hA
    refine va_callv (va_runI (As := [.ref (AD nb ad14 x9), .int 0]) (rest := [.ref q6]) ⟨hx, hb, hml, hown, hts⟩ (h_J0_init_031fb l dC dI cy nb ad14 n11 s12 E13 hC (x5) q6 hr8 (x9) (AD nb ad14 x9) hr15 (0) H.size n18 s19 E20 e17) (cwI 2 hts (gI mw_1018) rfl rfl rfl (hts _ mw_277) (hts _ mw_1500) (hts _ mw_1017) rfl (by decide +kernel) ⟨Nat.le_of_ble_eq_true rfl, Nat.le_of_ble_eq_true rfl⟩) (hl_preS hP hK hD hE hS hFc) rfl rfl hl.1 rfl (lv_room (Nat.le_of_ble_eq_true rfl)) dJ1_newString_b4f7a_20 ⟨show n11 - n0 + (n18 - n11) ≤ nz - n0 by omega, show s12 - s0 + (s19 - s12) ≤ sz9 - s0 by omega⟩) hS (fun q _ h => hFc q h) hFc (fun u t H1 locs ht hvm hw hB hz1 hk1 hS => ?_)
    obtain ⟨ad21, hax, hP1, hD1⟩ := hB
    rw [ht] at hP1
    have hP := hP1
    have hD := hD1.weaken (fun k q _ h => hFc q.1 h)
    generalize H1 = H at hP hS ⊢
    have ha1 := ha1.mv hC.1 hax
    have hr8 := hr8.mv hC.1 hax
    have hX := hX.trans hax
    have hC := hm.2.2 hC
    have hN : n0 ≤ n18 := Nat.le_trans hN hm1
    have hT : s0 ≤ s19 := Nat.le_trans hT hm2
    refine W.widen (k := n18 - n0) (n := s19 - s0) (by omega) (by omega) ?_
    clear hP1 hD1 hFc hk1 hz1 hvm ht hax hm hm1 hm2 hM1 hM2
    obtain ⟨ht9, hn9, hs9, hE9⟩ := mr_o hF
    subst hn9 hs9 hE9
    have hX9 := hX
    rw [hQ]
    exact W.aret (v := .ref q6) hx hb hr (by first | exact Or.inl ⟨_, rfl⟩ | exact Or.inr ⟨_, rfl⟩) (Or.inr ⟨_, rfl⟩) (fun t ht hW => ⟨⟨(), q6, rfl, trivial, _, hX, (by rw [← ht9]; exact hr8), by rw [ht]; exact hP, hD⟩, hS.F ht⟩) hS.2.2 dJ1_newString_b4f7a_23
  · skip
    rw [if_pos c1] at hF
    exact (m0_o hF).elim
noncomputable def H_J0_checkBoundsBeginEnd_23922 (a1 : Int32) (a2 : Int32) (a3 : Int32) : MH Unit := mb (H_J3_checkFromToIndex_8c36e (a1) (a2) (a3)) fun x3 => mr ()
set_option maxHeartbeats 4000000 in
set_option maxRecDepth 100000 in
theorem h_J0_checkBoundsBeginEnd_23922 (l : Launch) (dC : Nat → ClassId) (dI : Nat → Nat → Nat) (cy : Nat → ClassId) (nb : Nat → Nat) (ad0 : Nat → Nat) (n0 s0 : Nat) (E0 : HE) (hC : clo n0 E0) (a1 : Int32) (a2 : Int32) (a3 : Int32) (sz : Nat) (nz sz9 : Nat) (Ez : HE) (hF : (H_J0_checkBoundsBeginEnd_23922 a1 a2 a3).1 (n0, s0, E0) = some ((), nz, sz9, Ez)) : Met l yJ0_checkBoundsBeginEnd_23922 (wsg yJ0_checkBoundsBeginEnd_23922 cJ0_checkBoundsBeginEnd_23922 3 none) ({ frames := 9, cells := nz - n0, slots := sz9 - s0, locals := 400 }) (va_Pc [.int a1, .int a2, .int a3] (fun U => U.heap.size = sz ∧ va_P (dC, dI) vwCl (CH cy nb ad0 n0 E0) U.heap ∧ va_K (dC, dI) vwCl (tyL cy) U ∧ va_D (fun _ => True) (CH cy nb ad0 n0 E0) ∧ GL nb (va_A (CH cy nb ad0 n0 E0) sz) U)) (va_Qv (fun (_ : Unit) => True) (fun _ t => ∃ ad2 : Nat → Nat, axh n0 ad0 nz ad2 ∧ va_P (dC, dI) vwCl (CH cy nb ad2 nz Ez) t.heap ∧ va_D (va_A (CH cy nb ad0 n0 E0) sz) (CH cy nb ad2 nz Ez)) (va_A (CH cy nb ad0 n0 E0) sz)) (nz - n0) (sz9 - s0) (va_A (CH cy nb ad0 n0 E0) sz) := by
  refine Met.ofW (cc := cJ0_checkBoundsBeginEnd_23922) (maxL := 3) (ret := none) (by decide) rfl ?_
  intro p e s m args below meth c s₁ B hml hv
  obtain ⟨rfl, hsz, hP, hK, hD0, hE⟩ := hv
  have hx := B.exec
  have hb := B.bytes
  have hr := B.returns
  have hts0 := atoms_spec (ws := (wsg yJ0_checkBoundsBeginEnd_23922 cJ0_checkBoundsBeginEnd_23922 3 none)) B.pre
  have hts : ∀ w ∈ wsL_law, w.before _ s = true := fun w h => hts0 w (List.mem_cons_of_mem _ h)
  have hown : s.vm.findClass RJ0 = some m.cls := by have h9 := findClass_of_methodNamed B.named; exact h9
  subst hsz
  have hD := hD0.self (sz := s.heap.size)
  generalize hAe : va_A (CH cy nb ad0 n0 E0) s.heap.size = A at hD hE ⊢
  have hA : ∀ q : Nat, s.heap.size ≤ q → A q := fun q h => by rw [← hAe]; exact Or.inr h
  have hS : va_S A s.heap s.heap [] := va_S.rf
  have hl := lv_entry ([.int a1, .int a2, .int a3]) (n := 3) (Nat.le_of_ble_eq_true rfl)
  rw [lg_entry_eq]
  generalize (lg_sl ([.int a1, .int a2, .int a3]) ++ List.replicate (3 - (lg_sl ([.int a1, .int a2, .int a3])).length) Slot.unset).toArray = ls at hl ⊢
  have hl : lv_has ls 3 [(0, .int a1), (1, .int a2), (2, .int a3)] := hl
  generalize hHe : s.heap = H at hP hS ⊢
  have hS : va_S A s.heap H [] := by rw [hHe]; exact hS
  refine my_Q (fun Qn hQ => ?_)
  simp only [H_J0_checkBoundsBeginEnd_23922] at hF
  have hX : axh n0 ad0 n0 ad0 := axh_refl
  have hN : n0 ≤ n0 := Nat.le_refl _
  have hT : s0 ≤ s0 := Nat.le_refl _
  refine W.widen (k := n0 - n0) (n := s0 - s0) (by omega) (by omega) ?_
  refine lv_iload_n hx hb dJ0_checkBoundsBeginEnd_23922_0 rfl (lv_at hl 0 rfl) ?_
  refine lv_iload_n hx hb dJ0_checkBoundsBeginEnd_23922_1 rfl (lv_at hl 1 rfl) ?_
  refine lv_iload_n hx hb dJ0_checkBoundsBeginEnd_23922_2 rfl (lv_at hl 2 rfl) ?_
  obtain ⟨v1, hv2, hz9⟩ := zq_v hE.ge.fm
  refine va_gets (C := "jdk/internal/util/Preconditions") (n := "SIOOBE_FORMATTER") (d := "Ljava/util/function/BiFunction;") (ref := "jdk/internal/util/Preconditions") (v := v1) hx hb hz9 hS hown (hts _ mw_687) (fun _ h9 => h9) dJ0_checkBoundsBeginEnd_23922_3 ?_
  obtain ⟨x3, n5, s6, E7, e4, hF⟩ := mb_o hF
  have hm := mle e4
  have hM1 := mle1 hF
  have hM2 := mle2 hF
  have hm1 := hm.1
  have hm2 := hm.2.1
  have hFc := my_free hD hS hA
  refine va_calli (va_runS (As := [.int a1, .int a2, .int a3, v1]) (rest := []) ⟨hx, hb, hml, hown, hts⟩ (h_J3_checkFromToIndex_8c36e l dC dI cy nb ad0 n0 s0 E0 hC (a1) (a2) (a3) v1 hv2 H.size x3 n5 s6 E7 e4) (va_cwS 4 hts (gS mw_688 mw_689 mw_244 mw_690) rfl rfl rfl (by decide +kernel) ⟨Nat.le_of_ble_eq_true rfl, Nat.le_of_ble_eq_true rfl⟩) (hl_preS hP hK hD hE hS hFc) rfl rfl hl.1 rfl (lv_room (Nat.le_of_ble_eq_true rfl)) dJ0_checkBoundsBeginEnd_23922_6 ⟨show n0 - n0 + (n5 - n0) ≤ nz - n0 by omega, show s0 - s0 + (s6 - s0) ≤ sz9 - s0 by omega⟩) hS (fun q _ h => hFc q h) hFc (fun r9 u t H1 locs ht hvm hw hB hz1 hk1 hS => ?_)
  obtain ⟨ad8, hax, hP1, hD1⟩ := hB
  rw [ht] at hP1
  have hP := hP1
  have hD := hD1.weaken (fun k q _ h => hFc q.1 h)
  generalize H1 = H at hP hS ⊢
  have hX := hX.trans hax
  have hC := hm.2.2 hC
  have hN : n0 ≤ n5 := Nat.le_trans hN hm1
  have hT : s0 ≤ s6 := Nat.le_trans hT hm2
  refine W.widen (k := n5 - n0) (n := s6 - s0) (by omega) (by omega) ?_
  clear hP1 hD1 hFc hk1 hz1 hvm ht hax hm hm1 hm2 hM1 hM2
  obtain rfl := hw.symm
  refine lv_pop hx hb dJ0_checkBoundsBeginEnd_23922_9 rfl ?_
  obtain ⟨ht9, hn9, hs9, hE9⟩ := mr_o hF
  subst hn9 hs9 hE9
  have hX9 := hX
  rw [hQ]
  exact W.vret hx hb hr (fun t ht hW => ⟨⟨(), rfl, trivial, _, hX, by rw [ht]; exact hP, hD⟩, hS.F ht⟩) hS.2.2 dJ0_checkBoundsBeginEnd_23922_10
noncomputable def H_J0_substring_37a41 (a0 : Nat) (a1 : Int32) (a2 : Int32) : MH Nat := mb (mg fun n E => sOk n E (a0)) fun _ => mb (H_J0_length_8abf5 (a0)) fun x2 => mb (H_J0_checkBoundsBeginEnd_23922 (a1) (a2) (x2)) fun _ => if a1 = 0 then (if a2 = x2 then (mr a0) else (mb (mg fun n E => sOk n E (a0)) fun _ => mb (H_J0_isLatin1_aae02 (a0)) fun x38 => if x38 = 0 then (mb (mg fun n E => sVl n E (a0)) fun x45 => m0) else (mb (mg fun n E => sVl n E (a0)) fun x48 => mb (H_J1_newString_b4f7a (x48) (a1) ((a2 - a1))) fun x51 => mr x51))) else (mb (mg fun n E => sOk n E (a0)) fun _ => mb (H_J0_isLatin1_aae02 (a0)) fun x15 => if x15 = 0 then (mb (mg fun n E => sVl n E (a0)) fun x22 => m0) else (mb (mg fun n E => sVl n E (a0)) fun x25 => mb (H_J1_newString_b4f7a (x25) (a1) ((a2 - a1))) fun x28 => mr x28))
set_option maxHeartbeats 4000000 in
set_option maxRecDepth 100000 in
theorem h_J0_substring_37a41 (l : Launch) (dC : Nat → ClassId) (dI : Nat → Nat → Nat) (cy : Nat → ClassId) (nb : Nat → Nat) (ad0 : Nat → Nat) (n0 s0 : Nat) (E0 : HE) (hC : clo n0 E0) (a0 Aa0 : Nat) (ha0 : rf nb ad0 n0 a0 Aa0) (a1 : Int32) (a2 : Int32) (sz : Nat) (ro : Nat) (nz sz9 : Nat) (Ez : HE) (hF : (H_J0_substring_37a41 a0 a1 a2).1 (n0, s0, E0) = some (ro, nz, sz9, Ez)) : Met l yJ0_substring_37a41 (wsg yJ0_substring_37a41 cJ0_substring_37a41 5 (some (.object "java/lang/String"))) ({ frames := 12, cells := nz - n0, slots := sz9 - s0, locals := 700 }) (va_Pc [.ref Aa0, .int a1, .int a2] (fun U => U.heap.size = sz ∧ va_P (dC, dI) vwCl (CH cy nb ad0 n0 E0) U.heap ∧ va_K (dC, dI) vwCl (tyL cy) U ∧ va_D (fun _ => True) (CH cy nb ad0 n0 E0) ∧ GL nb (va_A (CH cy nb ad0 n0 E0) sz) U)) (va_Qr (fun (_ : Unit) => True) (fun _ ra t => ∃ ad2 : Nat → Nat, axh n0 ad0 nz ad2 ∧ rf nb ad2 nz ro ra ∧ va_P (dC, dI) vwCl (CH cy nb ad2 nz Ez) t.heap ∧ va_D (va_A (CH cy nb ad0 n0 E0) sz) (CH cy nb ad2 nz Ez)) (va_A (CH cy nb ad0 n0 E0) sz)) (nz - n0) (sz9 - s0) (va_A (CH cy nb ad0 n0 E0) sz) := by
  refine Met.ofW (cc := cJ0_substring_37a41) (maxL := 5) (ret := (some (.object "java/lang/String"))) (by decide) rfl ?_
  intro p e s m args below meth c s₁ B hml hv
  obtain ⟨rfl, hsz, hP, hK, hD0, hE⟩ := hv
  have hx := B.exec
  have hb := B.bytes
  have hr := B.returns
  have hts0 := atoms_spec (ws := (wsg yJ0_substring_37a41 cJ0_substring_37a41 5 (some (.object "java/lang/String")))) B.pre
  have hts : ∀ w ∈ wsL_law, w.before _ s = true := fun w h => hts0 w (List.mem_cons_of_mem _ h)
  have hown : s.vm.findClass RJ0 = some m.cls := by have h9 := findClass_of_methodNamed B.named; exact h9
  subst hsz
  have hD := hD0.self (sz := s.heap.size)
  generalize hAe : va_A (CH cy nb ad0 n0 E0) s.heap.size = A at hD hE ⊢
  have hA : ∀ q : Nat, s.heap.size ≤ q → A q := fun q h => by rw [← hAe]; exact Or.inr h
  have hS : va_S A s.heap s.heap [] := va_S.rf
  have hl := lv_entry ([.ref Aa0, .int a1, .int a2]) (n := 5) (Nat.le_of_ble_eq_true rfl)
  rw [lg_entry_eq]
  generalize (lg_sl ([.ref Aa0, .int a1, .int a2]) ++ List.replicate (5 - (lg_sl ([.ref Aa0, .int a1, .int a2])).length) Slot.unset).toArray = ls at hl ⊢
  have hl : lv_has ls 5 [(0, .ref Aa0), (1, .int a1), (2, .int a2)] := hl
  generalize hHe : s.heap = H at hP hS ⊢
  have hS : va_S A s.heap H [] := by rw [hHe]; exact hS
  refine my_Q (fun Qn hQ => ?_)
  simp only [H_J0_substring_37a41] at hF
  have hX : axh n0 ad0 n0 ad0 := axh_refl
  have hN : n0 ≤ n0 := Nat.le_refl _
  have hT : s0 ≤ s0 := Nat.le_refl _
  refine W.widen (k := n0 - n0) (n := s0 - s0) (by omega) (by omega) ?_
  refine lv_aload_n hx hb dJ0_substring_37a41_0 rfl (lv_at hl 0 rfl) ?_
  obtain ⟨_, e1, hF⟩ := mg_o hF
  obtain ⟨x2, n4, s5, E6, e3, hF⟩ := mb_o hF
  have hm := mle e3
  have hM1 := mle1 hF
  have hM2 := mle2 hF
  have hm1 := hm.1
  have hm2 := hm.2.1
  have hFc := my_free hD hS hA
  refine va_calli (va_runV (C := RJ0) (As := []) (rest := []) ⟨hx, hb, hml, hown, hts⟩ (h_J0_length_8abf5 l dC dI cy nb ad0 n0 s0 E0 hC (a0) Aa0 ha0 H.size x2 n4 s5 E6 e3) (cwV 0 hts (gV mw_1493 mw_275 mw_276 mw_277 mw_278) rfl rfl rfl (by decide +kernel) ⟨Nat.le_of_ble_eq_true rfl, Nat.le_of_ble_eq_true rfl⟩) (hl_preV hP hK hD hE hS hFc (hs_srecv hK hP hC hE hS ha0 e1)) rfl rfl hl.1 rfl (lv_room (Nat.le_of_ble_eq_true rfl)) dJ0_substring_37a41_1 ⟨show n0 - n0 + (n4 - n0) ≤ nz - n0 by omega, show s0 - s0 + (s5 - s0) ≤ sz9 - s0 by omega⟩) hS (fun q _ h => hFc q h) hFc (fun r9 u t H1 locs ht hvm hw hB hz1 hk1 hS => ?_)
  obtain ⟨ad7, hax, hP1, hD1⟩ := hB
  rw [ht] at hP1
  have hP := hP1
  have hD := hD1.weaken (fun k q _ h => hFc q.1 h)
  generalize H1 = H at hP hS ⊢
  have ha0 := ha0.mv hC.1 hax
  have hX := hX.trans hax
  have hC := hm.2.2 hC
  have hN : n0 ≤ n4 := Nat.le_trans hN hm1
  have hT : s0 ≤ s5 := Nat.le_trans hT hm2
  refine W.widen (k := n4 - n0) (n := s5 - s0) (by omega) (by omega) ?_
  clear hP1 hD1 hFc hk1 hz1 hvm ht hax hm hm1 hm2 hM1 hM2
  obtain rfl := hw.symm
  refine lv_istore_n (lv' := [(3, .int x2), (0, .ref Aa0), (1, .int a1), (2, .int a2)]) hx hb dJ0_substring_37a41_4 rfl hl (by decide) rfl (fun ls hl => ?_)
  refine lv_iload_n hx hb dJ0_substring_37a41_5 rfl (lv_at hl 2 rfl) ?_
  refine lv_iload_n hx hb dJ0_substring_37a41_6 rfl (lv_at hl 3 rfl) ?_
  refine lv_iload_n hx hb dJ0_substring_37a41_7 rfl (lv_at hl 0 rfl) ?_
  obtain ⟨⟨⟩, n9, s10, E11, e8, hF⟩ := mb_o hF
  have hm := mle e8
  have hM1 := mle1 hF
  have hM2 := mle2 hF
  have hm1 := hm.1
  have hm2 := hm.2.1
  have hFc := my_free hD hS hA
  refine va_callv (va_runS (As := [.int a1, .int a2, .int x2]) (rest := []) ⟨hx, hb, hml, hown, hts⟩ (h_J0_checkBoundsBeginEnd_23922 l dC dI cy nb ad7 n4 s5 E6 hC (a1) (a2) (x2) H.size n9 s10 E11 e8) (va_cwS 3 hts (gS mw_1494 mw_685 mw_277 mw_686) rfl rfl rfl (by decide +kernel) ⟨Nat.le_of_ble_eq_true rfl, Nat.le_of_ble_eq_true rfl⟩) (hl_preS hP hK hD hE hS hFc) rfl rfl hl.1 rfl (lv_room (Nat.le_of_ble_eq_true rfl)) dJ0_substring_37a41_8 ⟨show n4 - n0 + (n9 - n4) ≤ nz - n0 by omega, show s5 - s0 + (s10 - s5) ≤ sz9 - s0 by omega⟩) hS (fun q _ h => hFc q h) hFc (fun u t H1 locs ht hvm hw hB hz1 hk1 hS => ?_)
  obtain ⟨ad12, hax, hP1, hD1⟩ := hB
  rw [ht] at hP1
  have hP := hP1
  have hD := hD1.weaken (fun k q _ h => hFc q.1 h)
  generalize H1 = H at hP hS ⊢
  have ha0 := ha0.mv hC.1 hax
  have hX := hX.trans hax
  have hC := hm.2.2 hC
  have hN : n0 ≤ n9 := Nat.le_trans hN hm1
  have hT : s0 ≤ s10 := Nat.le_trans hT hm2
  refine W.widen (k := n9 - n0) (n := s10 - s0) (by omega) (by omega) ?_
  clear hP1 hD1 hFc hk1 hz1 hvm ht hax hm hm1 hm2 hM1 hM2
  refine lv_iload_n hx hb dJ0_substring_37a41_11 rfl (lv_at hl 2 rfl) ?_
  refine lv_if_ne (tgt := 22) hx hb dJ0_substring_37a41_12 (by decide) (fun c13 => ?_) (fun c13 => ?_)
  · skip
    rw [if_neg c13] at hF
    refine lv_iload_n hx hb dJ0_substring_37a41_22 rfl (lv_at hl 3 rfl) ?_
    refine lv_iload_n hx hb dJ0_substring_37a41_23 rfl (lv_at hl 2 rfl) ?_
    refine lv_isub hx hb dJ0_substring_37a41_24 ?_
    refine lv_istore (lv' := [(4, .int (a2 - a1)), (3, .int x2), (0, .ref Aa0), (1, .int a1), (2, .int a2)]) hx hb dJ0_substring_37a41_25 hl (by decide) rfl (fun ls hl => ?_)
    refine lv_aload_n hx hb dJ0_substring_37a41_27 rfl (lv_at hl 2 rfl) ?_
    obtain ⟨_, e14, hF⟩ := mg_o hF
    obtain ⟨x15, n17, s18, E19, e16, hF⟩ := mb_o hF
    have hm := mle e16
    have hM1 := mle1 hF
    have hM2 := mle2 hF
    have hm1 := hm.1
    have hm2 := hm.2.1
    have hFc := my_free hD hS hA
    refine va_calli (va_runV (C := RJ0) (As := []) (rest := []) ⟨hx, hb, hml, hown, hts⟩ (h_J0_isLatin1_aae02 l dC dI cy nb ad12 n9 s10 E11 hC (a0) Aa0 ha0 H.size x15 n17 s18 E19 e16) (cwV 0 hts (gV mw_946 mw_935 mw_936 mw_277 mw_937) rfl rfl rfl (by decide +kernel) ⟨Nat.le_of_ble_eq_true rfl, Nat.le_of_ble_eq_true rfl⟩) (hl_preV hP hK hD hE hS hFc (hs_srecv hK hP hC hE hS ha0 e14)) rfl rfl hl.1 rfl (lv_room (Nat.le_of_ble_eq_true rfl)) dJ0_substring_37a41_28 ⟨show n9 - n0 + (n17 - n9) ≤ nz - n0 by omega, show s10 - s0 + (s18 - s10) ≤ sz9 - s0 by omega⟩) hS (fun q _ h => hFc q h) hFc (fun r9 u t H1 locs ht hvm hw hB hz1 hk1 hS => ?_)
    obtain ⟨ad20, hax, hP1, hD1⟩ := hB
    rw [ht] at hP1
    have hP := hP1
    have hD := hD1.weaken (fun k q _ h => hFc q.1 h)
    generalize H1 = H at hP hS ⊢
    have ha0 := ha0.mv hC.1 hax
    have hX := hX.trans hax
    have hC := hm.2.2 hC
    have hN : n0 ≤ n17 := Nat.le_trans hN hm1
    have hT : s0 ≤ s18 := Nat.le_trans hT hm2
    refine W.widen (k := n17 - n0) (n := s18 - s0) (by omega) (by omega) ?_
    clear hP1 hD1 hFc hk1 hz1 hvm ht hax hm hm1 hm2 hM1 hM2
    obtain rfl := hw.symm
    refine lv_if_eq (tgt := 47) hx hb dJ0_substring_37a41_31 (by decide) (fun c21 => ?_) (fun c21 => ?_)
    · skip
      rw [if_pos c21] at hF
      refine lv_aload_n hx hb dJ0_substring_37a41_47 rfl (lv_at hl 2 rfl) ?_
      obtain ⟨x22, e23, hF⟩ := mg_o hF
      refine hs_sval hx hb hts inlJ0 hown hK hP hC hE hS ha0 e23 (hts _ mw_279) dJ0_substring_37a41_48 ?_
      have hr24 := sVl_r hC e23 (nb := nb) (ad := ad20)
      refine lv_iload_n hx hb dJ0_substring_37a41_51 rfl (lv_at hl 3 rfl) ?_
      refine lv_iload hx hb dJ0_substring_37a41_52 (lv_at hl 0 rfl) ?_
      exact (m0_o hF).elim
    · skip
      rw [if_neg c21] at hF
      refine lv_aload_n hx hb dJ0_substring_37a41_34 rfl (lv_at hl 2 rfl) ?_
      obtain ⟨x25, e26, hF⟩ := mg_o hF
      refine hs_sval hx hb hts inlJ0 hown hK hP hC hE hS ha0 e26 (hts _ mw_279) dJ0_substring_37a41_35 ?_
      have hr27 := sVl_r hC e26 (nb := nb) (ad := ad20)
      refine lv_iload_n hx hb dJ0_substring_37a41_38 rfl (lv_at hl 3 rfl) ?_
      refine lv_iload hx hb dJ0_substring_37a41_39 (lv_at hl 0 rfl) ?_
      obtain ⟨x28, n30, s31, E32, e29, hF⟩ := mb_o hF
      have hm := mle e29
      have hM1 := mle1 hF
      have hM2 := mle2 hF
      have hm1 := hm.1
      have hm2 := hm.2.1
      have hFc := my_free hD hS hA
      refine va_callr (va_runS (As := [.ref (AD nb ad20 x25), .int a1, .int (a2 - a1)]) (rest := []) ⟨hx, hb, hml, hown, hts⟩ (h_J1_newString_b4f7a l dC dI cy nb ad20 n17 s18 E19 hC (x25) (AD nb ad20 x25) hr27 (a1) ((a2 - a1)) H.size x28 n30 s31 E32 e29) (va_cwS 3 hts (gS mw_1495 mw_1496 mw_715 mw_1497) rfl rfl rfl (by decide +kernel) ⟨Nat.le_of_ble_eq_true rfl, Nat.le_of_ble_eq_true rfl⟩) (hl_preS hP hK hD hE hS hFc) rfl rfl hl.1 rfl (lv_room (Nat.le_of_ble_eq_true rfl)) dJ0_substring_37a41_41 ⟨show n17 - n0 + (n30 - n17) ≤ nz - n0 by omega, show s18 - s0 + (s31 - s18) ≤ sz9 - s0 by omega⟩) hS (fun q _ h => hFc q h) hFc (fun u ra t H1 locs ht hvm hw hB hz1 hk1 hS => ?_)
      obtain ⟨ad33, hax, hr34, hP1, hD1⟩ := hB
      rw [ht] at hP1
      have hP := hP1
      have hD := hD1.weaken (fun k q _ h => hFc q.1 h)
      generalize H1 = H at hP hS ⊢
      have ha0 := ha0.mv hC.1 hax
      have hX := hX.trans hax
      have hC := hm.2.2 hC
      have hN : n0 ≤ n30 := Nat.le_trans hN hm1
      have hT : s0 ≤ s31 := Nat.le_trans hT hm2
      refine W.widen (k := n30 - n0) (n := s31 - s0) (by omega) (by omega) ?_
      clear hP1 hD1 hFc hk1 hz1 hvm ht hax hm hm1 hm2 hM1 hM2
      refine my_top (y := .ref (AD nb ad33 x28)) (congrArg Value.ref hr34.2.symm) ?_
      have hr34 := rf_self hr34
      refine lv_goto (tgt := 57) hx hb dJ0_substring_37a41_44 (by decide) ?_
      obtain ⟨ht9, hn9, hs9, hE9⟩ := mr_o hF
      subst hn9 hs9 hE9
      have hX9 := hX
      rw [hQ]
      exact W.aret (v := .ref (AD nb ad33 x28)) hx hb hr (by first | exact Or.inl ⟨_, rfl⟩ | exact Or.inr ⟨_, rfl⟩) (Or.inr ⟨_, rfl⟩) (fun t ht hW => ⟨⟨(), (AD nb ad33 x28), rfl, trivial, _, hX, (by rw [← ht9]; exact hr34), by rw [ht]; exact hP, hD⟩, hS.F ht⟩) hS.2.2 dJ0_substring_37a41_57
  · skip
    rw [if_pos c13] at hF
    refine lv_iload_n hx hb dJ0_substring_37a41_15 rfl (lv_at hl 3 rfl) ?_
    refine lv_iload_n hx hb dJ0_substring_37a41_16 rfl (lv_at hl 0 rfl) ?_
    refine lv_icmp_ne (tgt := 22) hx hb dJ0_substring_37a41_17 (by decide) (fun c36 => ?_) (fun c36 => ?_)
    · skip
      rw [if_neg c36] at hF
      refine lv_iload_n hx hb dJ0_substring_37a41_22 rfl (lv_at hl 3 rfl) ?_
      refine lv_iload_n hx hb dJ0_substring_37a41_23 rfl (lv_at hl 2 rfl) ?_
      refine lv_isub hx hb dJ0_substring_37a41_24 ?_
      refine lv_istore (lv' := [(4, .int (a2 - a1)), (3, .int x2), (0, .ref Aa0), (1, .int a1), (2, .int a2)]) hx hb dJ0_substring_37a41_25 hl (by decide) rfl (fun ls hl => ?_)
      refine lv_aload_n hx hb dJ0_substring_37a41_27 rfl (lv_at hl 2 rfl) ?_
      obtain ⟨_, e37, hF⟩ := mg_o hF
      obtain ⟨x38, n40, s41, E42, e39, hF⟩ := mb_o hF
      have hm := mle e39
      have hM1 := mle1 hF
      have hM2 := mle2 hF
      have hm1 := hm.1
      have hm2 := hm.2.1
      have hFc := my_free hD hS hA
      refine va_calli (va_runV (C := RJ0) (As := []) (rest := []) ⟨hx, hb, hml, hown, hts⟩ (h_J0_isLatin1_aae02 l dC dI cy nb ad12 n9 s10 E11 hC (a0) Aa0 ha0 H.size x38 n40 s41 E42 e39) (cwV 0 hts (gV mw_946 mw_935 mw_936 mw_277 mw_937) rfl rfl rfl (by decide +kernel) ⟨Nat.le_of_ble_eq_true rfl, Nat.le_of_ble_eq_true rfl⟩) (hl_preV hP hK hD hE hS hFc (hs_srecv hK hP hC hE hS ha0 e37)) rfl rfl hl.1 rfl (lv_room (Nat.le_of_ble_eq_true rfl)) dJ0_substring_37a41_28 ⟨show n9 - n0 + (n40 - n9) ≤ nz - n0 by omega, show s10 - s0 + (s41 - s10) ≤ sz9 - s0 by omega⟩) hS (fun q _ h => hFc q h) hFc (fun r9 u t H1 locs ht hvm hw hB hz1 hk1 hS => ?_)
      obtain ⟨ad43, hax, hP1, hD1⟩ := hB
      rw [ht] at hP1
      have hP := hP1
      have hD := hD1.weaken (fun k q _ h => hFc q.1 h)
      generalize H1 = H at hP hS ⊢
      have ha0 := ha0.mv hC.1 hax
      have hX := hX.trans hax
      have hC := hm.2.2 hC
      have hN : n0 ≤ n40 := Nat.le_trans hN hm1
      have hT : s0 ≤ s41 := Nat.le_trans hT hm2
      refine W.widen (k := n40 - n0) (n := s41 - s0) (by omega) (by omega) ?_
      clear hP1 hD1 hFc hk1 hz1 hvm ht hax hm hm1 hm2 hM1 hM2
      obtain rfl := hw.symm
      refine lv_if_eq (tgt := 47) hx hb dJ0_substring_37a41_31 (by decide) (fun c44 => ?_) (fun c44 => ?_)
      · skip
        rw [if_pos c44] at hF
        refine lv_aload_n hx hb dJ0_substring_37a41_47 rfl (lv_at hl 2 rfl) ?_
        obtain ⟨x45, e46, hF⟩ := mg_o hF
        refine hs_sval hx hb hts inlJ0 hown hK hP hC hE hS ha0 e46 (hts _ mw_279) dJ0_substring_37a41_48 ?_
        have hr47 := sVl_r hC e46 (nb := nb) (ad := ad43)
        refine lv_iload_n hx hb dJ0_substring_37a41_51 rfl (lv_at hl 3 rfl) ?_
        refine lv_iload hx hb dJ0_substring_37a41_52 (lv_at hl 0 rfl) ?_
        exact (m0_o hF).elim
      · skip
        rw [if_neg c44] at hF
        refine lv_aload_n hx hb dJ0_substring_37a41_34 rfl (lv_at hl 2 rfl) ?_
        obtain ⟨x48, e49, hF⟩ := mg_o hF
        refine hs_sval hx hb hts inlJ0 hown hK hP hC hE hS ha0 e49 (hts _ mw_279) dJ0_substring_37a41_35 ?_
        have hr50 := sVl_r hC e49 (nb := nb) (ad := ad43)
        refine lv_iload_n hx hb dJ0_substring_37a41_38 rfl (lv_at hl 3 rfl) ?_
        refine lv_iload hx hb dJ0_substring_37a41_39 (lv_at hl 0 rfl) ?_
        obtain ⟨x51, n53, s54, E55, e52, hF⟩ := mb_o hF
        have hm := mle e52
        have hM1 := mle1 hF
        have hM2 := mle2 hF
        have hm1 := hm.1
        have hm2 := hm.2.1
        have hFc := my_free hD hS hA
        refine va_callr (va_runS (As := [.ref (AD nb ad43 x48), .int a1, .int (a2 - a1)]) (rest := []) ⟨hx, hb, hml, hown, hts⟩ (h_J1_newString_b4f7a l dC dI cy nb ad43 n40 s41 E42 hC (x48) (AD nb ad43 x48) hr50 (a1) ((a2 - a1)) H.size x51 n53 s54 E55 e52) (va_cwS 3 hts (gS mw_1495 mw_1496 mw_715 mw_1497) rfl rfl rfl (by decide +kernel) ⟨Nat.le_of_ble_eq_true rfl, Nat.le_of_ble_eq_true rfl⟩) (hl_preS hP hK hD hE hS hFc) rfl rfl hl.1 rfl (lv_room (Nat.le_of_ble_eq_true rfl)) dJ0_substring_37a41_41 ⟨show n40 - n0 + (n53 - n40) ≤ nz - n0 by omega, show s41 - s0 + (s54 - s41) ≤ sz9 - s0 by omega⟩) hS (fun q _ h => hFc q h) hFc (fun u ra t H1 locs ht hvm hw hB hz1 hk1 hS => ?_)
        obtain ⟨ad56, hax, hr57, hP1, hD1⟩ := hB
        rw [ht] at hP1
        have hP := hP1
        have hD := hD1.weaken (fun k q _ h => hFc q.1 h)
        generalize H1 = H at hP hS ⊢
        have ha0 := ha0.mv hC.1 hax
        have hX := hX.trans hax
        have hC := hm.2.2 hC
        have hN : n0 ≤ n53 := Nat.le_trans hN hm1
        have hT : s0 ≤ s54 := Nat.le_trans hT hm2
        refine W.widen (k := n53 - n0) (n := s54 - s0) (by omega) (by omega) ?_
        clear hP1 hD1 hFc hk1 hz1 hvm ht hax hm hm1 hm2 hM1 hM2
        refine my_top (y := .ref (AD nb ad56 x51)) (congrArg Value.ref hr57.2.symm) ?_
        have hr57 := rf_self hr57
        refine lv_goto (tgt := 57) hx hb dJ0_substring_37a41_44 (by decide) ?_
        obtain ⟨ht9, hn9, hs9, hE9⟩ := mr_o hF
        subst hn9 hs9 hE9
        have hX9 := hX
        rw [hQ]
        exact W.aret (v := .ref (AD nb ad56 x51)) hx hb hr (by first | exact Or.inl ⟨_, rfl⟩ | exact Or.inr ⟨_, rfl⟩) (Or.inr ⟨_, rfl⟩) (fun t ht hW => ⟨⟨(), (AD nb ad56 x51), rfl, trivial, _, hX, (by rw [← ht9]; exact hr57), by rw [ht]; exact hP, hD⟩, hS.F ht⟩) hS.2.2 dJ0_substring_37a41_57
    · skip
      rw [if_pos c36] at hF
      refine lv_aload_n hx hb dJ0_substring_37a41_20 rfl (lv_at hl 1 rfl) ?_
      obtain ⟨ht9, hn9, hs9, hE9⟩ := mr_o hF
      subst hn9 hs9 hE9
      have hX9 := hX
      rw [hQ]
      exact W.aret (v := .ref Aa0) hx hb hr (by first | exact Or.inl ⟨_, rfl⟩ | exact Or.inr ⟨_, rfl⟩) (Or.inr ⟨_, rfl⟩) (fun t ht hW => ⟨⟨(), Aa0, rfl, trivial, _, hX, (by rw [← ht9]; exact ha0), by rw [ht]; exact hP, hD⟩, hS.F ht⟩) hS.2.2 dJ0_substring_37a41_21
noncomputable def H_J1_indexOf_5af95_L76 (t29 : Int32) (a4 : Int32) (a2 : Int32) (x1 : Int32) (a1 : Nat) (a3 : Nat) (a5 : Int32) : Nat → Int32 → Int32 → MH (Int32 × Int32)
  | 0, _, _ => m0
  | m53 + 1, y58, y59 => if (((t29 + 1) + a4) - 1) ≤ y59 then (mr (y58, y59)) else (mb (mg fun n E => gB n E (a1) (y59)) fun x63 => mb (mg fun n E => gB n E (a3) (y58)) fun x65 => if x63 = x65 then (H_J1_indexOf_5af95_L76 t29 a4 a2 x1 a1 a3 a5 m53 ((y58 + 1)) ((y59 + 1))) else (mr (y58, y59)))
noncomputable def H_J1_indexOf_5af95_L30 (a2 : Int32) (a4 : Int32) (x1 : Int32) (a1 : Nat) (a3 : Nat) (a5 : Int32) : Nat → Int32 → MH (Int32)
  | 0, _ => m0
  | m83 + 1, y88 => if (a2 - a4) < (y88 + 1) then (mr (y88 + 1)) else (mb (mg fun n E => gB n E (a1) ((y88 + 1))) fun x92 => if x92 = x1 then (mr (y88 + 1)) else (H_J1_indexOf_5af95_L30 a2 a4 x1 a1 a3 a5 m83 ((y88 + 1))))
noncomputable def H_J1_indexOf_5af95_L14 (a2 : Int32) (a4 : Int32) (x1 : Int32) (a1 : Nat) (a3 : Nat) (a5 : Int32) : Nat → Int32 → MH (Sum (Int32) (Int32))
  | 0, _ => m0
  | m17 + 1, y22 => if (a2 - a4) < y22 then (mr (.inr y22)) else (mb (mg fun n E => gB n E (a1) (y22)) fun x26 => mb (if x26 = x1 then (mr y22) else (mb (H_J1_indexOf_5af95_L30 a2 a4 x1 a1 a3 a5 FUEL (y22)) fun t70 => mr t70) : MH (Int32)) fun t29 => if (a2 - a4) < t29 then (H_J1_indexOf_5af95_L14 a2 a4 x1 a1 a3 a5 m17 ((t29 + 1))) else (mb (H_J1_indexOf_5af95_L76 t29 a4 a2 x1 a1 a3 a5 FUEL ((1 : Int32)) ((t29 + 1))) fun t39 => if (t39.2) = (((t29 + 1) + a4) - 1) then (mr (.inl t29)) else (H_J1_indexOf_5af95_L14 a2 a4 x1 a1 a3 a5 m17 ((t29 + 1)))))
noncomputable def H_J1_indexOf_5af95 (a1 : Nat) (a2 : Int32) (a3 : Nat) (a4 : Int32) (a5 : Int32) : MH Int32 := mb (mg fun n E => gB n E (a3) (0)) fun x1 => mb (H_J1_indexOf_5af95_L14 a2 a4 x1 a1 a3 a5 FUEL (a5)) fun t3 => match t3 with | .inl r => mr r | .inr t11 => mr (-1 : Int32)
set_option maxHeartbeats 4000000 in
set_option maxRecDepth 100000 in
theorem h_J1_indexOf_5af95 (l : Launch) (dC : Nat → ClassId) (dI : Nat → Nat → Nat) (cy : Nat → ClassId) (nb : Nat → Nat) (ad0 : Nat → Nat) (n0 s0 : Nat) (E0 : HE) (hC : clo n0 E0) (a1 Aa1 : Nat) (ha1 : rf nb ad0 n0 a1 Aa1) (a2 : Int32) (a3 Aa3 : Nat) (ha3 : rf nb ad0 n0 a3 Aa3) (a4 : Int32) (a5 : Int32) (sz : Nat) (ro : Int32) (nz sz9 : Nat) (Ez : HE) (hF : (H_J1_indexOf_5af95 a1 a2 a3 a4 a5).1 (n0, s0, E0) = some (ro, nz, sz9, Ez)) : Met l yJ1_indexOf_5af95 (wsg yJ1_indexOf_5af95 cJ1_indexOf_5af95 11 (some .int)) ({ frames := 8, cells := nz - n0, slots := sz9 - s0, locals := 300 }) (va_Pc [.ref Aa1, .int a2, .ref Aa3, .int a4, .int a5] (fun U => U.heap.size = sz ∧ va_P (dC, dI) vwCl (CH cy nb ad0 n0 E0) U.heap ∧ va_K (dC, dI) vwCl (tyL cy) U ∧ va_D (fun _ => True) (CH cy nb ad0 n0 E0) ∧ GL nb (va_A (CH cy nb ad0 n0 E0) sz) U)) (va_Qi (fun (r : Int32) (_ : Unit) => r = ro) (fun _ t => ∃ ad2 : Nat → Nat, axh n0 ad0 nz ad2 ∧ va_P (dC, dI) vwCl (CH cy nb ad2 nz Ez) t.heap ∧ va_D (va_A (CH cy nb ad0 n0 E0) sz) (CH cy nb ad2 nz Ez)) (va_A (CH cy nb ad0 n0 E0) sz)) (nz - n0) (sz9 - s0) (va_A (CH cy nb ad0 n0 E0) sz) := by
  refine Met.ofW (cc := cJ1_indexOf_5af95) (maxL := 11) (ret := (some .int)) (by decide) rfl ?_
  intro p e s m args below meth c s₁ B hml hv
  obtain ⟨rfl, hsz, hP, hK, hD0, hE⟩ := hv
  have hx := B.exec
  have hb := B.bytes
  have hr := B.returns
  have hts0 := atoms_spec (ws := (wsg yJ1_indexOf_5af95 cJ1_indexOf_5af95 11 (some .int))) B.pre
  have hts : ∀ w ∈ wsL_law, w.before _ s = true := fun w h => hts0 w (List.mem_cons_of_mem _ h)
  have hown : s.vm.findClass RJ1 = some m.cls := by have h9 := findClass_of_methodNamed B.named; exact h9
  subst hsz
  have hD := hD0.self (sz := s.heap.size)
  generalize hAe : va_A (CH cy nb ad0 n0 E0) s.heap.size = A at hD hE ⊢
  have hA : ∀ q : Nat, s.heap.size ≤ q → A q := fun q h => by rw [← hAe]; exact Or.inr h
  have hS : va_S A s.heap s.heap [] := va_S.rf
  have hl := lv_entry ([.ref Aa1, .int a2, .ref Aa3, .int a4, .int a5]) (n := 11) (Nat.le_of_ble_eq_true rfl)
  rw [lg_entry_eq]
  generalize (lg_sl ([.ref Aa1, .int a2, .ref Aa3, .int a4, .int a5]) ++ List.replicate (11 - (lg_sl ([.ref Aa1, .int a2, .ref Aa3, .int a4, .int a5])).length) Slot.unset).toArray = ls at hl ⊢
  have hl : lv_has ls 11 [(0, .ref Aa1), (1, .int a2), (2, .ref Aa3), (3, .int a4), (4, .int a5)] := hl
  generalize hHe : s.heap = H at hP hS ⊢
  have hS : va_S A s.heap H [] := by rw [hHe]; exact hS
  refine my_Q (fun Qn hQ => ?_)
  simp only [H_J1_indexOf_5af95] at hF
  have hX : axh n0 ad0 n0 ad0 := axh_refl
  have hN : n0 ≤ n0 := Nat.le_refl _
  have hT : s0 ≤ s0 := Nat.le_refl _
  refine W.widen (k := n0 - n0) (n := s0 - s0) (by omega) (by omega) ?_
  refine lv_aload_n hx hb dJ1_indexOf_5af95_0 rfl (lv_at hl 2 rfl) ?_
  refine lv_iconst (v := 0) hx hb dJ1_indexOf_5af95_1 (by decide) ?_
  obtain ⟨x1, e2, hF⟩ := mg_o hF
  refine hs_gB hx hb hK hP hC hE hS ha3 e2 dJ1_indexOf_5af95_2 ?_
  refine lv_istore (lv' := [(5, .int x1), (0, .ref Aa1), (1, .int a2), (2, .ref Aa3), (3, .int a4), (4, .int a5)]) hx hb dJ1_indexOf_5af95_3 hl (by decide) rfl (fun ls hl => ?_)
  refine lv_iload_n hx hb dJ1_indexOf_5af95_5 rfl (lv_at hl 2 rfl) ?_
  refine lv_iload_n hx hb dJ1_indexOf_5af95_6 rfl (lv_at hl 4 rfl) ?_
  refine lv_isub hx hb dJ1_indexOf_5af95_7 ?_
  refine lv_istore (lv' := [(6, .int (a2 - a4)), (5, .int x1), (0, .ref Aa1), (1, .int a2), (2, .ref Aa3), (3, .int a4), (4, .int a5)]) hx hb dJ1_indexOf_5af95_8 hl (by decide) rfl (fun ls hl => ?_)
  refine lv_iload hx hb dJ1_indexOf_5af95_10 (lv_at hl 6 rfl) ?_
  refine lv_istore (lv' := [(7, .int a5), (6, .int (a2 - a4)), (5, .int x1), (0, .ref Aa1), (1, .int a2), (2, .ref Aa3), (3, .int a4), (4, .int a5)]) hx hb dJ1_indexOf_5af95_12 hl (by decide) rfl (fun ls hl => ?_)
  obtain ⟨t3, n5, s6, E7, hL4, hF⟩ := mb_o hF
  have hm := mle hL4
  have kx9 : ∀ (t11 : Int32), t3 = .inr t11 → ∀ (ad8 : Nat → Nat) (H : Heap) (locs : List Loc) (ls : Array Slot), axh n0 ad0 n5 ad8 → rf nb ad8 n5 (a1) (Aa1) → rf nb ad8 n5 (a3) (Aa3) → va_P (dC, dI) vwCl (CH cy nb ad8 n5 E7) H → va_D A (CH cy nb ad8 n5 E7) → va_S A s.heap H locs → lv_has ls 11 [(7, .int t11), (6, .int (a2 - a4)), (5, .int x1), (0, .ref Aa1), (1, .int a2), (2, .ref Aa3), (3, .int a4), (4, .int a5)] → W p l e (headSpec (wsg yJ1_indexOf_5af95 cJ1_indexOf_5af95 11 (some .int)) ({ frames := 8, cells := nz - n0, slots := sz9 - s0, locals := 300 })).room s m ([.ref Aa1, .int a2, .ref Aa3, .int a4, .int a5] : List Value).toArray below meth c H locs (n5 - n0) (s6 - s0) Qn (F0 m 119 ls []) := by
    intro t11 he
    subst he
    intro ad8 H locs ls hX hr12 hr13 hP hD hS hl
    have hC := hm.2.2 hC
    have hN : n0 ≤ n5 := Nat.le_trans hN hm.1
    have hT : s0 ≤ s6 := Nat.le_trans hT hm.2.1
    clear hm
    refine lv_iconst (v := (-1)) hx hb dJ1_indexOf_5af95_119 (by decide) ?_
    obtain ⟨ht9, hn9, hs9, hE9⟩ := mr_o hF
    subst hn9 hs9 hE9
    have hX9 := hX
    rw [hQ]
    exact W.iret (v := (-1)) hx hb hr (fun t ht hW => ⟨⟨(-1), (), rfl, ht9, _, hX, by rw [ht]; exact hP, hD⟩, hS.F ht⟩) hS.2.2 dJ1_indexOf_5af95_120
  have kr10 : ∀ r : Int32, t3 = .inl r → (mr r : MH _).1 (n5, s6, E7) = some (ro, nz, sz9, Ez) := by
    intro r he
    subst he
    exact hF
  have hK14 := mle1 hF
  have hK15 := mle2 hF
  clear hF hm
  have loop16 : ∀ (m17 : Nat) (y22 : Int32) (n19 s20 : Nat) (E21 : HE), (H_J1_indexOf_5af95_L14 a2 a4 x1 a1 a3 a5 m17 y22).1 (n19, s20, E21) = some (t3, n5, s6, E7) → clo n19 E21 → n0 ≤ n19 → s0 ≤ s20 → ∀ (ad18 : Nat → Nat) (H : Heap) (locs : List Loc) (ls : Array Slot), axh n0 ad0 n19 ad18 → rf nb ad18 n19 (a1) (Aa1) → rf nb ad18 n19 (a3) (Aa3) → va_P (dC, dI) vwCl (CH cy nb ad18 n19 E21) H → va_D A (CH cy nb ad18 n19 E21) → va_S A s.heap H locs → lv_has ls 11 [(7, .int y22), (6, .int (a2 - a4)), (5, .int x1), (0, .ref Aa1), (1, .int a2), (2, .ref Aa3), (3, .int a4), (4, .int a5)] → W p l e (headSpec (wsg yJ1_indexOf_5af95 cJ1_indexOf_5af95 11 (some .int)) ({ frames := 8, cells := nz - n0, slots := sz9 - s0, locals := 300 })).room s m ([.ref Aa1, .int a2, .ref Aa3, .int a4, .int a5] : List Value).toArray below meth c H locs (n19 - n0) (s20 - s0) Qn (F0 m 14 ls []) := by
    intro m17
    induction m17 with
    | zero => intro y22 n19 s20 E21 hF; exact (m0_o hF).elim
    | succ m17 ih =>
      intro y22 n19 s20 E21 hF hC hN hT ad18 H locs ls hX hr23 hr24 hP hD hS hl
      simp only [H_J1_indexOf_5af95_L14] at hF
      refine lv_iload hx hb dJ1_indexOf_5af95_14 (lv_at hl 0 rfl) ?_
      refine lv_iload hx hb dJ1_indexOf_5af95_16 (lv_at hl 1 rfl) ?_
      refine lv_icmp_gt (tgt := 119) hx hb dJ1_indexOf_5af95_18 (by decide) (fun c25 => ?_) (fun c25 => ?_)
      · skip
        rw [if_pos c25] at hF
        obtain ⟨ht9, hn9, hs9, hE9⟩ := mr_o hF
        subst hn9 hs9 hE9
        have hl := lv_sub (l' := [(7, .int y22), (6, .int (a2 - a4)), (5, .int x1), (0, .ref Aa1), (1, .int a2), (2, .ref Aa3), (3, .int a4), (4, .int a5)]) hl [0, 1, 2, 3, 4, 5, 6, 7] rfl
        exact kx9 _ ht9.symm _ _ _ _ hX hr23 hr24 hP hD hS hl
      · skip
        rw [if_neg c25] at hF
        refine lv_aload_n hx hb dJ1_indexOf_5af95_21 rfl (lv_at hl 3 rfl) ?_
        refine lv_iload hx hb dJ1_indexOf_5af95_22 (lv_at hl 0 rfl) ?_
        obtain ⟨x26, e27, hF⟩ := mg_o hF
        refine hs_gB hx hb hK hP hC hE hS hr23 e27 dJ1_indexOf_5af95_24 ?_
        refine lv_iload hx hb dJ1_indexOf_5af95_25 (lv_at hl 2 rfl) ?_
        obtain ⟨t29, n32, s33, E34, hJ30, hF⟩ := mb_o hF
        have hm := mle hJ30
        have join35 : ∀ (ad31 : Nat → Nat) (H : Heap) (locs : List Loc) (ls : Array Slot), axh n0 ad0 n32 ad31 → rf nb ad31 n32 (a1) (Aa1) → rf nb ad31 n32 (a3) (Aa3) → va_P (dC, dI) vwCl (CH cy nb ad31 n32 E34) H → va_D A (CH cy nb ad31 n32 E34) → va_S A s.heap H locs → lv_has ls 11 [(7, .int t29), (6, .int (a2 - a4)), (5, .int x1), (0, .ref Aa1), (1, .int a2), (2, .ref Aa3), (3, .int a4), (4, .int a5)] → W p l e (headSpec (wsg yJ1_indexOf_5af95 cJ1_indexOf_5af95 11 (some .int)) ({ frames := 8, cells := nz - n0, slots := sz9 - s0, locals := 300 })).room s m ([.ref Aa1, .int a2, .ref Aa3, .int a4, .int a5] : List Value).toArray below meth c H locs (n32 - n0) (s33 - s0) Qn (F0 m 52 ls []) := by
          intro ad31 H locs ls hX hr36 hr37 hP hD hS hl
          have hC := hm.2.2 hC
          have hN : n0 ≤ n32 := Nat.le_trans hN hm.1
          have hT : s0 ≤ s33 := Nat.le_trans hT hm.2.1
          clear hm
          refine lv_iload hx hb dJ1_indexOf_5af95_52 (lv_at hl 0 rfl) ?_
          refine lv_iload hx hb dJ1_indexOf_5af95_54 (lv_at hl 1 rfl) ?_
          refine lv_icmp_gt (tgt := 113) hx hb dJ1_indexOf_5af95_56 (by decide) (fun c38 => ?_) (fun c38 => ?_)
          · skip
            rw [if_pos c38] at hF
            refine lv_iinc (v := (t29 + 1)) (lv' := [(7, .int (t29 + 1)), (6, .int (a2 - a4)), (5, .int x1), (0, .ref Aa1), (1, .int a2), (2, .ref Aa3), (3, .int a4), (4, .int a5)]) hx hb dJ1_indexOf_5af95_113 hl (k := 0) rfl (by rfl) (by decide) rfl (fun ls hl => ?_)
            refine lv_goto (tgt := 14) hx hb dJ1_indexOf_5af95_116 (by decide) ?_
            have hl := lv_sub (l' := [(7, .int (t29 + 1)), (6, .int (a2 - a4)), (5, .int x1), (0, .ref Aa1), (1, .int a2), (2, .ref Aa3), (3, .int a4), (4, .int a5)]) hl [0, 1, 2, 3, 4, 5, 6, 7] rfl
            exact ih _ _ _ _ hF hC hN hT _ _ _ _ hX hr36 hr37 hP hD hS hl
          · skip
            rw [if_neg c38] at hF
            refine lv_iload hx hb dJ1_indexOf_5af95_59 (lv_at hl 0 rfl) ?_
            refine lv_iconst (v := 1) hx hb dJ1_indexOf_5af95_61 (by decide) ?_
            refine lv_iadd hx hb dJ1_indexOf_5af95_62 ?_
            refine lv_istore (lv' := [(8, .int (t29 + 1)), (7, .int t29), (6, .int (a2 - a4)), (5, .int x1), (0, .ref Aa1), (1, .int a2), (2, .ref Aa3), (3, .int a4), (4, .int a5)]) hx hb dJ1_indexOf_5af95_63 hl (by decide) rfl (fun ls hl => ?_)
            refine lv_iload hx hb dJ1_indexOf_5af95_65 (lv_at hl 0 rfl) ?_
            refine lv_iload_n hx hb dJ1_indexOf_5af95_67 rfl (lv_at hl 7 rfl) ?_
            refine lv_iadd hx hb dJ1_indexOf_5af95_68 ?_
            refine lv_iconst (v := 1) hx hb dJ1_indexOf_5af95_69 (by decide) ?_
            refine lv_isub hx hb dJ1_indexOf_5af95_70 ?_
            refine lv_istore (lv' := [(9, .int (((t29 + 1) + a4) - 1)), (8, .int (t29 + 1)), (7, .int t29), (6, .int (a2 - a4)), (5, .int x1), (0, .ref Aa1), (1, .int a2), (2, .ref Aa3), (3, .int a4), (4, .int a5)]) hx hb dJ1_indexOf_5af95_71 hl (by decide) rfl (fun ls hl => ?_)
            refine lv_iconst (v := 1) hx hb dJ1_indexOf_5af95_73 (by decide) ?_
            refine lv_istore (lv' := [(10, .int 1), (9, .int (((t29 + 1) + a4) - 1)), (8, .int (t29 + 1)), (7, .int t29), (6, .int (a2 - a4)), (5, .int x1), (0, .ref Aa1), (1, .int a2), (2, .ref Aa3), (3, .int a4), (4, .int a5)]) hx hb dJ1_indexOf_5af95_74 hl (by decide) rfl (fun ls hl => ?_)
            obtain ⟨t39, n41, s42, E43, hL40, hF⟩ := mb_o hF
            have hm := mle hL40
            have kx45 : ∀ (ad44 : Nat → Nat) (H : Heap) (locs : List Loc) (ls : Array Slot), axh n0 ad0 n41 ad44 → rf nb ad44 n41 (a1) (Aa1) → rf nb ad44 n41 (a3) (Aa3) → va_P (dC, dI) vwCl (CH cy nb ad44 n41 E43) H → va_D A (CH cy nb ad44 n41 E43) → va_S A s.heap H locs → lv_has ls 11 [(10, .int (t39.1)), (8, .int (t39.2)), (9, .int (((t29 + 1) + a4) - 1)), (7, .int t29), (6, .int (a2 - a4)), (5, .int x1), (0, .ref Aa1), (1, .int a2), (2, .ref Aa3), (3, .int a4), (4, .int a5)] → W p l e (headSpec (wsg yJ1_indexOf_5af95 cJ1_indexOf_5af95 11 (some .int)) ({ frames := 8, cells := nz - n0, slots := sz9 - s0, locals := 300 })).room s m ([.ref Aa1, .int a2, .ref Aa3, .int a4, .int a5] : List Value).toArray below meth c H locs (n41 - n0) (s42 - s0) Qn (F0 m 103 ls []) := by
              intro ad44 H locs ls hX hr47 hr48 hP hD hS hl
              have hC := hm.2.2 hC
              have hN : n0 ≤ n41 := Nat.le_trans hN hm.1
              have hT : s0 ≤ s42 := Nat.le_trans hT hm.2.1
              clear hm
              refine lv_iload hx hb dJ1_indexOf_5af95_103 (lv_at hl 1 rfl) ?_
              refine lv_iload hx hb dJ1_indexOf_5af95_105 (lv_at hl 2 rfl) ?_
              refine lv_icmp_ne (tgt := 113) hx hb dJ1_indexOf_5af95_107 (by decide) (fun c49 => ?_) (fun c49 => ?_)
              · skip
                rw [if_neg c49] at hF
                refine lv_iinc (v := (t29 + 1)) (lv' := [(7, .int (t29 + 1)), (10, .int (t39.1)), (8, .int (t39.2)), (9, .int (((t29 + 1) + a4) - 1)), (6, .int (a2 - a4)), (5, .int x1), (0, .ref Aa1), (1, .int a2), (2, .ref Aa3), (3, .int a4), (4, .int a5)]) hx hb dJ1_indexOf_5af95_113 hl (k := 3) rfl (by rfl) (by decide) rfl (fun ls hl => ?_)
                refine lv_goto (tgt := 14) hx hb dJ1_indexOf_5af95_116 (by decide) ?_
                have hl := lv_sub (l' := [(7, .int (t29 + 1)), (6, .int (a2 - a4)), (5, .int x1), (0, .ref Aa1), (1, .int a2), (2, .ref Aa3), (3, .int a4), (4, .int a5)]) hl [0, 4, 5, 6, 7, 8, 9, 10] rfl
                exact ih _ _ _ _ hF hC hN hT _ _ _ _ hX hr47 hr48 hP hD hS hl
              · skip
                rw [if_pos c49] at hF
                refine lv_iload hx hb dJ1_indexOf_5af95_110 (lv_at hl 3 rfl) ?_
                obtain ⟨hi9, hn9, hs9, hE9⟩ := mr_o hF
                subst hn9 hs9 hE9
                have hF := kr10 _ hi9.symm
                obtain ⟨ht9, hn9, hs9, hE9⟩ := mr_o hF
                subst hn9 hs9 hE9
                rw [hQ]
                exact W.iret (v := t29) hx hb hr (fun t ht hW => ⟨⟨t29, (), rfl, ht9, _, hX, by rw [ht]; exact hP, hD⟩, hS.F ht⟩) hS.2.2 dJ1_indexOf_5af95_112
            have hK50 := mle1 hF
            have hK51 := mle2 hF
            clear hF hm
            have loop52 : ∀ (m53 : Nat) (y58 : Int32) (y59 : Int32) (n55 s56 : Nat) (E57 : HE), (H_J1_indexOf_5af95_L76 t29 a4 a2 x1 a1 a3 a5 m53 y58 y59).1 (n55, s56, E57) = some (t39, n41, s42, E43) → clo n55 E57 → n0 ≤ n55 → s0 ≤ s56 → ∀ (ad54 : Nat → Nat) (H : Heap) (locs : List Loc) (ls : Array Slot), axh n0 ad0 n55 ad54 → rf nb ad54 n55 (a1) (Aa1) → rf nb ad54 n55 (a3) (Aa3) → va_P (dC, dI) vwCl (CH cy nb ad54 n55 E57) H → va_D A (CH cy nb ad54 n55 E57) → va_S A s.heap H locs → lv_has ls 11 [(10, .int y58), (8, .int y59), (9, .int (((t29 + 1) + a4) - 1)), (7, .int t29), (6, .int (a2 - a4)), (5, .int x1), (0, .ref Aa1), (1, .int a2), (2, .ref Aa3), (3, .int a4), (4, .int a5)] → W p l e (headSpec (wsg yJ1_indexOf_5af95 cJ1_indexOf_5af95 11 (some .int)) ({ frames := 8, cells := nz - n0, slots := sz9 - s0, locals := 300 })).room s m ([.ref Aa1, .int a2, .ref Aa3, .int a4, .int a5] : List Value).toArray below meth c H locs (n55 - n0) (s56 - s0) Qn (F0 m 76 ls []) := by
              intro m53
              induction m53 with
              | zero => intro y58 y59 n55 s56 E57 hF; exact (m0_o hF).elim
              | succ m53 ih =>
                intro y58 y59 n55 s56 E57 hF hC hN hT ad54 H locs ls hX hr60 hr61 hP hD hS hl
                simp only [H_J1_indexOf_5af95_L76] at hF
                refine lv_iload hx hb dJ1_indexOf_5af95_76 (lv_at hl 1 rfl) ?_
                refine lv_iload hx hb dJ1_indexOf_5af95_78 (lv_at hl 2 rfl) ?_
                refine lv_icmp_ge (tgt := 103) hx hb dJ1_indexOf_5af95_80 (by decide) (fun c62 => ?_) (fun c62 => ?_)
                · skip
                  rw [if_pos c62] at hF
                  obtain ⟨ht9, hn9, hs9, hE9⟩ := mr_o hF
                  subst hn9 hs9 hE9
                  subst ht9
                  have hl := lv_sub (l' := [(10, .int y58), (8, .int y59), (9, .int (((t29 + 1) + a4) - 1)), (7, .int t29), (6, .int (a2 - a4)), (5, .int x1), (0, .ref Aa1), (1, .int a2), (2, .ref Aa3), (3, .int a4), (4, .int a5)]) hl [0, 1, 2, 3, 4, 5, 6, 7, 8, 9, 10] rfl
                  exact kx45 _ _ _ _ hX hr60 hr61 hP hD hS hl
                · skip
                  rw [if_neg c62] at hF
                  refine lv_aload_n hx hb dJ1_indexOf_5af95_83 rfl (lv_at hl 6 rfl) ?_
                  refine lv_iload hx hb dJ1_indexOf_5af95_84 (lv_at hl 1 rfl) ?_
                  obtain ⟨x63, e64, hF⟩ := mg_o hF
                  refine hs_gB hx hb hK hP hC hE hS hr60 e64 dJ1_indexOf_5af95_86 ?_
                  refine lv_aload_n hx hb dJ1_indexOf_5af95_87 rfl (lv_at hl 8 rfl) ?_
                  refine lv_iload hx hb dJ1_indexOf_5af95_88 (lv_at hl 0 rfl) ?_
                  obtain ⟨x65, e66, hF⟩ := mg_o hF
                  refine hs_gB hx hb hK hP hC hE hS hr61 e66 dJ1_indexOf_5af95_90 ?_
                  refine lv_icmp_ne (tgt := 103) hx hb dJ1_indexOf_5af95_91 (by decide) (fun c67 => ?_) (fun c67 => ?_)
                  · skip
                    rw [if_neg c67] at hF
                    obtain ⟨ht9, hn9, hs9, hE9⟩ := mr_o hF
                    subst hn9 hs9 hE9
                    subst ht9
                    have hl := lv_sub (l' := [(10, .int y58), (8, .int y59), (9, .int (((t29 + 1) + a4) - 1)), (7, .int t29), (6, .int (a2 - a4)), (5, .int x1), (0, .ref Aa1), (1, .int a2), (2, .ref Aa3), (3, .int a4), (4, .int a5)]) hl [0, 1, 2, 3, 4, 5, 6, 7, 8, 9, 10] rfl
                    exact kx45 _ _ _ _ hX hr60 hr61 hP hD hS hl
                  · skip
                    rw [if_pos c67] at hF
                    refine lv_iinc (v := (y59 + 1)) (lv' := [(8, .int (y59 + 1)), (10, .int y58), (9, .int (((t29 + 1) + a4) - 1)), (7, .int t29), (6, .int (a2 - a4)), (5, .int x1), (0, .ref Aa1), (1, .int a2), (2, .ref Aa3), (3, .int a4), (4, .int a5)]) hx hb dJ1_indexOf_5af95_94 hl (k := 1) rfl (by rfl) (by decide) rfl (fun ls hl => ?_)
                    refine lv_iinc (v := (y58 + 1)) (lv' := [(10, .int (y58 + 1)), (8, .int (y59 + 1)), (9, .int (((t29 + 1) + a4) - 1)), (7, .int t29), (6, .int (a2 - a4)), (5, .int x1), (0, .ref Aa1), (1, .int a2), (2, .ref Aa3), (3, .int a4), (4, .int a5)]) hx hb dJ1_indexOf_5af95_97 hl (k := 1) rfl (by rfl) (by decide) rfl (fun ls hl => ?_)
                    refine lv_goto (tgt := 76) hx hb dJ1_indexOf_5af95_100 (by decide) ?_
                    have hl := lv_sub (l' := [(10, .int (y58 + 1)), (8, .int (y59 + 1)), (9, .int (((t29 + 1) + a4) - 1)), (7, .int t29), (6, .int (a2 - a4)), (5, .int x1), (0, .ref Aa1), (1, .int a2), (2, .ref Aa3), (3, .int a4), (4, .int a5)]) hl [0, 1, 2, 3, 4, 5, 6, 7, 8, 9, 10] rfl
                    exact ih _ _ _ _ _ hF hC hN hT _ _ _ _ hX hr60 hr61 hP hD hS hl
            have hl := lv_sub (l' := [(10, .int 1), (8, .int (t29 + 1)), (9, .int (((t29 + 1) + a4) - 1)), (7, .int t29), (6, .int (a2 - a4)), (5, .int x1), (0, .ref Aa1), (1, .int a2), (2, .ref Aa3), (3, .int a4), (4, .int a5)]) hl [0, 2, 1, 3, 4, 5, 6, 7, 8, 9, 10] rfl
            exact loop52 FUEL _ _ _ _ _ hL40 hC hN hT _ _ _ _ hX hr36 hr37 hP hD hS hl
        have hK68 := mle1 hF
        have hK69 := mle2 hF
        clear hF hm
        have hF := hJ30
        clear hJ30
        refine lv_icmp_eq (tgt := 52) hx hb dJ1_indexOf_5af95_27 (by decide) (fun c28 => ?_) (fun c28 => ?_)
        · skip
          rw [if_pos c28] at hF
          obtain ⟨ht9, hn9, hs9, hE9⟩ := mr_o hF
          subst ht9 hn9 hs9 hE9
          have hl := lv_sub (l' := [(7, .int y22), (6, .int (a2 - a4)), (5, .int x1), (0, .ref Aa1), (1, .int a2), (2, .ref Aa3), (3, .int a4), (4, .int a5)]) hl [0, 1, 2, 3, 4, 5, 6, 7] rfl
          exact join35 _ _ _ _ hX hr23 hr24 hP hD hS hl
        · skip
          rw [if_neg c28] at hF
          obtain ⟨t70, n72, s73, E74, hL71, hF⟩ := mb_o hF
          have hm := mle hL71
          have kx76 : ∀ (ad75 : Nat → Nat) (H : Heap) (locs : List Loc) (ls : Array Slot), axh n0 ad0 n72 ad75 → rf nb ad75 n72 (a1) (Aa1) → rf nb ad75 n72 (a3) (Aa3) → va_P (dC, dI) vwCl (CH cy nb ad75 n72 E74) H → va_D A (CH cy nb ad75 n72 E74) → va_S A s.heap H locs → lv_has ls 11 [(7, .int t70), (6, .int (a2 - a4)), (5, .int x1), (0, .ref Aa1), (1, .int a2), (2, .ref Aa3), (3, .int a4), (4, .int a5)] → W p l e (headSpec (wsg yJ1_indexOf_5af95 cJ1_indexOf_5af95 11 (some .int)) ({ frames := 8, cells := nz - n0, slots := sz9 - s0, locals := 300 })).room s m ([.ref Aa1, .int a2, .ref Aa3, .int a4, .int a5] : List Value).toArray below meth c H locs (n72 - n0) (s73 - s0) Qn (F0 m 52 ls []) := by
            intro ad75 H locs ls hX hr78 hr79 hP hD hS hl
            have hC := hm.2.2 hC
            have hN : n0 ≤ n72 := Nat.le_trans hN hm.1
            have hT : s0 ≤ s73 := Nat.le_trans hT hm.2.1
            clear hm
            obtain ⟨ht9, hn9, hs9, hE9⟩ := mr_o hF
            subst ht9 hn9 hs9 hE9
            have hl := lv_sub (l' := [(7, .int t70), (6, .int (a2 - a4)), (5, .int x1), (0, .ref Aa1), (1, .int a2), (2, .ref Aa3), (3, .int a4), (4, .int a5)]) hl [0, 1, 2, 3, 4, 5, 6, 7] rfl
            exact join35 _ _ _ _ hX hr78 hr79 hP hD hS hl
          have hK80 := mle1 hF
          have hK81 := mle2 hF
          clear hF hm
          have loop82 : ∀ (m83 : Nat) (y88 : Int32) (n85 s86 : Nat) (E87 : HE), (H_J1_indexOf_5af95_L30 a2 a4 x1 a1 a3 a5 m83 y88).1 (n85, s86, E87) = some (t70, n72, s73, E74) → clo n85 E87 → n0 ≤ n85 → s0 ≤ s86 → ∀ (ad84 : Nat → Nat) (H : Heap) (locs : List Loc) (ls : Array Slot), axh n0 ad0 n85 ad84 → rf nb ad84 n85 (a1) (Aa1) → rf nb ad84 n85 (a3) (Aa3) → va_P (dC, dI) vwCl (CH cy nb ad84 n85 E87) H → va_D A (CH cy nb ad84 n85 E87) → va_S A s.heap H locs → lv_has ls 11 [(7, .int y88), (6, .int (a2 - a4)), (5, .int x1), (0, .ref Aa1), (1, .int a2), (2, .ref Aa3), (3, .int a4), (4, .int a5)] → W p l e (headSpec (wsg yJ1_indexOf_5af95 cJ1_indexOf_5af95 11 (some .int)) ({ frames := 8, cells := nz - n0, slots := sz9 - s0, locals := 300 })).room s m ([.ref Aa1, .int a2, .ref Aa3, .int a4, .int a5] : List Value).toArray below meth c H locs (n85 - n0) (s86 - s0) Qn (F0 m 30 ls []) := by
            intro m83
            induction m83 with
            | zero => intro y88 n85 s86 E87 hF; exact (m0_o hF).elim
            | succ m83 ih =>
              intro y88 n85 s86 E87 hF hC hN hT ad84 H locs ls hX hr89 hr90 hP hD hS hl
              simp only [H_J1_indexOf_5af95_L30] at hF
              refine lv_iinc (v := (y88 + 1)) (lv' := [(7, .int (y88 + 1)), (6, .int (a2 - a4)), (5, .int x1), (0, .ref Aa1), (1, .int a2), (2, .ref Aa3), (3, .int a4), (4, .int a5)]) hx hb dJ1_indexOf_5af95_30 hl (k := 0) rfl (by rfl) (by decide) rfl (fun ls hl => ?_)
              refine lv_iload hx hb dJ1_indexOf_5af95_33 (lv_at hl 0 rfl) ?_
              refine lv_iload hx hb dJ1_indexOf_5af95_35 (lv_at hl 1 rfl) ?_
              refine lv_icmp_gt (tgt := 52) hx hb dJ1_indexOf_5af95_37 (by decide) (fun c91 => ?_) (fun c91 => ?_)
              · skip
                rw [if_pos c91] at hF
                obtain ⟨ht9, hn9, hs9, hE9⟩ := mr_o hF
                subst hn9 hs9 hE9
                subst ht9
                have hl := lv_sub (l' := [(7, .int (y88 + 1)), (6, .int (a2 - a4)), (5, .int x1), (0, .ref Aa1), (1, .int a2), (2, .ref Aa3), (3, .int a4), (4, .int a5)]) hl [0, 1, 2, 3, 4, 5, 6, 7] rfl
                exact kx76 _ _ _ _ hX hr89 hr90 hP hD hS hl
              · skip
                rw [if_neg c91] at hF
                refine lv_aload_n hx hb dJ1_indexOf_5af95_40 rfl (lv_at hl 3 rfl) ?_
                refine lv_iload hx hb dJ1_indexOf_5af95_41 (lv_at hl 0 rfl) ?_
                obtain ⟨x92, e93, hF⟩ := mg_o hF
                refine hs_gB hx hb hK hP hC hE hS hr89 e93 dJ1_indexOf_5af95_43 ?_
                refine lv_iload hx hb dJ1_indexOf_5af95_44 (lv_at hl 2 rfl) ?_
                refine lv_icmp_eq (tgt := 52) hx hb dJ1_indexOf_5af95_46 (by decide) (fun c94 => ?_) (fun c94 => ?_)
                · skip
                  rw [if_pos c94] at hF
                  obtain ⟨ht9, hn9, hs9, hE9⟩ := mr_o hF
                  subst hn9 hs9 hE9
                  subst ht9
                  have hl := lv_sub (l' := [(7, .int (y88 + 1)), (6, .int (a2 - a4)), (5, .int x1), (0, .ref Aa1), (1, .int a2), (2, .ref Aa3), (3, .int a4), (4, .int a5)]) hl [0, 1, 2, 3, 4, 5, 6, 7] rfl
                  exact kx76 _ _ _ _ hX hr89 hr90 hP hD hS hl
                · skip
                  rw [if_neg c94] at hF
                  refine lv_goto (tgt := 30) hx hb dJ1_indexOf_5af95_49 (by decide) ?_
                  have hl := lv_sub (l' := [(7, .int (y88 + 1)), (6, .int (a2 - a4)), (5, .int x1), (0, .ref Aa1), (1, .int a2), (2, .ref Aa3), (3, .int a4), (4, .int a5)]) hl [0, 1, 2, 3, 4, 5, 6, 7] rfl
                  exact ih _ _ _ _ hF hC hN hT _ _ _ _ hX hr89 hr90 hP hD hS hl
          have hl := lv_sub (l' := [(7, .int y22), (6, .int (a2 - a4)), (5, .int x1), (0, .ref Aa1), (1, .int a2), (2, .ref Aa3), (3, .int a4), (4, .int a5)]) hl [0, 1, 2, 3, 4, 5, 6, 7] rfl
          exact loop82 FUEL _ _ _ _ hL71 hC hN hT _ _ _ _ hX hr23 hr24 hP hD hS hl
  have hl := lv_sub (l' := [(7, .int a5), (6, .int (a2 - a4)), (5, .int x1), (0, .ref Aa1), (1, .int a2), (2, .ref Aa3), (3, .int a4), (4, .int a5)]) hl [0, 1, 2, 3, 4, 5, 6, 7] rfl
  exact loop16 FUEL _ _ _ _ hL4 hC hN hT _ _ _ _ hX ha1 ha3 hP hD hS hl
noncomputable def H_J1_indexOf_b82b6 (a1 : Nat) (a2 : Nat) : MH Int32 := mb (mg fun n E => lB n E (a2)) fun x1 => if x1 = 0 then (mr (0 : Int32)) else (mb (mg fun n E => lB n E (a1)) fun x4 => if x4 = 0 then (mr (-1 : Int32)) else (mb (mg fun n E => lB n E (a1)) fun x7 => mb (mg fun n E => lB n E (a2)) fun x9 => mb (H_J1_indexOf_5af95 (a1) (x7) (a2) (x9) (0)) fun x11 => mr x11))
set_option maxHeartbeats 4000000 in
set_option maxRecDepth 100000 in
theorem h_J1_indexOf_b82b6 (l : Launch) (dC : Nat → ClassId) (dI : Nat → Nat → Nat) (cy : Nat → ClassId) (nb : Nat → Nat) (ad0 : Nat → Nat) (n0 s0 : Nat) (E0 : HE) (hC : clo n0 E0) (a1 Aa1 : Nat) (ha1 : rf nb ad0 n0 a1 Aa1) (a2 Aa2 : Nat) (ha2 : rf nb ad0 n0 a2 Aa2) (sz : Nat) (ro : Int32) (nz sz9 : Nat) (Ez : HE) (hF : (H_J1_indexOf_b82b6 a1 a2).1 (n0, s0, E0) = some (ro, nz, sz9, Ez)) : Met l yJ1_indexOf_b82b6 (wsg yJ1_indexOf_b82b6 cJ1_indexOf_b82b6 2 (some .int)) ({ frames := 9, cells := nz - n0, slots := sz9 - s0, locals := 400 }) (va_Pc [.ref Aa1, .ref Aa2] (fun U => U.heap.size = sz ∧ va_P (dC, dI) vwCl (CH cy nb ad0 n0 E0) U.heap ∧ va_K (dC, dI) vwCl (tyL cy) U ∧ va_D (fun _ => True) (CH cy nb ad0 n0 E0) ∧ GL nb (va_A (CH cy nb ad0 n0 E0) sz) U)) (va_Qi (fun (r : Int32) (_ : Unit) => r = ro) (fun _ t => ∃ ad2 : Nat → Nat, axh n0 ad0 nz ad2 ∧ va_P (dC, dI) vwCl (CH cy nb ad2 nz Ez) t.heap ∧ va_D (va_A (CH cy nb ad0 n0 E0) sz) (CH cy nb ad2 nz Ez)) (va_A (CH cy nb ad0 n0 E0) sz)) (nz - n0) (sz9 - s0) (va_A (CH cy nb ad0 n0 E0) sz) := by
  refine Met.ofW (cc := cJ1_indexOf_b82b6) (maxL := 2) (ret := (some .int)) (by decide) rfl ?_
  intro p e s m args below meth c s₁ B hml hv
  obtain ⟨rfl, hsz, hP, hK, hD0, hE⟩ := hv
  have hx := B.exec
  have hb := B.bytes
  have hr := B.returns
  have hts0 := atoms_spec (ws := (wsg yJ1_indexOf_b82b6 cJ1_indexOf_b82b6 2 (some .int))) B.pre
  have hts : ∀ w ∈ wsL_law, w.before _ s = true := fun w h => hts0 w (List.mem_cons_of_mem _ h)
  have hown : s.vm.findClass RJ1 = some m.cls := by have h9 := findClass_of_methodNamed B.named; exact h9
  subst hsz
  have hD := hD0.self (sz := s.heap.size)
  generalize hAe : va_A (CH cy nb ad0 n0 E0) s.heap.size = A at hD hE ⊢
  have hA : ∀ q : Nat, s.heap.size ≤ q → A q := fun q h => by rw [← hAe]; exact Or.inr h
  have hS : va_S A s.heap s.heap [] := va_S.rf
  have hl := lv_entry ([.ref Aa1, .ref Aa2]) (n := 2) (Nat.le_of_ble_eq_true rfl)
  rw [lg_entry_eq]
  generalize (lg_sl ([.ref Aa1, .ref Aa2]) ++ List.replicate (2 - (lg_sl ([.ref Aa1, .ref Aa2])).length) Slot.unset).toArray = ls at hl ⊢
  have hl : lv_has ls 2 [(0, .ref Aa1), (1, .ref Aa2)] := hl
  generalize hHe : s.heap = H at hP hS ⊢
  have hS : va_S A s.heap H [] := by rw [hHe]; exact hS
  refine my_Q (fun Qn hQ => ?_)
  simp only [H_J1_indexOf_b82b6] at hF
  have hX : axh n0 ad0 n0 ad0 := axh_refl
  have hN : n0 ≤ n0 := Nat.le_refl _
  have hT : s0 ≤ s0 := Nat.le_refl _
  refine W.widen (k := n0 - n0) (n := s0 - s0) (by omega) (by omega) ?_
  refine lv_aload_n hx hb dJ1_indexOf_b82b6_0 rfl (lv_at hl 1 rfl) ?_
  obtain ⟨x1, e2, hF⟩ := mg_o hF
  refine hs_lB hx hb hK hP hC hE hS ha2 e2 dJ1_indexOf_b82b6_1 ?_
  refine lv_if_ne (tgt := 7) hx hb dJ1_indexOf_b82b6_2 (by decide) (fun c3 => ?_) (fun c3 => ?_)
  · skip
    rw [if_neg c3] at hF
    refine lv_aload_n hx hb dJ1_indexOf_b82b6_7 rfl (lv_at hl 0 rfl) ?_
    obtain ⟨x4, e5, hF⟩ := mg_o hF
    refine hs_lB hx hb hK hP hC hE hS ha1 e5 dJ1_indexOf_b82b6_8 ?_
    refine lv_if_ne (tgt := 14) hx hb dJ1_indexOf_b82b6_9 (by decide) (fun c6 => ?_) (fun c6 => ?_)
    · skip
      rw [if_neg c6] at hF
      refine lv_aload_n hx hb dJ1_indexOf_b82b6_14 rfl (lv_at hl 0 rfl) ?_
      refine lv_aload_n hx hb dJ1_indexOf_b82b6_15 rfl (lv_at hl 0 rfl) ?_
      obtain ⟨x7, e8, hF⟩ := mg_o hF
      refine hs_lB hx hb hK hP hC hE hS ha1 e8 dJ1_indexOf_b82b6_16 ?_
      refine lv_aload_n hx hb dJ1_indexOf_b82b6_17 rfl (lv_at hl 1 rfl) ?_
      refine lv_aload_n hx hb dJ1_indexOf_b82b6_18 rfl (lv_at hl 1 rfl) ?_
      obtain ⟨x9, e10, hF⟩ := mg_o hF
      refine hs_lB hx hb hK hP hC hE hS ha2 e10 dJ1_indexOf_b82b6_19 ?_
      refine lv_iconst (v := 0) hx hb dJ1_indexOf_b82b6_20 (by decide) ?_
      obtain ⟨x11, n13, s14, E15, e12, hF⟩ := mb_o hF
      have hm := mle e12
      have hM1 := mle1 hF
      have hM2 := mle2 hF
      have hm1 := hm.1
      have hm2 := hm.2.1
      have hFc := my_free hD hS hA
      refine va_calli (va_runS (As := [.ref Aa1, .int x7, .ref Aa2, .int x9, .int 0]) (rest := []) ⟨hx, hb, hml, hown, hts⟩ (h_J1_indexOf_5af95 l dC dI cy nb ad0 n0 s0 E0 hC (a1) Aa1 ha1 (x7) (a2) Aa2 ha2 (x9) (0) H.size x11 n13 s14 E15 e12) (va_cwS 5 hts (gS mw_1474 mw_1475 mw_715 mw_1476) rfl rfl rfl (by decide +kernel) ⟨Nat.le_of_ble_eq_true rfl, Nat.le_of_ble_eq_true rfl⟩) (hl_preS hP hK hD hE hS hFc) rfl rfl hl.1 rfl (lv_room (Nat.le_of_ble_eq_true rfl)) dJ1_indexOf_b82b6_21 ⟨show n0 - n0 + (n13 - n0) ≤ nz - n0 by omega, show s0 - s0 + (s14 - s0) ≤ sz9 - s0 by omega⟩) hS (fun q _ h => hFc q h) hFc (fun r9 u t H1 locs ht hvm hw hB hz1 hk1 hS => ?_)
      obtain ⟨ad16, hax, hP1, hD1⟩ := hB
      rw [ht] at hP1
      have hP := hP1
      have hD := hD1.weaken (fun k q _ h => hFc q.1 h)
      generalize H1 = H at hP hS ⊢
      have ha1 := ha1.mv hC.1 hax
      have ha2 := ha2.mv hC.1 hax
      have hX := hX.trans hax
      have hC := hm.2.2 hC
      have hN : n0 ≤ n13 := Nat.le_trans hN hm1
      have hT : s0 ≤ s14 := Nat.le_trans hT hm2
      refine W.widen (k := n13 - n0) (n := s14 - s0) (by omega) (by omega) ?_
      clear hP1 hD1 hFc hk1 hz1 hvm ht hax hm hm1 hm2 hM1 hM2
      obtain rfl := hw.symm
      obtain ⟨ht9, hn9, hs9, hE9⟩ := mr_o hF
      subst hn9 hs9 hE9
      have hX9 := hX
      rw [hQ]
      exact W.iret (v := x11) hx hb hr (fun t ht hW => ⟨⟨x11, (), rfl, ht9, _, hX, by rw [ht]; exact hP, hD⟩, hS.F ht⟩) hS.2.2 dJ1_indexOf_b82b6_24
    · skip
      rw [if_pos c6] at hF
      refine lv_iconst (v := (-1)) hx hb dJ1_indexOf_b82b6_12 (by decide) ?_
      obtain ⟨ht9, hn9, hs9, hE9⟩ := mr_o hF
      subst hn9 hs9 hE9
      have hX9 := hX
      rw [hQ]
      exact W.iret (v := (-1)) hx hb hr (fun t ht hW => ⟨⟨(-1), (), rfl, ht9, _, hX, by rw [ht]; exact hP, hD⟩, hS.F ht⟩) hS.2.2 dJ1_indexOf_b82b6_13
  · skip
    rw [if_pos c3] at hF
    refine lv_iconst (v := 0) hx hb dJ1_indexOf_b82b6_5 (by decide) ?_
    obtain ⟨ht9, hn9, hs9, hE9⟩ := mr_o hF
    subst hn9 hs9 hE9
    have hX9 := hX
    rw [hQ]
    exact W.iret (v := 0) hx hb hr (fun t ht hW => ⟨⟨0, (), rfl, ht9, _, hX, by rw [ht]; exact hP, hD⟩, hS.F ht⟩) hS.2.2 dJ1_indexOf_b82b6_6
noncomputable def H_J0_indexOf_2f485 (a0 : Nat) (a1 : Nat) : MH Int32 := mb (mg fun n E => sOk n E (a0)) fun _ => mb (H_J0_coder_7d493 (a0)) fun x2 => mb (mg fun n E => sOk n E (a1)) fun _ => mb (H_J0_coder_7d493 (a1)) fun x9 => if x2 = x9 then (mb (mg fun n E => sOk n E (a0)) fun _ => mb (H_J0_isLatin1_aae02 (a0)) fun x24 => if x24 = 0 then (mb (mg fun n E => sVl n E (a0)) fun x31 => mb (mg fun n E => sVl n E (a1)) fun x34 => m0) else (mb (mg fun n E => sVl n E (a0)) fun x37 => mb (mg fun n E => sVl n E (a1)) fun x40 => mb (H_J1_indexOf_b82b6 (x37) (x40)) fun x43 => mr x43)) else (if x2 = 0 then (mr (-1 : Int32)) else (mb (mg fun n E => sVl n E (a0)) fun x17 => mb (mg fun n E => sVl n E (a1)) fun x20 => m0))
set_option maxHeartbeats 4000000 in
set_option maxRecDepth 100000 in
theorem h_J0_indexOf_2f485 (l : Launch) (dC : Nat → ClassId) (dI : Nat → Nat → Nat) (cy : Nat → ClassId) (nb : Nat → Nat) (ad0 : Nat → Nat) (n0 s0 : Nat) (E0 : HE) (hC : clo n0 E0) (a0 Aa0 : Nat) (ha0 : rf nb ad0 n0 a0 Aa0) (a1 Aa1 : Nat) (ha1 : rf nb ad0 n0 a1 Aa1) (sz : Nat) (ro : Int32) (nz sz9 : Nat) (Ez : HE) (hF : (H_J0_indexOf_2f485 a0 a1).1 (n0, s0, E0) = some (ro, nz, sz9, Ez)) : Met l yJ0_indexOf_2f485 (wsg yJ0_indexOf_2f485 cJ0_indexOf_2f485 3 (some .int)) ({ frames := 10, cells := nz - n0, slots := sz9 - s0, locals := 500 }) (va_Pc [.ref Aa0, .ref Aa1] (fun U => U.heap.size = sz ∧ va_P (dC, dI) vwCl (CH cy nb ad0 n0 E0) U.heap ∧ va_K (dC, dI) vwCl (tyL cy) U ∧ va_D (fun _ => True) (CH cy nb ad0 n0 E0) ∧ GL nb (va_A (CH cy nb ad0 n0 E0) sz) U)) (va_Qi (fun (r : Int32) (_ : Unit) => r = ro) (fun _ t => ∃ ad2 : Nat → Nat, axh n0 ad0 nz ad2 ∧ va_P (dC, dI) vwCl (CH cy nb ad2 nz Ez) t.heap ∧ va_D (va_A (CH cy nb ad0 n0 E0) sz) (CH cy nb ad2 nz Ez)) (va_A (CH cy nb ad0 n0 E0) sz)) (nz - n0) (sz9 - s0) (va_A (CH cy nb ad0 n0 E0) sz) := by
  refine Met.ofW (cc := cJ0_indexOf_2f485) (maxL := 3) (ret := (some .int)) (by decide) rfl ?_
  intro p e s m args below meth c s₁ B hml hv
  obtain ⟨rfl, hsz, hP, hK, hD0, hE⟩ := hv
  have hx := B.exec
  have hb := B.bytes
  have hr := B.returns
  have hts0 := atoms_spec (ws := (wsg yJ0_indexOf_2f485 cJ0_indexOf_2f485 3 (some .int))) B.pre
  have hts : ∀ w ∈ wsL_law, w.before _ s = true := fun w h => hts0 w (List.mem_cons_of_mem _ h)
  have hown : s.vm.findClass RJ0 = some m.cls := by have h9 := findClass_of_methodNamed B.named; exact h9
  subst hsz
  have hD := hD0.self (sz := s.heap.size)
  generalize hAe : va_A (CH cy nb ad0 n0 E0) s.heap.size = A at hD hE ⊢
  have hA : ∀ q : Nat, s.heap.size ≤ q → A q := fun q h => by rw [← hAe]; exact Or.inr h
  have hS : va_S A s.heap s.heap [] := va_S.rf
  have hl := lv_entry ([.ref Aa0, .ref Aa1]) (n := 3) (Nat.le_of_ble_eq_true rfl)
  rw [lg_entry_eq]
  generalize (lg_sl ([.ref Aa0, .ref Aa1]) ++ List.replicate (3 - (lg_sl ([.ref Aa0, .ref Aa1])).length) Slot.unset).toArray = ls at hl ⊢
  have hl : lv_has ls 3 [(0, .ref Aa0), (1, .ref Aa1)] := hl
  generalize hHe : s.heap = H at hP hS ⊢
  have hS : va_S A s.heap H [] := by rw [hHe]; exact hS
  refine my_Q (fun Qn hQ => ?_)
  simp only [H_J0_indexOf_2f485] at hF
  have hX : axh n0 ad0 n0 ad0 := axh_refl
  have hN : n0 ≤ n0 := Nat.le_refl _
  have hT : s0 ≤ s0 := Nat.le_refl _
  refine W.widen (k := n0 - n0) (n := s0 - s0) (by omega) (by omega) ?_
  refine lv_aload_n hx hb dJ0_indexOf_2f485_0 rfl (lv_at hl 0 rfl) ?_
  obtain ⟨_, e1, hF⟩ := mg_o hF
  obtain ⟨x2, n4, s5, E6, e3, hF⟩ := mb_o hF
  have hm := mle e3
  have hM1 := mle1 hF
  have hM2 := mle2 hF
  have hm1 := hm.1
  have hm2 := hm.2.1
  have hFc := my_free hD hS hA
  refine va_calli (va_runV (C := RJ0) (As := []) (rest := []) ⟨hx, hb, hml, hown, hts⟩ (h_J0_coder_7d493 l dC dI cy nb ad0 n0 s0 E0 hC (a0) Aa0 ha0 H.size x2 n4 s5 E6 e3) (cwV 0 hts (gV mw_280 mw_281 mw_282 mw_277 mw_283) rfl rfl rfl (by decide +kernel) ⟨Nat.le_of_ble_eq_true rfl, Nat.le_of_ble_eq_true rfl⟩) (hl_preV hP hK hD hE hS hFc (hs_srecv hK hP hC hE hS ha0 e1)) rfl rfl hl.1 rfl (lv_room (Nat.le_of_ble_eq_true rfl)) dJ0_indexOf_2f485_1 ⟨show n0 - n0 + (n4 - n0) ≤ nz - n0 by omega, show s0 - s0 + (s5 - s0) ≤ sz9 - s0 by omega⟩) hS (fun q _ h => hFc q h) hFc (fun r9 u t H1 locs ht hvm hw hB hz1 hk1 hS => ?_)
  obtain ⟨ad7, hax, hP1, hD1⟩ := hB
  rw [ht] at hP1
  have hP := hP1
  have hD := hD1.weaken (fun k q _ h => hFc q.1 h)
  generalize H1 = H at hP hS ⊢
  have ha0 := ha0.mv hC.1 hax
  have ha1 := ha1.mv hC.1 hax
  have hX := hX.trans hax
  have hC := hm.2.2 hC
  have hN : n0 ≤ n4 := Nat.le_trans hN hm1
  have hT : s0 ≤ s5 := Nat.le_trans hT hm2
  refine W.widen (k := n4 - n0) (n := s5 - s0) (by omega) (by omega) ?_
  clear hP1 hD1 hFc hk1 hz1 hvm ht hax hm hm1 hm2 hM1 hM2
  obtain rfl := hw.symm
  refine lv_istore_n (lv' := [(2, .int x2), (0, .ref Aa0), (1, .ref Aa1)]) hx hb dJ0_indexOf_2f485_4 rfl hl (by decide) rfl (fun ls hl => ?_)
  refine lv_iload_n hx hb dJ0_indexOf_2f485_5 rfl (lv_at hl 0 rfl) ?_
  refine lv_aload_n hx hb dJ0_indexOf_2f485_6 rfl (lv_at hl 2 rfl) ?_
  obtain ⟨_, e8, hF⟩ := mg_o hF
  obtain ⟨x9, n11, s12, E13, e10, hF⟩ := mb_o hF
  have hm := mle e10
  have hM1 := mle1 hF
  have hM2 := mle2 hF
  have hm1 := hm.1
  have hm2 := hm.2.1
  have hFc := my_free hD hS hA
  refine va_calli (va_runV (C := RJ0) (As := []) (rest := [.int x2]) ⟨hx, hb, hml, hown, hts⟩ (h_J0_coder_7d493 l dC dI cy nb ad7 n4 s5 E6 hC (a1) Aa1 ha1 H.size x9 n11 s12 E13 e10) (cwV 0 hts (gV mw_280 mw_281 mw_282 mw_277 mw_283) rfl rfl rfl (by decide +kernel) ⟨Nat.le_of_ble_eq_true rfl, Nat.le_of_ble_eq_true rfl⟩) (hl_preV hP hK hD hE hS hFc (hs_srecv hK hP hC hE hS ha1 e8)) rfl rfl hl.1 rfl (lv_room (Nat.le_of_ble_eq_true rfl)) dJ0_indexOf_2f485_7 ⟨show n4 - n0 + (n11 - n4) ≤ nz - n0 by omega, show s5 - s0 + (s12 - s5) ≤ sz9 - s0 by omega⟩) hS (fun q _ h => hFc q h) hFc (fun r9 u t H1 locs ht hvm hw hB hz1 hk1 hS => ?_)
  obtain ⟨ad14, hax, hP1, hD1⟩ := hB
  rw [ht] at hP1
  have hP := hP1
  have hD := hD1.weaken (fun k q _ h => hFc q.1 h)
  generalize H1 = H at hP hS ⊢
  have ha0 := ha0.mv hC.1 hax
  have ha1 := ha1.mv hC.1 hax
  have hX := hX.trans hax
  have hC := hm.2.2 hC
  have hN : n0 ≤ n11 := Nat.le_trans hN hm1
  have hT : s0 ≤ s12 := Nat.le_trans hT hm2
  refine W.widen (k := n11 - n0) (n := s12 - s0) (by omega) (by omega) ?_
  clear hP1 hD1 hFc hk1 hz1 hvm ht hax hm hm1 hm2 hM1 hM2
  obtain rfl := hw.symm
  refine lv_icmp_ne (tgt := 46) hx hb dJ0_indexOf_2f485_10 (by decide) (fun c15 => ?_) (fun c15 => ?_)
  · skip
    rw [if_neg c15] at hF
    refine lv_iload_n hx hb dJ0_indexOf_2f485_46 rfl (lv_at hl 0 rfl) ?_
    refine lv_if_ne (tgt := 52) hx hb dJ0_indexOf_2f485_47 (by decide) (fun c16 => ?_) (fun c16 => ?_)
    · skip
      rw [if_neg c16] at hF
      refine lv_aload_n hx hb dJ0_indexOf_2f485_52 rfl (lv_at hl 1 rfl) ?_
      obtain ⟨x17, e18, hF⟩ := mg_o hF
      refine hs_sval hx hb hts inlJ0 hown hK hP hC hE hS ha0 e18 (hts _ mw_279) dJ0_indexOf_2f485_53 ?_
      have hr19 := sVl_r hC e18 (nb := nb) (ad := ad14)
      refine lv_aload_n hx hb dJ0_indexOf_2f485_56 rfl (lv_at hl 2 rfl) ?_
      obtain ⟨x20, e21, hF⟩ := mg_o hF
      refine hs_sval hx hb hts inlJ0 hown hK hP hC hE hS ha1 e21 (hts _ mw_279) dJ0_indexOf_2f485_57 ?_
      have hr22 := sVl_r hC e21 (nb := nb) (ad := ad14)
      exact (m0_o hF).elim
    · skip
      rw [if_pos c16] at hF
      refine lv_iconst (v := (-1)) hx hb dJ0_indexOf_2f485_50 (by decide) ?_
      obtain ⟨ht9, hn9, hs9, hE9⟩ := mr_o hF
      subst hn9 hs9 hE9
      have hX9 := hX
      rw [hQ]
      exact W.iret (v := (-1)) hx hb hr (fun t ht hW => ⟨⟨(-1), (), rfl, ht9, _, hX, by rw [ht]; exact hP, hD⟩, hS.F ht⟩) hS.2.2 dJ0_indexOf_2f485_51
  · skip
    rw [if_pos c15] at hF
    refine lv_aload_n hx hb dJ0_indexOf_2f485_13 rfl (lv_at hl 1 rfl) ?_
    obtain ⟨_, e23, hF⟩ := mg_o hF
    obtain ⟨x24, n26, s27, E28, e25, hF⟩ := mb_o hF
    have hm := mle e25
    have hM1 := mle1 hF
    have hM2 := mle2 hF
    have hm1 := hm.1
    have hm2 := hm.2.1
    have hFc := my_free hD hS hA
    refine va_calli (va_runV (C := RJ0) (As := []) (rest := []) ⟨hx, hb, hml, hown, hts⟩ (h_J0_isLatin1_aae02 l dC dI cy nb ad14 n11 s12 E13 hC (a0) Aa0 ha0 H.size x24 n26 s27 E28 e25) (cwV 0 hts (gV mw_946 mw_935 mw_936 mw_277 mw_937) rfl rfl rfl (by decide +kernel) ⟨Nat.le_of_ble_eq_true rfl, Nat.le_of_ble_eq_true rfl⟩) (hl_preV hP hK hD hE hS hFc (hs_srecv hK hP hC hE hS ha0 e23)) rfl rfl hl.1 rfl (lv_room (Nat.le_of_ble_eq_true rfl)) dJ0_indexOf_2f485_14 ⟨show n11 - n0 + (n26 - n11) ≤ nz - n0 by omega, show s12 - s0 + (s27 - s12) ≤ sz9 - s0 by omega⟩) hS (fun q _ h => hFc q h) hFc (fun r9 u t H1 locs ht hvm hw hB hz1 hk1 hS => ?_)
    obtain ⟨ad29, hax, hP1, hD1⟩ := hB
    rw [ht] at hP1
    have hP := hP1
    have hD := hD1.weaken (fun k q _ h => hFc q.1 h)
    generalize H1 = H at hP hS ⊢
    have ha0 := ha0.mv hC.1 hax
    have ha1 := ha1.mv hC.1 hax
    have hX := hX.trans hax
    have hC := hm.2.2 hC
    have hN : n0 ≤ n26 := Nat.le_trans hN hm1
    have hT : s0 ≤ s27 := Nat.le_trans hT hm2
    refine W.widen (k := n26 - n0) (n := s27 - s0) (by omega) (by omega) ?_
    clear hP1 hD1 hFc hk1 hz1 hvm ht hax hm hm1 hm2 hM1 hM2
    obtain rfl := hw.symm
    refine lv_if_eq (tgt := 34) hx hb dJ0_indexOf_2f485_17 (by decide) (fun c30 => ?_) (fun c30 => ?_)
    · skip
      rw [if_pos c30] at hF
      refine lv_aload_n hx hb dJ0_indexOf_2f485_34 rfl (lv_at hl 1 rfl) ?_
      obtain ⟨x31, e32, hF⟩ := mg_o hF
      refine hs_sval hx hb hts inlJ0 hown hK hP hC hE hS ha0 e32 (hts _ mw_279) dJ0_indexOf_2f485_35 ?_
      have hr33 := sVl_r hC e32 (nb := nb) (ad := ad29)
      refine lv_aload_n hx hb dJ0_indexOf_2f485_38 rfl (lv_at hl 2 rfl) ?_
      obtain ⟨x34, e35, hF⟩ := mg_o hF
      refine hs_sval hx hb hts inlJ0 hown hK hP hC hE hS ha1 e35 (hts _ mw_279) dJ0_indexOf_2f485_39 ?_
      have hr36 := sVl_r hC e35 (nb := nb) (ad := ad29)
      exact (m0_o hF).elim
    · skip
      rw [if_neg c30] at hF
      refine lv_aload_n hx hb dJ0_indexOf_2f485_20 rfl (lv_at hl 1 rfl) ?_
      obtain ⟨x37, e38, hF⟩ := mg_o hF
      refine hs_sval hx hb hts inlJ0 hown hK hP hC hE hS ha0 e38 (hts _ mw_279) dJ0_indexOf_2f485_21 ?_
      have hr39 := sVl_r hC e38 (nb := nb) (ad := ad29)
      refine lv_aload_n hx hb dJ0_indexOf_2f485_24 rfl (lv_at hl 2 rfl) ?_
      obtain ⟨x40, e41, hF⟩ := mg_o hF
      refine hs_sval hx hb hts inlJ0 hown hK hP hC hE hS ha1 e41 (hts _ mw_279) dJ0_indexOf_2f485_25 ?_
      have hr42 := sVl_r hC e41 (nb := nb) (ad := ad29)
      obtain ⟨x43, n45, s46, E47, e44, hF⟩ := mb_o hF
      have hm := mle e44
      have hM1 := mle1 hF
      have hM2 := mle2 hF
      have hm1 := hm.1
      have hm2 := hm.2.1
      have hFc := my_free hD hS hA
      refine va_calli (va_runS (As := [.ref (AD nb ad29 x37), .ref (AD nb ad29 x40)]) (rest := []) ⟨hx, hb, hml, hown, hts⟩ (h_J1_indexOf_b82b6 l dC dI cy nb ad29 n26 s27 E28 hC (x37) (AD nb ad29 x37) hr39 (x40) (AD nb ad29 x40) hr42 H.size x43 n45 s46 E47 e44) (va_cwS 2 hts (gS mw_1471 mw_1472 mw_715 mw_1473) rfl rfl rfl (by decide +kernel) ⟨Nat.le_of_ble_eq_true rfl, Nat.le_of_ble_eq_true rfl⟩) (hl_preS hP hK hD hE hS hFc) rfl rfl hl.1 rfl (lv_room (Nat.le_of_ble_eq_true rfl)) dJ0_indexOf_2f485_28 ⟨show n26 - n0 + (n45 - n26) ≤ nz - n0 by omega, show s27 - s0 + (s46 - s27) ≤ sz9 - s0 by omega⟩) hS (fun q _ h => hFc q h) hFc (fun r9 u t H1 locs ht hvm hw hB hz1 hk1 hS => ?_)
      obtain ⟨ad48, hax, hP1, hD1⟩ := hB
      rw [ht] at hP1
      have hP := hP1
      have hD := hD1.weaken (fun k q _ h => hFc q.1 h)
      generalize H1 = H at hP hS ⊢
      have ha0 := ha0.mv hC.1 hax
      have ha1 := ha1.mv hC.1 hax
      have hX := hX.trans hax
      have hC := hm.2.2 hC
      have hN : n0 ≤ n45 := Nat.le_trans hN hm1
      have hT : s0 ≤ s46 := Nat.le_trans hT hm2
      refine W.widen (k := n45 - n0) (n := s46 - s0) (by omega) (by omega) ?_
      clear hP1 hD1 hFc hk1 hz1 hvm ht hax hm hm1 hm2 hM1 hM2
      obtain rfl := hw.symm
      refine lv_goto (tgt := 45) hx hb dJ0_indexOf_2f485_31 (by decide) ?_
      obtain ⟨ht9, hn9, hs9, hE9⟩ := mr_o hF
      subst hn9 hs9 hE9
      have hX9 := hX
      rw [hQ]
      exact W.iret (v := x43) hx hb hr (fun t ht hW => ⟨⟨x43, (), rfl, ht9, _, hX, by rw [ht]; exact hP, hD⟩, hS.F ht⟩) hS.2.2 dJ0_indexOf_2f485_45
noncomputable def H_J6_intValue_8abf5 (a0 : Nat) : MH Int32 := mb (mg fun _ _ => iVl (a0)) fun x1 => mr x1
set_option maxHeartbeats 4000000 in
set_option maxRecDepth 100000 in
theorem h_J6_intValue_8abf5 (l : Launch) (dC : Nat → ClassId) (dI : Nat → Nat → Nat) (cy : Nat → ClassId) (nb : Nat → Nat) (ad0 : Nat → Nat) (n0 s0 : Nat) (E0 : HE) (hC : clo n0 E0) (a0 Aa0 : Nat) (ha0 : rf nb ad0 n0 a0 Aa0) (sz : Nat) (ro : Int32) (nz sz9 : Nat) (Ez : HE) (hF : (H_J6_intValue_8abf5 a0).1 (n0, s0, E0) = some (ro, nz, sz9, Ez)) : Met l yJ6_intValue_8abf5 (wsg yJ6_intValue_8abf5 cJ6_intValue_8abf5 1 (some .int)) ({ frames := 8, cells := nz - n0, slots := sz9 - s0, locals := 300 }) (va_Pc [.ref Aa0] (fun U => U.heap.size = sz ∧ va_P (dC, dI) vwCl (CH cy nb ad0 n0 E0) U.heap ∧ va_K (dC, dI) vwCl (tyL cy) U ∧ va_D (fun _ => True) (CH cy nb ad0 n0 E0) ∧ GL nb (va_A (CH cy nb ad0 n0 E0) sz) U)) (va_Qi (fun (r : Int32) (_ : Unit) => r = ro) (fun _ t => ∃ ad2 : Nat → Nat, axh n0 ad0 nz ad2 ∧ va_P (dC, dI) vwCl (CH cy nb ad2 nz Ez) t.heap ∧ va_D (va_A (CH cy nb ad0 n0 E0) sz) (CH cy nb ad2 nz Ez)) (va_A (CH cy nb ad0 n0 E0) sz)) (nz - n0) (sz9 - s0) (va_A (CH cy nb ad0 n0 E0) sz) := by
  refine Met.ofW (cc := cJ6_intValue_8abf5) (maxL := 1) (ret := (some .int)) (by decide) rfl ?_
  intro p e s m args below meth c s₁ B hml hv
  obtain ⟨rfl, hsz, hP, hK, hD0, hE⟩ := hv
  have hx := B.exec
  have hb := B.bytes
  have hr := B.returns
  have hts0 := atoms_spec (ws := (wsg yJ6_intValue_8abf5 cJ6_intValue_8abf5 1 (some .int))) B.pre
  have hts : ∀ w ∈ wsL_law, w.before _ s = true := fun w h => hts0 w (List.mem_cons_of_mem _ h)
  have hown : s.vm.findClass RJ6 = some m.cls := by have h9 := findClass_of_methodNamed B.named; exact h9
  subst hsz
  have hD := hD0.self (sz := s.heap.size)
  generalize hAe : va_A (CH cy nb ad0 n0 E0) s.heap.size = A at hD hE ⊢
  have hA : ∀ q : Nat, s.heap.size ≤ q → A q := fun q h => by rw [← hAe]; exact Or.inr h
  have hS : va_S A s.heap s.heap [] := va_S.rf
  have hl := lv_entry ([.ref Aa0]) (n := 1) (Nat.le_of_ble_eq_true rfl)
  rw [lg_entry_eq]
  generalize (lg_sl ([.ref Aa0]) ++ List.replicate (1 - (lg_sl ([.ref Aa0])).length) Slot.unset).toArray = ls at hl ⊢
  have hl : lv_has ls 1 [(0, .ref Aa0)] := hl
  generalize hHe : s.heap = H at hP hS ⊢
  have hS : va_S A s.heap H [] := by rw [hHe]; exact hS
  refine my_Q (fun Qn hQ => ?_)
  simp only [H_J6_intValue_8abf5] at hF
  have hX : axh n0 ad0 n0 ad0 := axh_refl
  have hN : n0 ≤ n0 := Nat.le_refl _
  have hT : s0 ≤ s0 := Nat.le_refl _
  refine W.widen (k := n0 - n0) (n := s0 - s0) (by omega) (by omega) ?_
  refine lv_aload_n hx hb dJ6_intValue_8abf5_0 rfl (lv_at hl 0 rfl) ?_
  obtain ⟨x1, e2, hF⟩ := mg_o hF
  refine hs_iVl hx hb hown hE hS ha0 e2 (hts _ mw_313) dJ6_intValue_8abf5_1 ?_
  obtain ⟨ht9, hn9, hs9, hE9⟩ := mr_o hF
  subst hn9 hs9 hE9
  have hX9 := hX
  rw [hQ]
  exact W.iret (v := x1) hx hb hr (fun t ht hW => ⟨⟨x1, (), rfl, ht9, _, hX, by rw [ht]; exact hP, hD⟩, hS.F ht⟩) hS.2.2 dJ6_intValue_8abf5_4
noncomputable def H_J6_valueOf_2dffe (a1 : Int32) : MH Nat := if a1 < (-128) then (m0) else (if 127 < a1 then (m0) else (mb (mp (iCa ((a1 + 128)))) fun x3 => mr (1000000 + x3)))
set_option maxHeartbeats 4000000 in
set_option maxRecDepth 100000 in
theorem h_J6_valueOf_2dffe (l : Launch) (dC : Nat → ClassId) (dI : Nat → Nat → Nat) (cy : Nat → ClassId) (nb : Nat → Nat) (ad0 : Nat → Nat) (n0 s0 : Nat) (E0 : HE) (hC : clo n0 E0) (a1 : Int32) (sz : Nat) (ro : Nat) (nz sz9 : Nat) (Ez : HE) (hF : (H_J6_valueOf_2dffe a1).1 (n0, s0, E0) = some (ro, nz, sz9, Ez)) : Met l yJ6_valueOf_2dffe (wsg yJ6_valueOf_2dffe cJ6_valueOf_2dffe 1 (some (.object "java/lang/Integer"))) ({ frames := 8, cells := nz - n0, slots := sz9 - s0, locals := 300 }) (va_Pc [.int a1] (fun U => U.heap.size = sz ∧ va_P (dC, dI) vwCl (CH cy nb ad0 n0 E0) U.heap ∧ va_K (dC, dI) vwCl (tyL cy) U ∧ va_D (fun _ => True) (CH cy nb ad0 n0 E0) ∧ GL nb (va_A (CH cy nb ad0 n0 E0) sz) U)) (va_Qr (fun (_ : Unit) => True) (fun _ ra t => ∃ ad2 : Nat → Nat, axh n0 ad0 nz ad2 ∧ rf nb ad2 nz ro ra ∧ va_P (dC, dI) vwCl (CH cy nb ad2 nz Ez) t.heap ∧ va_D (va_A (CH cy nb ad0 n0 E0) sz) (CH cy nb ad2 nz Ez)) (va_A (CH cy nb ad0 n0 E0) sz)) (nz - n0) (sz9 - s0) (va_A (CH cy nb ad0 n0 E0) sz) := by
  refine Met.ofW (cc := cJ6_valueOf_2dffe) (maxL := 1) (ret := (some (.object "java/lang/Integer"))) (by decide) rfl ?_
  intro p e s m args below meth c s₁ B hml hv
  obtain ⟨rfl, hsz, hP, hK, hD0, hE⟩ := hv
  have hx := B.exec
  have hb := B.bytes
  have hr := B.returns
  have hts0 := atoms_spec (ws := (wsg yJ6_valueOf_2dffe cJ6_valueOf_2dffe 1 (some (.object "java/lang/Integer")))) B.pre
  have hts : ∀ w ∈ wsL_law, w.before _ s = true := fun w h => hts0 w (List.mem_cons_of_mem _ h)
  have hown : s.vm.findClass RJ6 = some m.cls := by have h9 := findClass_of_methodNamed B.named; exact h9
  subst hsz
  have hD := hD0.self (sz := s.heap.size)
  generalize hAe : va_A (CH cy nb ad0 n0 E0) s.heap.size = A at hD hE ⊢
  have hA : ∀ q : Nat, s.heap.size ≤ q → A q := fun q h => by rw [← hAe]; exact Or.inr h
  have hS : va_S A s.heap s.heap [] := va_S.rf
  have hl := lv_entry ([.int a1]) (n := 1) (Nat.le_of_ble_eq_true rfl)
  rw [lg_entry_eq]
  generalize (lg_sl ([.int a1]) ++ List.replicate (1 - (lg_sl ([.int a1])).length) Slot.unset).toArray = ls at hl ⊢
  have hl : lv_has ls 1 [(0, .int a1)] := hl
  generalize hHe : s.heap = H at hP hS ⊢
  have hS : va_S A s.heap H [] := by rw [hHe]; exact hS
  refine my_Q (fun Qn hQ => ?_)
  simp only [H_J6_valueOf_2dffe] at hF
  have hX : axh n0 ad0 n0 ad0 := axh_refl
  have hN : n0 ≤ n0 := Nat.le_refl _
  have hT : s0 ≤ s0 := Nat.le_refl _
  refine W.widen (k := n0 - n0) (n := s0 - s0) (by omega) (by omega) ?_
  refine lv_iload_n hx hb dJ6_valueOf_2dffe_0 rfl (lv_at hl 0 rfl) ?_
  refine lv_bipush (v := (-128)) hx hb dJ6_valueOf_2dffe_1 (by decide) ?_
  refine lv_icmp_lt (tgt := 23) hx hb dJ6_valueOf_2dffe_3 (by decide) (fun c1 => ?_) (fun c1 => ?_)
  · skip
    rw [if_pos c1] at hF
    exact (m0_o hF).elim
  · skip
    rw [if_neg c1] at hF
    refine lv_iload_n hx hb dJ6_valueOf_2dffe_6 rfl (lv_at hl 0 rfl) ?_
    refine va_gets (C := "java/lang/Integer$IntegerCache") (n := "high") (d := "I") (ref := "java/lang/Integer$IntegerCache") (v := .int 127) hx hb hE.hi hS hown (hts _ mw_978) (fun _ h9 => h9) dJ6_valueOf_2dffe_7 ?_
    refine lv_icmp_gt (tgt := 23) hx hb dJ6_valueOf_2dffe_10 (by decide) (fun c2 => ?_) (fun c2 => ?_)
    · skip
      rw [if_pos c2] at hF
      exact (m0_o hF).elim
    · skip
      rw [if_neg c2] at hF
      refine va_gets (C := "java/lang/Integer$IntegerCache") (n := "cache") (d := "[Ljava/lang/Integer;") (ref := "java/lang/Integer$IntegerCache") (v := .ref (nb 2000)) hx hb hE.ich.1 hS hown (hts _ mw_979) (fun _ h9 => h9) dJ6_valueOf_2dffe_13 ?_
      refine lv_iload_n hx hb dJ6_valueOf_2dffe_16 rfl (lv_at hl 0 rfl) ?_
      refine lv_sipush (v := 128) hx hb dJ6_valueOf_2dffe_17 (by decide) ?_
      refine lv_iadd hx hb dJ6_valueOf_2dffe_20 ?_
      obtain ⟨x3, e4, hF⟩ := mp_o hF
      refine hs_iCa hx hb hE hS e4 dJ6_valueOf_2dffe_21 ?_
      obtain ⟨ht9, hn9, hs9, hE9⟩ := mr_o hF
      subst hn9 hs9 hE9
      have hX9 := hX
      rw [hQ]
      exact W.aret (v := .ref (nb x3)) hx hb hr (by first | exact Or.inl ⟨_, rfl⟩ | exact Or.inr ⟨_, rfl⟩) (Or.inr ⟨_, rfl⟩) (fun t ht hW => ⟨⟨(), (nb x3), rfl, trivial, _, hX, (by rw [← ht9]; exact rf_c), by rw [ht]; exact hP, hD⟩, hS.F ht⟩) hS.2.2 dJ6_valueOf_2dffe_22
noncomputable def H_J11_valueOf_f0083 (a1 : Int32) : MH Nat := if 127 < a1 then (m0) else (mb (mp (cCa (a1))) fun x2 => mr (1000000 + x2))
set_option maxHeartbeats 4000000 in
set_option maxRecDepth 100000 in
theorem h_J11_valueOf_f0083 (l : Launch) (dC : Nat → ClassId) (dI : Nat → Nat → Nat) (cy : Nat → ClassId) (nb : Nat → Nat) (ad0 : Nat → Nat) (n0 s0 : Nat) (E0 : HE) (hC : clo n0 E0) (a1 : Int32) (sz : Nat) (ro : Nat) (nz sz9 : Nat) (Ez : HE) (hF : (H_J11_valueOf_f0083 a1).1 (n0, s0, E0) = some (ro, nz, sz9, Ez)) : Met l yJ11_valueOf_f0083 (wsg yJ11_valueOf_f0083 cJ11_valueOf_f0083 1 (some (.object "java/lang/Character"))) ({ frames := 8, cells := nz - n0, slots := sz9 - s0, locals := 300 }) (va_Pc [.int a1] (fun U => U.heap.size = sz ∧ va_P (dC, dI) vwCl (CH cy nb ad0 n0 E0) U.heap ∧ va_K (dC, dI) vwCl (tyL cy) U ∧ va_D (fun _ => True) (CH cy nb ad0 n0 E0) ∧ GL nb (va_A (CH cy nb ad0 n0 E0) sz) U)) (va_Qr (fun (_ : Unit) => True) (fun _ ra t => ∃ ad2 : Nat → Nat, axh n0 ad0 nz ad2 ∧ rf nb ad2 nz ro ra ∧ va_P (dC, dI) vwCl (CH cy nb ad2 nz Ez) t.heap ∧ va_D (va_A (CH cy nb ad0 n0 E0) sz) (CH cy nb ad2 nz Ez)) (va_A (CH cy nb ad0 n0 E0) sz)) (nz - n0) (sz9 - s0) (va_A (CH cy nb ad0 n0 E0) sz) := by
  refine Met.ofW (cc := cJ11_valueOf_f0083) (maxL := 1) (ret := (some (.object "java/lang/Character"))) (by decide) rfl ?_
  intro p e s m args below meth c s₁ B hml hv
  obtain ⟨rfl, hsz, hP, hK, hD0, hE⟩ := hv
  have hx := B.exec
  have hb := B.bytes
  have hr := B.returns
  have hts0 := atoms_spec (ws := (wsg yJ11_valueOf_f0083 cJ11_valueOf_f0083 1 (some (.object "java/lang/Character")))) B.pre
  have hts : ∀ w ∈ wsL_law, w.before _ s = true := fun w h => hts0 w (List.mem_cons_of_mem _ h)
  have hown : s.vm.findClass RJ11 = some m.cls := by have h9 := findClass_of_methodNamed B.named; exact h9
  subst hsz
  have hD := hD0.self (sz := s.heap.size)
  generalize hAe : va_A (CH cy nb ad0 n0 E0) s.heap.size = A at hD hE ⊢
  have hA : ∀ q : Nat, s.heap.size ≤ q → A q := fun q h => by rw [← hAe]; exact Or.inr h
  have hS : va_S A s.heap s.heap [] := va_S.rf
  have hl := lv_entry ([.int a1]) (n := 1) (Nat.le_of_ble_eq_true rfl)
  rw [lg_entry_eq]
  generalize (lg_sl ([.int a1]) ++ List.replicate (1 - (lg_sl ([.int a1])).length) Slot.unset).toArray = ls at hl ⊢
  have hl : lv_has ls 1 [(0, .int a1)] := hl
  generalize hHe : s.heap = H at hP hS ⊢
  have hS : va_S A s.heap H [] := by rw [hHe]; exact hS
  refine my_Q (fun Qn hQ => ?_)
  simp only [H_J11_valueOf_f0083] at hF
  have hX : axh n0 ad0 n0 ad0 := axh_refl
  have hN : n0 ≤ n0 := Nat.le_refl _
  have hT : s0 ≤ s0 := Nat.le_refl _
  refine W.widen (k := n0 - n0) (n := s0 - s0) (by omega) (by omega) ?_
  refine lv_iload_n hx hb dJ11_valueOf_f0083_0 rfl (lv_at hl 0 rfl) ?_
  refine lv_bipush (v := 127) hx hb dJ11_valueOf_f0083_1 (by decide) ?_
  refine lv_icmp_gt (tgt := 12) hx hb dJ11_valueOf_f0083_3 (by decide) (fun c1 => ?_) (fun c1 => ?_)
  · skip
    rw [if_pos c1] at hF
    exact (m0_o hF).elim
  · skip
    rw [if_neg c1] at hF
    refine va_gets (C := "java/lang/Character$CharacterCache") (n := "cache") (d := "[Ljava/lang/Character;") (ref := "java/lang/Character$CharacterCache") (v := .ref (nb 2400)) hx hb hE.cch.1 hS hown (hts _ mw_1047) (fun _ h9 => h9) dJ11_valueOf_f0083_6 ?_
    refine lv_iload_n hx hb dJ11_valueOf_f0083_9 rfl (lv_at hl 0 rfl) ?_
    obtain ⟨x2, e3, hF⟩ := mp_o hF
    refine hs_cCa hx hb hE hS e3 dJ11_valueOf_f0083_10 ?_
    obtain ⟨ht9, hn9, hs9, hE9⟩ := mr_o hF
    subst hn9 hs9 hE9
    have hX9 := hX
    rw [hQ]
    exact W.aret (v := .ref (nb x2)) hx hb hr (by first | exact Or.inl ⟨_, rfl⟩ | exact Or.inr ⟨_, rfl⟩) (Or.inr ⟨_, rfl⟩) (fun t ht hW => ⟨⟨(), (nb x2), rfl, trivial, _, hX, (by rw [← ht9]; exact rf_c), by rw [ht]; exact hP, hD⟩, hS.F ht⟩) hS.2.2 dJ11_valueOf_f0083_11
noncomputable def H_J6_toString_b52d3 (a1 : Int32) : MH Nat := mb (H_J6_stringSize_0f7a4 (a1)) fun x1 => mb (mp (ln x1)) fun k7 => mb (nA 0 k7) fun x12 => mb (H_J6_getChars_ba4f3 (a1) (x1) (x12)) fun x16 => mb (mn 4 (.inr (0, [.null, .int 0, .int 0, .int 0])) nok_J0) fun x25 => mb (H_J0_init_031fb (x25) (x12) (0)) fun _ => mr x25
set_option maxHeartbeats 4000000 in
set_option maxRecDepth 100000 in
theorem h_J6_toString_b52d3 (l : Launch) (dC : Nat → ClassId) (dI : Nat → Nat → Nat) (cy : Nat → ClassId) (nb : Nat → Nat) (ad0 : Nat → Nat) (n0 s0 : Nat) (E0 : HE) (hC : clo n0 E0) (a1 : Int32) (sz : Nat) (ro : Nat) (nz sz9 : Nat) (Ez : HE) (hF : (H_J6_toString_b52d3 a1).1 (n0, s0, E0) = some (ro, nz, sz9, Ez)) : Met l yJ6_toString_b52d3 (wsg yJ6_toString_b52d3 cJ6_toString_b52d3 3 (some (.object "java/lang/String"))) ({ frames := 9, cells := nz - n0, slots := sz9 - s0, locals := 400 }) (va_Pc [.int a1] (fun U => U.heap.size = sz ∧ va_P (dC, dI) vwCl (CH cy nb ad0 n0 E0) U.heap ∧ va_K (dC, dI) vwCl (tyL cy) U ∧ va_D (fun _ => True) (CH cy nb ad0 n0 E0) ∧ GL nb (va_A (CH cy nb ad0 n0 E0) sz) U)) (va_Qr (fun (_ : Unit) => True) (fun _ ra t => ∃ ad2 : Nat → Nat, axh n0 ad0 nz ad2 ∧ rf nb ad2 nz ro ra ∧ va_P (dC, dI) vwCl (CH cy nb ad2 nz Ez) t.heap ∧ va_D (va_A (CH cy nb ad0 n0 E0) sz) (CH cy nb ad2 nz Ez)) (va_A (CH cy nb ad0 n0 E0) sz)) (nz - n0) (sz9 - s0) (va_A (CH cy nb ad0 n0 E0) sz) := by
  refine Met.ofW (cc := cJ6_toString_b52d3) (maxL := 3) (ret := (some (.object "java/lang/String"))) (by decide) rfl ?_
  intro p e s m args below meth c s₁ B hml hv
  obtain ⟨rfl, hsz, hP, hK, hD0, hE⟩ := hv
  have hx := B.exec
  have hb := B.bytes
  have hr := B.returns
  have hts0 := atoms_spec (ws := (wsg yJ6_toString_b52d3 cJ6_toString_b52d3 3 (some (.object "java/lang/String")))) B.pre
  have hts : ∀ w ∈ wsL_law, w.before _ s = true := fun w h => hts0 w (List.mem_cons_of_mem _ h)
  have hown : s.vm.findClass RJ6 = some m.cls := by have h9 := findClass_of_methodNamed B.named; exact h9
  subst hsz
  have hD := hD0.self (sz := s.heap.size)
  generalize hAe : va_A (CH cy nb ad0 n0 E0) s.heap.size = A at hD hE ⊢
  have hA : ∀ q : Nat, s.heap.size ≤ q → A q := fun q h => by rw [← hAe]; exact Or.inr h
  have hS : va_S A s.heap s.heap [] := va_S.rf
  have hl := lv_entry ([.int a1]) (n := 3) (Nat.le_of_ble_eq_true rfl)
  rw [lg_entry_eq]
  generalize (lg_sl ([.int a1]) ++ List.replicate (3 - (lg_sl ([.int a1])).length) Slot.unset).toArray = ls at hl ⊢
  have hl : lv_has ls 3 [(0, .int a1)] := hl
  generalize hHe : s.heap = H at hP hS ⊢
  have hS : va_S A s.heap H [] := by rw [hHe]; exact hS
  refine my_Q (fun Qn hQ => ?_)
  simp only [H_J6_toString_b52d3] at hF
  have hX : axh n0 ad0 n0 ad0 := axh_refl
  have hN : n0 ≤ n0 := Nat.le_refl _
  have hT : s0 ≤ s0 := Nat.le_refl _
  refine W.widen (k := n0 - n0) (n := s0 - s0) (by omega) (by omega) ?_
  refine lv_iload_n hx hb dJ6_toString_b52d3_0 rfl (lv_at hl 0 rfl) ?_
  obtain ⟨x1, n3, s4, E5, e2, hF⟩ := mb_o hF
  have hm := mle e2
  have hM1 := mle1 hF
  have hM2 := mle2 hF
  have hm1 := hm.1
  have hm2 := hm.2.1
  have hFc := my_free hD hS hA
  refine va_calli (va_runS (As := [.int a1]) (rest := []) ⟨hx, hb, hml, hown, hts⟩ (h_J6_stringSize_0f7a4 l dC dI cy nb ad0 n0 s0 E0 hC (a1) H.size x1 n3 s4 E5 e2) (va_cwS 1 hts (gS mw_1030 mw_744 mw_311 mw_745) rfl rfl rfl (by decide +kernel) ⟨Nat.le_of_ble_eq_true rfl, Nat.le_of_ble_eq_true rfl⟩) (hl_preS hP hK hD hE hS hFc) rfl rfl hl.1 rfl (lv_room (Nat.le_of_ble_eq_true rfl)) dJ6_toString_b52d3_1 ⟨show n0 - n0 + (n3 - n0) ≤ nz - n0 by omega, show s0 - s0 + (s4 - s0) ≤ sz9 - s0 by omega⟩) hS (fun q _ h => hFc q h) hFc (fun r9 u t H1 locs ht hvm hw hB hz1 hk1 hS => ?_)
  obtain ⟨ad6, hax, hP1, hD1⟩ := hB
  rw [ht] at hP1
  have hP := hP1
  have hD := hD1.weaken (fun k q _ h => hFc q.1 h)
  generalize H1 = H at hP hS ⊢
  have hX := hX.trans hax
  have hC := hm.2.2 hC
  have hN : n0 ≤ n3 := Nat.le_trans hN hm1
  have hT : s0 ≤ s4 := Nat.le_trans hT hm2
  refine W.widen (k := n3 - n0) (n := s4 - s0) (by omega) (by omega) ?_
  clear hP1 hD1 hFc hk1 hz1 hvm ht hax hm hm1 hm2 hM1 hM2
  obtain rfl := hw.symm
  refine lv_istore_n (lv' := [(1, .int x1), (0, .int a1)]) hx hb dJ6_toString_b52d3_4 rfl hl (by decide) rfl (fun ls hl => ?_)
  refine va_gets (C := "java/lang/String") (n := "COMPACT_STRINGS") (d := "Z") (ref := "java/lang/String") (v := .int 1) hx hb hE.ge.cs hS hown (hts _ mw_1028) (fun _ h9 => h9) dJ6_toString_b52d3_5 ?_
  refine lv_if_eq (tgt := 32) hx hb dJ6_toString_b52d3_8 (by decide) (fun h => absurd h (by decide)) (fun _ => ?_)
  refine lv_iload_n hx hb dJ6_toString_b52d3_11 rfl (lv_at hl 0 rfl) ?_
  obtain ⟨k7, e8, hF⟩ := mp_o hF
  obtain ⟨x12, n9, s10, E11, hq, hF⟩ := mn_o hF
  have hM1 := mle1 hF
  have hM2 := mle2 hF
  have hq9 := hq.2.1
  have hq8 := hq.2.2.1
  obtain ⟨l1, l2, l3⟩ := ln_s e8
  refine va_newa (atype := .byte) (ty := .byte) (N' := k7) (a0 := (k7, .inl (fun _ => 0))) hx hb (hts _ mw_29) rfl hK hP hD hS hA (fun _ => rfl) l1 l2 (show k7 * 1 ≤ 536870912 by omega) (show n3 - n0 + 1 ≤ nz - n0 by omega) (show s4 - s0 + k7 ≤ sz9 - s0 by omega) dJ6_toString_b52d3_12 (fun q13 cA H hK9 hP hD hS => ?_)
  have hcA := my_cA hK9 hK 0 rfl
  subst hcA
  clear hK9 l1 l2 l3
  obtain ⟨ad14, hax, hr15, hC9, hw9⟩ := new_w (cy := cy) (nb := nb) (ad := ad6) (e := .inl (0, k7, .inl fun _ => 0)) trivial (fun _ => rfl) hC q13 hq
  rw [hw9] at hP hD
  have hX := hX.trans hax
  have hC := hC9
  obtain ⟨-, hq1, hq2, -, -⟩ := hq
  have hN : n0 ≤ n9 := by omega
  have hT : s0 ≤ s10 := by omega
  refine W.widen (k := n9 - n0) (n := s10 - s0) (by omega) (by omega) ?_
  clear hM1 hM2 hax hC9 hw9 hq1 hq2 hq8 hq9
  refine lv_astore_n (lv' := [(2, .ref q13), (1, .int x1), (0, .int a1)]) hx hb dJ6_toString_b52d3_14 rfl hl (by decide) rfl (fun ls hl => ?_)
  refine lv_iload_n hx hb dJ6_toString_b52d3_15 rfl (lv_at hl 2 rfl) ?_
  refine lv_iload_n hx hb dJ6_toString_b52d3_16 rfl (lv_at hl 1 rfl) ?_
  refine lv_aload_n hx hb dJ6_toString_b52d3_17 rfl (lv_at hl 0 rfl) ?_
  obtain ⟨x16, n18, s19, E20, e17, hF⟩ := mb_o hF
  have hm := mle e17
  have hM1 := mle1 hF
  have hM2 := mle2 hF
  have hm1 := hm.1
  have hm2 := hm.2.1
  have hFc := my_free hD hS hA
  refine va_calli (va_runS (As := [.int a1, .int x1, .ref q13]) (rest := []) ⟨hx, hb, hml, hown, hts⟩ (h_J6_getChars_ba4f3 l dC dI cy nb ad14 n9 s10 E11 hC (a1) (x1) (x12) q13 hr15 H.size x16 n18 s19 E20 e17) (va_cwS 3 hts (gS mw_1031 mw_747 mw_311 mw_748) rfl rfl rfl (by decide +kernel) ⟨Nat.le_of_ble_eq_true rfl, Nat.le_of_ble_eq_true rfl⟩) (hl_preS hP hK hD hE hS hFc) rfl rfl hl.1 rfl (lv_room (Nat.le_of_ble_eq_true rfl)) dJ6_toString_b52d3_18 ⟨show n9 - n0 + (n18 - n9) ≤ nz - n0 by omega, show s10 - s0 + (s19 - s10) ≤ sz9 - s0 by omega⟩) hS (fun q _ h => hFc q h) hFc (fun r9 u t H1 locs ht hvm hw hB hz1 hk1 hS => ?_)
  obtain ⟨ad21, hax, hP1, hD1⟩ := hB
  rw [ht] at hP1
  have hP := hP1
  have hD := hD1.weaken (fun k q _ h => hFc q.1 h)
  generalize H1 = H at hP hS ⊢
  have hr15 := hr15.mv hC.1 hax
  have hX := hX.trans hax
  have hC := hm.2.2 hC
  have hN : n0 ≤ n18 := Nat.le_trans hN hm1
  have hT : s0 ≤ s19 := Nat.le_trans hT hm2
  refine W.widen (k := n18 - n0) (n := s19 - s0) (by omega) (by omega) ?_
  clear hP1 hD1 hFc hk1 hz1 hvm ht hax hm hm1 hm2 hM1 hM2
  obtain rfl := hw.symm
  refine lv_pop hx hb dJ6_toString_b52d3_21 rfl ?_
  obtain ⟨x25, n22, s23, E24, hq, hF⟩ := mn_o hF
  have hM1 := mle1 hF
  have hM2 := mle2 hF
  have hq9 := hq.2.1
  have hq8 := hq.2.2.1
  refine va_new (ci := 0) (fs := [.null, .int 0, .int 0, .int 0]) (C := RJ0) (T := TJ0) (N := 4) hx hb hts inlJ0 tyJ0 tyJ0_ok hown (hts _ mw_1029) (hts _ mw_785) (hts _ mw_277) hK hP hD hS hA rfl (fun j hj => by match j, hj with | 0, _ => rfl | 1, _ => rfl | 2, _ => rfl | 3, _ => rfl | (n+4), h => omega) (show n18 - n0 + 1 ≤ nz - n0 by omega) (show s19 - s0 + 4 ≤ sz9 - s0 by omega) dJ6_toString_b52d3_22 (fun q26 H hP hD hS => ?_)
  obtain ⟨ad27, hax, hr28, hC9, hw9⟩ := new_w (cy := cy) (nb := nb) (ad := ad21) (e := .inr (0, [.null, .int 0, .int 0, .int 0])) nok_J0 (fun _ => rfl) hC q26 hq
  rw [hw9] at hP hD
  have hr15 := hr15.mv hC.1 hax
  have hX := hX.trans hax
  have hC := hC9
  obtain ⟨-, hq1, hq2, -, -⟩ := hq
  have hN : n0 ≤ n22 := by omega
  have hT : s0 ≤ s23 := by omega
  refine W.widen (k := n22 - n0) (n := s23 - s0) (by omega) (by omega) ?_
  clear hM1 hM2 hax hC9 hw9 hq1 hq2 hq8 hq9
  refine lv_dup hx hb dJ6_toString_b52d3_25 rfl ?_
  refine lv_aload_n hx hb dJ6_toString_b52d3_26 rfl (lv_at hl 0 rfl) ?_
  refine lv_iconst (v := 0) hx hb dJ6_toString_b52d3_27 (by decide) ?_
  obtain ⟨⟨⟩, n30, s31, E32, e29, hF⟩ := mb_o hF
  have hm := mle e29
  have hM1 := mle1 hF
  have hM2 := mle2 hF
  have hm1 := hm.1
  have hm2 := hm.2.1
  have hFc := my_free hD hS hA
  refine va_callv (va_runI (As := [.ref q13, .int 0]) (rest := [.ref q26]) ⟨hx, hb, hml, hown, hts⟩ (h_J0_init_031fb l dC dI cy nb ad27 n22 s23 E24 hC (x25) q26 hr28 (x12) q13 hr15 (0) H.size n30 s31 E32 e29) (cwI 2 hts (gI mw_1018) rfl rfl rfl (hts _ mw_277) (hts _ mw_1032) (hts _ mw_1017) rfl (by decide +kernel) ⟨Nat.le_of_ble_eq_true rfl, Nat.le_of_ble_eq_true rfl⟩) (hl_preS hP hK hD hE hS hFc) rfl rfl hl.1 rfl (lv_room (Nat.le_of_ble_eq_true rfl)) dJ6_toString_b52d3_28 ⟨show n22 - n0 + (n30 - n22) ≤ nz - n0 by omega, show s23 - s0 + (s31 - s23) ≤ sz9 - s0 by omega⟩) hS (fun q _ h => hFc q h) hFc (fun u t H1 locs ht hvm hw hB hz1 hk1 hS => ?_)
  obtain ⟨ad33, hax, hP1, hD1⟩ := hB
  rw [ht] at hP1
  have hP := hP1
  have hD := hD1.weaken (fun k q _ h => hFc q.1 h)
  generalize H1 = H at hP hS ⊢
  have hr15 := hr15.mv hC.1 hax
  have hr28 := hr28.mv hC.1 hax
  have hX := hX.trans hax
  have hC := hm.2.2 hC
  have hN : n0 ≤ n30 := Nat.le_trans hN hm1
  have hT : s0 ≤ s31 := Nat.le_trans hT hm2
  refine W.widen (k := n30 - n0) (n := s31 - s0) (by omega) (by omega) ?_
  clear hP1 hD1 hFc hk1 hz1 hvm ht hax hm hm1 hm2 hM1 hM2
  obtain ⟨ht9, hn9, hs9, hE9⟩ := mr_o hF
  subst hn9 hs9 hE9
  have hX9 := hX
  rw [hQ]
  exact W.aret (v := .ref q26) hx hb hr (by first | exact Or.inl ⟨_, rfl⟩ | exact Or.inr ⟨_, rfl⟩) (Or.inr ⟨_, rfl⟩) (fun t ht hW => ⟨⟨(), q26, rfl, trivial, _, hX, (by rw [← ht9]; exact hr28), by rw [ht]; exact hP, hD⟩, hS.F ht⟩) hS.2.2 dJ6_toString_b52d3_31
noncomputable def H_J6_toString_0e30d (a0 : Nat) : MH Nat := mb (mg fun _ _ => iVl (a0)) fun x1 => mb (H_J6_toString_b52d3 (x1)) fun x3 => mr x3
set_option maxHeartbeats 4000000 in
set_option maxRecDepth 100000 in
theorem h_J6_toString_0e30d (l : Launch) (dC : Nat → ClassId) (dI : Nat → Nat → Nat) (cy : Nat → ClassId) (nb : Nat → Nat) (ad0 : Nat → Nat) (n0 s0 : Nat) (E0 : HE) (hC : clo n0 E0) (a0 Aa0 : Nat) (ha0 : rf nb ad0 n0 a0 Aa0) (sz : Nat) (ro : Nat) (nz sz9 : Nat) (Ez : HE) (hF : (H_J6_toString_0e30d a0).1 (n0, s0, E0) = some (ro, nz, sz9, Ez)) : Met l yJ6_toString_0e30d (wsg yJ6_toString_0e30d cJ6_toString_0e30d 1 (some (.object "java/lang/String"))) ({ frames := 10, cells := nz - n0, slots := sz9 - s0, locals := 500 }) (va_Pc [.ref Aa0] (fun U => U.heap.size = sz ∧ va_P (dC, dI) vwCl (CH cy nb ad0 n0 E0) U.heap ∧ va_K (dC, dI) vwCl (tyL cy) U ∧ va_D (fun _ => True) (CH cy nb ad0 n0 E0) ∧ GL nb (va_A (CH cy nb ad0 n0 E0) sz) U)) (va_Qr (fun (_ : Unit) => True) (fun _ ra t => ∃ ad2 : Nat → Nat, axh n0 ad0 nz ad2 ∧ rf nb ad2 nz ro ra ∧ va_P (dC, dI) vwCl (CH cy nb ad2 nz Ez) t.heap ∧ va_D (va_A (CH cy nb ad0 n0 E0) sz) (CH cy nb ad2 nz Ez)) (va_A (CH cy nb ad0 n0 E0) sz)) (nz - n0) (sz9 - s0) (va_A (CH cy nb ad0 n0 E0) sz) := by
  refine Met.ofW (cc := cJ6_toString_0e30d) (maxL := 1) (ret := (some (.object "java/lang/String"))) (by decide) rfl ?_
  intro p e s m args below meth c s₁ B hml hv
  obtain ⟨rfl, hsz, hP, hK, hD0, hE⟩ := hv
  have hx := B.exec
  have hb := B.bytes
  have hr := B.returns
  have hts0 := atoms_spec (ws := (wsg yJ6_toString_0e30d cJ6_toString_0e30d 1 (some (.object "java/lang/String")))) B.pre
  have hts : ∀ w ∈ wsL_law, w.before _ s = true := fun w h => hts0 w (List.mem_cons_of_mem _ h)
  have hown : s.vm.findClass RJ6 = some m.cls := by have h9 := findClass_of_methodNamed B.named; exact h9
  subst hsz
  have hD := hD0.self (sz := s.heap.size)
  generalize hAe : va_A (CH cy nb ad0 n0 E0) s.heap.size = A at hD hE ⊢
  have hA : ∀ q : Nat, s.heap.size ≤ q → A q := fun q h => by rw [← hAe]; exact Or.inr h
  have hS : va_S A s.heap s.heap [] := va_S.rf
  have hl := lv_entry ([.ref Aa0]) (n := 1) (Nat.le_of_ble_eq_true rfl)
  rw [lg_entry_eq]
  generalize (lg_sl ([.ref Aa0]) ++ List.replicate (1 - (lg_sl ([.ref Aa0])).length) Slot.unset).toArray = ls at hl ⊢
  have hl : lv_has ls 1 [(0, .ref Aa0)] := hl
  generalize hHe : s.heap = H at hP hS ⊢
  have hS : va_S A s.heap H [] := by rw [hHe]; exact hS
  refine my_Q (fun Qn hQ => ?_)
  simp only [H_J6_toString_0e30d] at hF
  have hX : axh n0 ad0 n0 ad0 := axh_refl
  have hN : n0 ≤ n0 := Nat.le_refl _
  have hT : s0 ≤ s0 := Nat.le_refl _
  refine W.widen (k := n0 - n0) (n := s0 - s0) (by omega) (by omega) ?_
  refine lv_aload_n hx hb dJ6_toString_0e30d_0 rfl (lv_at hl 0 rfl) ?_
  obtain ⟨x1, e2, hF⟩ := mg_o hF
  refine hs_iVl hx hb hown hE hS ha0 e2 (hts _ mw_313) dJ6_toString_0e30d_1 ?_
  obtain ⟨x3, n5, s6, E7, e4, hF⟩ := mb_o hF
  have hm := mle e4
  have hM1 := mle1 hF
  have hM2 := mle2 hF
  have hm1 := hm.1
  have hm2 := hm.2.1
  have hFc := my_free hD hS hA
  refine va_callr (va_runS (As := [.int x1]) (rest := []) ⟨hx, hb, hml, hown, hts⟩ (h_J6_toString_b52d3 l dC dI cy nb ad0 n0 s0 E0 hC (x1) H.size x3 n5 s6 E7 e4) (va_cwS 1 hts (gS mw_1025 mw_1026 mw_311 mw_1027) rfl rfl rfl (by decide +kernel) ⟨Nat.le_of_ble_eq_true rfl, Nat.le_of_ble_eq_true rfl⟩) (hl_preS hP hK hD hE hS hFc) rfl rfl hl.1 rfl (lv_room (Nat.le_of_ble_eq_true rfl)) dJ6_toString_0e30d_4 ⟨show n0 - n0 + (n5 - n0) ≤ nz - n0 by omega, show s0 - s0 + (s6 - s0) ≤ sz9 - s0 by omega⟩) hS (fun q _ h => hFc q h) hFc (fun u ra t H1 locs ht hvm hw hB hz1 hk1 hS => ?_)
  obtain ⟨ad8, hax, hr9, hP1, hD1⟩ := hB
  rw [ht] at hP1
  have hP := hP1
  have hD := hD1.weaken (fun k q _ h => hFc q.1 h)
  generalize H1 = H at hP hS ⊢
  have ha0 := ha0.mv hC.1 hax
  have hX := hX.trans hax
  have hC := hm.2.2 hC
  have hN : n0 ≤ n5 := Nat.le_trans hN hm1
  have hT : s0 ≤ s6 := Nat.le_trans hT hm2
  refine W.widen (k := n5 - n0) (n := s6 - s0) (by omega) (by omega) ?_
  clear hP1 hD1 hFc hk1 hz1 hvm ht hax hm hm1 hm2 hM1 hM2
  refine my_top (y := .ref (AD nb ad8 x3)) (congrArg Value.ref hr9.2.symm) ?_
  have hr9 := rf_self hr9
  obtain ⟨ht9, hn9, hs9, hE9⟩ := mr_o hF
  subst hn9 hs9 hE9
  have hX9 := hX
  rw [hQ]
  exact W.aret (v := .ref (AD nb ad8 x3)) hx hb hr (by first | exact Or.inl ⟨_, rfl⟩ | exact Or.inr ⟨_, rfl⟩) (Or.inr ⟨_, rfl⟩) (fun t ht hW => ⟨⟨(), (AD nb ad8 x3), rfl, trivial, _, hX, (by rw [← ht9]; exact hr9), by rw [ht]; exact hP, hD⟩, hS.F ht⟩) hS.2.2 dJ6_toString_0e30d_7
noncomputable def H_J1_toBytes_a14e5 (a1 : Int32) : MH Nat := mb (mp (ln 1)) fun k1 => mb (nA 0 k1) fun x6 => mb (wA (x6) 0 (0) ((vp_nar .byte ((a1).toInt8.toInt32)))) fun _ => mr x6
set_option maxHeartbeats 4000000 in
set_option maxRecDepth 100000 in
theorem h_J1_toBytes_a14e5 (l : Launch) (dC : Nat → ClassId) (dI : Nat → Nat → Nat) (cy : Nat → ClassId) (nb : Nat → Nat) (ad0 : Nat → Nat) (n0 s0 : Nat) (E0 : HE) (hC : clo n0 E0) (a1 : Int32) (sz : Nat) (ro : Nat) (nz sz9 : Nat) (Ez : HE) (hF : (H_J1_toBytes_a14e5 a1).1 (n0, s0, E0) = some (ro, nz, sz9, Ez)) : Met l yJ1_toBytes_a14e5 (wsg yJ1_toBytes_a14e5 cJ1_toBytes_a14e5 1 (some (.array .byte))) ({ frames := 8, cells := nz - n0, slots := sz9 - s0, locals := 300 }) (va_Pc [.int a1] (fun U => U.heap.size = sz ∧ va_P (dC, dI) vwCl (CH cy nb ad0 n0 E0) U.heap ∧ va_K (dC, dI) vwCl (tyL cy) U ∧ va_D (fun _ => True) (CH cy nb ad0 n0 E0) ∧ GL nb (va_A (CH cy nb ad0 n0 E0) sz) U)) (va_Qr (fun (_ : Unit) => True) (fun _ ra t => ∃ ad2 : Nat → Nat, axh n0 ad0 nz ad2 ∧ rf nb ad2 nz ro ra ∧ va_P (dC, dI) vwCl (CH cy nb ad2 nz Ez) t.heap ∧ va_D (va_A (CH cy nb ad0 n0 E0) sz) (CH cy nb ad2 nz Ez)) (va_A (CH cy nb ad0 n0 E0) sz)) (nz - n0) (sz9 - s0) (va_A (CH cy nb ad0 n0 E0) sz) := by
  refine Met.ofW (cc := cJ1_toBytes_a14e5) (maxL := 1) (ret := (some (.array .byte))) (by decide) rfl ?_
  intro p e s m args below meth c s₁ B hml hv
  obtain ⟨rfl, hsz, hP, hK, hD0, hE⟩ := hv
  have hx := B.exec
  have hb := B.bytes
  have hr := B.returns
  have hts0 := atoms_spec (ws := (wsg yJ1_toBytes_a14e5 cJ1_toBytes_a14e5 1 (some (.array .byte)))) B.pre
  have hts : ∀ w ∈ wsL_law, w.before _ s = true := fun w h => hts0 w (List.mem_cons_of_mem _ h)
  have hown : s.vm.findClass RJ1 = some m.cls := by have h9 := findClass_of_methodNamed B.named; exact h9
  subst hsz
  have hD := hD0.self (sz := s.heap.size)
  generalize hAe : va_A (CH cy nb ad0 n0 E0) s.heap.size = A at hD hE ⊢
  have hA : ∀ q : Nat, s.heap.size ≤ q → A q := fun q h => by rw [← hAe]; exact Or.inr h
  have hS : va_S A s.heap s.heap [] := va_S.rf
  have hl := lv_entry ([.int a1]) (n := 1) (Nat.le_of_ble_eq_true rfl)
  rw [lg_entry_eq]
  generalize (lg_sl ([.int a1]) ++ List.replicate (1 - (lg_sl ([.int a1])).length) Slot.unset).toArray = ls at hl ⊢
  have hl : lv_has ls 1 [(0, .int a1)] := hl
  generalize hHe : s.heap = H at hP hS ⊢
  have hS : va_S A s.heap H [] := by rw [hHe]; exact hS
  refine my_Q (fun Qn hQ => ?_)
  simp only [H_J1_toBytes_a14e5] at hF
  have hX : axh n0 ad0 n0 ad0 := axh_refl
  have hN : n0 ≤ n0 := Nat.le_refl _
  have hT : s0 ≤ s0 := Nat.le_refl _
  refine W.widen (k := n0 - n0) (n := s0 - s0) (by omega) (by omega) ?_
  refine lv_iconst (v := 1) hx hb dJ1_toBytes_a14e5_0 (by decide) ?_
  obtain ⟨k1, e2, hF⟩ := mp_o hF
  obtain ⟨x6, n3, s4, E5, hq, hF⟩ := mn_o hF
  have hM1 := mle1 hF
  have hM2 := mle2 hF
  have hq9 := hq.2.1
  have hq8 := hq.2.2.1
  obtain ⟨l1, l2, l3⟩ := ln_s e2
  refine va_newa (atype := .byte) (ty := .byte) (N' := k1) (a0 := (k1, .inl (fun _ => 0))) hx hb (hts _ mw_29) rfl hK hP hD hS hA (fun _ => rfl) l1 l2 (show k1 * 1 ≤ 536870912 by omega) (show n0 - n0 + 1 ≤ nz - n0 by omega) (show s0 - s0 + k1 ≤ sz9 - s0 by omega) dJ1_toBytes_a14e5_1 (fun q7 cA H hK9 hP hD hS => ?_)
  have hcA := my_cA hK9 hK 0 rfl
  subst hcA
  clear hK9 l1 l2 l3
  obtain ⟨ad8, hax, hr9, hC9, hw9⟩ := new_w (cy := cy) (nb := nb) (ad := ad0) (e := .inl (0, k1, .inl fun _ => 0)) trivial (fun _ => rfl) hC q7 hq
  rw [hw9] at hP hD
  have hX := hX.trans hax
  have hC := hC9
  obtain ⟨-, hq1, hq2, -, -⟩ := hq
  have hN : n0 ≤ n3 := by omega
  have hT : s0 ≤ s4 := by omega
  refine W.widen (k := n3 - n0) (n := s4 - s0) (by omega) (by omega) ?_
  clear hM1 hM2 hax hC9 hw9 hq1 hq2 hq8 hq9
  refine lv_dup hx hb dJ1_toBytes_a14e5_3 rfl ?_
  refine lv_iconst (v := 0) hx hb dJ1_toBytes_a14e5_4 (by decide) ?_
  refine lv_iload_n hx hb dJ1_toBytes_a14e5_5 rfl (lv_at hl 0 rfl) ?_
  refine lv_i2b (v := (a1).toInt8.toInt32) hx hb dJ1_toBytes_a14e5_6 rfl ?_
  obtain ⟨E10, e11, hF⟩ := mw_o hF
  obtain ⟨q9, m9, f9, h9, i9, ez9⟩ := wrA (cy := cy) hC hr9 e11
  refine va_bast hx hb hK hP hD hS q9 0 h9 rfl i9 dJ1_toBytes_a14e5_7 (fun H locs hP hD hS => ?_)
  clear i9
  rw [ez9] at hP hD
  clear ez9 h9
  have hC := sA_clo e11 hC
  obtain ⟨ht9, hn9, hs9, hE9⟩ := mr_o hF
  subst hn9 hs9 hE9
  have hX9 := hX
  rw [hQ]
  exact W.aret (v := .ref q7) hx hb hr (by first | exact Or.inl ⟨_, rfl⟩ | exact Or.inr ⟨_, rfl⟩) (Or.inr ⟨_, rfl⟩) (fun t ht hW => ⟨⟨(), q7, rfl, trivial, _, hX, (by rw [← ht9]; exact hr9), by rw [ht]; exact hP, hD⟩, hS.F ht⟩) hS.2.2 dJ1_toBytes_a14e5_8
noncomputable def H_J0_valueOf_756af (a1 : Int32) : MH Nat := mb (H_J1_canEncode_fc78d (a1)) fun x1 => if x1 = 0 then (mb (mn 4 (.inr (0, [.null, .int 0, .int 0, .int 0])) nok_J0) fun x11 => m0) else (mb (mn 4 (.inr (0, [.null, .int 0, .int 0, .int 0])) nok_J0) fun x18 => mb (H_J1_toBytes_a14e5 (a1)) fun x22 => mb (H_J0_init_031fb (x18) (x22) (0)) fun _ => mr x18)
set_option maxHeartbeats 4000000 in
set_option maxRecDepth 100000 in
theorem h_J0_valueOf_756af (l : Launch) (dC : Nat → ClassId) (dI : Nat → Nat → Nat) (cy : Nat → ClassId) (nb : Nat → Nat) (ad0 : Nat → Nat) (n0 s0 : Nat) (E0 : HE) (hC : clo n0 E0) (a1 : Int32) (sz : Nat) (ro : Nat) (nz sz9 : Nat) (Ez : HE) (hF : (H_J0_valueOf_756af a1).1 (n0, s0, E0) = some (ro, nz, sz9, Ez)) : Met l yJ0_valueOf_756af (wsg yJ0_valueOf_756af cJ0_valueOf_756af 1 (some (.object "java/lang/String"))) ({ frames := 9, cells := nz - n0, slots := sz9 - s0, locals := 400 }) (va_Pc [.int a1] (fun U => U.heap.size = sz ∧ va_P (dC, dI) vwCl (CH cy nb ad0 n0 E0) U.heap ∧ va_K (dC, dI) vwCl (tyL cy) U ∧ va_D (fun _ => True) (CH cy nb ad0 n0 E0) ∧ GL nb (va_A (CH cy nb ad0 n0 E0) sz) U)) (va_Qr (fun (_ : Unit) => True) (fun _ ra t => ∃ ad2 : Nat → Nat, axh n0 ad0 nz ad2 ∧ rf nb ad2 nz ro ra ∧ va_P (dC, dI) vwCl (CH cy nb ad2 nz Ez) t.heap ∧ va_D (va_A (CH cy nb ad0 n0 E0) sz) (CH cy nb ad2 nz Ez)) (va_A (CH cy nb ad0 n0 E0) sz)) (nz - n0) (sz9 - s0) (va_A (CH cy nb ad0 n0 E0) sz) := by
  refine Met.ofW (cc := cJ0_valueOf_756af) (maxL := 1) (ret := (some (.object "java/lang/String"))) (by decide) rfl ?_
  intro p e s m args below meth c s₁ B hml hv
  obtain ⟨rfl, hsz, hP, hK, hD0, hE⟩ := hv
  have hx := B.exec
  have hb := B.bytes
  have hr := B.returns
  have hts0 := atoms_spec (ws := (wsg yJ0_valueOf_756af cJ0_valueOf_756af 1 (some (.object "java/lang/String")))) B.pre
  have hts : ∀ w ∈ wsL_law, w.before _ s = true := fun w h => hts0 w (List.mem_cons_of_mem _ h)
  have hown : s.vm.findClass RJ0 = some m.cls := by have h9 := findClass_of_methodNamed B.named; exact h9
  subst hsz
  have hD := hD0.self (sz := s.heap.size)
  generalize hAe : va_A (CH cy nb ad0 n0 E0) s.heap.size = A at hD hE ⊢
  have hA : ∀ q : Nat, s.heap.size ≤ q → A q := fun q h => by rw [← hAe]; exact Or.inr h
  have hS : va_S A s.heap s.heap [] := va_S.rf
  have hl := lv_entry ([.int a1]) (n := 1) (Nat.le_of_ble_eq_true rfl)
  rw [lg_entry_eq]
  generalize (lg_sl ([.int a1]) ++ List.replicate (1 - (lg_sl ([.int a1])).length) Slot.unset).toArray = ls at hl ⊢
  have hl : lv_has ls 1 [(0, .int a1)] := hl
  generalize hHe : s.heap = H at hP hS ⊢
  have hS : va_S A s.heap H [] := by rw [hHe]; exact hS
  refine my_Q (fun Qn hQ => ?_)
  simp only [H_J0_valueOf_756af] at hF
  have hX : axh n0 ad0 n0 ad0 := axh_refl
  have hN : n0 ≤ n0 := Nat.le_refl _
  have hT : s0 ≤ s0 := Nat.le_refl _
  refine W.widen (k := n0 - n0) (n := s0 - s0) (by omega) (by omega) ?_
  refine va_gets (C := "java/lang/String") (n := "COMPACT_STRINGS") (d := "Z") (ref := "java/lang/String") (v := .int 1) hx hb hE.ge.cs hS hown (hts _ mw_284) (fun _ h9 => h9) dJ0_valueOf_756af_0 ?_
  refine lv_if_eq (tgt := 26) hx hb dJ0_valueOf_756af_3 (by decide) (fun h => absurd h (by decide)) (fun _ => ?_)
  refine lv_iload_n hx hb dJ0_valueOf_756af_6 rfl (lv_at hl 0 rfl) ?_
  obtain ⟨x1, n3, s4, E5, e2, hF⟩ := mb_o hF
  have hm := mle e2
  have hM1 := mle1 hF
  have hM2 := mle2 hF
  have hm1 := hm.1
  have hm2 := hm.2.1
  have hFc := my_free hD hS hA
  refine va_calli (va_runS (As := [.int a1]) (rest := []) ⟨hx, hb, hml, hown, hts⟩ (h_J1_canEncode_fc78d l dC dI cy nb ad0 n0 s0 E0 hC (a1) H.size x1 n3 s4 E5 e2) (va_cwS 1 hts (gS mw_1012 mw_768 mw_715 mw_769) rfl rfl rfl (by decide +kernel) ⟨Nat.le_of_ble_eq_true rfl, Nat.le_of_ble_eq_true rfl⟩) (hl_preS hP hK hD hE hS hFc) rfl rfl hl.1 rfl (lv_room (Nat.le_of_ble_eq_true rfl)) dJ0_valueOf_756af_7 ⟨show n0 - n0 + (n3 - n0) ≤ nz - n0 by omega, show s0 - s0 + (s4 - s0) ≤ sz9 - s0 by omega⟩) hS (fun q _ h => hFc q h) hFc (fun r9 u t H1 locs ht hvm hw hB hz1 hk1 hS => ?_)
  obtain ⟨ad6, hax, hP1, hD1⟩ := hB
  rw [ht] at hP1
  have hP := hP1
  have hD := hD1.weaken (fun k q _ h => hFc q.1 h)
  generalize H1 = H at hP hS ⊢
  have hX := hX.trans hax
  have hC := hm.2.2 hC
  have hN : n0 ≤ n3 := Nat.le_trans hN hm1
  have hT : s0 ≤ s4 := Nat.le_trans hT hm2
  refine W.widen (k := n3 - n0) (n := s4 - s0) (by omega) (by omega) ?_
  clear hP1 hD1 hFc hk1 hz1 hvm ht hax hm hm1 hm2 hM1 hM2
  obtain rfl := hw.symm
  refine lv_if_eq (tgt := 26) hx hb dJ0_valueOf_756af_10 (by decide) (fun c7 => ?_) (fun c7 => ?_)
  · skip
    rw [if_pos c7] at hF
    obtain ⟨x11, n8, s9, E10, hq, hF⟩ := mn_o hF
    have hM1 := mle1 hF
    have hM2 := mle2 hF
    have hq9 := hq.2.1
    have hq8 := hq.2.2.1
    refine va_new (ci := 0) (fs := [.null, .int 0, .int 0, .int 0]) (C := RJ0) (T := TJ0) (N := 4) hx hb hts inlJ0 tyJ0 tyJ0_ok hown (hts _ mw_1011) (hts _ mw_785) (hts _ mw_277) hK hP hD hS hA rfl (fun j hj => by match j, hj with | 0, _ => rfl | 1, _ => rfl | 2, _ => rfl | 3, _ => rfl | (n+4), h => omega) (show n3 - n0 + 1 ≤ nz - n0 by omega) (show s4 - s0 + 4 ≤ sz9 - s0 by omega) dJ0_valueOf_756af_26 (fun q12 H hP hD hS => ?_)
    obtain ⟨ad13, hax, hr14, hC9, hw9⟩ := new_w (cy := cy) (nb := nb) (ad := ad6) (e := .inr (0, [.null, .int 0, .int 0, .int 0])) nok_J0 (fun _ => rfl) hC q12 hq
    rw [hw9] at hP hD
    have hX := hX.trans hax
    have hC := hC9
    obtain ⟨-, hq1, hq2, -, -⟩ := hq
    have hN : n0 ≤ n8 := by omega
    have hT : s0 ≤ s9 := by omega
    refine W.widen (k := n8 - n0) (n := s9 - s0) (by omega) (by omega) ?_
    clear hM1 hM2 hax hC9 hw9 hq1 hq2 hq8 hq9
    refine lv_dup hx hb dJ0_valueOf_756af_29 rfl ?_
    refine lv_iload_n hx hb dJ0_valueOf_756af_30 rfl (lv_at hl 0 rfl) ?_
    exact (m0_o hF).elim
  · skip
    rw [if_neg c7] at hF
    obtain ⟨x18, n15, s16, E17, hq, hF⟩ := mn_o hF
    have hM1 := mle1 hF
    have hM2 := mle2 hF
    have hq9 := hq.2.1
    have hq8 := hq.2.2.1
    refine va_new (ci := 0) (fs := [.null, .int 0, .int 0, .int 0]) (C := RJ0) (T := TJ0) (N := 4) hx hb hts inlJ0 tyJ0 tyJ0_ok hown (hts _ mw_1011) (hts _ mw_785) (hts _ mw_277) hK hP hD hS hA rfl (fun j hj => by match j, hj with | 0, _ => rfl | 1, _ => rfl | 2, _ => rfl | 3, _ => rfl | (n+4), h => omega) (show n3 - n0 + 1 ≤ nz - n0 by omega) (show s4 - s0 + 4 ≤ sz9 - s0 by omega) dJ0_valueOf_756af_13 (fun q19 H hP hD hS => ?_)
    obtain ⟨ad20, hax, hr21, hC9, hw9⟩ := new_w (cy := cy) (nb := nb) (ad := ad6) (e := .inr (0, [.null, .int 0, .int 0, .int 0])) nok_J0 (fun _ => rfl) hC q19 hq
    rw [hw9] at hP hD
    have hX := hX.trans hax
    have hC := hC9
    obtain ⟨-, hq1, hq2, -, -⟩ := hq
    have hN : n0 ≤ n15 := by omega
    have hT : s0 ≤ s16 := by omega
    refine W.widen (k := n15 - n0) (n := s16 - s0) (by omega) (by omega) ?_
    clear hM1 hM2 hax hC9 hw9 hq1 hq2 hq8 hq9
    refine lv_dup hx hb dJ0_valueOf_756af_16 rfl ?_
    refine lv_iload_n hx hb dJ0_valueOf_756af_17 rfl (lv_at hl 0 rfl) ?_
    obtain ⟨x22, n24, s25, E26, e23, hF⟩ := mb_o hF
    have hm := mle e23
    have hM1 := mle1 hF
    have hM2 := mle2 hF
    have hm1 := hm.1
    have hm2 := hm.2.1
    have hFc := my_free hD hS hA
    refine va_callr (va_runS (As := [.int a1]) (rest := [.ref q19, .ref q19]) ⟨hx, hb, hml, hown, hts⟩ (h_J1_toBytes_a14e5 l dC dI cy nb ad20 n15 s16 E17 hC (a1) H.size x22 n24 s25 E26 e23) (va_cwS 1 hts (gS mw_1013 mw_1014 mw_715 mw_1015) rfl rfl rfl (by decide +kernel) ⟨Nat.le_of_ble_eq_true rfl, Nat.le_of_ble_eq_true rfl⟩) (hl_preS hP hK hD hE hS hFc) rfl rfl hl.1 rfl (lv_room (Nat.le_of_ble_eq_true rfl)) dJ0_valueOf_756af_18 ⟨show n15 - n0 + (n24 - n15) ≤ nz - n0 by omega, show s16 - s0 + (s25 - s16) ≤ sz9 - s0 by omega⟩) hS (fun q _ h => hFc q h) hFc (fun u ra t H1 locs ht hvm hw hB hz1 hk1 hS => ?_)
    obtain ⟨ad27, hax, hr28, hP1, hD1⟩ := hB
    rw [ht] at hP1
    have hP := hP1
    have hD := hD1.weaken (fun k q _ h => hFc q.1 h)
    generalize H1 = H at hP hS ⊢
    have hr21 := hr21.mv hC.1 hax
    have hX := hX.trans hax
    have hC := hm.2.2 hC
    have hN : n0 ≤ n24 := Nat.le_trans hN hm1
    have hT : s0 ≤ s25 := Nat.le_trans hT hm2
    refine W.widen (k := n24 - n0) (n := s25 - s0) (by omega) (by omega) ?_
    clear hP1 hD1 hFc hk1 hz1 hvm ht hax hm hm1 hm2 hM1 hM2
    refine my_top (y := .ref (AD nb ad27 x22)) (congrArg Value.ref hr28.2.symm) ?_
    have hr28 := rf_self hr28
    refine lv_iconst (v := 0) hx hb dJ0_valueOf_756af_21 (by decide) ?_
    obtain ⟨⟨⟩, n31, s32, E33, e30, hF⟩ := mb_o hF
    have hm := mle e30
    have hM1 := mle1 hF
    have hM2 := mle2 hF
    have hm1 := hm.1
    have hm2 := hm.2.1
    have hFc := my_free hD hS hA
    refine va_callv (va_runI (As := [.ref (AD nb ad27 x22), .int 0]) (rest := [.ref q19]) ⟨hx, hb, hml, hown, hts⟩ (h_J0_init_031fb l dC dI cy nb ad27 n24 s25 E26 hC (x18) q19 hr21 (x22) (AD nb ad27 x22) hr28 (0) H.size n31 s32 E33 e30) (cwI 2 hts (gI mw_1018) rfl rfl rfl (hts _ mw_277) (hts _ mw_1016) (hts _ mw_1017) rfl (by decide +kernel) ⟨Nat.le_of_ble_eq_true rfl, Nat.le_of_ble_eq_true rfl⟩) (hl_preS hP hK hD hE hS hFc) rfl rfl hl.1 rfl (lv_room (Nat.le_of_ble_eq_true rfl)) dJ0_valueOf_756af_22 ⟨show n24 - n0 + (n31 - n24) ≤ nz - n0 by omega, show s25 - s0 + (s32 - s25) ≤ sz9 - s0 by omega⟩) hS (fun q _ h => hFc q h) hFc (fun u t H1 locs ht hvm hw hB hz1 hk1 hS => ?_)
    obtain ⟨ad34, hax, hP1, hD1⟩ := hB
    rw [ht] at hP1
    have hP := hP1
    have hD := hD1.weaken (fun k q _ h => hFc q.1 h)
    generalize H1 = H at hP hS ⊢
    have hr21 := hr21.mv hC.1 hax
    have hX := hX.trans hax
    have hC := hm.2.2 hC
    have hN : n0 ≤ n31 := Nat.le_trans hN hm1
    have hT : s0 ≤ s32 := Nat.le_trans hT hm2
    refine W.widen (k := n31 - n0) (n := s32 - s0) (by omega) (by omega) ?_
    clear hP1 hD1 hFc hk1 hz1 hvm ht hax hm hm1 hm2 hM1 hM2
    obtain ⟨ht9, hn9, hs9, hE9⟩ := mr_o hF
    subst hn9 hs9 hE9
    have hX9 := hX
    rw [hQ]
    exact W.aret (v := .ref q19) hx hb hr (by first | exact Or.inl ⟨_, rfl⟩ | exact Or.inr ⟨_, rfl⟩) (Or.inr ⟨_, rfl⟩) (fun t ht hW => ⟨⟨(), q19, rfl, trivial, _, hX, (by rw [← ht9]; exact hr21), by rw [ht]; exact hP, hD⟩, hS.F ht⟩) hS.2.2 dJ0_valueOf_756af_25
noncomputable def H_J11_toString_0e30d (a0 : Nat) : MH Nat := mb (mg fun _ _ => cVl (a0)) fun x1 => mb (H_J0_valueOf_756af (x1)) fun x3 => mr x3
set_option maxHeartbeats 4000000 in
set_option maxRecDepth 100000 in
theorem h_J11_toString_0e30d (l : Launch) (dC : Nat → ClassId) (dI : Nat → Nat → Nat) (cy : Nat → ClassId) (nb : Nat → Nat) (ad0 : Nat → Nat) (n0 s0 : Nat) (E0 : HE) (hC : clo n0 E0) (a0 Aa0 : Nat) (ha0 : rf nb ad0 n0 a0 Aa0) (sz : Nat) (ro : Nat) (nz sz9 : Nat) (Ez : HE) (hF : (H_J11_toString_0e30d a0).1 (n0, s0, E0) = some (ro, nz, sz9, Ez)) : Met l yJ11_toString_0e30d (wsg yJ11_toString_0e30d cJ11_toString_0e30d 1 (some (.object "java/lang/String"))) ({ frames := 10, cells := nz - n0, slots := sz9 - s0, locals := 500 }) (va_Pc [.ref Aa0] (fun U => U.heap.size = sz ∧ va_P (dC, dI) vwCl (CH cy nb ad0 n0 E0) U.heap ∧ va_K (dC, dI) vwCl (tyL cy) U ∧ va_D (fun _ => True) (CH cy nb ad0 n0 E0) ∧ GL nb (va_A (CH cy nb ad0 n0 E0) sz) U)) (va_Qr (fun (_ : Unit) => True) (fun _ ra t => ∃ ad2 : Nat → Nat, axh n0 ad0 nz ad2 ∧ rf nb ad2 nz ro ra ∧ va_P (dC, dI) vwCl (CH cy nb ad2 nz Ez) t.heap ∧ va_D (va_A (CH cy nb ad0 n0 E0) sz) (CH cy nb ad2 nz Ez)) (va_A (CH cy nb ad0 n0 E0) sz)) (nz - n0) (sz9 - s0) (va_A (CH cy nb ad0 n0 E0) sz) := by
  refine Met.ofW (cc := cJ11_toString_0e30d) (maxL := 1) (ret := (some (.object "java/lang/String"))) (by decide) rfl ?_
  intro p e s m args below meth c s₁ B hml hv
  obtain ⟨rfl, hsz, hP, hK, hD0, hE⟩ := hv
  have hx := B.exec
  have hb := B.bytes
  have hr := B.returns
  have hts0 := atoms_spec (ws := (wsg yJ11_toString_0e30d cJ11_toString_0e30d 1 (some (.object "java/lang/String")))) B.pre
  have hts : ∀ w ∈ wsL_law, w.before _ s = true := fun w h => hts0 w (List.mem_cons_of_mem _ h)
  have hown : s.vm.findClass RJ11 = some m.cls := by have h9 := findClass_of_methodNamed B.named; exact h9
  subst hsz
  have hD := hD0.self (sz := s.heap.size)
  generalize hAe : va_A (CH cy nb ad0 n0 E0) s.heap.size = A at hD hE ⊢
  have hA : ∀ q : Nat, s.heap.size ≤ q → A q := fun q h => by rw [← hAe]; exact Or.inr h
  have hS : va_S A s.heap s.heap [] := va_S.rf
  have hl := lv_entry ([.ref Aa0]) (n := 1) (Nat.le_of_ble_eq_true rfl)
  rw [lg_entry_eq]
  generalize (lg_sl ([.ref Aa0]) ++ List.replicate (1 - (lg_sl ([.ref Aa0])).length) Slot.unset).toArray = ls at hl ⊢
  have hl : lv_has ls 1 [(0, .ref Aa0)] := hl
  generalize hHe : s.heap = H at hP hS ⊢
  have hS : va_S A s.heap H [] := by rw [hHe]; exact hS
  refine my_Q (fun Qn hQ => ?_)
  simp only [H_J11_toString_0e30d] at hF
  have hX : axh n0 ad0 n0 ad0 := axh_refl
  have hN : n0 ≤ n0 := Nat.le_refl _
  have hT : s0 ≤ s0 := Nat.le_refl _
  refine W.widen (k := n0 - n0) (n := s0 - s0) (by omega) (by omega) ?_
  refine lv_aload_n hx hb dJ11_toString_0e30d_0 rfl (lv_at hl 0 rfl) ?_
  obtain ⟨x1, e2, hF⟩ := mg_o hF
  refine hs_cVl hx hb hown hE hS ha0 e2 (hts _ mw_1007) dJ11_toString_0e30d_1 ?_
  obtain ⟨x3, n5, s6, E7, e4, hF⟩ := mb_o hF
  have hm := mle e4
  have hM1 := mle1 hF
  have hM2 := mle2 hF
  have hm1 := hm.1
  have hm2 := hm.2.1
  have hFc := my_free hD hS hA
  refine va_callr (va_runS (As := [.int x1]) (rest := []) ⟨hx, hb, hml, hown, hts⟩ (h_J0_valueOf_756af l dC dI cy nb ad0 n0 s0 E0 hC (x1) H.size x3 n5 s6 E7 e4) (va_cwS 1 hts (gS mw_1008 mw_1009 mw_277 mw_1010) rfl rfl rfl (by decide +kernel) ⟨Nat.le_of_ble_eq_true rfl, Nat.le_of_ble_eq_true rfl⟩) (hl_preS hP hK hD hE hS hFc) rfl rfl hl.1 rfl (lv_room (Nat.le_of_ble_eq_true rfl)) dJ11_toString_0e30d_4 ⟨show n0 - n0 + (n5 - n0) ≤ nz - n0 by omega, show s0 - s0 + (s6 - s0) ≤ sz9 - s0 by omega⟩) hS (fun q _ h => hFc q h) hFc (fun u ra t H1 locs ht hvm hw hB hz1 hk1 hS => ?_)
  obtain ⟨ad8, hax, hr9, hP1, hD1⟩ := hB
  rw [ht] at hP1
  have hP := hP1
  have hD := hD1.weaken (fun k q _ h => hFc q.1 h)
  generalize H1 = H at hP hS ⊢
  have ha0 := ha0.mv hC.1 hax
  have hX := hX.trans hax
  have hC := hm.2.2 hC
  have hN : n0 ≤ n5 := Nat.le_trans hN hm1
  have hT : s0 ≤ s6 := Nat.le_trans hT hm2
  refine W.widen (k := n5 - n0) (n := s6 - s0) (by omega) (by omega) ?_
  clear hP1 hD1 hFc hk1 hz1 hvm ht hax hm hm1 hm2 hM1 hM2
  refine my_top (y := .ref (AD nb ad8 x3)) (congrArg Value.ref hr9.2.symm) ?_
  have hr9 := rf_self hr9
  obtain ⟨ht9, hn9, hs9, hE9⟩ := mr_o hF
  subst hn9 hs9 hE9
  have hX9 := hX
  rw [hQ]
  exact W.aret (v := .ref (AD nb ad8 x3)) hx hb hr (by first | exact Or.inl ⟨_, rfl⟩ | exact Or.inr ⟨_, rfl⟩) (Or.inr ⟨_, rfl⟩) (fun t ht hW => ⟨⟨(), (AD nb ad8 x3), rfl, trivial, _, hX, (by rw [← ht9]; exact hr9), by rw [ht]; exact hP, hD⟩, hS.F ht⟩) hS.2.2 dJ11_toString_0e30d_7
noncomputable def H_J0_toString_0e30d (a0 : Nat) : MH Nat := mr a0
set_option maxHeartbeats 4000000 in
set_option maxRecDepth 100000 in
theorem h_J0_toString_0e30d (l : Launch) (dC : Nat → ClassId) (dI : Nat → Nat → Nat) (cy : Nat → ClassId) (nb : Nat → Nat) (ad0 : Nat → Nat) (n0 s0 : Nat) (E0 : HE) (hC : clo n0 E0) (a0 Aa0 : Nat) (ha0 : rf nb ad0 n0 a0 Aa0) (sz : Nat) (ro : Nat) (nz sz9 : Nat) (Ez : HE) (hF : (H_J0_toString_0e30d a0).1 (n0, s0, E0) = some (ro, nz, sz9, Ez)) : Met l yJ0_toString_0e30d (wsg yJ0_toString_0e30d cJ0_toString_0e30d 1 (some (.object "java/lang/String"))) ({ frames := 8, cells := nz - n0, slots := sz9 - s0, locals := 300 }) (va_Pc [.ref Aa0] (fun U => U.heap.size = sz ∧ va_P (dC, dI) vwCl (CH cy nb ad0 n0 E0) U.heap ∧ va_K (dC, dI) vwCl (tyL cy) U ∧ va_D (fun _ => True) (CH cy nb ad0 n0 E0) ∧ GL nb (va_A (CH cy nb ad0 n0 E0) sz) U)) (va_Qr (fun (_ : Unit) => True) (fun _ ra t => ∃ ad2 : Nat → Nat, axh n0 ad0 nz ad2 ∧ rf nb ad2 nz ro ra ∧ va_P (dC, dI) vwCl (CH cy nb ad2 nz Ez) t.heap ∧ va_D (va_A (CH cy nb ad0 n0 E0) sz) (CH cy nb ad2 nz Ez)) (va_A (CH cy nb ad0 n0 E0) sz)) (nz - n0) (sz9 - s0) (va_A (CH cy nb ad0 n0 E0) sz) := by
  refine Met.ofW (cc := cJ0_toString_0e30d) (maxL := 1) (ret := (some (.object "java/lang/String"))) (by decide) rfl ?_
  intro p e s m args below meth c s₁ B hml hv
  obtain ⟨rfl, hsz, hP, hK, hD0, hE⟩ := hv
  have hx := B.exec
  have hb := B.bytes
  have hr := B.returns
  have hts0 := atoms_spec (ws := (wsg yJ0_toString_0e30d cJ0_toString_0e30d 1 (some (.object "java/lang/String")))) B.pre
  have hts : ∀ w ∈ wsL_law, w.before _ s = true := fun w h => hts0 w (List.mem_cons_of_mem _ h)
  have hown : s.vm.findClass RJ0 = some m.cls := by have h9 := findClass_of_methodNamed B.named; exact h9
  subst hsz
  have hD := hD0.self (sz := s.heap.size)
  generalize hAe : va_A (CH cy nb ad0 n0 E0) s.heap.size = A at hD hE ⊢
  have hA : ∀ q : Nat, s.heap.size ≤ q → A q := fun q h => by rw [← hAe]; exact Or.inr h
  have hS : va_S A s.heap s.heap [] := va_S.rf
  have hl := lv_entry ([.ref Aa0]) (n := 1) (Nat.le_of_ble_eq_true rfl)
  rw [lg_entry_eq]
  generalize (lg_sl ([.ref Aa0]) ++ List.replicate (1 - (lg_sl ([.ref Aa0])).length) Slot.unset).toArray = ls at hl ⊢
  have hl : lv_has ls 1 [(0, .ref Aa0)] := hl
  generalize hHe : s.heap = H at hP hS ⊢
  have hS : va_S A s.heap H [] := by rw [hHe]; exact hS
  refine my_Q (fun Qn hQ => ?_)
  simp only [H_J0_toString_0e30d] at hF
  have hX : axh n0 ad0 n0 ad0 := axh_refl
  have hN : n0 ≤ n0 := Nat.le_refl _
  have hT : s0 ≤ s0 := Nat.le_refl _
  refine W.widen (k := n0 - n0) (n := s0 - s0) (by omega) (by omega) ?_
  refine lv_aload_n hx hb dJ0_toString_0e30d_0 rfl (lv_at hl 0 rfl) ?_
  obtain ⟨ht9, hn9, hs9, hE9⟩ := mr_o hF
  subst hn9 hs9 hE9
  have hX9 := hX
  rw [hQ]
  exact W.aret (v := .ref Aa0) hx hb hr (by first | exact Or.inl ⟨_, rfl⟩ | exact Or.inr ⟨_, rfl⟩) (Or.inr ⟨_, rfl⟩) (fun t ht hW => ⟨⟨(), Aa0, rfl, trivial, _, hX, (by rw [← ht9]; exact ha0), by rw [ht]; exact hP, hD⟩, hS.F ht⟩) hS.2.2 dJ0_toString_0e30d_1
noncomputable def H_J0_valueOf_8a030 (a1 : Nat) : MH Nat := if 1002500 ≤ a1 ∧ a1 < 1002628 then (mb (mp (isCh (a1))) fun _ => mb (H_J11_toString_0e30d (a1)) fun x3 => mr x3) else (if 1002100 ≤ a1 ∧ a1 < 1002356 then (mb (mp (isIn (a1))) fun _ => mb (H_J6_toString_0e30d (a1)) fun x13 => mr x13) else (mb (mg fun n E => sOk n E (a1)) fun _ => mb (H_J0_toString_0e30d (a1)) fun x22 => mr x22))
set_option maxHeartbeats 4000000 in
set_option maxRecDepth 100000 in
theorem h_J0_valueOf_8a030 (l : Launch) (dC : Nat → ClassId) (dI : Nat → Nat → Nat) (cy : Nat → ClassId) (nb : Nat → Nat) (ad0 : Nat → Nat) (n0 s0 : Nat) (E0 : HE) (hC : clo n0 E0) (a1 Aa1 : Nat) (ha1 : rf nb ad0 n0 a1 Aa1) (sz : Nat) (ro : Nat) (nz sz9 : Nat) (Ez : HE) (hF : (H_J0_valueOf_8a030 a1).1 (n0, s0, E0) = some (ro, nz, sz9, Ez)) : Met l yJ0_valueOf_8a030 (wsg yJ0_valueOf_8a030 cJ0_valueOf_8a030 1 (some (.object "java/lang/String"))) ({ frames := 11, cells := nz - n0, slots := sz9 - s0, locals := 600 }) (va_Pc [.ref Aa1] (fun U => U.heap.size = sz ∧ va_P (dC, dI) vwCl (CH cy nb ad0 n0 E0) U.heap ∧ va_K (dC, dI) vwCl (tyL cy) U ∧ va_D (fun _ => True) (CH cy nb ad0 n0 E0) ∧ GL nb (va_A (CH cy nb ad0 n0 E0) sz) U)) (va_Qr (fun (_ : Unit) => True) (fun _ ra t => ∃ ad2 : Nat → Nat, axh n0 ad0 nz ad2 ∧ rf nb ad2 nz ro ra ∧ va_P (dC, dI) vwCl (CH cy nb ad2 nz Ez) t.heap ∧ va_D (va_A (CH cy nb ad0 n0 E0) sz) (CH cy nb ad2 nz Ez)) (va_A (CH cy nb ad0 n0 E0) sz)) (nz - n0) (sz9 - s0) (va_A (CH cy nb ad0 n0 E0) sz) := by
  refine Met.ofW (cc := cJ0_valueOf_8a030) (maxL := 1) (ret := (some (.object "java/lang/String"))) (by decide) rfl ?_
  intro p e s m args below meth c s₁ B hml hv
  obtain ⟨rfl, hsz, hP, hK, hD0, hE⟩ := hv
  have hx := B.exec
  have hb := B.bytes
  have hr := B.returns
  have hts0 := atoms_spec (ws := (wsg yJ0_valueOf_8a030 cJ0_valueOf_8a030 1 (some (.object "java/lang/String")))) B.pre
  have hts : ∀ w ∈ wsL_law, w.before _ s = true := fun w h => hts0 w (List.mem_cons_of_mem _ h)
  have hown : s.vm.findClass RJ0 = some m.cls := by have h9 := findClass_of_methodNamed B.named; exact h9
  subst hsz
  have hD := hD0.self (sz := s.heap.size)
  generalize hAe : va_A (CH cy nb ad0 n0 E0) s.heap.size = A at hD hE ⊢
  have hA : ∀ q : Nat, s.heap.size ≤ q → A q := fun q h => by rw [← hAe]; exact Or.inr h
  have hS : va_S A s.heap s.heap [] := va_S.rf
  have hl := lv_entry ([.ref Aa1]) (n := 1) (Nat.le_of_ble_eq_true rfl)
  rw [lg_entry_eq]
  generalize (lg_sl ([.ref Aa1]) ++ List.replicate (1 - (lg_sl ([.ref Aa1])).length) Slot.unset).toArray = ls at hl ⊢
  have hl : lv_has ls 1 [(0, .ref Aa1)] := hl
  generalize hHe : s.heap = H at hP hS ⊢
  have hS : va_S A s.heap H [] := by rw [hHe]; exact hS
  refine my_Q (fun Qn hQ => ?_)
  simp only [H_J0_valueOf_8a030] at hF
  have hX : axh n0 ad0 n0 ad0 := axh_refl
  have hN : n0 ≤ n0 := Nat.le_refl _
  have hT : s0 ≤ s0 := Nat.le_refl _
  refine W.widen (k := n0 - n0) (n := s0 - s0) (by omega) (by omega) ?_
  refine lv_aload_n hx hb dJ0_valueOf_8a030_0 rfl (lv_at hl 0 rfl) ?_
  refine lv_ifnonnull (tgt := 10) hx hb dJ0_valueOf_8a030_1 (by decide) ?_
  refine lv_aload_n hx hb dJ0_valueOf_8a030_10 rfl (lv_at hl 0 rfl) ?_
  by_cases c1 : 1002500 ≤ a1 ∧ a1 < 1002628
  · rw [if_pos c1] at hF
    obtain ⟨_, e2, hF⟩ := mp_o hF
    obtain ⟨x3, n5, s6, E7, e4, hF⟩ := mb_o hF
    have hm := mle e4
    have hM1 := mle1 hF
    have hM2 := mle2 hF
    have hm1 := hm.1
    have hm2 := hm.2.1
    have hFc := my_free hD hS hA
    refine va_callr (va_runU (C := RJ11) (As := []) (rest := []) ⟨hx, hb, hml, hown, hts⟩ (h_J11_toString_0e30d l dC dI cy nb ad0 n0 s0 E0 hC (a1) Aa1 ha1 H.size x3 n5 s6 E7 e4) (va_cwA 0 hts (gU mw_997 mw_998 mw_1003 mw_1004 mw_1005 mw_1006) rfl rfl rfl hE.de0 (by decide +kernel) ⟨Nat.le_of_ble_eq_true rfl, Nat.le_of_ble_eq_true rfl⟩) (hl_preV hP hK hD hE hS hFc (hs_isCh hE hS ha1 e2)) rfl rfl hl.1 rfl (lv_room (Nat.le_of_ble_eq_true rfl)) dJ0_valueOf_8a030_11 ⟨show n0 - n0 + (n5 - n0) ≤ nz - n0 by omega, show s0 - s0 + (s6 - s0) ≤ sz9 - s0 by omega⟩) hS (fun q _ h => hFc q h) hFc (fun u ra t H1 locs ht hvm hw hB hz1 hk1 hS => ?_)
    obtain ⟨ad8, hax, hr9, hP1, hD1⟩ := hB
    rw [ht] at hP1
    have hP := hP1
    have hD := hD1.weaken (fun k q _ h => hFc q.1 h)
    generalize H1 = H at hP hS ⊢
    have ha1 := ha1.mv hC.1 hax
    have hX := hX.trans hax
    have hC := hm.2.2 hC
    have hN : n0 ≤ n5 := Nat.le_trans hN hm1
    have hT : s0 ≤ s6 := Nat.le_trans hT hm2
    refine W.widen (k := n5 - n0) (n := s6 - s0) (by omega) (by omega) ?_
    clear hP1 hD1 hFc hk1 hz1 hvm ht hax hm hm1 hm2 hM1 hM2
    refine my_top (y := .ref (AD nb ad8 x3)) (congrArg Value.ref hr9.2.symm) ?_
    have hr9 := rf_self hr9
    obtain ⟨ht9, hn9, hs9, hE9⟩ := mr_o hF
    subst hn9 hs9 hE9
    have hX9 := hX
    rw [hQ]
    exact W.aret (v := .ref (AD nb ad8 x3)) hx hb hr (by first | exact Or.inl ⟨_, rfl⟩ | exact Or.inr ⟨_, rfl⟩) (Or.inr ⟨_, rfl⟩) (fun t ht hW => ⟨⟨(), (AD nb ad8 x3), rfl, trivial, _, hX, (by rw [← ht9]; exact hr9), by rw [ht]; exact hP, hD⟩, hS.F ht⟩) hS.2.2 dJ0_valueOf_8a030_14
  · rw [if_neg c1] at hF
    by_cases c11 : 1002100 ≤ a1 ∧ a1 < 1002356
    · rw [if_pos c11] at hF
      obtain ⟨_, e12, hF⟩ := mp_o hF
      obtain ⟨x13, n15, s16, E17, e14, hF⟩ := mb_o hF
      have hm := mle e14
      have hM1 := mle1 hF
      have hM2 := mle2 hF
      have hm1 := hm.1
      have hm2 := hm.2.1
      have hFc := my_free hD hS hA
      refine va_callr (va_runU (C := RJ6) (As := []) (rest := []) ⟨hx, hb, hml, hown, hts⟩ (h_J6_toString_0e30d l dC dI cy nb ad0 n0 s0 E0 hC (a1) Aa1 ha1 H.size x13 n15 s16 E17 e14) (va_cwA 0 hts (gU mw_997 mw_998 mw_1022 mw_1023 mw_311 mw_1024) rfl rfl rfl hE.de0 (by decide +kernel) ⟨Nat.le_of_ble_eq_true rfl, Nat.le_of_ble_eq_true rfl⟩) (hl_preV hP hK hD hE hS hFc (hs_isIn hE hS ha1 e12)) rfl rfl hl.1 rfl (lv_room (Nat.le_of_ble_eq_true rfl)) dJ0_valueOf_8a030_11 ⟨show n0 - n0 + (n15 - n0) ≤ nz - n0 by omega, show s0 - s0 + (s16 - s0) ≤ sz9 - s0 by omega⟩) hS (fun q _ h => hFc q h) hFc (fun u ra t H1 locs ht hvm hw hB hz1 hk1 hS => ?_)
      obtain ⟨ad18, hax, hr19, hP1, hD1⟩ := hB
      rw [ht] at hP1
      have hP := hP1
      have hD := hD1.weaken (fun k q _ h => hFc q.1 h)
      generalize H1 = H at hP hS ⊢
      have ha1 := ha1.mv hC.1 hax
      have hX := hX.trans hax
      have hC := hm.2.2 hC
      have hN : n0 ≤ n15 := Nat.le_trans hN hm1
      have hT : s0 ≤ s16 := Nat.le_trans hT hm2
      refine W.widen (k := n15 - n0) (n := s16 - s0) (by omega) (by omega) ?_
      clear hP1 hD1 hFc hk1 hz1 hvm ht hax hm hm1 hm2 hM1 hM2
      refine my_top (y := .ref (AD nb ad18 x13)) (congrArg Value.ref hr19.2.symm) ?_
      have hr19 := rf_self hr19
      obtain ⟨ht9, hn9, hs9, hE9⟩ := mr_o hF
      subst hn9 hs9 hE9
      have hX9 := hX
      rw [hQ]
      exact W.aret (v := .ref (AD nb ad18 x13)) hx hb hr (by first | exact Or.inl ⟨_, rfl⟩ | exact Or.inr ⟨_, rfl⟩) (Or.inr ⟨_, rfl⟩) (fun t ht hW => ⟨⟨(), (AD nb ad18 x13), rfl, trivial, _, hX, (by rw [← ht9]; exact hr19), by rw [ht]; exact hP, hD⟩, hS.F ht⟩) hS.2.2 dJ0_valueOf_8a030_14
    · rw [if_neg c11] at hF
      obtain ⟨_, e21, hF⟩ := mg_o hF
      obtain ⟨x22, n24, s25, E26, e23, hF⟩ := mb_o hF
      have hm := mle e23
      have hM1 := mle1 hF
      have hM2 := mle2 hF
      have hm1 := hm.1
      have hm2 := hm.2.1
      have hFc := my_free hD hS hA
      refine va_callr (va_runU (C := RJ0) (As := []) (rest := []) ⟨hx, hb, hml, hown, hts⟩ (h_J0_toString_0e30d l dC dI cy nb ad0 n0 s0 E0 hC (a1) Aa1 ha1 H.size x22 n24 s25 E26 e23) (va_cwA 0 hts (gU mw_997 mw_998 mw_1034 mw_1035 mw_277 mw_1036) rfl rfl rfl hE.de0 (by decide +kernel) ⟨Nat.le_of_ble_eq_true rfl, Nat.le_of_ble_eq_true rfl⟩) (hl_preV hP hK hD hE hS hFc (hs_srecv hK hP hC hE hS ha1 e21)) rfl rfl hl.1 rfl (lv_room (Nat.le_of_ble_eq_true rfl)) dJ0_valueOf_8a030_11 ⟨show n0 - n0 + (n24 - n0) ≤ nz - n0 by omega, show s0 - s0 + (s25 - s0) ≤ sz9 - s0 by omega⟩) hS (fun q _ h => hFc q h) hFc (fun u ra t H1 locs ht hvm hw hB hz1 hk1 hS => ?_)
      obtain ⟨ad27, hax, hr28, hP1, hD1⟩ := hB
      rw [ht] at hP1
      have hP := hP1
      have hD := hD1.weaken (fun k q _ h => hFc q.1 h)
      generalize H1 = H at hP hS ⊢
      have ha1 := ha1.mv hC.1 hax
      have hX := hX.trans hax
      have hC := hm.2.2 hC
      have hN : n0 ≤ n24 := Nat.le_trans hN hm1
      have hT : s0 ≤ s25 := Nat.le_trans hT hm2
      refine W.widen (k := n24 - n0) (n := s25 - s0) (by omega) (by omega) ?_
      clear hP1 hD1 hFc hk1 hz1 hvm ht hax hm hm1 hm2 hM1 hM2
      refine my_top (y := .ref (AD nb ad27 x22)) (congrArg Value.ref hr28.2.symm) ?_
      have hr28 := rf_self hr28
      obtain ⟨ht9, hn9, hs9, hE9⟩ := mr_o hF
      subst hn9 hs9 hE9
      have hX9 := hX
      rw [hQ]
      exact W.aret (v := .ref (AD nb ad27 x22)) hx hb hr (by first | exact Or.inl ⟨_, rfl⟩ | exact Or.inr ⟨_, rfl⟩) (Or.inr ⟨_, rfl⟩) (fun t ht hW => ⟨⟨(), (AD nb ad27 x22), rfl, trivial, _, hX, (by rw [← ht9]; exact hr28), by rw [ht]; exact hP, hD⟩, hS.F ht⟩) hS.2.2 dJ0_valueOf_8a030_14
noncomputable def H_J4_append_533cd (a0 : Nat) (a1 : Nat) : MH Nat := mb (H_J0_valueOf_8a030 (a1)) fun x1 => mb (mg fun n E => fO n E (a0) 1) fun _ => mb (H_J4_append_15ec4 (a0) (x1)) fun x10 => mr x10
set_option maxHeartbeats 4000000 in
set_option maxRecDepth 100000 in
theorem h_J4_append_533cd (l : Launch) (dC : Nat → ClassId) (dI : Nat → Nat → Nat) (cy : Nat → ClassId) (nb : Nat → Nat) (ad0 : Nat → Nat) (n0 s0 : Nat) (E0 : HE) (hC : clo n0 E0) (a0 Aa0 : Nat) (ha0 : rf nb ad0 n0 a0 Aa0) (a1 Aa1 : Nat) (ha1 : rf nb ad0 n0 a1 Aa1) (sz : Nat) (ro : Nat) (nz sz9 : Nat) (Ez : HE) (hF : (H_J4_append_533cd a0 a1).1 (n0, s0, E0) = some (ro, nz, sz9, Ez)) : Met l yJ4_append_533cd (wsg yJ4_append_533cd cJ4_append_533cd 2 (some (.object "java/lang/StringBuilder"))) ({ frames := 13, cells := nz - n0, slots := sz9 - s0, locals := 800 }) (va_Pc [.ref Aa0, .ref Aa1] (fun U => U.heap.size = sz ∧ va_P (dC, dI) vwCl (CH cy nb ad0 n0 E0) U.heap ∧ va_K (dC, dI) vwCl (tyL cy) U ∧ va_D (fun _ => True) (CH cy nb ad0 n0 E0) ∧ GL nb (va_A (CH cy nb ad0 n0 E0) sz) U)) (va_Qr (fun (_ : Unit) => True) (fun _ ra t => ∃ ad2 : Nat → Nat, axh n0 ad0 nz ad2 ∧ rf nb ad2 nz ro ra ∧ va_P (dC, dI) vwCl (CH cy nb ad2 nz Ez) t.heap ∧ va_D (va_A (CH cy nb ad0 n0 E0) sz) (CH cy nb ad2 nz Ez)) (va_A (CH cy nb ad0 n0 E0) sz)) (nz - n0) (sz9 - s0) (va_A (CH cy nb ad0 n0 E0) sz) := by
  refine Met.ofW (cc := cJ4_append_533cd) (maxL := 2) (ret := (some (.object "java/lang/StringBuilder"))) (by decide) rfl ?_
  intro p e s m args below meth c s₁ B hml hv
  obtain ⟨rfl, hsz, hP, hK, hD0, hE⟩ := hv
  have hx := B.exec
  have hb := B.bytes
  have hr := B.returns
  have hts0 := atoms_spec (ws := (wsg yJ4_append_533cd cJ4_append_533cd 2 (some (.object "java/lang/StringBuilder")))) B.pre
  have hts : ∀ w ∈ wsL_law, w.before _ s = true := fun w h => hts0 w (List.mem_cons_of_mem _ h)
  have hown : s.vm.findClass RJ4 = some m.cls := by have h9 := findClass_of_methodNamed B.named; exact h9
  subst hsz
  have hD := hD0.self (sz := s.heap.size)
  generalize hAe : va_A (CH cy nb ad0 n0 E0) s.heap.size = A at hD hE ⊢
  have hA : ∀ q : Nat, s.heap.size ≤ q → A q := fun q h => by rw [← hAe]; exact Or.inr h
  have hS : va_S A s.heap s.heap [] := va_S.rf
  have hl := lv_entry ([.ref Aa0, .ref Aa1]) (n := 2) (Nat.le_of_ble_eq_true rfl)
  rw [lg_entry_eq]
  generalize (lg_sl ([.ref Aa0, .ref Aa1]) ++ List.replicate (2 - (lg_sl ([.ref Aa0, .ref Aa1])).length) Slot.unset).toArray = ls at hl ⊢
  have hl : lv_has ls 2 [(0, .ref Aa0), (1, .ref Aa1)] := hl
  generalize hHe : s.heap = H at hP hS ⊢
  have hS : va_S A s.heap H [] := by rw [hHe]; exact hS
  refine my_Q (fun Qn hQ => ?_)
  simp only [H_J4_append_533cd] at hF
  have hX : axh n0 ad0 n0 ad0 := axh_refl
  have hN : n0 ≤ n0 := Nat.le_refl _
  have hT : s0 ≤ s0 := Nat.le_refl _
  refine W.widen (k := n0 - n0) (n := s0 - s0) (by omega) (by omega) ?_
  refine lv_aload_n hx hb dJ4_append_533cd_0 rfl (lv_at hl 0 rfl) ?_
  refine lv_aload_n hx hb dJ4_append_533cd_1 rfl (lv_at hl 1 rfl) ?_
  obtain ⟨x1, n3, s4, E5, e2, hF⟩ := mb_o hF
  have hm := mle e2
  have hM1 := mle1 hF
  have hM2 := mle2 hF
  have hm1 := hm.1
  have hm2 := hm.2.1
  have hFc := my_free hD hS hA
  refine va_callr (va_runS (As := [.ref Aa1]) (rest := [.ref Aa0]) ⟨hx, hb, hml, hown, hts⟩ (h_J0_valueOf_8a030 l dC dI cy nb ad0 n0 s0 E0 hC (a1) Aa1 ha1 H.size x1 n3 s4 E5 e2) (va_cwS 1 hts (gS mw_994 mw_995 mw_277 mw_996) rfl rfl rfl (by decide +kernel) ⟨Nat.le_of_ble_eq_true rfl, Nat.le_of_ble_eq_true rfl⟩) (hl_preS hP hK hD hE hS hFc) rfl rfl hl.1 rfl (lv_room (Nat.le_of_ble_eq_true rfl)) dJ4_append_533cd_2 ⟨show n0 - n0 + (n3 - n0) ≤ nz - n0 by omega, show s0 - s0 + (s4 - s0) ≤ sz9 - s0 by omega⟩) hS (fun q _ h => hFc q h) hFc (fun u ra t H1 locs ht hvm hw hB hz1 hk1 hS => ?_)
  obtain ⟨ad6, hax, hr7, hP1, hD1⟩ := hB
  rw [ht] at hP1
  have hP := hP1
  have hD := hD1.weaken (fun k q _ h => hFc q.1 h)
  generalize H1 = H at hP hS ⊢
  have ha0 := ha0.mv hC.1 hax
  have ha1 := ha1.mv hC.1 hax
  have hX := hX.trans hax
  have hC := hm.2.2 hC
  have hN : n0 ≤ n3 := Nat.le_trans hN hm1
  have hT : s0 ≤ s4 := Nat.le_trans hT hm2
  refine W.widen (k := n3 - n0) (n := s4 - s0) (by omega) (by omega) ?_
  clear hP1 hD1 hFc hk1 hz1 hvm ht hax hm hm1 hm2 hM1 hM2
  refine my_top (y := .ref (AD nb ad6 x1)) (congrArg Value.ref hr7.2.symm) ?_
  have hr7 := rf_self hr7
  obtain ⟨fs9, e9, hF⟩ := mg_o hF
  obtain ⟨x10, n12, s13, E14, e11, hF⟩ := mb_o hF
  have hm := mle e11
  have hM1 := mle1 hF
  have hM2 := mle2 hF
  have hm1 := hm.1
  have hm2 := hm.2.1
  have hFc := my_free hD hS hA
  refine va_callr (va_runV (C := RJ4) (As := [.ref (AD nb ad6 x1)]) (rest := []) ⟨hx, hb, hml, hown, hts⟩ (h_J4_append_15ec4 l dC dI cy nb ad6 n3 s4 E5 hC (a0) Aa0 ha0 (x1) (AD nb ad6 x1) hr7 H.size x10 n12 s13 E14 e11) (cwV 1 hts (gV mw_887 mw_619 mw_620 mw_8 mw_621) rfl rfl rfl (by decide +kernel) ⟨Nat.le_of_ble_eq_true rfl, Nat.le_of_ble_eq_true rfl⟩) (hl_preV hP hK hD hE hS hFc (va_recv hK (rdO_ hP hC ha0 e9) (ci := 1) (q0 := 0) rfl rfl)) rfl rfl hl.1 rfl (lv_room (Nat.le_of_ble_eq_true rfl)) dJ4_append_533cd_5 ⟨show n3 - n0 + (n12 - n3) ≤ nz - n0 by omega, show s4 - s0 + (s13 - s4) ≤ sz9 - s0 by omega⟩) hS (fun q _ h => hFc q h) hFc (fun u ra t H1 locs ht hvm hw hB hz1 hk1 hS => ?_)
  obtain ⟨ad15, hax, hr16, hP1, hD1⟩ := hB
  rw [ht] at hP1
  have hP := hP1
  have hD := hD1.weaken (fun k q _ h => hFc q.1 h)
  generalize H1 = H at hP hS ⊢
  have ha0 := ha0.mv hC.1 hax
  have ha1 := ha1.mv hC.1 hax
  have hX := hX.trans hax
  have hC := hm.2.2 hC
  have hN : n0 ≤ n12 := Nat.le_trans hN hm1
  have hT : s0 ≤ s13 := Nat.le_trans hT hm2
  refine W.widen (k := n12 - n0) (n := s13 - s0) (by omega) (by omega) ?_
  clear hP1 hD1 hFc hk1 hz1 hvm ht hax hm hm1 hm2 hM1 hM2
  refine my_top (y := .ref (AD nb ad15 x10)) (congrArg Value.ref hr16.2.symm) ?_
  have hr16 := rf_self hr16
  obtain ⟨ht9, hn9, hs9, hE9⟩ := mr_o hF
  subst hn9 hs9 hE9
  have hX9 := hX
  rw [hQ]
  exact W.aret (v := .ref (AD nb ad15 x10)) hx hb hr (by first | exact Or.inl ⟨_, rfl⟩ | exact Or.inr ⟨_, rfl⟩) (Or.inr ⟨_, rfl⟩) (fun t ht hW => ⟨⟨(), (AD nb ad15 x10), rfl, trivial, _, hX, (by rw [← ht9]; exact hr16), by rw [ht]; exact hP, hD⟩, hS.F ht⟩) hS.2.2 dJ4_append_533cd_8
