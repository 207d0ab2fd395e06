noncomputable def H_J5_isLatin1_aae02 (a0 : Nat) : MH Int32 := mb (rI (a0) 1 1) fun x1 => mb (if x1 = 0 then (mr (1 : Int32)) else (mr (0 : Int32)) : MH (Int32)) fun t4 => mb (mp (nz t4)) fun x12 => mr x12
set_option maxHeartbeats 4000000 in
set_option maxRecDepth 100000 in
theorem h_J5_isLatin1_aae02 (l : Launch) (dC : Nat → ClassId) (dI : Nat → Nat → Nat) (cy : Nat → ClassId) (nb : Nat → Nat) (ad0 : Nat → Nat) (n0 s0 : Nat) (E0 : HE) (hC : clo n0 E0) (a0 Aa0 : Nat) (ha0 : rf nb ad0 n0 a0 Aa0) (sz : Nat) (ro : Int32) (nz sz9 : Nat) (Ez : HE) (hF : (H_J5_isLatin1_aae02 a0).1 (n0, s0, E0) = some (ro, nz, sz9, Ez)) : Met l yJ5_isLatin1_aae02 (wsg yJ5_isLatin1_aae02 cJ5_isLatin1_aae02 1 (some .boolean)) ({ frames := 8, cells := nz - n0, slots := sz9 - s0, locals := 300 }) (va_Pc [.ref Aa0] (fun U => U.heap.size = sz ∧ va_P (dC, dI) vwCl (CH cy nb ad0 n0 E0) U.heap ∧ va_K (dC, dI) vwCl (tyL cy) U ∧ va_D (fun _ => True) (CH cy nb ad0 n0 E0) ∧ GL nb (va_A (CH cy nb ad0 n0 E0) sz) U)) (va_Qi (fun (r : Int32) (_ : Unit) => r = ro) (fun _ t => ∃ ad2 : Nat → Nat, axh n0 ad0 nz ad2 ∧ va_P (dC, dI) vwCl (CH cy nb ad2 nz Ez) t.heap ∧ va_D (va_A (CH cy nb ad0 n0 E0) sz) (CH cy nb ad2 nz Ez)) (va_A (CH cy nb ad0 n0 E0) sz)) (nz - n0) (sz9 - s0) (va_A (CH cy nb ad0 n0 E0) sz) := by
  refine Met.ofW (cc := cJ5_isLatin1_aae02) (maxL := 1) (ret := (some .boolean)) (by decide) rfl ?_
  intro p e s m args below meth c s₁ B hml hv
  obtain ⟨rfl, hsz, hP, hK, hD0, hE⟩ := hv
  have hx := B.exec
  have hb := B.bytes
  have hr := B.returns
  have hts0 := atoms_spec (ws := (wsg yJ5_isLatin1_aae02 cJ5_isLatin1_aae02 1 (some .boolean))) B.pre
  have hts : ∀ w ∈ wsL_law, w.before _ s = true := fun w h => hts0 w (List.mem_cons_of_mem _ h)
  have hown : s.vm.findClass RJ5 = some m.cls := by have h9 := findClass_of_methodNamed B.named; exact h9
  subst hsz
  have hD := hD0.self (sz := s.heap.size)
  generalize hAe : va_A (CH cy nb ad0 n0 E0) s.heap.size = A at hD hE ⊢
  have hA : ∀ q : Nat, s.heap.size ≤ q → A q := fun q h => by rw [← hAe]; exact Or.inr h
  have hS : va_S A s.heap s.heap [] := va_S.rf
  have hl := lv_entry ([.ref Aa0]) (n := 1) (Nat.le_of_ble_eq_true rfl)
  rw [lg_entry_eq]
  generalize (lg_sl ([.ref Aa0]) ++ List.replicate (1 - (lg_sl ([.ref Aa0])).length) Slot.unset).toArray = ls at hl ⊢
  have hl : lv_has ls 1 [(0, .ref Aa0)] := hl
  generalize hHe : s.heap = H at hP hS ⊢
  have hS : va_S A s.heap H [] := by rw [hHe]; exact hS
  refine my_Q (fun Qn hQ => ?_)
  simp only [H_J5_isLatin1_aae02] at hF
  have hX : axh n0 ad0 n0 ad0 := axh_refl
  have hN : n0 ≤ n0 := Nat.le_refl _
  have hT : s0 ≤ s0 := Nat.le_refl _
  refine W.widen (k := n0 - n0) (n := s0 - s0) (by omega) (by omega) ?_
  refine va_gets (C := "java/lang/String") (n := "COMPACT_STRINGS") (d := "Z") (ref := "java/lang/String") (v := .int 1) hx hb hE.ge.cs hS hown (hts _ mw_589) (fun _ h9 => h9) dJ5_isLatin1_aae02_0 ?_
  refine lv_if_eq (tgt := 17) hx hb dJ5_isLatin1_aae02_3 (by decide) (fun h => absurd h (by decide)) (fun _ => ?_)
  refine lv_aload_n hx hb dJ5_isLatin1_aae02_6 rfl (lv_at hl 0 rfl) ?_
  obtain ⟨x1, e2, hF⟩ := mg_o hF
  obtain ⟨fs9, h9, g9⟩ := rdI hP hC ha0 e2
  refine va_get (D := (dC, dI)) (ci := 1) (v := .int x1) (C := RJ4) (T := TJ4) (N := 4) hx hb hts inlJ4 hown hK h9 0 rfl rfl 1 (by decide) (hts _ mw_591) (fun _ h9 => h9) g9 dJ5_isLatin1_aae02_7 ?_
  clear h9 g9
  obtain ⟨t4, n7, s8, E9, hJ5, hF⟩ := mb_o hF
  have hm := mle hJ5
  have join10 : ∀ (ad6 : Nat → Nat) (H : Heap) (locs : List Loc) (ls : Array Slot), axh n0 ad0 n7 ad6 → rf nb ad6 n7 (a0) (Aa0) → va_P (dC, dI) vwCl (CH cy nb ad6 n7 E9) H → va_D A (CH cy nb ad6 n7 E9) → va_S A s.heap H locs → lv_has ls 1 [(0, .ref Aa0)] → W p l e (headSpec (wsg yJ5_isLatin1_aae02 cJ5_isLatin1_aae02 1 (some .boolean)) ({ frames := 8, cells := nz - n0, slots := sz9 - s0, locals := 300 })).room s m ([.ref Aa0] : List Value).toArray below meth c H locs (n7 - n0) (s8 - s0) Qn (F0 m 18 ls [.int t4]) := by
    intro ad6 H locs ls hX hr11 hP hD hS hl
    have hC := hm.2.2 hC
    have hN : n0 ≤ n7 := Nat.le_trans hN hm.1
    have hT : s0 ≤ s8 := Nat.le_trans hT hm.2.1
    clear hm
    obtain ⟨x12, e13, hF⟩ := mp_o hF
    refine my_topi (y := x12) (nz_e e13) ?_
    obtain ⟨ht9, hn9, hs9, hE9⟩ := mr_o hF
    subst hn9 hs9 hE9
    have hX9 := hX
    rw [hQ]
    exact W.zret (v := x12) hx hb hr (nz_n e13) (fun t ht hW => ⟨⟨x12, (), rfl, ht9, _, hX, by rw [ht]; exact hP, hD⟩, hS.F ht⟩) hS.2.2 dJ5_isLatin1_aae02_18
  have hK14 := mle1 hF
  have hK15 := mle2 hF
  clear hF hm
  have hF := hJ5
  clear hJ5
  refine lv_if_ne (tgt := 17) hx hb dJ5_isLatin1_aae02_10 (by decide) (fun c3 => ?_) (fun c3 => ?_)
  · skip
    rw [if_neg c3] at hF
    refine lv_iconst (v := 0) hx hb dJ5_isLatin1_aae02_17 (by decide) ?_
    obtain ⟨ht9, hn9, hs9, hE9⟩ := mr_o hF
    subst ht9 hn9 hs9 hE9
    have hl := lv_sub (l' := [(0, .ref Aa0)]) hl [0] rfl
    exact join10 _ _ _ _ hX ha0 hP hD hS hl
  · skip
    rw [if_pos c3] at hF
    refine lv_iconst (v := 1) hx hb dJ5_isLatin1_aae02_13 (by decide) ?_
    refine lv_goto (tgt := 18) hx hb dJ5_isLatin1_aae02_14 (by decide) ?_
    obtain ⟨ht9, hn9, hs9, hE9⟩ := mr_o hF
    subst ht9 hn9 hs9 hE9
    have hl := lv_sub (l' := [(0, .ref Aa0)]) hl [0] rfl
    exact join10 _ _ _ _ hX ha0 hP hD hS hl
noncomputable def H_J0_isLatin1_aae02 (a0 : Nat) : MH Int32 := mb (mg fun n E => sCo n E (a0)) fun x1 => mb (if x1 = 0 then (mr (1 : Int32)) else (mr (0 : Int32)) : MH (Int32)) fun t4 => mb (mp (nz t4)) fun x12 => mr x12
set_option maxHeartbeats 4000000 in
set_option maxRecDepth 100000 in
theorem h_J0_isLatin1_aae02 (l : Launch) (dC : Nat → ClassId) (dI : Nat → Nat → Nat) (cy : Nat → ClassId) (nb : Nat → Nat) (ad0 : Nat → Nat) (n0 s0 : Nat) (E0 : HE) (hC : clo n0 E0) (a0 Aa0 : Nat) (ha0 : rf nb ad0 n0 a0 Aa0) (sz : Nat) (ro : Int32) (nz sz9 : Nat) (Ez : HE) (hF : (H_J0_isLatin1_aae02 a0).1 (n0, s0, E0) = some (ro, nz, sz9, Ez)) : Met l yJ0_isLatin1_aae02 (wsg yJ0_isLatin1_aae02 cJ0_isLatin1_aae02 1 (some .boolean)) ({ frames := 8, cells := nz - n0, slots := sz9 - s0, locals := 300 }) (va_Pc [.ref Aa0] (fun U => U.heap.size = sz ∧ va_P (dC, dI) vwCl (CH cy nb ad0 n0 E0) U.heap ∧ va_K (dC, dI) vwCl (tyL cy) U ∧ va_D (fun _ => True) (CH cy nb ad0 n0 E0) ∧ GL nb (va_A (CH cy nb ad0 n0 E0) sz) U)) (va_Qi (fun (r : Int32) (_ : Unit) => r = ro) (fun _ t => ∃ ad2 : Nat → Nat, axh n0 ad0 nz ad2 ∧ va_P (dC, dI) vwCl (CH cy nb ad2 nz Ez) t.heap ∧ va_D (va_A (CH cy nb ad0 n0 E0) sz) (CH cy nb ad2 nz Ez)) (va_A (CH cy nb ad0 n0 E0) sz)) (nz - n0) (sz9 - s0) (va_A (CH cy nb ad0 n0 E0) sz) := by
  refine Met.ofW (cc := cJ0_isLatin1_aae02) (maxL := 1) (ret := (some .boolean)) (by decide) rfl ?_
  intro p e s m args below meth c s₁ B hml hv
  obtain ⟨rfl, hsz, hP, hK, hD0, hE⟩ := hv
  have hx := B.exec
  have hb := B.bytes
  have hr := B.returns
  have hts0 := atoms_spec (ws := (wsg yJ0_isLatin1_aae02 cJ0_isLatin1_aae02 1 (some .boolean))) B.pre
  have hts : ∀ w ∈ wsL_law, w.before _ s = true := fun w h => hts0 w (List.mem_cons_of_mem _ h)
  have hown : s.vm.findClass RJ0 = some m.cls := by have h9 := findClass_of_methodNamed B.named; exact h9
  subst hsz
  have hD := hD0.self (sz := s.heap.size)
  generalize hAe : va_A (CH cy nb ad0 n0 E0) s.heap.size = A at hD hE ⊢
  have hA : ∀ q : Nat, s.heap.size ≤ q → A q := fun q h => by rw [← hAe]; exact Or.inr h
  have hS : va_S A s.heap s.heap [] := va_S.rf
  have hl := lv_entry ([.ref Aa0]) (n := 1) (Nat.le_of_ble_eq_true rfl)
  rw [lg_entry_eq]
  generalize (lg_sl ([.ref Aa0]) ++ List.replicate (1 - (lg_sl ([.ref Aa0])).length) Slot.unset).toArray = ls at hl ⊢
  have hl : lv_has ls 1 [(0, .ref Aa0)] := hl
  generalize hHe : s.heap = H at hP hS ⊢
  have hS : va_S A s.heap H [] := by rw [hHe]; exact hS
  refine my_Q (fun Qn hQ => ?_)
  simp only [H_J0_isLatin1_aae02] at hF
  have hX : axh n0 ad0 n0 ad0 := axh_refl
  have hN : n0 ≤ n0 := Nat.le_refl _
  have hT : s0 ≤ s0 := Nat.le_refl _
  refine W.widen (k := n0 - n0) (n := s0 - s0) (by omega) (by omega) ?_
  refine va_gets (C := "java/lang/String") (n := "COMPACT_STRINGS") (d := "Z") (ref := "java/lang/String") (v := .int 1) hx hb hE.ge.cs hS hown (hts _ mw_284) (fun _ h9 => h9) dJ0_isLatin1_aae02_0 ?_
  refine lv_if_eq (tgt := 17) hx hb dJ0_isLatin1_aae02_3 (by decide) (fun h => absurd h (by decide)) (fun _ => ?_)
  refine lv_aload_n hx hb dJ0_isLatin1_aae02_6 rfl (lv_at hl 0 rfl) ?_
  obtain ⟨x1, e2, hF⟩ := mg_o hF
  refine hs_scod hx hb hts inlJ0 hown hK hP hC hE hS ha0 e2 (hts _ mw_285) dJ0_isLatin1_aae02_7 ?_
  obtain ⟨t4, n7, s8, E9, hJ5, hF⟩ := mb_o hF
  have hm := mle hJ5
  have join10 : ∀ (ad6 : Nat → Nat) (H : Heap) (locs : List Loc) (ls : Array Slot), axh n0 ad0 n7 ad6 → rf nb ad6 n7 (a0) (Aa0) → va_P (dC, dI) vwCl (CH cy nb ad6 n7 E9) H → va_D A (CH cy nb ad6 n7 E9) → va_S A s.heap H locs → lv_has ls 1 [(0, .ref Aa0)] → W p l e (headSpec (wsg yJ0_isLatin1_aae02 cJ0_isLatin1_aae02 1 (some .boolean)) ({ frames := 8, cells := nz - n0, slots := sz9 - s0, locals := 300 })).room s m ([.ref Aa0] : List Value).toArray below meth c H locs (n7 - n0) (s8 - s0) Qn (F0 m 18 ls [.int t4]) := by
    intro ad6 H locs ls hX hr11 hP hD hS hl
    have hC := hm.2.2 hC
    have hN : n0 ≤ n7 := Nat.le_trans hN hm.1
    have hT : s0 ≤ s8 := Nat.le_trans hT hm.2.1
    clear hm
    obtain ⟨x12, e13, hF⟩ := mp_o hF
    refine my_topi (y := x12) (nz_e e13) ?_
    obtain ⟨ht9, hn9, hs9, hE9⟩ := mr_o hF
    subst hn9 hs9 hE9
    have hX9 := hX
    rw [hQ]
    exact W.zret (v := x12) hx hb hr (nz_n e13) (fun t ht hW => ⟨⟨x12, (), rfl, ht9, _, hX, by rw [ht]; exact hP, hD⟩, hS.F ht⟩) hS.2.2 dJ0_isLatin1_aae02_18
  have hK14 := mle1 hF
  have hK15 := mle2 hF
  clear hF hm
  have hF := hJ5
  clear hJ5
  refine lv_if_ne (tgt := 17) hx hb dJ0_isLatin1_aae02_10 (by decide) (fun c3 => ?_) (fun c3 => ?_)
  · skip
    rw [if_neg c3] at hF
    refine lv_iconst (v := 0) hx hb dJ0_isLatin1_aae02_17 (by decide) ?_
    obtain ⟨ht9, hn9, hs9, hE9⟩ := mr_o hF
    subst ht9 hn9 hs9 hE9
    have hl := lv_sub (l' := [(0, .ref Aa0)]) hl [0] rfl
    exact join10 _ _ _ _ hX ha0 hP hD hS hl
  · skip
    rw [if_pos c3] at hF
    refine lv_iconst (v := 1) hx hb dJ0_isLatin1_aae02_13 (by decide) ?_
    refine lv_goto (tgt := 18) hx hb dJ0_isLatin1_aae02_14 (by decide) ?_
    obtain ⟨ht9, hn9, hs9, hE9⟩ := mr_o hF
    subst ht9 hn9 hs9 hE9
    have hl := lv_sub (l' := [(0, .ref Aa0)]) hl [0] rfl
    exact join10 _ _ _ _ hX ha0 hP hD hS hl
noncomputable def H_J0_coder_7d493 (a0 : Nat) : MH Int32 := mb (mg fun n E => sCo n E (a0)) fun x1 => mb (mp (nbt x1)) fun x3 => mr x3
set_option maxHeartbeats 4000000 in
set_option maxRecDepth 100000 in
theorem h_J0_coder_7d493 (l : Launch) (dC : Nat → ClassId) (dI : Nat → Nat → Nat) (cy : Nat → ClassId) (nb : Nat → Nat) (ad0 : Nat → Nat) (n0 s0 : Nat) (E0 : HE) (hC : clo n0 E0) (a0 Aa0 : Nat) (ha0 : rf nb ad0 n0 a0 Aa0) (sz : Nat) (ro : Int32) (nz sz9 : Nat) (Ez : HE) (hF : (H_J0_coder_7d493 a0).1 (n0, s0, E0) = some (ro, nz, sz9, Ez)) : Met l yJ0_coder_7d493 (wsg yJ0_coder_7d493 cJ0_coder_7d493 1 (some .byte)) ({ frames := 8, cells := nz - n0, slots := sz9 - s0, locals := 300 }) (va_Pc [.ref Aa0] (fun U => U.heap.size = sz ∧ va_P (dC, dI) vwCl (CH cy nb ad0 n0 E0) U.heap ∧ va_K (dC, dI) vwCl (tyL cy) U ∧ va_D (fun _ => True) (CH cy nb ad0 n0 E0) ∧ GL nb (va_A (CH cy nb ad0 n0 E0) sz) U)) (va_Qi (fun (r : Int32) (_ : Unit) => r = ro) (fun _ t => ∃ ad2 : Nat → Nat, axh n0 ad0 nz ad2 ∧ va_P (dC, dI) vwCl (CH cy nb ad2 nz Ez) t.heap ∧ va_D (va_A (CH cy nb ad0 n0 E0) sz) (CH cy nb ad2 nz Ez)) (va_A (CH cy nb ad0 n0 E0) sz)) (nz - n0) (sz9 - s0) (va_A (CH cy nb ad0 n0 E0) sz) := by
  refine Met.ofW (cc := cJ0_coder_7d493) (maxL := 1) (ret := (some .byte)) (by decide) rfl ?_
  intro p e s m args below meth c s₁ B hml hv
  obtain ⟨rfl, hsz, hP, hK, hD0, hE⟩ := hv
  have hx := B.exec
  have hb := B.bytes
  have hr := B.returns
  have hts0 := atoms_spec (ws := (wsg yJ0_coder_7d493 cJ0_coder_7d493 1 (some .byte))) B.pre
  have hts : ∀ w ∈ wsL_law, w.before _ s = true := fun w h => hts0 w (List.mem_cons_of_mem _ h)
  have hown : s.vm.findClass RJ0 = some m.cls := by have h9 := findClass_of_methodNamed B.named; exact h9
  subst hsz
  have hD := hD0.self (sz := s.heap.size)
  generalize hAe : va_A (CH cy nb ad0 n0 E0) s.heap.size = A at hD hE ⊢
  have hA : ∀ q : Nat, s.heap.size ≤ q → A q := fun q h => by rw [← hAe]; exact Or.inr h
  have hS : va_S A s.heap s.heap [] := va_S.rf
  have hl := lv_entry ([.ref Aa0]) (n := 1) (Nat.le_of_ble_eq_true rfl)
  rw [lg_entry_eq]
  generalize (lg_sl ([.ref Aa0]) ++ List.replicate (1 - (lg_sl ([.ref Aa0])).length) Slot.unset).toArray = ls at hl ⊢
  have hl : lv_has ls 1 [(0, .ref Aa0)] := hl
  generalize hHe : s.heap = H at hP hS ⊢
  have hS : va_S A s.heap H [] := by rw [hHe]; exact hS
  refine my_Q (fun Qn hQ => ?_)
  simp only [H_J0_coder_7d493] at hF
  have hX : axh n0 ad0 n0 ad0 := axh_refl
  have hN : n0 ≤ n0 := Nat.le_refl _
  have hT : s0 ≤ s0 := Nat.le_refl _
  refine W.widen (k := n0 - n0) (n := s0 - s0) (by omega) (by omega) ?_
  refine va_gets (C := "java/lang/String") (n := "COMPACT_STRINGS") (d := "Z") (ref := "java/lang/String") (v := .int 1) hx hb hE.ge.cs hS hown (hts _ mw_284) (fun _ h9 => h9) dJ0_coder_7d493_0 ?_
  refine lv_if_eq (tgt := 13) hx hb dJ0_coder_7d493_3 (by decide) (fun h => absurd h (by decide)) (fun _ => ?_)
  refine lv_aload_n hx hb dJ0_coder_7d493_6 rfl (lv_at hl 0 rfl) ?_
  obtain ⟨x1, e2, hF⟩ := mg_o hF
  refine hs_scod hx hb hts inlJ0 hown hK hP hC hE hS ha0 e2 (hts _ mw_285) dJ0_coder_7d493_7 ?_
  refine lv_goto (tgt := 14) hx hb dJ0_coder_7d493_10 (by decide) ?_
  obtain ⟨x3, e4, hF⟩ := mp_o hF
  refine my_topi (y := x3) (nbt_e e4) ?_
  obtain ⟨ht9, hn9, hs9, hE9⟩ := mr_o hF
  subst hn9 hs9 hE9
  have hX9 := hX
  rw [hQ]
  exact W.zret (v := x3) hx hb hr (nbt_n e4) (fun t ht hW => ⟨⟨x3, (), rfl, ht9, _, hX, by rw [ht]; exact hP, hD⟩, hS.F ht⟩) hS.2.2 dJ0_coder_7d493_14
noncomputable def H_J0_value_6d5f1 (a0 : Nat) : MH Nat := mb (mg fun n E => sVl n E (a0)) fun x1 => mr x1
set_option maxHeartbeats 4000000 in
set_option maxRecDepth 100000 in
theorem h_J0_value_6d5f1 (l : Launch) (dC : Nat → ClassId) (dI : Nat → Nat → Nat) (cy : Nat → ClassId) (nb : Nat → Nat) (ad0 : Nat → Nat) (n0 s0 : Nat) (E0 : HE) (hC : clo n0 E0) (a0 Aa0 : Nat) (ha0 : rf nb ad0 n0 a0 Aa0) (sz : Nat) (ro : Nat) (nz sz9 : Nat) (Ez : HE) (hF : (H_J0_value_6d5f1 a0).1 (n0, s0, E0) = some (ro, nz, sz9, Ez)) : Met l yJ0_value_6d5f1 (wsg yJ0_value_6d5f1 cJ0_value_6d5f1 1 (some (.array .byte))) ({ frames := 8, cells := nz - n0, slots := sz9 - s0, locals := 300 }) (va_Pc [.ref Aa0] (fun U => U.heap.size = sz ∧ va_P (dC, dI) vwCl (CH cy nb ad0 n0 E0) U.heap ∧ va_K (dC, dI) vwCl (tyL cy) U ∧ va_D (fun _ => True) (CH cy nb ad0 n0 E0) ∧ GL nb (va_A (CH cy nb ad0 n0 E0) sz) U)) (va_Qr (fun (_ : Unit) => True) (fun _ ra t => ∃ ad2 : Nat → Nat, axh n0 ad0 nz ad2 ∧ rf nb ad2 nz ro ra ∧ va_P (dC, dI) vwCl (CH cy nb ad2 nz Ez) t.heap ∧ va_D (va_A (CH cy nb ad0 n0 E0) sz) (CH cy nb ad2 nz Ez)) (va_A (CH cy nb ad0 n0 E0) sz)) (nz - n0) (sz9 - s0) (va_A (CH cy nb ad0 n0 E0) sz) := by
  refine Met.ofW (cc := cJ0_value_6d5f1) (maxL := 1) (ret := (some (.array .byte))) (by decide) rfl ?_
  intro p e s m args below meth c s₁ B hml hv
  obtain ⟨rfl, hsz, hP, hK, hD0, hE⟩ := hv
  have hx := B.exec
  have hb := B.bytes
  have hr := B.returns
  have hts0 := atoms_spec (ws := (wsg yJ0_value_6d5f1 cJ0_value_6d5f1 1 (some (.array .byte)))) B.pre
  have hts : ∀ w ∈ wsL_law, w.before _ s = true := fun w h => hts0 w (List.mem_cons_of_mem _ h)
  have hown : s.vm.findClass RJ0 = some m.cls := by have h9 := findClass_of_methodNamed B.named; exact h9
  subst hsz
  have hD := hD0.self (sz := s.heap.size)
  generalize hAe : va_A (CH cy nb ad0 n0 E0) s.heap.size = A at hD hE ⊢
  have hA : ∀ q : Nat, s.heap.size ≤ q → A q := fun q h => by rw [← hAe]; exact Or.inr h
  have hS : va_S A s.heap s.heap [] := va_S.rf
  have hl := lv_entry ([.ref Aa0]) (n := 1) (Nat.le_of_ble_eq_true rfl)
  rw [lg_entry_eq]
  generalize (lg_sl ([.ref Aa0]) ++ List.replicate (1 - (lg_sl ([.ref Aa0])).length) Slot.unset).toArray = ls at hl ⊢
  have hl : lv_has ls 1 [(0, .ref Aa0)] := hl
  generalize hHe : s.heap = H at hP hS ⊢
  have hS : va_S A s.heap H [] := by rw [hHe]; exact hS
  refine my_Q (fun Qn hQ => ?_)
  simp only [H_J0_value_6d5f1] at hF
  have hX : axh n0 ad0 n0 ad0 := axh_refl
  have hN : n0 ≤ n0 := Nat.le_refl _
  have hT : s0 ≤ s0 := Nat.le_refl _
  refine W.widen (k := n0 - n0) (n := s0 - s0) (by omega) (by omega) ?_
  refine lv_aload_n hx hb dJ0_value_6d5f1_0 rfl (lv_at hl 0 rfl) ?_
  obtain ⟨x1, e2, hF⟩ := mg_o hF
  refine hs_sval hx hb hts inlJ0 hown hK hP hC hE hS ha0 e2 (hts _ mw_279) dJ0_value_6d5f1_1 ?_
  have hr3 := sVl_r hC e2 (nb := nb) (ad := ad0)
  obtain ⟨ht9, hn9, hs9, hE9⟩ := mr_o hF
  subst hn9 hs9 hE9
  have hX9 := hX
  rw [hQ]
  exact W.aret (v := .ref (AD nb ad0 x1)) hx hb hr (by first | exact Or.inl ⟨_, rfl⟩ | exact Or.inr ⟨_, rfl⟩) (Or.inr ⟨_, rfl⟩) (fun t ht hW => ⟨⟨(), (AD nb ad0 x1), rfl, trivial, _, hX, (by rw [← ht9]; exact hr3), by rw [ht]; exact hP, hD⟩, hS.F ht⟩) hS.2.2 dJ0_value_6d5f1_4
noncomputable def H_J0_length_8abf5 (a0 : Nat) : MH Int32 := mb (mg fun n E => sVl n E (a0)) fun x1 => mb (mg fun n E => lB n E (x1)) fun x4 => mb (mg fun n E => sOk n E (a0)) fun _ => mb (H_J0_coder_7d493 (a0)) fun x7 => mr (x4 >>> (x7 &&& 31))
set_option maxHeartbeats 4000000 in
set_option maxRecDepth 100000 in
theorem h_J0_length_8abf5 (l : Launch) (dC : Nat → ClassId) (dI : Nat → Nat → Nat) (cy : Nat → ClassId) (nb : Nat → Nat) (ad0 : Nat → Nat) (n0 s0 : Nat) (E0 : HE) (hC : clo n0 E0) (a0 Aa0 : Nat) (ha0 : rf nb ad0 n0 a0 Aa0) (sz : Nat) (ro : Int32) (nz sz9 : Nat) (Ez : HE) (hF : (H_J0_length_8abf5 a0).1 (n0, s0, E0) = some (ro, nz, sz9, Ez)) : Met l yJ0_length_8abf5 (wsg yJ0_length_8abf5 cJ0_length_8abf5 1 (some .int)) ({ frames := 9, cells := nz - n0, slots := sz9 - s0, locals := 400 }) (va_Pc [.ref Aa0] (fun U => U.heap.size = sz ∧ va_P (dC, dI) vwCl (CH cy nb ad0 n0 E0) U.heap ∧ va_K (dC, dI) vwCl (tyL cy) U ∧ va_D (fun _ => True) (CH cy nb ad0 n0 E0) ∧ GL nb (va_A (CH cy nb ad0 n0 E0) sz) U)) (va_Qi (fun (r : Int32) (_ : Unit) => r = ro) (fun _ t => ∃ ad2 : Nat → Nat, axh n0 ad0 nz ad2 ∧ va_P (dC, dI) vwCl (CH cy nb ad2 nz Ez) t.heap ∧ va_D (va_A (CH cy nb ad0 n0 E0) sz) (CH cy nb ad2 nz Ez)) (va_A (CH cy nb ad0 n0 E0) sz)) (nz - n0) (sz9 - s0) (va_A (CH cy nb ad0 n0 E0) sz) := by
  refine Met.ofW (cc := cJ0_length_8abf5) (maxL := 1) (ret := (some .int)) (by decide) rfl ?_
  intro p e s m args below meth c s₁ B hml hv
  obtain ⟨rfl, hsz, hP, hK, hD0, hE⟩ := hv
  have hx := B.exec
  have hb := B.bytes
  have hr := B.returns
  have hts0 := atoms_spec (ws := (wsg yJ0_length_8abf5 cJ0_length_8abf5 1 (some .int))) B.pre
  have hts : ∀ w ∈ wsL_law, w.before _ s = true := fun w h => hts0 w (List.mem_cons_of_mem _ h)
  have hown : s.vm.findClass RJ0 = some m.cls := by have h9 := findClass_of_methodNamed B.named; exact h9
  subst hsz
  have hD := hD0.self (sz := s.heap.size)
  generalize hAe : va_A (CH cy nb ad0 n0 E0) s.heap.size = A at hD hE ⊢
  have hA : ∀ q : Nat, s.heap.size ≤ q → A q := fun q h => by rw [← hAe]; exact Or.inr h
  have hS : va_S A s.heap s.heap [] := va_S.rf
  have hl := lv_entry ([.ref Aa0]) (n := 1) (Nat.le_of_ble_eq_true rfl)
  rw [lg_entry_eq]
  generalize (lg_sl ([.ref Aa0]) ++ List.replicate (1 - (lg_sl ([.ref Aa0])).length) Slot.unset).toArray = ls at hl ⊢
  have hl : lv_has ls 1 [(0, .ref Aa0)] := hl
  generalize hHe : s.heap = H at hP hS ⊢
  have hS : va_S A s.heap H [] := by rw [hHe]; exact hS
  refine my_Q (fun Qn hQ => ?_)
  simp only [H_J0_length_8abf5] at hF
  have hX : axh n0 ad0 n0 ad0 := axh_refl
  have hN : n0 ≤ n0 := Nat.le_refl _
  have hT : s0 ≤ s0 := Nat.le_refl _
  refine W.widen (k := n0 - n0) (n := s0 - s0) (by omega) (by omega) ?_
  refine lv_aload_n hx hb dJ0_length_8abf5_0 rfl (lv_at hl 0 rfl) ?_
  obtain ⟨x1, e2, hF⟩ := mg_o hF
  refine hs_sval hx hb hts inlJ0 hown hK hP hC hE hS ha0 e2 (hts _ mw_279) dJ0_length_8abf5_1 ?_
  have hr3 := sVl_r hC e2 (nb := nb) (ad := ad0)
  obtain ⟨x4, e5, hF⟩ := mg_o hF
  refine hs_lB hx hb hK hP hC hE hS hr3 e5 dJ0_length_8abf5_4 ?_
  refine lv_aload_n hx hb dJ0_length_8abf5_5 rfl (lv_at hl 0 rfl) ?_
  obtain ⟨_, e6, hF⟩ := mg_o hF
  obtain ⟨x7, n9, s10, E11, e8, hF⟩ := mb_o hF
  have hm := mle e8
  have hM1 := mle1 hF
  have hM2 := mle2 hF
  have hm1 := hm.1
  have hm2 := hm.2.1
  have hFc := my_free hD hS hA
  refine va_calli (va_runV (C := RJ0) (As := []) (rest := [.int x4]) ⟨hx, hb, hml, hown, hts⟩ (h_J0_coder_7d493 l dC dI cy nb ad0 n0 s0 E0 hC (a0) Aa0 ha0 H.size x7 n9 s10 E11 e8) (cwV 0 hts (gV mw_280 mw_281 mw_282 mw_277 mw_283) rfl rfl rfl (by decide +kernel) ⟨Nat.le_of_ble_eq_true rfl, Nat.le_of_ble_eq_true rfl⟩) (hl_preV hP hK hD hE hS hFc (hs_srecv hK hP hC hE hS ha0 e6)) rfl rfl hl.1 rfl (lv_room (Nat.le_of_ble_eq_true rfl)) dJ0_length_8abf5_6 ⟨show n0 - n0 + (n9 - n0) ≤ nz - n0 by omega, show s0 - s0 + (s10 - s0) ≤ sz9 - s0 by omega⟩) hS (fun q _ h => hFc q h) hFc (fun r9 u t H1 locs ht hvm hw hB hz1 hk1 hS => ?_)
  obtain ⟨ad12, hax, hP1, hD1⟩ := hB
  rw [ht] at hP1
  have hP := hP1
  have hD := hD1.weaken (fun k q _ h => hFc q.1 h)
  generalize H1 = H at hP hS ⊢
  have ha0 := ha0.mv hC.1 hax
  have hX := hX.trans hax
  have hC := hm.2.2 hC
  have hN : n0 ≤ n9 := Nat.le_trans hN hm1
  have hT : s0 ≤ s10 := Nat.le_trans hT hm2
  refine W.widen (k := n9 - n0) (n := s10 - s0) (by omega) (by omega) ?_
  clear hP1 hD1 hFc hk1 hz1 hvm ht hax hm hm1 hm2 hM1 hM2
  obtain rfl := hw.symm
  refine lv_ishr hx hb dJ0_length_8abf5_9 ?_
  obtain ⟨ht9, hn9, hs9, hE9⟩ := mr_o hF
  subst hn9 hs9 hE9
  have hX9 := hX
  rw [hQ]
  exact W.iret (v := (x4 >>> (x7 &&& 31))) hx hb hr (fun t ht hW => ⟨⟨(x4 >>> (x7 &&& 31)), (), rfl, ht9, _, hX, by rw [ht]; exact hP, hD⟩, hS.F ht⟩) hS.2.2 dJ0_length_8abf5_10
noncomputable def H_J5_length_8abf5 (a0 : Nat) : MH Int32 := mb (rI (a0) 1 3) fun x1 => mr x1
set_option maxHeartbeats 4000000 in
set_option maxRecDepth 100000 in
theorem h_J5_length_8abf5 (l : Launch) (dC : Nat → ClassId) (dI : Nat → Nat → Nat) (cy : Nat → ClassId) (nb : Nat → Nat) (ad0 : Nat → Nat) (n0 s0 : Nat) (E0 : HE) (hC : clo n0 E0) (a0 Aa0 : Nat) (ha0 : rf nb ad0 n0 a0 Aa0) (sz : Nat) (ro : Int32) (nz sz9 : Nat) (Ez : HE) (hF : (H_J5_length_8abf5 a0).1 (n0, s0, E0) = some (ro, nz, sz9, Ez)) : Met l yJ5_length_8abf5 (wsg yJ5_length_8abf5 cJ5_length_8abf5 1 (some .int)) ({ frames := 8, cells := nz - n0, slots := sz9 - s0, locals := 300 }) (va_Pc [.ref Aa0] (fun U => U.heap.size = sz ∧ va_P (dC, dI) vwCl (CH cy nb ad0 n0 E0) U.heap ∧ va_K (dC, dI) vwCl (tyL cy) U ∧ va_D (fun _ => True) (CH cy nb ad0 n0 E0) ∧ GL nb (va_A (CH cy nb ad0 n0 E0) sz) U)) (va_Qi (fun (r : Int32) (_ : Unit) => r = ro) (fun _ t => ∃ ad2 : Nat → Nat, axh n0 ad0 nz ad2 ∧ va_P (dC, dI) vwCl (CH cy nb ad2 nz Ez) t.heap ∧ va_D (va_A (CH cy nb ad0 n0 E0) sz) (CH cy nb ad2 nz Ez)) (va_A (CH cy nb ad0 n0 E0) sz)) (nz - n0) (sz9 - s0) (va_A (CH cy nb ad0 n0 E0) sz) := by
  refine Met.ofW (cc := cJ5_length_8abf5) (maxL := 1) (ret := (some .int)) (by decide) rfl ?_
  intro p e s m args below meth c s₁ B hml hv
  obtain ⟨rfl, hsz, hP, hK, hD0, hE⟩ := hv
  have hx := B.exec
  have hb := B.bytes
  have hr := B.returns
  have hts0 := atoms_spec (ws := (wsg yJ5_length_8abf5 cJ5_length_8abf5 1 (some .int))) B.pre
  have hts : ∀ w ∈ wsL_law, w.before _ s = true := fun w h => hts0 w (List.mem_cons_of_mem _ h)
  have hown : s.vm.findClass RJ5 = some m.cls := by have h9 := findClass_of_methodNamed B.named; exact h9
  subst hsz
  have hD := hD0.self (sz := s.heap.size)
  generalize hAe : va_A (CH cy nb ad0 n0 E0) s.heap.size = A at hD hE ⊢
  have hA : ∀ q : Nat, s.heap.size ≤ q → A q := fun q h => by rw [← hAe]; exact Or.inr h
  have hS : va_S A s.heap s.heap [] := va_S.rf
  have hl := lv_entry ([.ref Aa0]) (n := 1) (Nat.le_of_ble_eq_true rfl)
  rw [lg_entry_eq]
  generalize (lg_sl ([.ref Aa0]) ++ List.replicate (1 - (lg_sl ([.ref Aa0])).length) Slot.unset).toArray = ls at hl ⊢
  have hl : lv_has ls 1 [(0, .ref Aa0)] := hl
  generalize hHe : s.heap = H at hP hS ⊢
  have hS : va_S A s.heap H [] := by rw [hHe]; exact hS
  refine my_Q (fun Qn hQ => ?_)
  simp only [H_J5_length_8abf5] at hF
  have hX : axh n0 ad0 n0 ad0 := axh_refl
  have hN : n0 ≤ n0 := Nat.le_refl _
  have hT : s0 ≤ s0 := Nat.le_refl _
  refine W.widen (k := n0 - n0) (n := s0 - s0) (by omega) (by omega) ?_
  refine lv_aload_n hx hb dJ5_length_8abf5_0 rfl (lv_at hl 0 rfl) ?_
  obtain ⟨x1, e2, hF⟩ := mg_o hF
  obtain ⟨fs9, h9, g9⟩ := rdI hP hC ha0 e2
  refine va_get (D := (dC, dI)) (ci := 1) (v := .int x1) (C := RJ4) (T := TJ4) (N := 4) hx hb hts inlJ4 hown hK h9 0 rfl rfl 3 (by decide) (hts _ mw_627) (fun _ h9 => h9) g9 dJ5_length_8abf5_1 ?_
  clear h9 g9
  obtain ⟨ht9, hn9, hs9, hE9⟩ := mr_o hF
  subst hn9 hs9 hE9
  have hX9 := hX
  rw [hQ]
  exact W.iret (v := x1) hx hb hr (fun t ht hW => ⟨⟨x1, (), rfl, ht9, _, hX, by rw [ht]; exact hP, hD⟩, hS.F ht⟩) hS.2.2 dJ5_length_8abf5_4
noncomputable def H_J4_length_8abf5 (a0 : Nat) : MH Int32 := mb (mg fun n E => fO n E (a0) 1) fun _ => mb (H_J5_length_8abf5 (a0)) fun x2 => mr x2
set_option maxHeartbeats 4000000 in
set_option maxRecDepth 100000 in
theorem h_J4_length_8abf5 (l : Launch) (dC : Nat → ClassId) (dI : Nat → Nat → Nat) (cy : Nat → ClassId) (nb : Nat → Nat) (ad0 : Nat → Nat) (n0 s0 : Nat) (E0 : HE) (hC : clo n0 E0) (a0 Aa0 : Nat) (ha0 : rf nb ad0 n0 a0 Aa0) (sz : Nat) (ro : Int32) (nz sz9 : Nat) (Ez : HE) (hF : (H_J4_length_8abf5 a0).1 (n0, s0, E0) = some (ro, nz, sz9, Ez)) : Met l yJ4_length_8abf5 (wsg yJ4_length_8abf5 cJ4_length_8abf5 1 (some .int)) ({ frames := 9, cells := nz - n0, slots := sz9 - s0, locals := 400 }) (va_Pc [.ref Aa0] (fun U => U.heap.size = sz ∧ va_P (dC, dI) vwCl (CH cy nb ad0 n0 E0) U.heap ∧ va_K (dC, dI) vwCl (tyL cy) U ∧ va_D (fun _ => True) (CH cy nb ad0 n0 E0) ∧ GL nb (va_A (CH cy nb ad0 n0 E0) sz) U)) (va_Qi (fun (r : Int32) (_ : Unit) => r = ro) (fun _ t => ∃ ad2 : Nat → Nat, axh n0 ad0 nz ad2 ∧ va_P (dC, dI) vwCl (CH cy nb ad2 nz Ez) t.heap ∧ va_D (va_A (CH cy nb ad0 n0 E0) sz) (CH cy nb ad2 nz Ez)) (va_A (CH cy nb ad0 n0 E0) sz)) (nz - n0) (sz9 - s0) (va_A (CH cy nb ad0 n0 E0) sz) := by
  refine Met.ofW (cc := cJ4_length_8abf5) (maxL := 1) (ret := (some .int)) (by decide) rfl ?_
  intro p e s m args below meth c s₁ B hml hv
  obtain ⟨rfl, hsz, hP, hK, hD0, hE⟩ := hv
  have hx := B.exec
  have hb := B.bytes
  have hr := B.returns
  have hts0 := atoms_spec (ws := (wsg yJ4_length_8abf5 cJ4_length_8abf5 1 (some .int))) B.pre
  have hts : ∀ w ∈ wsL_law, w.before _ s = true := fun w h => hts0 w (List.mem_cons_of_mem _ h)
  have hown : s.vm.findClass RJ4 = some m.cls := by have h9 := findClass_of_methodNamed B.named; exact h9
  subst hsz
  have hD := hD0.self (sz := s.heap.size)
  generalize hAe : va_A (CH cy nb ad0 n0 E0) s.heap.size = A at hD hE ⊢
  have hA : ∀ q : Nat, s.heap.size ≤ q → A q := fun q h => by rw [← hAe]; exact Or.inr h
  have hS : va_S A s.heap s.heap [] := va_S.rf
  have hl := lv_entry ([.ref Aa0]) (n := 1) (Nat.le_of_ble_eq_true rfl)
  rw [lg_entry_eq]
  generalize (lg_sl ([.ref Aa0]) ++ List.replicate (1 - (lg_sl ([.ref Aa0])).length) Slot.unset).toArray = ls at hl ⊢
  have hl : lv_has ls 1 [(0, .ref Aa0)] := hl
  generalize hHe : s.heap = H at hP hS ⊢
  have hS : va_S A s.heap H [] := by rw [hHe]; exact hS
  refine my_Q (fun Qn hQ => ?_)
  simp only [H_J4_length_8abf5] at hF
  have hX : axh n0 ad0 n0 ad0 := axh_refl
  have hN : n0 ≤ n0 := Nat.le_refl _
  have hT : s0 ≤ s0 := Nat.le_refl _
  refine W.widen (k := n0 - n0) (n := s0 - s0) (by omega) (by omega) ?_
  refine lv_aload_n hx hb dJ4_length_8abf5_0 rfl (lv_at hl 0 rfl) ?_
  obtain ⟨fs9, e1, hF⟩ := mg_o hF
  obtain ⟨x2, n4, s5, E6, e3, hF⟩ := mb_o hF
  have hm := mle e3
  have hM1 := mle1 hF
  have hM2 := mle2 hF
  have hm1 := hm.1
  have hm2 := hm.2.1
  have hFc := my_free hD hS hA
  refine va_calli (va_runSU (C := RJ4) (As := []) (rest := []) (hK.1 1 _ rfl).2 ⟨hx, hb, hml, hown, hts⟩ (h_J5_length_8abf5 l dC dI cy nb ad0 n0 s0 E0 hC (a0) Aa0 ha0 H.size x2 n4 s5 E6 e3) (va_cwSU 0 hts (gSU mw_805 mw_800 mw_624 mw_801 mw_586 mw_807) rfl rfl rfl (by decide +kernel) ⟨Nat.le_of_ble_eq_true rfl, Nat.le_of_ble_eq_true rfl⟩) (hl_preV hP hK hD hE hS hFc (va_recv hK (rdO_ hP hC ha0 e1) (ci := 1) (q0 := 0) rfl rfl)) rfl rfl hl.1 rfl (lv_room (Nat.le_of_ble_eq_true rfl)) dJ4_length_8abf5_1 ⟨show n0 - n0 + (n4 - n0) ≤ nz - n0 by omega, show s0 - s0 + (s5 - s0) ≤ sz9 - s0 by omega⟩) hS (fun q _ h => hFc q h) hFc (fun r9 u t H1 locs ht hvm hw hB hz1 hk1 hS => ?_)
  obtain ⟨ad7, hax, hP1, hD1⟩ := hB
  rw [ht] at hP1
  have hP := hP1
  have hD := hD1.weaken (fun k q _ h => hFc q.1 h)
  generalize H1 = H at hP hS ⊢
  have ha0 := ha0.mv hC.1 hax
  have hX := hX.trans hax
  have hC := hm.2.2 hC
  have hN : n0 ≤ n4 := Nat.le_trans hN hm1
  have hT : s0 ≤ s5 := Nat.le_trans hT hm2
  refine W.widen (k := n4 - n0) (n := s5 - s0) (by omega) (by omega) ?_
  clear hP1 hD1 hFc hk1 hz1 hvm ht hax hm hm1 hm2 hM1 hM2
  obtain rfl := hw.symm
  obtain ⟨ht9, hn9, hs9, hE9⟩ := mr_o hF
  subst hn9 hs9 hE9
  have hX9 := hX
  rw [hQ]
  exact W.iret (v := x2) hx hb hr (fun t ht hW => ⟨⟨x2, (), rfl, ht9, _, hX, by rw [ht]; exact hP, hD⟩, hS.F ht⟩) hS.2.2 dJ4_length_8abf5_4
noncomputable def H_J5_getCoder_7d493 (a0 : Nat) : MH Int32 := mb (rI (a0) 1 1) fun x1 => mb (mp (nbt x1)) fun x3 => mr x3
set_option maxHeartbeats 4000000 in
set_option maxRecDepth 100000 in
theorem h_J5_getCoder_7d493 (l : Launch) (dC : Nat → ClassId) (dI : Nat → Nat → Nat) (cy : Nat → ClassId) (nb : Nat → Nat) (ad0 : Nat → Nat) (n0 s0 : Nat) (E0 : HE) (hC : clo n0 E0) (a0 Aa0 : Nat) (ha0 : rf nb ad0 n0 a0 Aa0) (sz : Nat) (ro : Int32) (nz sz9 : Nat) (Ez : HE) (hF : (H_J5_getCoder_7d493 a0).1 (n0, s0, E0) = some (ro, nz, sz9, Ez)) : Met l yJ5_getCoder_7d493 (wsg yJ5_getCoder_7d493 cJ5_getCoder_7d493 1 (some .byte)) ({ frames := 8, cells := nz - n0, slots := sz9 - s0, locals := 300 }) (va_Pc [.ref Aa0] (fun U => U.heap.size = sz ∧ va_P (dC, dI) vwCl (CH cy nb ad0 n0 E0) U.heap ∧ va_K (dC, dI) vwCl (tyL cy) U ∧ va_D (fun _ => True) (CH cy nb ad0 n0 E0) ∧ GL nb (va_A (CH cy nb ad0 n0 E0) sz) U)) (va_Qi (fun (r : Int32) (_ : Unit) => r = ro) (fun _ t => ∃ ad2 : Nat → Nat, axh n0 ad0 nz ad2 ∧ va_P (dC, dI) vwCl (CH cy nb ad2 nz Ez) t.heap ∧ va_D (va_A (CH cy nb ad0 n0 E0) sz) (CH cy nb ad2 nz Ez)) (va_A (CH cy nb ad0 n0 E0) sz)) (nz - n0) (sz9 - s0) (va_A (CH cy nb ad0 n0 E0) sz) := by
  refine Met.ofW (cc := cJ5_getCoder_7d493) (maxL := 1) (ret := (some .byte)) (by decide) rfl ?_
  intro p e s m args below meth c s₁ B hml hv
  obtain ⟨rfl, hsz, hP, hK, hD0, hE⟩ := hv
  have hx := B.exec
  have hb := B.bytes
  have hr := B.returns
  have hts0 := atoms_spec (ws := (wsg yJ5_getCoder_7d493 cJ5_getCoder_7d493 1 (some .byte))) B.pre
  have hts : ∀ w ∈ wsL_law, w.before _ s = true := fun w h => hts0 w (List.mem_cons_of_mem _ h)
  have hown : s.vm.findClass RJ5 = some m.cls := by have h9 := findClass_of_methodNamed B.named; exact h9
  subst hsz
  have hD := hD0.self (sz := s.heap.size)
  generalize hAe : va_A (CH cy nb ad0 n0 E0) s.heap.size = A at hD hE ⊢
  have hA : ∀ q : Nat, s.heap.size ≤ q → A q := fun q h => by rw [← hAe]; exact Or.inr h
  have hS : va_S A s.heap s.heap [] := va_S.rf
  have hl := lv_entry ([.ref Aa0]) (n := 1) (Nat.le_of_ble_eq_true rfl)
  rw [lg_entry_eq]
  generalize (lg_sl ([.ref Aa0]) ++ List.replicate (1 - (lg_sl ([.ref Aa0])).length) Slot.unset).toArray = ls at hl ⊢
  have hl : lv_has ls 1 [(0, .ref Aa0)] := hl
  generalize hHe : s.heap = H at hP hS ⊢
  have hS : va_S A s.heap H [] := by rw [hHe]; exact hS
  refine my_Q (fun Qn hQ => ?_)
  simp only [H_J5_getCoder_7d493] at hF
  have hX : axh n0 ad0 n0 ad0 := axh_refl
  have hN : n0 ≤ n0 := Nat.le_refl _
  have hT : s0 ≤ s0 := Nat.le_refl _
  refine W.widen (k := n0 - n0) (n := s0 - s0) (by omega) (by omega) ?_
  refine va_gets (C := "java/lang/String") (n := "COMPACT_STRINGS") (d := "Z") (ref := "java/lang/String") (v := .int 1) hx hb hE.ge.cs hS hown (hts _ mw_589) (fun _ h9 => h9) dJ5_getCoder_7d493_0 ?_
  refine lv_if_eq (tgt := 13) hx hb dJ5_getCoder_7d493_3 (by decide) (fun h => absurd h (by decide)) (fun _ => ?_)
  refine lv_aload_n hx hb dJ5_getCoder_7d493_6 rfl (lv_at hl 0 rfl) ?_
  obtain ⟨x1, e2, hF⟩ := mg_o hF
  obtain ⟨fs9, h9, g9⟩ := rdI hP hC ha0 e2
  refine va_get (D := (dC, dI)) (ci := 1) (v := .int x1) (C := RJ4) (T := TJ4) (N := 4) hx hb hts inlJ4 hown hK h9 0 rfl rfl 1 (by decide) (hts _ mw_591) (fun _ h9 => h9) g9 dJ5_getCoder_7d493_7 ?_
  clear h9 g9
  refine lv_goto (tgt := 14) hx hb dJ5_getCoder_7d493_10 (by decide) ?_
  obtain ⟨x3, e4, hF⟩ := mp_o hF
  refine my_topi (y := x3) (nbt_e e4) ?_
  obtain ⟨ht9, hn9, hs9, hE9⟩ := mr_o hF
  subst hn9 hs9 hE9
  have hX9 := hX
  rw [hQ]
  exact W.zret (v := x3) hx hb hr (nbt_n e4) (fun t ht hW => ⟨⟨x3, (), rfl, ht9, _, hX, by rw [ht]; exact hP, hD⟩, hS.F ht⟩) hS.2.2 dJ5_getCoder_7d493_14
noncomputable def H_J5_getValue_6d5f1 (a0 : Nat) : MH Nat := mb (rR (a0) 1 0) fun x1 => mr x1
set_option maxHeartbeats 4000000 in
set_option maxRecDepth 100000 in
theorem h_J5_getValue_6d5f1 (l : Launch) (dC : Nat → ClassId) (dI : Nat → Nat → Nat) (cy : Nat → ClassId) (nb : Nat → Nat) (ad0 : Nat → Nat) (n0 s0 : Nat) (E0 : HE) (hC : clo n0 E0) (a0 Aa0 : Nat) (ha0 : rf nb ad0 n0 a0 Aa0) (sz : Nat) (ro : Nat) (nz sz9 : Nat) (Ez : HE) (hF : (H_J5_getValue_6d5f1 a0).1 (n0, s0, E0) = some (ro, nz, sz9, Ez)) : Met l yJ5_getValue_6d5f1 (wsg yJ5_getValue_6d5f1 cJ5_getValue_6d5f1 1 (some (.array .byte))) ({ frames := 8, cells := nz - n0, slots := sz9 - s0, locals := 300 }) (va_Pc [.ref Aa0] (fun U => U.heap.size = sz ∧ va_P (dC, dI) vwCl (CH cy nb ad0 n0 E0) U.heap ∧ va_K (dC, dI) vwCl (tyL cy) U ∧ va_D (fun _ => True) (CH cy nb ad0 n0 E0) ∧ GL nb (va_A (CH cy nb ad0 n0 E0) sz) U)) (va_Qr (fun (_ : Unit) => True) (fun _ ra t => ∃ ad2 : Nat → Nat, axh n0 ad0 nz ad2 ∧ rf nb ad2 nz ro ra ∧ va_P (dC, dI) vwCl (CH cy nb ad2 nz Ez) t.heap ∧ va_D (va_A (CH cy nb ad0 n0 E0) sz) (CH cy nb ad2 nz Ez)) (va_A (CH cy nb ad0 n0 E0) sz)) (nz - n0) (sz9 - s0) (va_A (CH cy nb ad0 n0 E0) sz) := by
  refine Met.ofW (cc := cJ5_getValue_6d5f1) (maxL := 1) (ret := (some (.array .byte))) (by decide) rfl ?_
  intro p e s m args below meth c s₁ B hml hv
  obtain ⟨rfl, hsz, hP, hK, hD0, hE⟩ := hv
  have hx := B.exec
  have hb := B.bytes
  have hr := B.returns
  have hts0 := atoms_spec (ws := (wsg yJ5_getValue_6d5f1 cJ5_getValue_6d5f1 1 (some (.array .byte)))) B.pre
  have hts : ∀ w ∈ wsL_law, w.before _ s = true := fun w h => hts0 w (List.mem_cons_of_mem _ h)
  have hown : s.vm.findClass RJ5 = some m.cls := by have h9 := findClass_of_methodNamed B.named; exact h9
  subst hsz
  have hD := hD0.self (sz := s.heap.size)
  generalize hAe : va_A (CH cy nb ad0 n0 E0) s.heap.size = A at hD hE ⊢
  have hA : ∀ q : Nat, s.heap.size ≤ q → A q := fun q h => by rw [← hAe]; exact Or.inr h
  have hS : va_S A s.heap s.heap [] := va_S.rf
  have hl := lv_entry ([.ref Aa0]) (n := 1) (Nat.le_of_ble_eq_true rfl)
  rw [lg_entry_eq]
  generalize (lg_sl ([.ref Aa0]) ++ List.replicate (1 - (lg_sl ([.ref Aa0])).length) Slot.unset).toArray = ls at hl ⊢
  have hl : lv_has ls 1 [(0, .ref Aa0)] := hl
  generalize hHe : s.heap = H at hP hS ⊢
  have hS : va_S A s.heap H [] := by rw [hHe]; exact hS
  refine my_Q (fun Qn hQ => ?_)
  simp only [H_J5_getValue_6d5f1] at hF
  have hX : axh n0 ad0 n0 ad0 := axh_refl
  have hN : n0 ≤ n0 := Nat.le_refl _
  have hT : s0 ≤ s0 := Nat.le_refl _
  refine W.widen (k := n0 - n0) (n := s0 - s0) (by omega) (by omega) ?_
  refine lv_aload_n hx hb dJ5_getValue_6d5f1_0 rfl (lv_at hl 0 rfl) ?_
  obtain ⟨x1, e2, hF⟩ := mg_o hF
  obtain ⟨hr3, fs9, h9, g9⟩ := rdR hP hC ha0 e2
  refine va_get (D := (dC, dI)) (ci := 1) (v := .ref (AD nb ad0 x1)) (C := RJ4) (T := TJ4) (N := 4) hx hb hts inlJ4 hown hK h9 0 rfl rfl 0 (by decide) (hts _ mw_590) (fun _ h9 => h9) g9 dJ5_getValue_6d5f1_1 ?_
  clear h9 g9
  obtain ⟨ht9, hn9, hs9, hE9⟩ := mr_o hF
  subst hn9 hs9 hE9
  have hX9 := hX
  rw [hQ]
  exact W.aret (v := .ref (AD nb ad0 x1)) hx hb hr (by first | exact Or.inl ⟨_, rfl⟩ | exact Or.inr ⟨_, rfl⟩) (Or.inr ⟨_, rfl⟩) (fun t ht hW => ⟨⟨(), (AD nb ad0 x1), rfl, trivial, _, hX, (by rw [← ht9]; exact hr3), by rw [ht]; exact hP, hD⟩, hS.F ht⟩) hS.2.2 dJ5_getValue_6d5f1_4
noncomputable def H_J5_init_d00df (a0 : Nat) (a1 : Int32) : MH Unit := mb (mp (ln a1)) fun k1 => mb (nA 0 k1) fun x6 => mb (wR (a0) 1 0 (x6)) fun _ => mb (wI (a0) 1 1 (0)) fun _ => mr ()
set_option maxHeartbeats 4000000 in
set_option maxRecDepth 100000 in
theorem h_J5_init_d00df (l : Launch) (dC : Nat → ClassId) (dI : Nat → Nat → Nat) (cy : Nat → ClassId) (nb : Nat → Nat) (ad0 : Nat → Nat) (n0 s0 : Nat) (E0 : HE) (hC : clo n0 E0) (a0 Aa0 : Nat) (ha0 : rf nb ad0 n0 a0 Aa0) (a1 : Int32) (sz : Nat) (nz sz9 : Nat) (Ez : HE) (hF : (H_J5_init_d00df a0 a1).1 (n0, s0, E0) = some ((), nz, sz9, Ez)) : Met l yJ5_init_d00df (wsg yJ5_init_d00df cJ5_init_d00df 2 none) ({ frames := 8, cells := nz - n0, slots := sz9 - s0, locals := 300 }) (va_Pc [.ref Aa0, .int a1] (fun U => U.heap.size = sz ∧ va_P (dC, dI) vwCl (CH cy nb ad0 n0 E0) U.heap ∧ va_K (dC, dI) vwCl (tyL cy) U ∧ va_D (fun _ => True) (CH cy nb ad0 n0 E0) ∧ GL nb (va_A (CH cy nb ad0 n0 E0) sz) U)) (va_Qv (fun (_ : Unit) => True) (fun _ t => ∃ ad2 : Nat → Nat, axh n0 ad0 nz ad2 ∧ va_P (dC, dI) vwCl (CH cy nb ad2 nz Ez) t.heap ∧ va_D (va_A (CH cy nb ad0 n0 E0) sz) (CH cy nb ad2 nz Ez)) (va_A (CH cy nb ad0 n0 E0) sz)) (nz - n0) (sz9 - s0) (va_A (CH cy nb ad0 n0 E0) sz) := by
  refine Met.ofW (cc := cJ5_init_d00df) (maxL := 2) (ret := none) (by decide) rfl ?_
  intro p e s m args below meth c s₁ B hml hv
  obtain ⟨rfl, hsz, hP, hK, hD0, hE⟩ := hv
  have hx := B.exec
  have hb := B.bytes
  have hr := B.returns
  have hts0 := atoms_spec (ws := (wsg yJ5_init_d00df cJ5_init_d00df 2 none)) B.pre
  have hts : ∀ w ∈ wsL_law, w.before _ s = true := fun w h => hts0 w (List.mem_cons_of_mem _ h)
  have hown : s.vm.findClass RJ5 = some m.cls := by have h9 := findClass_of_methodNamed B.named; exact h9
  have hnm : meth.name = "<init>" := by have h9 := B.name; exact h9
  subst hsz
  have hD := hD0.self (sz := s.heap.size)
  generalize hAe : va_A (CH cy nb ad0 n0 E0) s.heap.size = A at hD hE ⊢
  have hA : ∀ q : Nat, s.heap.size ≤ q → A q := fun q h => by rw [← hAe]; exact Or.inr h
  have hS : va_S A s.heap s.heap [] := va_S.rf
  have hl := lv_entry ([.ref Aa0, .int a1]) (n := 2) (Nat.le_of_ble_eq_true rfl)
  rw [lg_entry_eq]
  generalize (lg_sl ([.ref Aa0, .int a1]) ++ List.replicate (2 - (lg_sl ([.ref Aa0, .int a1])).length) Slot.unset).toArray = ls at hl ⊢
  have hl : lv_has ls 2 [(0, .ref Aa0), (1, .int a1)] := hl
  generalize hHe : s.heap = H at hP hS ⊢
  have hS : va_S A s.heap H [] := by rw [hHe]; exact hS
  refine my_Q (fun Qn hQ => ?_)
  simp only [H_J5_init_d00df] at hF
  have hX : axh n0 ad0 n0 ad0 := axh_refl
  have hN : n0 ≤ n0 := Nat.le_refl _
  have hT : s0 ≤ s0 := Nat.le_refl _
  refine W.widen (k := n0 - n0) (n := s0 - s0) (by omega) (by omega) ?_
  refine lv_aload_n hx hb dJ5_init_d00df_0 rfl (lv_at hl 0 rfl) ?_
  refine W.objInit hx hb hown (hts _ mw_588) (hts _ mw_18) (hts _ mw_19) rfl (by rw [hml]; exact hl.1) rfl dJ5_init_d00df_1 (Nat.le_of_ble_eq_true rfl) (Nat.le_of_ble_eq_true rfl) ?_
  refine W.eq (g2 := F0 m 4 ls []) rfl ?_
  refine va_gets (C := "java/lang/String") (n := "COMPACT_STRINGS") (d := "Z") (ref := "java/lang/String") (v := .int 1) hx hb hE.ge.cs hS hown (hts _ mw_589) (fun _ h9 => h9) dJ5_init_d00df_4 ?_
  refine lv_if_eq (tgt := 25) hx hb dJ5_init_d00df_7 (by decide) (fun h => absurd h (by decide)) (fun _ => ?_)
  refine lv_aload_n hx hb dJ5_init_d00df_10 rfl (lv_at hl 0 rfl) ?_
  refine lv_iload_n hx hb dJ5_init_d00df_11 rfl (lv_at hl 1 rfl) ?_
  obtain ⟨k1, e2, hF⟩ := mp_o hF
  obtain ⟨x6, n3, s4, E5, hq, hF⟩ := mn_o hF
  have hM1 := mle1 hF
  have hM2 := mle2 hF
  have hq9 := hq.2.1
  have hq8 := hq.2.2.1
  obtain ⟨l1, l2, l3⟩ := ln_s e2
  refine va_newa (atype := .byte) (ty := .byte) (N' := k1) (a0 := (k1, .inl (fun _ => 0))) hx hb (hts _ mw_29) rfl hK hP hD hS hA (fun _ => rfl) l1 l2 (show k1 * 1 ≤ 536870912 by omega) (show n0 - n0 + 1 ≤ nz - n0 by omega) (show s0 - s0 + k1 ≤ sz9 - s0 by omega) dJ5_init_d00df_12 (fun q7 cA H hK9 hP hD hS => ?_)
  have hcA := my_cA hK9 hK 0 rfl
  subst hcA
  clear hK9 l1 l2 l3
  obtain ⟨ad8, hax, hr9, hC9, hw9⟩ := new_w (cy := cy) (nb := nb) (ad := ad0) (e := .inl (0, k1, .inl fun _ => 0)) trivial (fun _ => rfl) hC q7 hq
  rw [hw9] at hP hD
  have ha0 := ha0.mv hC.1 hax
  have hX := hX.trans hax
  have hC := hC9
  obtain ⟨-, hq1, hq2, -, -⟩ := hq
  have hN : n0 ≤ n3 := by omega
  have hT : s0 ≤ s4 := by omega
  refine W.widen (k := n3 - n0) (n := s4 - s0) (by omega) (by omega) ?_
  clear hM1 hM2 hax hC9 hw9 hq1 hq2 hq8 hq9
  obtain ⟨E10, e11, hF⟩ := mw_o hF
  obtain ⟨q9, fs9, h9, ez9⟩ := wrR (cy := cy) hC ha0 hr9 e11
  refine va_put (D := (dC, dI)) (ci := 1) (v := .ref q7) (ty := (.array .byte)) (C := RJ4) (T := TJ4) (N := 4) hx hb hts inlJ4 tyJ4 tyJ4_ok nmJ4 hown hK hP hD hS q9 h9 rfl 0 (by decide) (hts _ mw_590) (fun _ h9 => h9) rfl (by decide +kernel) rfl rfl (Nat.le_of_ble_eq_true rfl) dJ5_init_d00df_14 (fun H locs hP hD hS => ?_)
  rw [ez9] at hP hD
  clear ez9 h9
  have hC := sR_clo e11 hC
  refine lv_aload_n hx hb dJ5_init_d00df_17 rfl (lv_at hl 0 rfl) ?_
  refine lv_iconst (v := 0) hx hb dJ5_init_d00df_18 (by decide) ?_
  obtain ⟨E12, e13, hF⟩ := mw_o hF
  obtain ⟨q9, fs9, h9, ez9⟩ := wrI (cy := cy) hC ha0 e13
  refine va_put (D := (dC, dI)) (ci := 1) (v := .int 0) (ty := .byte) (C := RJ4) (T := TJ4) (N := 4) hx hb hts inlJ4 tyJ4 tyJ4_ok nmJ4 hown hK hP hD hS q9 h9 rfl 1 (by decide) (hts _ mw_591) (fun _ h9 => h9) rfl (by decide +kernel) rfl rfl (Nat.le_of_ble_eq_true rfl) dJ5_init_d00df_19 (fun H locs hP hD hS => ?_)
  rw [ez9] at hP hD
  clear ez9 h9
  have hC := sI_clo e13 hC
  refine lv_goto (tgt := 38) hx hb dJ5_init_d00df_22 (by decide) ?_
  obtain ⟨ht9, hn9, hs9, hE9⟩ := mr_o hF
  subst hn9 hs9 hE9
  have hX9 := hX
  rw [hQ]
  exact W.vret hx hb hr (fun t ht hW => ⟨⟨(), rfl, trivial, _, hX, by rw [ht]; exact hP, hD⟩, hS.F ht⟩) hS.2.2 dJ5_init_d00df_38
noncomputable def H_J4_init_da8c8 (a0 : Nat) : MH Unit := mb (H_J5_init_d00df (a0) (16)) fun _ => mr ()
set_option maxHeartbeats 4000000 in
set_option maxRecDepth 100000 in
theorem h_J4_init_da8c8 (l : Launch) (dC : Nat → ClassId) (dI : Nat → Nat → Nat) (cy : Nat → ClassId) (nb : Nat → Nat) (ad0 : Nat → Nat) (n0 s0 : Nat) (E0 : HE) (hC : clo n0 E0) (a0 Aa0 : Nat) (ha0 : rf nb ad0 n0 a0 Aa0) (sz : Nat) (nz sz9 : Nat) (Ez : HE) (hF : (H_J4_init_da8c8 a0).1 (n0, s0, E0) = some ((), nz, sz9, Ez)) : Met l yJ4_init_da8c8 (wsg yJ4_init_da8c8 cJ4_init_da8c8 1 none) ({ frames := 9, cells := nz - n0, slots := sz9 - s0, locals := 400 }) (va_Pc [.ref Aa0] (fun U => U.heap.size = sz ∧ va_P (dC, dI) vwCl (CH cy nb ad0 n0 E0) U.heap ∧ va_K (dC, dI) vwCl (tyL cy) U ∧ va_D (fun _ => True) (CH cy nb ad0 n0 E0) ∧ GL nb (va_A (CH cy nb ad0 n0 E0) sz) U)) (va_Qv (fun (_ : Unit) => True) (fun _ t => ∃ ad2 : Nat → Nat, axh n0 ad0 nz ad2 ∧ va_P (dC, dI) vwCl (CH cy nb ad2 nz Ez) t.heap ∧ va_D (va_A (CH cy nb ad0 n0 E0) sz) (CH cy nb ad2 nz Ez)) (va_A (CH cy nb ad0 n0 E0) sz)) (nz - n0) (sz9 - s0) (va_A (CH cy nb ad0 n0 E0) sz) := by
  refine Met.ofW (cc := cJ4_init_da8c8) (maxL := 1) (ret := none) (by decide) rfl ?_
  intro p e s m args below meth c s₁ B hml hv
  obtain ⟨rfl, hsz, hP, hK, hD0, hE⟩ := hv
  have hx := B.exec
  have hb := B.bytes
  have hr := B.returns
  have hts0 := atoms_spec (ws := (wsg yJ4_init_da8c8 cJ4_init_da8c8 1 none)) B.pre
  have hts : ∀ w ∈ wsL_law, w.before _ s = true := fun w h => hts0 w (List.mem_cons_of_mem _ h)
  have hown : s.vm.findClass RJ4 = some m.cls := by have h9 := findClass_of_methodNamed B.named; exact h9
  have hnm : meth.name = "<init>" := by have h9 := B.name; exact h9
  subst hsz
  have hD := hD0.self (sz := s.heap.size)
  generalize hAe : va_A (CH cy nb ad0 n0 E0) s.heap.size = A at hD hE ⊢
  have hA : ∀ q : Nat, s.heap.size ≤ q → A q := fun q h => by rw [← hAe]; exact Or.inr h
  have hS : va_S A s.heap s.heap [] := va_S.rf
  have hl := lv_entry ([.ref Aa0]) (n := 1) (Nat.le_of_ble_eq_true rfl)
  rw [lg_entry_eq]
  generalize (lg_sl ([.ref Aa0]) ++ List.replicate (1 - (lg_sl ([.ref Aa0])).length) Slot.unset).toArray = ls at hl ⊢
  have hl : lv_has ls 1 [(0, .ref Aa0)] := hl
  generalize hHe : s.heap = H at hP hS ⊢
  have hS : va_S A s.heap H [] := by rw [hHe]; exact hS
  refine my_Q (fun Qn hQ => ?_)
  simp only [H_J4_init_da8c8] at hF
  have hX : axh n0 ad0 n0 ad0 := axh_refl
  have hN : n0 ≤ n0 := Nat.le_refl _
  have hT : s0 ≤ s0 := Nat.le_refl _
  refine W.widen (k := n0 - n0) (n := s0 - s0) (by omega) (by omega) ?_
  refine lv_aload_n hx hb dJ4_init_da8c8_0 rfl (lv_at hl 0 rfl) ?_
  refine lv_bipush (v := 16) hx hb dJ4_init_da8c8_1 (by decide) ?_
  obtain ⟨⟨⟩, n2, s3, E4, e1, hF⟩ := mb_o hF
  have hm := mle e1
  have hM1 := mle1 hF
  have hM2 := mle2 hF
  have hm1 := hm.1
  have hm2 := hm.2.1
  have hFc := my_free hD hS hA
  refine va_callv (va_runI (As := [.int 16]) (rest := []) ⟨hx, hb, hml, hown, hts⟩ (h_J5_init_d00df l dC dI cy nb ad0 n0 s0 E0 hC (a0) Aa0 ha0 (16) H.size n2 s3 E4 e1) (cwI 1 hts (gI mw_587) rfl rfl rfl (hts _ mw_586) (hts _ mw_584) (hts _ mw_585) rfl (by decide +kernel) ⟨Nat.le_of_ble_eq_true rfl, Nat.le_of_ble_eq_true rfl⟩) (hl_preS hP hK hD hE hS hFc) rfl rfl hl.1 rfl (lv_room (Nat.le_of_ble_eq_true rfl)) dJ4_init_da8c8_3 ⟨show n0 - n0 + (n2 - n0) ≤ nz - n0 by omega, show s0 - s0 + (s3 - s0) ≤ sz9 - s0 by omega⟩) hS (fun q _ h => hFc q h) hFc (fun u t H1 locs ht hvm hw hB hz1 hk1 hS => ?_)
  obtain ⟨ad5, hax, hP1, hD1⟩ := hB
  rw [ht] at hP1
  have hP := hP1
  have hD := hD1.weaken (fun k q _ h => hFc q.1 h)
  generalize H1 = H at hP hS ⊢
  have ha0 := ha0.mv hC.1 hax
  have hX := hX.trans hax
  have hC := hm.2.2 hC
  have hN : n0 ≤ n2 := Nat.le_trans hN hm1
  have hT : s0 ≤ s3 := Nat.le_trans hT hm2
  refine W.widen (k := n2 - n0) (n := s3 - s0) (by omega) (by omega) ?_
  clear hP1 hD1 hFc hk1 hz1 hvm ht hax hm hm1 hm2 hM1 hM2
  obtain ⟨ht9, hn9, hs9, hE9⟩ := mr_o hF
  subst hn9 hs9 hE9
  have hX9 := hX
  rw [hQ]
  exact W.vret hx hb hr (fun t ht hW => ⟨⟨(), rfl, trivial, _, hX, by rw [ht]; exact hP, hD⟩, hS.F ht⟩) hS.2.2 dJ4_init_da8c8_6
noncomputable def H_J7_checkLength_df160 (a1 : Int32) (a2 : Int32) : MH Unit := if a1 ≤ a2 then (mr ()) else (m0)
set_option maxHeartbeats 4000000 in
set_option maxRecDepth 100000 in
theorem h_J7_checkLength_df160 (l : Launch) (dC : Nat → ClassId) (dI : Nat → Nat → Nat) (cy : Nat → ClassId) (nb : Nat → Nat) (ad0 : Nat → Nat) (n0 s0 : Nat) (E0 : HE) (hC : clo n0 E0) (a1 : Int32) (a2 : Int32) (sz : Nat) (nz sz9 : Nat) (Ez : HE) (hF : (H_J7_checkLength_df160 a1 a2).1 (n0, s0, E0) = some ((), nz, sz9, Ez)) : Met l yJ7_checkLength_df160 (wsg yJ7_checkLength_df160 cJ7_checkLength_df160 2 none) ({ frames := 8, cells := nz - n0, slots := sz9 - s0, locals := 300 }) (va_Pc [.int a1, .int a2] (fun U => U.heap.size = sz ∧ va_P (dC, dI) vwCl (CH cy nb ad0 n0 E0) U.heap ∧ va_K (dC, dI) vwCl (tyL cy) U ∧ va_D (fun _ => True) (CH cy nb ad0 n0 E0) ∧ GL nb (va_A (CH cy nb ad0 n0 E0) sz) U)) (va_Qv (fun (_ : Unit) => True) (fun _ t => ∃ ad2 : Nat → Nat, axh n0 ad0 nz ad2 ∧ va_P (dC, dI) vwCl (CH cy nb ad2 nz Ez) t.heap ∧ va_D (va_A (CH cy nb ad0 n0 E0) sz) (CH cy nb ad2 nz Ez)) (va_A (CH cy nb ad0 n0 E0) sz)) (nz - n0) (sz9 - s0) (va_A (CH cy nb ad0 n0 E0) sz) := by
  refine Met.ofW (cc := cJ7_checkLength_df160) (maxL := 2) (ret := none) (by decide) rfl ?_
  intro p e s m args below meth c s₁ B hml hv
  obtain ⟨rfl, hsz, hP, hK, hD0, hE⟩ := hv
  have hx := B.exec
  have hb := B.bytes
  have hr := B.returns
  have hts0 := atoms_spec (ws := (wsg yJ7_checkLength_df160 cJ7_checkLength_df160 2 none)) B.pre
  have hts : ∀ w ∈ wsL_law, w.before _ s = true := fun w h => hts0 w (List.mem_cons_of_mem _ h)
  have hown : s.vm.findClass RJ7 = some m.cls := by have h9 := findClass_of_methodNamed B.named; exact h9
  subst hsz
  have hD := hD0.self (sz := s.heap.size)
  generalize hAe : va_A (CH cy nb ad0 n0 E0) s.heap.size = A at hD hE ⊢
  have hA : ∀ q : Nat, s.heap.size ≤ q → A q := fun q h => by rw [← hAe]; exact Or.inr h
  have hS : va_S A s.heap s.heap [] := va_S.rf
  have hl := lv_entry ([.int a1, .int a2]) (n := 2) (Nat.le_of_ble_eq_true rfl)
  rw [lg_entry_eq]
  generalize (lg_sl ([.int a1, .int a2]) ++ List.replicate (2 - (lg_sl ([.int a1, .int a2])).length) Slot.unset).toArray = ls at hl ⊢
  have hl : lv_has ls 2 [(0, .int a1), (1, .int a2)] := hl
  generalize hHe : s.heap = H at hP hS ⊢
  have hS : va_S A s.heap H [] := by rw [hHe]; exact hS
  refine my_Q (fun Qn hQ => ?_)
  simp only [H_J7_checkLength_df160] at hF
  have hX : axh n0 ad0 n0 ad0 := axh_refl
  have hN : n0 ≤ n0 := Nat.le_refl _
  have hT : s0 ≤ s0 := Nat.le_refl _
  refine W.widen (k := n0 - n0) (n := s0 - s0) (by omega) (by omega) ?_
  refine lv_iload_n hx hb dJ7_checkLength_df160_0 rfl (lv_at hl 1 rfl) ?_
  refine lv_iload_n hx hb dJ7_checkLength_df160_1 rfl (lv_at hl 0 rfl) ?_
  refine lv_icmp_ge (tgt := 37) hx hb dJ7_checkLength_df160_2 (by decide) (fun c1 => ?_) (fun c1 => ?_)
  · skip
    rw [if_pos c1] at hF
    obtain ⟨ht9, hn9, hs9, hE9⟩ := mr_o hF
    subst hn9 hs9 hE9
    have hX9 := hX
    rw [hQ]
    exact W.vret hx hb hr (fun t ht hW => ⟨⟨(), rfl, trivial, _, hX, by rw [ht]; exact hP, hD⟩, hS.F ht⟩) hS.2.2 dJ7_checkLength_df160_37
  · skip
    rw [if_neg c1] at hF
    exact (m0_o hF).elim
noncomputable def H_J7_copyOf_9075b (a1 : Nat) (a2 : Int32) : MH Nat := mb (mg fun n E => lB n E (a1)) fun x1 => if a2 = x1 then (mb (mg fun n E => aPf n E (a1)) fun p22 => mb (mn p22.1 (.inl (0, p22.1, .inl p22.2)) trivial) fun x20 => mb (mg fun n E => aP n E (x20) 0) fun _ => mr x20) else (mb (mp (ln a2)) fun k4 => mb (nA 0 k4) fun x9 => mb (mg fun n E => lB n E (a1)) fun x13 => mb (mcB (a1) (0) (x9) (0) ((if a2 < x13 then a2 else x13))) fun _ => mr x9)
set_option maxHeartbeats 4000000 in
set_option maxRecDepth 100000 in
theorem h_J7_copyOf_9075b (l : Launch) (dC : Nat → ClassId) (dI : Nat → Nat → Nat) (cy : Nat → ClassId) (nb : Nat → Nat) (ad0 : Nat → Nat) (n0 s0 : Nat) (E0 : HE) (hC : clo n0 E0) (a1 Aa1 : Nat) (ha1 : rf nb ad0 n0 a1 Aa1) (a2 : Int32) (sz : Nat) (ro : Nat) (nz sz9 : Nat) (Ez : HE) (hF : (H_J7_copyOf_9075b a1 a2).1 (n0, s0, E0) = some (ro, nz, sz9, Ez)) : Met l yJ7_copyOf_9075b (wsg yJ7_copyOf_9075b cJ7_copyOf_9075b 3 (some (.array .byte))) ({ frames := 8, cells := nz - n0, slots := sz9 - s0, locals := 300 }) (va_Pc [.ref Aa1, .int a2] (fun U => U.heap.size = sz ∧ va_P (dC, dI) vwCl (CH cy nb ad0 n0 E0) U.heap ∧ va_K (dC, dI) vwCl (tyL cy) U ∧ va_D (fun _ => True) (CH cy nb ad0 n0 E0) ∧ GL nb (va_A (CH cy nb ad0 n0 E0) sz) U)) (va_Qr (fun (_ : Unit) => True) (fun _ ra t => ∃ ad2 : Nat → Nat, axh n0 ad0 nz ad2 ∧ rf nb ad2 nz ro ra ∧ va_P (dC, dI) vwCl (CH cy nb ad2 nz Ez) t.heap ∧ va_D (va_A (CH cy nb ad0 n0 E0) sz) (CH cy nb ad2 nz Ez)) (va_A (CH cy nb ad0 n0 E0) sz)) (nz - n0) (sz9 - s0) (va_A (CH cy nb ad0 n0 E0) sz) := by
  refine Met.ofW (cc := cJ7_copyOf_9075b) (maxL := 3) (ret := (some (.array .byte))) (by decide) rfl ?_
  intro p e s m args below meth c s₁ B hml hv
  obtain ⟨rfl, hsz, hP, hK, hD0, hE⟩ := hv
  have hx := B.exec
  have hb := B.bytes
  have hr := B.returns
  have hts0 := atoms_spec (ws := (wsg yJ7_copyOf_9075b cJ7_copyOf_9075b 3 (some (.array .byte)))) B.pre
  have hts : ∀ w ∈ wsL_law, w.before _ s = true := fun w h => hts0 w (List.mem_cons_of_mem _ h)
  have hown : s.vm.findClass RJ7 = some m.cls := by have h9 := findClass_of_methodNamed B.named; exact h9
  subst hsz
  have hD := hD0.self (sz := s.heap.size)
  generalize hAe : va_A (CH cy nb ad0 n0 E0) s.heap.size = A at hD hE ⊢
  have hA : ∀ q : Nat, s.heap.size ≤ q → A q := fun q h => by rw [← hAe]; exact Or.inr h
  have hS : va_S A s.heap s.heap [] := va_S.rf
  have hl := lv_entry ([.ref Aa1, .int a2]) (n := 3) (Nat.le_of_ble_eq_true rfl)
  rw [lg_entry_eq]
  generalize (lg_sl ([.ref Aa1, .int a2]) ++ List.replicate (3 - (lg_sl ([.ref Aa1, .int a2])).length) Slot.unset).toArray = ls at hl ⊢
  have hl : lv_has ls 3 [(0, .ref Aa1), (1, .int a2)] := hl
  generalize hHe : s.heap = H at hP hS ⊢
  have hS : va_S A s.heap H [] := by rw [hHe]; exact hS
  refine my_Q (fun Qn hQ => ?_)
  simp only [H_J7_copyOf_9075b] at hF
  have hX : axh n0 ad0 n0 ad0 := axh_refl
  have hN : n0 ≤ n0 := Nat.le_refl _
  have hT : s0 ≤ s0 := Nat.le_refl _
  refine W.widen (k := n0 - n0) (n := s0 - s0) (by omega) (by omega) ?_
  refine lv_iload_n hx hb dJ7_copyOf_9075b_0 rfl (lv_at hl 1 rfl) ?_
  refine lv_aload_n hx hb dJ7_copyOf_9075b_1 rfl (lv_at hl 0 rfl) ?_
  obtain ⟨x1, e2, hF⟩ := mg_o hF
  refine hs_lB hx hb hK hP hC hE hS ha1 e2 dJ7_copyOf_9075b_2 ?_
  refine lv_icmp_ne (tgt := 14) hx hb dJ7_copyOf_9075b_3 (by decide) (fun c3 => ?_) (fun c3 => ?_)
  · skip
    rw [if_neg c3] at hF
    refine lv_iload_n hx hb dJ7_copyOf_9075b_14 rfl (lv_at hl 1 rfl) ?_
    obtain ⟨k4, e5, hF⟩ := mp_o hF
    obtain ⟨x9, n6, s7, E8, hq, hF⟩ := mn_o hF
    have hM1 := mle1 hF
    have hM2 := mle2 hF
    have hq9 := hq.2.1
    have hq8 := hq.2.2.1
    obtain ⟨l1, l2, l3⟩ := ln_s e5
    refine va_newa (atype := .byte) (ty := .byte) (N' := k4) (a0 := (k4, .inl (fun _ => 0))) hx hb (hts _ mw_29) rfl hK hP hD hS hA (fun _ => rfl) l1 l2 (show k4 * 1 ≤ 536870912 by omega) (show n0 - n0 + 1 ≤ nz - n0 by omega) (show s0 - s0 + k4 ≤ sz9 - s0 by omega) dJ7_copyOf_9075b_15 (fun q10 cA H hK9 hP hD hS => ?_)
    have hcA := my_cA hK9 hK 0 rfl
    subst hcA
    clear hK9 l1 l2 l3
    obtain ⟨ad11, hax, hr12, hC9, hw9⟩ := new_w (cy := cy) (nb := nb) (ad := ad0) (e := .inl (0, k4, .inl fun _ => 0)) trivial (fun _ => rfl) hC q10 hq
    rw [hw9] at hP hD
    have ha1 := ha1.mv hC.1 hax
    have hX := hX.trans hax
    have hC := hC9
    obtain ⟨-, hq1, hq2, -, -⟩ := hq
    have hN : n0 ≤ n6 := by omega
    have hT : s0 ≤ s7 := by omega
    refine W.widen (k := n6 - n0) (n := s7 - s0) (by omega) (by omega) ?_
    clear hM1 hM2 hax hC9 hw9 hq1 hq2 hq8 hq9
    refine lv_astore_n (lv' := [(2, .ref q10), (0, .ref Aa1), (1, .int a2)]) hx hb dJ7_copyOf_9075b_17 rfl hl (by decide) rfl (fun ls hl => ?_)
    refine lv_aload_n hx hb dJ7_copyOf_9075b_18 rfl (lv_at hl 1 rfl) ?_
    refine lv_iconst (v := 0) hx hb dJ7_copyOf_9075b_19 (by decide) ?_
    refine lv_aload_n hx hb dJ7_copyOf_9075b_20 rfl (lv_at hl 0 rfl) ?_
    refine lv_iconst (v := 0) hx hb dJ7_copyOf_9075b_21 (by decide) ?_
    refine lv_aload_n hx hb dJ7_copyOf_9075b_22 rfl (lv_at hl 1 rfl) ?_
    obtain ⟨x13, e14, hF⟩ := mg_o hF
    refine hs_lB hx hb hK hP hC hE hS ha1 e14 dJ7_copyOf_9075b_23 ?_
    refine lv_iload_n hx hb dJ7_copyOf_9075b_24 rfl (lv_at hl 2 rfl) ?_
    refine va_mmin hx hb (hml.trans hl.1.symm) hown (hts _ mw_665) (hts _ mw_666) (hts _ mw_650) (hts _ mw_667) (Nat.le_of_ble_eq_true rfl) (Nat.le_of_ble_eq_true rfl) (Nat.le_of_ble_eq_true rfl) (Nat.le_of_ble_eq_true rfl) dJ7_copyOf_9075b_25 ?_
    obtain ⟨E15, e16, hF⟩ := mw_o hF
    refine hs_copyB hx hb (hml.trans hl.1.symm) hown (hts _ mw_668) (hts _ mw_358) (hts _ mw_359) (hts _ mw_360) hK hP hD hC hE hS ha1 hr12 e16 (Nat.le_of_ble_eq_true rfl) (Nat.le_of_ble_eq_true rfl) dJ7_copyOf_9075b_28 (fun H locs hP hD hS => ?_)
    have hC := cpB_clo e16 hC
    refine lv_aload_n hx hb dJ7_copyOf_9075b_31 rfl (lv_at hl 0 rfl) ?_
    obtain ⟨ht9, hn9, hs9, hE9⟩ := mr_o hF
    subst hn9 hs9 hE9
    have hX9 := hX
    rw [hQ]
    exact W.aret (v := .ref q10) hx hb hr (by first | exact Or.inl ⟨_, rfl⟩ | exact Or.inr ⟨_, rfl⟩) (Or.inr ⟨_, rfl⟩) (fun t ht hW => ⟨⟨(), q10, rfl, trivial, _, hX, (by rw [← ht9]; exact hr12), by rw [ht]; exact hP, hD⟩, hS.F ht⟩) hS.2.2 dJ7_copyOf_9075b_32
  · skip
    rw [if_pos c3] at hF
    refine lv_aload_n hx hb dJ7_copyOf_9075b_6 rfl (lv_at hl 0 rfl) ?_
    obtain ⟨p22, e23, hF⟩ := mg_o hF
    obtain ⟨e23, hfit⟩ := aPf_s e23
    obtain ⟨x20, n17, s18, E19, hq, hF⟩ := mn_o hF
    have hM1 := mle1 hF
    have hM2 := mle2 hF
    have hq9 := hq.2.1
    have hq8 := hq.2.2.1
    obtain ⟨hp9, hpA⟩ := ch_in (cy := cy) hC ha1 e23
    refine va_clone hx hb (hml.trans hl.1.symm) hown (hts _ mw_659) (hts _ mw_660) (hts _ mw_661) (hts _ mw_662) (hts _ mw_663) hE.cl0 hK hP hD hS hA (a1) 0 (hp9 () ()) rfl (va_nm_byte (hK.2 0 _ rfl).2) (fun i v hv => arr_fit hfit hv) (Nat.le_of_ble_eq_true rfl) (Nat.le_of_ble_eq_true rfl) (show n0 - n0 + 1 ≤ nz - n0 by omega) (show s0 - s0 + p22.1 ≤ sz9 - s0 by omega) dJ7_copyOf_9075b_7 (fun q21 H hK9 hP hD hS => ?_)
    clear hK9 hp9 hpA
    obtain ⟨ad24, hax, hr25, hC9, hw9⟩ := new_w (cy := cy) (nb := nb) (ad := ad0) (e := .inl (0, p22.1, .inl p22.2)) trivial (fun _ => rfl) hC q21 hq
    rw [hw9] at hP hD
    have ha1 := ha1.mv hC.1 hax
    have hX := hX.trans hax
    have hC := hC9
    obtain ⟨-, hq1, hq2, -, -⟩ := hq
    have hN : n0 ≤ n17 := by omega
    have hT : s0 ≤ s18 := by omega
    refine W.widen (k := n17 - n0) (n := s18 - s0) (by omega) (by omega) ?_
    clear hM1 hM2 hax hC9 hw9 hq1 hq2 hq8 hq9
    obtain ⟨⟨m9, f9⟩, e26, hF⟩ := mg_o hF
    refine va_castA hx hb hown (hts _ mw_664) (rdP_ hP hC hr25 e26) 0 rfl (va_nm_byte (hK.2 0 _ rfl).2) dJ7_copyOf_9075b_10 ?_
    obtain ⟨ht9, hn9, hs9, hE9⟩ := mr_o hF
    subst hn9 hs9 hE9
    have hX9 := hX
    rw [hQ]
    exact W.aret (v := .ref q21) hx hb hr (by first | exact Or.inl ⟨_, rfl⟩ | exact Or.inr ⟨_, rfl⟩) (Or.inr ⟨_, rfl⟩) (fun t ht hW => ⟨⟨(), q21, rfl, trivial, _, hX, (by rw [← ht9]; exact hr25), by rw [ht]; exact hP, hD⟩, hS.F ht⟩) hS.2.2 dJ7_copyOf_9075b_13
noncomputable def H_J7_copyOfRangeByte_39247 (a1 : Nat) (a2 : Int32) (a3 : Int32) : MH Nat := mb (H_J7_checkLength_df160 (a2) (a3)) fun _ => mb (mp (ln (a3 - a2))) fun k6 => mb (nA 0 k6) fun x11 => mb (mg fun n E => lB n E (a1)) fun x15 => mb (mcB (a1) (a2) (x11) (0) ((if (a3 - a2) < (x15 - a2) then (a3 - a2) else (x15 - a2)))) fun _ => mr x11
set_option maxHeartbeats 4000000 in
set_option maxRecDepth 100000 in
theorem h_J7_copyOfRangeByte_39247 (l : Launch) (dC : Nat → ClassId) (dI : Nat → Nat → Nat) (cy : Nat → ClassId) (nb : Nat → Nat) (ad0 : Nat → Nat) (n0 s0 : Nat) (E0 : HE) (hC : clo n0 E0) (a1 Aa1 : Nat) (ha1 : rf nb ad0 n0 a1 Aa1) (a2 : Int32) (a3 : Int32) (sz : Nat) (ro : Nat) (nz sz9 : Nat) (Ez : HE) (hF : (H_J7_copyOfRangeByte_39247 a1 a2 a3).1 (n0, s0, E0) = some (ro, nz, sz9, Ez)) : Met l yJ7_copyOfRangeByte_39247 (wsg yJ7_copyOfRangeByte_39247 cJ7_copyOfRangeByte_39247 5 (some (.array .byte))) ({ frames := 9, cells := nz - n0, slots := sz9 - s0, locals := 400 }) (va_Pc [.ref Aa1, .int a2, .int a3] (fun U => U.heap.size = sz ∧ va_P (dC, dI) vwCl (CH cy nb ad0 n0 E0) U.heap ∧ va_K (dC, dI) vwCl (tyL cy) U ∧ va_D (fun _ => True) (CH cy nb ad0 n0 E0) ∧ GL nb (va_A (CH cy nb ad0 n0 E0) sz) U)) (va_Qr (fun (_ : Unit) => True) (fun _ ra t => ∃ ad2 : Nat → Nat, axh n0 ad0 nz ad2 ∧ rf nb ad2 nz ro ra ∧ va_P (dC, dI) vwCl (CH cy nb ad2 nz Ez) t.heap ∧ va_D (va_A (CH cy nb ad0 n0 E0) sz) (CH cy nb ad2 nz Ez)) (va_A (CH cy nb ad0 n0 E0) sz)) (nz - n0) (sz9 - s0) (va_A (CH cy nb ad0 n0 E0) sz) := by
  refine Met.ofW (cc := cJ7_copyOfRangeByte_39247) (maxL := 5) (ret := (some (.array .byte))) (by decide) rfl ?_
  intro p e s m args below meth c s₁ B hml hv
  obtain ⟨rfl, hsz, hP, hK, hD0, hE⟩ := hv
  have hx := B.exec
  have hb := B.bytes
  have hr := B.returns
  have hts0 := atoms_spec (ws := (wsg yJ7_copyOfRangeByte_39247 cJ7_copyOfRangeByte_39247 5 (some (.array .byte)))) B.pre
  have hts : ∀ w ∈ wsL_law, w.before _ s = true := fun w h => hts0 w (List.mem_cons_of_mem _ h)
  have hown : s.vm.findClass RJ7 = some m.cls := by have h9 := findClass_of_methodNamed B.named; exact h9
  subst hsz
  have hD := hD0.self (sz := s.heap.size)
  generalize hAe : va_A (CH cy nb ad0 n0 E0) s.heap.size = A at hD hE ⊢
  have hA : ∀ q : Nat, s.heap.size ≤ q → A q := fun q h => by rw [← hAe]; exact Or.inr h
  have hS : va_S A s.heap s.heap [] := va_S.rf
  have hl := lv_entry ([.ref Aa1, .int a2, .int a3]) (n := 5) (Nat.le_of_ble_eq_true rfl)
  rw [lg_entry_eq]
  generalize (lg_sl ([.ref Aa1, .int a2, .int a3]) ++ List.replicate (5 - (lg_sl ([.ref Aa1, .int a2, .int a3])).length) Slot.unset).toArray = ls at hl ⊢
  have hl : lv_has ls 5 [(0, .ref Aa1), (1, .int a2), (2, .int a3)] := hl
  generalize hHe : s.heap = H at hP hS ⊢
  have hS : va_S A s.heap H [] := by rw [hHe]; exact hS
  refine my_Q (fun Qn hQ => ?_)
  simp only [H_J7_copyOfRangeByte_39247] at hF
  have hX : axh n0 ad0 n0 ad0 := axh_refl
  have hN : n0 ≤ n0 := Nat.le_refl _
  have hT : s0 ≤ s0 := Nat.le_refl _
  refine W.widen (k := n0 - n0) (n := s0 - s0) (by omega) (by omega) ?_
  refine lv_iload_n hx hb dJ7_copyOfRangeByte_39247_0 rfl (lv_at hl 1 rfl) ?_
  refine lv_iload_n hx hb dJ7_copyOfRangeByte_39247_1 rfl (lv_at hl 2 rfl) ?_
  obtain ⟨⟨⟩, n2, s3, E4, e1, hF⟩ := mb_o hF
  have hm := mle e1
  have hM1 := mle1 hF
  have hM2 := mle2 hF
  have hm1 := hm.1
  have hm2 := hm.2.1
  have hFc := my_free hD hS hA
  refine va_callv (va_runS (As := [.int a2, .int a3]) (rest := []) ⟨hx, hb, hml, hown, hts⟩ (h_J7_checkLength_df160 l dC dI cy nb ad0 n0 s0 E0 hC (a2) (a3) H.size n2 s3 E4 e1) (va_cwS 2 hts (gS mw_815 mw_816 mw_96 mw_817) rfl rfl rfl (by decide +kernel) ⟨Nat.le_of_ble_eq_true rfl, Nat.le_of_ble_eq_true rfl⟩) (hl_preS hP hK hD hE hS hFc) rfl rfl hl.1 rfl (lv_room (Nat.le_of_ble_eq_true rfl)) dJ7_copyOfRangeByte_39247_2 ⟨show n0 - n0 + (n2 - n0) ≤ nz - n0 by omega, show s0 - s0 + (s3 - s0) ≤ sz9 - s0 by omega⟩) hS (fun q _ h => hFc q h) hFc (fun u t H1 locs ht hvm hw hB hz1 hk1 hS => ?_)
  obtain ⟨ad5, hax, hP1, hD1⟩ := hB
  rw [ht] at hP1
  have hP := hP1
  have hD := hD1.weaken (fun k q _ h => hFc q.1 h)
  generalize H1 = H at hP hS ⊢
  have ha1 := ha1.mv hC.1 hax
  have hX := hX.trans hax
  have hC := hm.2.2 hC
  have hN : n0 ≤ n2 := Nat.le_trans hN hm1
  have hT : s0 ≤ s3 := Nat.le_trans hT hm2
  refine W.widen (k := n2 - n0) (n := s3 - s0) (by omega) (by omega) ?_
  clear hP1 hD1 hFc hk1 hz1 hvm ht hax hm hm1 hm2 hM1 hM2
  refine lv_iload_n hx hb dJ7_copyOfRangeByte_39247_5 rfl (lv_at hl 2 rfl) ?_
  refine lv_iload_n hx hb dJ7_copyOfRangeByte_39247_6 rfl (lv_at hl 1 rfl) ?_
  refine lv_isub hx hb dJ7_copyOfRangeByte_39247_7 ?_
  refine lv_istore_n (lv' := [(3, .int (a3 - a2)), (0, .ref Aa1), (1, .int a2), (2, .int a3)]) hx hb dJ7_copyOfRangeByte_39247_8 rfl hl (by decide) rfl (fun ls hl => ?_)
  refine lv_iload_n hx hb dJ7_copyOfRangeByte_39247_9 rfl (lv_at hl 0 rfl) ?_
  obtain ⟨k6, e7, hF⟩ := mp_o hF
  obtain ⟨x11, n8, s9, E10, hq, hF⟩ := mn_o hF
  have hM1 := mle1 hF
  have hM2 := mle2 hF
  have hq9 := hq.2.1
  have hq8 := hq.2.2.1
  obtain ⟨l1, l2, l3⟩ := ln_s e7
  refine va_newa (atype := .byte) (ty := .byte) (N' := k6) (a0 := (k6, .inl (fun _ => 0))) hx hb (hts _ mw_29) rfl hK hP hD hS hA (fun _ => rfl) l1 l2 (show k6 * 1 ≤ 536870912 by omega) (show n2 - n0 + 1 ≤ nz - n0 by omega) (show s3 - s0 + k6 ≤ sz9 - s0 by omega) dJ7_copyOfRangeByte_39247_10 (fun q12 cA H hK9 hP hD hS => ?_)
  have hcA := my_cA hK9 hK 0 rfl
  subst hcA
  clear hK9 l1 l2 l3
  obtain ⟨ad13, hax, hr14, hC9, hw9⟩ := new_w (cy := cy) (nb := nb) (ad := ad5) (e := .inl (0, k6, .inl fun _ => 0)) trivial (fun _ => rfl) hC q12 hq
  rw [hw9] at hP hD
  have ha1 := ha1.mv hC.1 hax
  have hX := hX.trans hax
  have hC := hC9
  obtain ⟨-, hq1, hq2, -, -⟩ := hq
  have hN : n0 ≤ n8 := by omega
  have hT : s0 ≤ s9 := by omega
  refine W.widen (k := n8 - n0) (n := s9 - s0) (by omega) (by omega) ?_
  clear hM1 hM2 hax hC9 hw9 hq1 hq2 hq8 hq9
  refine lv_astore (lv' := [(4, .ref q12), (3, .int (a3 - a2)), (0, .ref Aa1), (1, .int a2), (2, .int a3)]) hx hb dJ7_copyOfRangeByte_39247_12 hl (by decide) rfl (fun ls hl => ?_)
  refine lv_aload_n hx hb dJ7_copyOfRangeByte_39247_14 rfl (lv_at hl 2 rfl) ?_
  refine lv_iload_n hx hb dJ7_copyOfRangeByte_39247_15 rfl (lv_at hl 3 rfl) ?_
  refine lv_aload hx hb dJ7_copyOfRangeByte_39247_16 (lv_at hl 0 rfl) ?_
  refine lv_iconst (v := 0) hx hb dJ7_copyOfRangeByte_39247_18 (by decide) ?_
  refine lv_aload_n hx hb dJ7_copyOfRangeByte_39247_19 rfl (lv_at hl 2 rfl) ?_
  obtain ⟨x15, e16, hF⟩ := mg_o hF
  refine hs_lB hx hb hK hP hC hE hS ha1 e16 dJ7_copyOfRangeByte_39247_20 ?_
  refine lv_iload_n hx hb dJ7_copyOfRangeByte_39247_21 rfl (lv_at hl 3 rfl) ?_
  refine lv_isub hx hb dJ7_copyOfRangeByte_39247_22 ?_
  refine lv_iload_n hx hb dJ7_copyOfRangeByte_39247_23 rfl (lv_at hl 1 rfl) ?_
  refine va_mmin hx hb (hml.trans hl.1.symm) hown (hts _ mw_665) (hts _ mw_666) (hts _ mw_650) (hts _ mw_667) (Nat.le_of_ble_eq_true rfl) (Nat.le_of_ble_eq_true rfl) (Nat.le_of_ble_eq_true rfl) (Nat.le_of_ble_eq_true rfl) dJ7_copyOfRangeByte_39247_24 ?_
  obtain ⟨E17, e18, hF⟩ := mw_o hF
  refine hs_copyB hx hb (hml.trans hl.1.symm) hown (hts _ mw_668) (hts _ mw_358) (hts _ mw_359) (hts _ mw_360) hK hP hD hC hE hS ha1 hr14 e18 (Nat.le_of_ble_eq_true rfl) (Nat.le_of_ble_eq_true rfl) dJ7_copyOfRangeByte_39247_27 (fun H locs hP hD hS => ?_)
  have hC := cpB_clo e18 hC
  refine lv_aload hx hb dJ7_copyOfRangeByte_39247_30 (lv_at hl 0 rfl) ?_
  obtain ⟨ht9, hn9, hs9, hE9⟩ := mr_o hF
  subst hn9 hs9 hE9
  have hX9 := hX
  rw [hQ]
  exact W.aret (v := .ref q12) hx hb hr (by first | exact Or.inl ⟨_, rfl⟩ | exact Or.inr ⟨_, rfl⟩) (Or.inr ⟨_, rfl⟩) (fun t ht hW => ⟨⟨(), q12, rfl, trivial, _, hX, (by rw [← ht9]; exact hr14), by rw [ht]; exact hP, hD⟩, hS.F ht⟩) hS.2.2 dJ7_copyOfRangeByte_39247_32
noncomputable def H_J7_copyOfRange_39247 (a1 : Nat) (a2 : Int32) (a3 : Int32) : MH Nat := if a2 = 0 then (mb (mg fun n E => lB n E (a1)) fun x10 => if a3 = x10 then (mb (mg fun n E => aPf n E (a1)) fun p18 => mb (mn p18.1 (.inl (0, p18.1, .inl p18.2)) trivial) fun x16 => mb (mg fun n E => aP n E (x16) 0) fun _ => mr x16) else (mb (H_J7_copyOfRangeByte_39247 (a1) (a2) (a3)) fun x23 => mr x23)) else (mb (H_J7_copyOfRangeByte_39247 (a1) (a2) (a3)) fun x2 => mr x2)
set_option maxHeartbeats 4000000 in
set_option maxRecDepth 100000 in
theorem h_J7_copyOfRange_39247 (l : Launch) (dC : Nat → ClassId) (dI : Nat → Nat → Nat) (cy : Nat → ClassId) (nb : Nat → Nat) (ad0 : Nat → Nat) (n0 s0 : Nat) (E0 : HE) (hC : clo n0 E0) (a1 Aa1 : Nat) (ha1 : rf nb ad0 n0 a1 Aa1) (a2 : Int32) (a3 : Int32) (sz : Nat) (ro : Nat) (nz sz9 : Nat) (Ez : HE) (hF : (H_J7_copyOfRange_39247 a1 a2 a3).1 (n0, s0, E0) = some (ro, nz, sz9, Ez)) : Met l yJ7_copyOfRange_39247 (wsg yJ7_copyOfRange_39247 cJ7_copyOfRange_39247 3 (some (.array .byte))) ({ frames := 10, cells := nz - n0, slots := sz9 - s0, locals := 500 }) (va_Pc [.ref Aa1, .int a2, .int a3] (fun U => U.heap.size = sz ∧ va_P (dC, dI) vwCl (CH cy nb ad0 n0 E0) U.heap ∧ va_K (dC, dI) vwCl (tyL cy) U ∧ va_D (fun _ => True) (CH cy nb ad0 n0 E0) ∧ GL nb (va_A (CH cy nb ad0 n0 E0) sz) U)) (va_Qr (fun (_ : Unit) => True) (fun _ ra t => ∃ ad2 : Nat → Nat, axh n0 ad0 nz ad2 ∧ rf nb ad2 nz ro ra ∧ va_P (dC, dI) vwCl (CH cy nb ad2 nz Ez) t.heap ∧ va_D (va_A (CH cy nb ad0 n0 E0) sz) (CH cy nb ad2 nz Ez)) (va_A (CH cy nb ad0 n0 E0) sz)) (nz - n0) (sz9 - s0) (va_A (CH cy nb ad0 n0 E0) sz) := by
  refine Met.ofW (cc := cJ7_copyOfRange_39247) (maxL := 3) (ret := (some (.array .byte))) (by decide) rfl ?_
  intro p e s m args below meth c s₁ B hml hv
  obtain ⟨rfl, hsz, hP, hK, hD0, hE⟩ := hv
  have hx := B.exec
  have hb := B.bytes
  have hr := B.returns
  have hts0 := atoms_spec (ws := (wsg yJ7_copyOfRange_39247 cJ7_copyOfRange_39247 3 (some (.array .byte)))) B.pre
  have hts : ∀ w ∈ wsL_law, w.before _ s = true := fun w h => hts0 w (List.mem_cons_of_mem _ h)
  have hown : s.vm.findClass RJ7 = some m.cls := by have h9 := findClass_of_methodNamed B.named; exact h9
  subst hsz
  have hD := hD0.self (sz := s.heap.size)
  generalize hAe : va_A (CH cy nb ad0 n0 E0) s.heap.size = A at hD hE ⊢
  have hA : ∀ q : Nat, s.heap.size ≤ q → A q := fun q h => by rw [← hAe]; exact Or.inr h
  have hS : va_S A s.heap s.heap [] := va_S.rf
  have hl := lv_entry ([.ref Aa1, .int a2, .int a3]) (n := 3) (Nat.le_of_ble_eq_true rfl)
  rw [lg_entry_eq]
  generalize (lg_sl ([.ref Aa1, .int a2, .int a3]) ++ List.replicate (3 - (lg_sl ([.ref Aa1, .int a2, .int a3])).length) Slot.unset).toArray = ls at hl ⊢
  have hl : lv_has ls 3 [(0, .ref Aa1), (1, .int a2), (2, .int a3)] := hl
  generalize hHe : s.heap = H at hP hS ⊢
  have hS : va_S A s.heap H [] := by rw [hHe]; exact hS
  refine my_Q (fun Qn hQ => ?_)
  simp only [H_J7_copyOfRange_39247] at hF
  have hX : axh n0 ad0 n0 ad0 := axh_refl
  have hN : n0 ≤ n0 := Nat.le_refl _
  have hT : s0 ≤ s0 := Nat.le_refl _
  refine W.widen (k := n0 - n0) (n := s0 - s0) (by omega) (by omega) ?_
  refine lv_iload_n hx hb dJ7_copyOfRange_39247_0 rfl (lv_at hl 1 rfl) ?_
  refine lv_if_ne (tgt := 10) hx hb dJ7_copyOfRange_39247_1 (by decide) (fun c1 => ?_) (fun c1 => ?_)
  · skip
    rw [if_neg c1] at hF
    refine lv_aload_n hx hb dJ7_copyOfRange_39247_10 rfl (lv_at hl 0 rfl) ?_
    refine lv_iload_n hx hb dJ7_copyOfRange_39247_11 rfl (lv_at hl 1 rfl) ?_
    refine lv_iload_n hx hb dJ7_copyOfRange_39247_12 rfl (lv_at hl 2 rfl) ?_
    obtain ⟨x2, n4, s5, E6, e3, hF⟩ := mb_o hF
    have hm := mle e3
    have hM1 := mle1 hF
    have hM2 := mle2 hF
    have hm1 := hm.1
    have hm2 := hm.2.1
    have hFc := my_free hD hS hA
    refine va_callr (va_runS (As := [.ref Aa1, .int a2, .int a3]) (rest := []) ⟨hx, hb, hml, hown, hts⟩ (h_J7_copyOfRangeByte_39247 l dC dI cy nb ad0 n0 s0 E0 hC (a1) Aa1 ha1 (a2) (a3) H.size x2 n4 s5 E6 e3) (va_cwS 3 hts (gS mw_812 mw_813 mw_96 mw_814) rfl rfl rfl (by decide +kernel) ⟨Nat.le_of_ble_eq_true rfl, Nat.le_of_ble_eq_true rfl⟩) (hl_preS hP hK hD hE hS hFc) rfl rfl hl.1 rfl (lv_room (Nat.le_of_ble_eq_true rfl)) dJ7_copyOfRange_39247_13 ⟨show n0 - n0 + (n4 - n0) ≤ nz - n0 by omega, show s0 - s0 + (s5 - s0) ≤ sz9 - s0 by omega⟩) hS (fun q _ h => hFc q h) hFc (fun u ra t H1 locs ht hvm hw hB hz1 hk1 hS => ?_)
    obtain ⟨ad7, hax, hr8, hP1, hD1⟩ := hB
    rw [ht] at hP1
    have hP := hP1
    have hD := hD1.weaken (fun k q _ h => hFc q.1 h)
    generalize H1 = H at hP hS ⊢
    have ha1 := ha1.mv hC.1 hax
    have hX := hX.trans hax
    have hC := hm.2.2 hC
    have hN : n0 ≤ n4 := Nat.le_trans hN hm1
    have hT : s0 ≤ s5 := Nat.le_trans hT hm2
    refine W.widen (k := n4 - n0) (n := s5 - s0) (by omega) (by omega) ?_
    clear hP1 hD1 hFc hk1 hz1 hvm ht hax hm hm1 hm2 hM1 hM2
    refine my_top (y := .ref (AD nb ad7 x2)) (congrArg Value.ref hr8.2.symm) ?_
    have hr8 := rf_self hr8
    obtain ⟨ht9, hn9, hs9, hE9⟩ := mr_o hF
    subst hn9 hs9 hE9
    have hX9 := hX
    rw [hQ]
    exact W.aret (v := .ref (AD nb ad7 x2)) hx hb hr (by first | exact Or.inl ⟨_, rfl⟩ | exact Or.inr ⟨_, rfl⟩) (Or.inr ⟨_, rfl⟩) (fun t ht hW => ⟨⟨(), (AD nb ad7 x2), rfl, trivial, _, hX, (by rw [← ht9]; exact hr8), by rw [ht]; exact hP, hD⟩, hS.F ht⟩) hS.2.2 dJ7_copyOfRange_39247_16
  · skip
    rw [if_pos c1] at hF
    refine lv_iload_n hx hb dJ7_copyOfRange_39247_4 rfl (lv_at hl 2 rfl) ?_
    refine lv_aload_n hx hb dJ7_copyOfRange_39247_5 rfl (lv_at hl 0 rfl) ?_
    obtain ⟨x10, e11, hF⟩ := mg_o hF
    refine hs_lB hx hb hK hP hC hE hS ha1 e11 dJ7_copyOfRange_39247_6 ?_
    refine lv_icmp_eq (tgt := 17) hx hb dJ7_copyOfRange_39247_7 (by decide) (fun c12 => ?_) (fun c12 => ?_)
    · skip
      rw [if_pos c12] at hF
      refine lv_aload_n hx hb dJ7_copyOfRange_39247_17 rfl (lv_at hl 0 rfl) ?_
      obtain ⟨p18, e19, hF⟩ := mg_o hF
      obtain ⟨e19, hfit⟩ := aPf_s e19
      obtain ⟨x16, n13, s14, E15, hq, hF⟩ := mn_o hF
      have hM1 := mle1 hF
      have hM2 := mle2 hF
      have hq9 := hq.2.1
      have hq8 := hq.2.2.1
      obtain ⟨hp9, hpA⟩ := ch_in (cy := cy) hC ha1 e19
      refine va_clone hx hb (hml.trans hl.1.symm) hown (hts _ mw_659) (hts _ mw_660) (hts _ mw_661) (hts _ mw_662) (hts _ mw_663) hE.cl0 hK hP hD hS hA (a1) 0 (hp9 () ()) rfl (va_nm_byte (hK.2 0 _ rfl).2) (fun i v hv => arr_fit hfit hv) (Nat.le_of_ble_eq_true rfl) (Nat.le_of_ble_eq_true rfl) (show n0 - n0 + 1 ≤ nz - n0 by omega) (show s0 - s0 + p18.1 ≤ sz9 - s0 by omega) dJ7_copyOfRange_39247_18 (fun q17 H hK9 hP hD hS => ?_)
      clear hK9 hp9 hpA
      obtain ⟨ad20, hax, hr21, hC9, hw9⟩ := new_w (cy := cy) (nb := nb) (ad := ad0) (e := .inl (0, p18.1, .inl p18.2)) trivial (fun _ => rfl) hC q17 hq
      rw [hw9] at hP hD
      have ha1 := ha1.mv hC.1 hax
      have hX := hX.trans hax
      have hC := hC9
      obtain ⟨-, hq1, hq2, -, -⟩ := hq
      have hN : n0 ≤ n13 := by omega
      have hT : s0 ≤ s14 := by omega
      refine W.widen (k := n13 - n0) (n := s14 - s0) (by omega) (by omega) ?_
      clear hM1 hM2 hax hC9 hw9 hq1 hq2 hq8 hq9
      obtain ⟨⟨m9, f9⟩, e22, hF⟩ := mg_o hF
      refine va_castA hx hb hown (hts _ mw_664) (rdP_ hP hC hr21 e22) 0 rfl (va_nm_byte (hK.2 0 _ rfl).2) dJ7_copyOfRange_39247_21 ?_
      obtain ⟨ht9, hn9, hs9, hE9⟩ := mr_o hF
      subst hn9 hs9 hE9
      have hX9 := hX
      rw [hQ]
      exact W.aret (v := .ref q17) hx hb hr (by first | exact Or.inl ⟨_, rfl⟩ | exact Or.inr ⟨_, rfl⟩) (Or.inr ⟨_, rfl⟩) (fun t ht hW => ⟨⟨(), q17, rfl, trivial, _, hX, (by rw [← ht9]; exact hr21), by rw [ht]; exact hP, hD⟩, hS.F ht⟩) hS.2.2 dJ7_copyOfRange_39247_24
    · skip
      rw [if_neg c12] at hF
      refine lv_aload_n hx hb dJ7_copyOfRange_39247_10 rfl (lv_at hl 0 rfl) ?_
      refine lv_iload_n hx hb dJ7_copyOfRange_39247_11 rfl (lv_at hl 1 rfl) ?_
      refine lv_iload_n hx hb dJ7_copyOfRange_39247_12 rfl (lv_at hl 2 rfl) ?_
      obtain ⟨x23, n25, s26, E27, e24, hF⟩ := mb_o hF
      have hm := mle e24
      have hM1 := mle1 hF
      have hM2 := mle2 hF
      have hm1 := hm.1
      have hm2 := hm.2.1
      have hFc := my_free hD hS hA
      refine va_callr (va_runS (As := [.ref Aa1, .int a2, .int a3]) (rest := []) ⟨hx, hb, hml, hown, hts⟩ (h_J7_copyOfRangeByte_39247 l dC dI cy nb ad0 n0 s0 E0 hC (a1) Aa1 ha1 (a2) (a3) H.size x23 n25 s26 E27 e24) (va_cwS 3 hts (gS mw_812 mw_813 mw_96 mw_814) rfl rfl rfl (by decide +kernel) ⟨Nat.le_of_ble_eq_true rfl, Nat.le_of_ble_eq_true rfl⟩) (hl_preS hP hK hD hE hS hFc) rfl rfl hl.1 rfl (lv_room (Nat.le_of_ble_eq_true rfl)) dJ7_copyOfRange_39247_13 ⟨show n0 - n0 + (n25 - n0) ≤ nz - n0 by omega, show s0 - s0 + (s26 - s0) ≤ sz9 - s0 by omega⟩) hS (fun q _ h => hFc q h) hFc (fun u ra t H1 locs ht hvm hw hB hz1 hk1 hS => ?_)
      obtain ⟨ad28, hax, hr29, hP1, hD1⟩ := hB
      rw [ht] at hP1
      have hP := hP1
      have hD := hD1.weaken (fun k q _ h => hFc q.1 h)
      generalize H1 = H at hP hS ⊢
      have ha1 := ha1.mv hC.1 hax
      have hX := hX.trans hax
      have hC := hm.2.2 hC
      have hN : n0 ≤ n25 := Nat.le_trans hN hm1
      have hT : s0 ≤ s26 := Nat.le_trans hT hm2
      refine W.widen (k := n25 - n0) (n := s26 - s0) (by omega) (by omega) ?_
      clear hP1 hD1 hFc hk1 hz1 hvm ht hax hm hm1 hm2 hM1 hM2
      refine my_top (y := .ref (AD nb ad28 x23)) (congrArg Value.ref hr29.2.symm) ?_
      have hr29 := rf_self hr29
      obtain ⟨ht9, hn9, hs9, hE9⟩ := mr_o hF
      subst hn9 hs9 hE9
      have hX9 := hX
      rw [hQ]
      exact W.aret (v := .ref (AD nb ad28 x23)) hx hb hr (by first | exact Or.inl ⟨_, rfl⟩ | exact Or.inr ⟨_, rfl⟩) (Or.inr ⟨_, rfl⟩) (fun t ht hW => ⟨⟨(), (AD nb ad28 x23), rfl, trivial, _, hX, (by rw [← ht9]; exact hr29), by rw [ht]; exact hP, hD⟩, hS.F ht⟩) hS.2.2 dJ7_copyOfRange_39247_16
noncomputable def H_J5_newCapacity_0f7a4 (a0 : Nat) (a1 : Int32) : MH Int32 := mb (rR (a0) 1 0) fun x1 => mb (mg fun n E => lB n E (x1)) fun x4 => mb (rI (a0) 1 1) fun x6 => mb (rI (a0) 1 1) fun x8 => mb (H_J8_newLength_cabcc (x4) (((a1 <<< (x6 &&& 31)) - x4)) ((x4 + ((2 : Int32) <<< (x8 &&& 31))))) fun x10 => if x10 = 2147483647 then (m0) else (mb (rI (a0) 1 1) fun x17 => mr (x10 >>> (x17 &&& 31)))
set_option maxHeartbeats 4000000 in
set_option maxRecDepth 100000 in
theorem h_J5_newCapacity_0f7a4 (l : Launch) (dC : Nat → ClassId) (dI : Nat → Nat → Nat) (cy : Nat → ClassId) (nb : Nat → Nat) (ad0 : Nat → Nat) (n0 s0 : Nat) (E0 : HE) (hC : clo n0 E0) (a0 Aa0 : Nat) (ha0 : rf nb ad0 n0 a0 Aa0) (a1 : Int32) (sz : Nat) (ro : Int32) (nz sz9 : Nat) (Ez : HE) (hF : (H_J5_newCapacity_0f7a4 a0 a1).1 (n0, s0, E0) = some (ro, nz, sz9, Ez)) : Met l yJ5_newCapacity_0f7a4 (wsg yJ5_newCapacity_0f7a4 cJ5_newCapacity_0f7a4 6 (some .int)) ({ frames := 9, cells := nz - n0, slots := sz9 - s0, locals := 400 }) (va_Pc [.ref Aa0, .int a1] (fun U => U.heap.size = sz ∧ va_P (dC, dI) vwCl (CH cy nb ad0 n0 E0) U.heap ∧ va_K (dC, dI) vwCl (tyL cy) U ∧ va_D (fun _ => True) (CH cy nb ad0 n0 E0) ∧ GL nb (va_A (CH cy nb ad0 n0 E0) sz) U)) (va_Qi (fun (r : Int32) (_ : Unit) => r = ro) (fun _ t => ∃ ad2 : Nat → Nat, axh n0 ad0 nz ad2 ∧ va_P (dC, dI) vwCl (CH cy nb ad2 nz Ez) t.heap ∧ va_D (va_A (CH cy nb ad0 n0 E0) sz) (CH cy nb ad2 nz Ez)) (va_A (CH cy nb ad0 n0 E0) sz)) (nz - n0) (sz9 - s0) (va_A (CH cy nb ad0 n0 E0) sz) := by
  refine Met.ofW (cc := cJ5_newCapacity_0f7a4) (maxL := 6) (ret := (some .int)) (by decide) rfl ?_
  intro p e s m args below meth c s₁ B hml hv
  obtain ⟨rfl, hsz, hP, hK, hD0, hE⟩ := hv
  have hx := B.exec
  have hb := B.bytes
  have hr := B.returns
  have hts0 := atoms_spec (ws := (wsg yJ5_newCapacity_0f7a4 cJ5_newCapacity_0f7a4 6 (some .int))) B.pre
  have hts : ∀ w ∈ wsL_law, w.before _ s = true := fun w h => hts0 w (List.mem_cons_of_mem _ h)
  have hown : s.vm.findClass RJ5 = some m.cls := by have h9 := findClass_of_methodNamed B.named; exact h9
  subst hsz
  have hD := hD0.self (sz := s.heap.size)
  generalize hAe : va_A (CH cy nb ad0 n0 E0) s.heap.size = A at hD hE ⊢
  have hA : ∀ q : Nat, s.heap.size ≤ q → A q := fun q h => by rw [← hAe]; exact Or.inr h
  have hS : va_S A s.heap s.heap [] := va_S.rf
  have hl := lv_entry ([.ref Aa0, .int a1]) (n := 6) (Nat.le_of_ble_eq_true rfl)
  rw [lg_entry_eq]
  generalize (lg_sl ([.ref Aa0, .int a1]) ++ List.replicate (6 - (lg_sl ([.ref Aa0, .int a1])).length) Slot.unset).toArray = ls at hl ⊢
  have hl : lv_has ls 6 [(0, .ref Aa0), (1, .int a1)] := hl
  generalize hHe : s.heap = H at hP hS ⊢
  have hS : va_S A s.heap H [] := by rw [hHe]; exact hS
  refine my_Q (fun Qn hQ => ?_)
  simp only [H_J5_newCapacity_0f7a4] at hF
  have hX : axh n0 ad0 n0 ad0 := axh_refl
  have hN : n0 ≤ n0 := Nat.le_refl _
  have hT : s0 ≤ s0 := Nat.le_refl _
  refine W.widen (k := n0 - n0) (n := s0 - s0) (by omega) (by omega) ?_
  refine lv_aload_n hx hb dJ5_newCapacity_0f7a4_0 rfl (lv_at hl 0 rfl) ?_
  obtain ⟨x1, e2, hF⟩ := mg_o hF
  obtain ⟨hr3, fs9, h9, g9⟩ := rdR hP hC ha0 e2
  refine va_get (D := (dC, dI)) (ci := 1) (v := .ref (AD nb ad0 x1)) (C := RJ4) (T := TJ4) (N := 4) hx hb hts inlJ4 hown hK h9 0 rfl rfl 0 (by decide) (hts _ mw_590) (fun _ h9 => h9) g9 dJ5_newCapacity_0f7a4_1 ?_
  clear h9 g9
  obtain ⟨x4, e5, hF⟩ := mg_o hF
  refine hs_lB hx hb hK hP hC hE hS hr3 e5 dJ5_newCapacity_0f7a4_4 ?_
  refine lv_istore_n (lv' := [(2, .int x4), (0, .ref Aa0), (1, .int a1)]) hx hb dJ5_newCapacity_0f7a4_5 rfl hl (by decide) rfl (fun ls hl => ?_)
  refine lv_iload_n hx hb dJ5_newCapacity_0f7a4_6 rfl (lv_at hl 2 rfl) ?_
  refine lv_aload_n hx hb dJ5_newCapacity_0f7a4_7 rfl (lv_at hl 1 rfl) ?_
  obtain ⟨x6, e7, hF⟩ := mg_o hF
  obtain ⟨fs9, h9, g9⟩ := rdI hP hC ha0 e7
  refine va_get (D := (dC, dI)) (ci := 1) (v := .int x6) (C := RJ4) (T := TJ4) (N := 4) hx hb hts inlJ4 hown hK h9 0 rfl rfl 1 (by decide) (hts _ mw_591) (fun _ h9 => h9) g9 dJ5_newCapacity_0f7a4_8 ?_
  clear h9 g9
  refine lv_ishl hx hb dJ5_newCapacity_0f7a4_11 ?_
  refine lv_istore_n (lv' := [(3, .int (a1 <<< (x6 &&& 31))), (2, .int x4), (0, .ref Aa0), (1, .int a1)]) hx hb dJ5_newCapacity_0f7a4_12 rfl hl (by decide) rfl (fun ls hl => ?_)
  refine lv_iload_n hx hb dJ5_newCapacity_0f7a4_13 rfl (lv_at hl 0 rfl) ?_
  refine lv_iload_n hx hb dJ5_newCapacity_0f7a4_14 rfl (lv_at hl 1 rfl) ?_
  refine lv_isub hx hb dJ5_newCapacity_0f7a4_15 ?_
  refine lv_istore (lv' := [(4, .int ((a1 <<< (x6 &&& 31)) - x4)), (3, .int (a1 <<< (x6 &&& 31))), (2, .int x4), (0, .ref Aa0), (1, .int a1)]) hx hb dJ5_newCapacity_0f7a4_16 hl (by decide) rfl (fun ls hl => ?_)
  refine lv_iload_n hx hb dJ5_newCapacity_0f7a4_18 rfl (lv_at hl 2 rfl) ?_
  refine lv_iload hx hb dJ5_newCapacity_0f7a4_19 (lv_at hl 0 rfl) ?_
  refine lv_iload_n hx hb dJ5_newCapacity_0f7a4_21 rfl (lv_at hl 2 rfl) ?_
  refine lv_iconst (v := 2) hx hb dJ5_newCapacity_0f7a4_22 (by decide) ?_
  refine lv_aload_n hx hb dJ5_newCapacity_0f7a4_23 rfl (lv_at hl 3 rfl) ?_
  obtain ⟨x8, e9, hF⟩ := mg_o hF
  obtain ⟨fs9, h9, g9⟩ := rdI hP hC ha0 e9
  refine va_get (D := (dC, dI)) (ci := 1) (v := .int x8) (C := RJ4) (T := TJ4) (N := 4) hx hb hts inlJ4 hown hK h9 0 rfl rfl 1 (by decide) (hts _ mw_591) (fun _ h9 => h9) g9 dJ5_newCapacity_0f7a4_24 ?_
  clear h9 g9
  refine lv_ishl hx hb dJ5_newCapacity_0f7a4_27 ?_
  refine lv_iadd hx hb dJ5_newCapacity_0f7a4_28 ?_
  obtain ⟨x10, n12, s13, E14, e11, hF⟩ := mb_o hF
  have hm := mle e11
  have hM1 := mle1 hF
  have hM2 := mle2 hF
  have hm1 := hm.1
  have hm2 := hm.2.1
  have hFc := my_free hD hS hA
  refine va_calli (va_runS (As := [.int x4, .int ((a1 <<< (x6 &&& 31)) - x4), .int (x4 + ((2 : Int32) <<< (x8 &&& 31)))]) (rest := []) ⟨hx, hb, hml, hown, hts⟩ (h_J8_newLength_cabcc l dC dI cy nb ad0 n0 s0 E0 hC (x4) (((a1 <<< (x6 &&& 31)) - x4)) ((x4 + ((2 : Int32) <<< (x8 &&& 31)))) H.size x10 n12 s13 E14 e11) (va_cwS 3 hts (gS mw_644 mw_645 mw_646 mw_647) rfl rfl rfl (by decide +kernel) ⟨Nat.le_of_ble_eq_true rfl, Nat.le_of_ble_eq_true rfl⟩) (hl_preS hP hK hD hE hS hFc) rfl rfl hl.1 rfl (lv_room (Nat.le_of_ble_eq_true rfl)) dJ5_newCapacity_0f7a4_29 ⟨show n0 - n0 + (n12 - n0) ≤ nz - n0 by omega, show s0 - s0 + (s13 - s0) ≤ sz9 - s0 by omega⟩) hS (fun q _ h => hFc q h) hFc (fun r9 u t H1 locs ht hvm hw hB hz1 hk1 hS => ?_)
  obtain ⟨ad15, hax, hP1, hD1⟩ := hB
  rw [ht] at hP1
  have hP := hP1
  have hD := hD1.weaken (fun k q _ h => hFc q.1 h)
  generalize H1 = H at hP hS ⊢
  have ha0 := ha0.mv hC.1 hax
  have hX := hX.trans hax
  have hC := hm.2.2 hC
  have hN : n0 ≤ n12 := Nat.le_trans hN hm1
  have hT : s0 ≤ s13 := Nat.le_trans hT hm2
  refine W.widen (k := n12 - n0) (n := s13 - s0) (by omega) (by omega) ?_
  clear hP1 hD1 hFc hk1 hz1 hvm ht hax hm hm1 hm2 hM1 hM2
  obtain rfl := hw.symm
  refine lv_istore (lv' := [(5, .int x10), (4, .int ((a1 <<< (x6 &&& 31)) - x4)), (3, .int (a1 <<< (x6 &&& 31))), (2, .int x4), (0, .ref Aa0), (1, .int a1)]) hx hb dJ5_newCapacity_0f7a4_32 hl (by decide) rfl (fun ls hl => ?_)
  refine lv_iload hx hb dJ5_newCapacity_0f7a4_34 (lv_at hl 0 rfl) ?_
  refine lv_ldc (v := 2147483647) hx hb hown (hts _ mw_643) dJ5_newCapacity_0f7a4_36 ?_
  refine lv_icmp_ne (tgt := 51) hx hb dJ5_newCapacity_0f7a4_38 (by decide) (fun c16 => ?_) (fun c16 => ?_)
  · skip
    rw [if_neg c16] at hF
    refine lv_iload hx hb dJ5_newCapacity_0f7a4_51 (lv_at hl 0 rfl) ?_
    refine lv_aload_n hx hb dJ5_newCapacity_0f7a4_53 rfl (lv_at hl 4 rfl) ?_
    obtain ⟨x17, e18, hF⟩ := mg_o hF
    obtain ⟨fs9, h9, g9⟩ := rdI hP hC ha0 e18
    refine va_get (D := (dC, dI)) (ci := 1) (v := .int x17) (C := RJ4) (T := TJ4) (N := 4) hx hb hts inlJ4 hown hK h9 0 rfl rfl 1 (by decide) (hts _ mw_591) (fun _ h9 => h9) g9 dJ5_newCapacity_0f7a4_54 ?_
    clear h9 g9
    refine lv_ishr hx hb dJ5_newCapacity_0f7a4_57 ?_
    obtain ⟨ht9, hn9, hs9, hE9⟩ := mr_o hF
    subst hn9 hs9 hE9
    have hX9 := hX
    rw [hQ]
    exact W.iret (v := (x10 >>> (x17 &&& 31))) hx hb hr (fun t ht hW => ⟨⟨(x10 >>> (x17 &&& 31)), (), rfl, ht9, _, hX, by rw [ht]; exact hP, hD⟩, hS.F ht⟩) hS.2.2 dJ5_newCapacity_0f7a4_58
  · skip
    rw [if_pos c16] at hF
    exact (m0_o hF).elim
noncomputable def H_J5_ensureCapacityInternal_d00df (a0 : Nat) (a1 : Int32) : MH Unit := mb (rR (a0) 1 0) fun x1 => mb (mg fun n E => lB n E (x1)) fun x4 => mb (rI (a0) 1 1) fun x6 => mb (if (a1 - (x4 >>> (x6 &&& 31))) ≤ 0 then (mr ()) else (mb (rR (a0) 1 0) fun x19 => mb (mg fun n E => fO n E (a0) 1) fun _ => mb (H_J5_newCapacity_0f7a4 (a0) (a1)) fun x23 => mb (rI (a0) 1 1) fun x29 => mb (H_J7_copyOf_9075b (x19) ((x23 <<< (x29 &&& 31)))) fun x31 => mb (wR (a0) 1 0 (x31)) fun _ => mr ()) : MH (Unit)) fun t9 => mr ()
set_option maxHeartbeats 4000000 in
set_option maxRecDepth 100000 in
theorem h_J5_ensureCapacityInternal_d00df (l : Launch) (dC : Nat → ClassId) (dI : Nat → Nat → Nat) (cy : Nat → ClassId) (nb : Nat → Nat) (ad0 : Nat → Nat) (n0 s0 : Nat) (E0 : HE) (hC : clo n0 E0) (a0 Aa0 : Nat) (ha0 : rf nb ad0 n0 a0 Aa0) (a1 : Int32) (sz : Nat) (nz sz9 : Nat) (Ez : HE) (hF : (H_J5_ensureCapacityInternal_d00df a0 a1).1 (n0, s0, E0) = some ((), nz, sz9, Ez)) : Met l yJ5_ensureCapacityInternal_d00df (wsg yJ5_ensureCapacityInternal_d00df cJ5_ensureCapacityInternal_d00df 3 none) ({ frames := 10, cells := nz - n0, slots := sz9 - s0, locals := 500 }) (va_Pc [.ref Aa0, .int a1] (fun U => U.heap.size = sz ∧ va_P (dC, dI) vwCl (CH cy nb ad0 n0 E0) U.heap ∧ va_K (dC, dI) vwCl (tyL cy) U ∧ va_D (fun _ => True) (CH cy nb ad0 n0 E0) ∧ GL nb (va_A (CH cy nb ad0 n0 E0) sz) U)) (va_Qv (fun (_ : Unit) => True) (fun _ t => ∃ ad2 : Nat → Nat, axh n0 ad0 nz ad2 ∧ va_P (dC, dI) vwCl (CH cy nb ad2 nz Ez) t.heap ∧ va_D (va_A (CH cy nb ad0 n0 E0) sz) (CH cy nb ad2 nz Ez)) (va_A (CH cy nb ad0 n0 E0) sz)) (nz - n0) (sz9 - s0) (va_A (CH cy nb ad0 n0 E0) sz) := by
  refine Met.ofW (cc := cJ5_ensureCapacityInternal_d00df) (maxL := 3) (ret := none) (by decide) rfl ?_
  intro p e s m args below meth c s₁ B hml hv
  obtain ⟨rfl, hsz, hP, hK, hD0, hE⟩ := hv
  have hx := B.exec
  have hb := B.bytes
  have hr := B.returns
  have hts0 := atoms_spec (ws := (wsg yJ5_ensureCapacityInternal_d00df cJ5_ensureCapacityInternal_d00df 3 none)) B.pre
  have hts : ∀ w ∈ wsL_law, w.before _ s = true := fun w h => hts0 w (List.mem_cons_of_mem _ h)
  have hown : s.vm.findClass RJ5 = some m.cls := by have h9 := findClass_of_methodNamed B.named; exact h9
  subst hsz
  have hD := hD0.self (sz := s.heap.size)
  generalize hAe : va_A (CH cy nb ad0 n0 E0) s.heap.size = A at hD hE ⊢
  have hA : ∀ q : Nat, s.heap.size ≤ q → A q := fun q h => by rw [← hAe]; exact Or.inr h
  have hS : va_S A s.heap s.heap [] := va_S.rf
  have hl := lv_entry ([.ref Aa0, .int a1]) (n := 3) (Nat.le_of_ble_eq_true rfl)
  rw [lg_entry_eq]
  generalize (lg_sl ([.ref Aa0, .int a1]) ++ List.replicate (3 - (lg_sl ([.ref Aa0, .int a1])).length) Slot.unset).toArray = ls at hl ⊢
  have hl : lv_has ls 3 [(0, .ref Aa0), (1, .int a1)] := hl
  generalize hHe : s.heap = H at hP hS ⊢
  have hS : va_S A s.heap H [] := by rw [hHe]; exact hS
  refine my_Q (fun Qn hQ => ?_)
  simp only [H_J5_ensureCapacityInternal_d00df] at hF
  have hX : axh n0 ad0 n0 ad0 := axh_refl
  have hN : n0 ≤ n0 := Nat.le_refl _
  have hT : s0 ≤ s0 := Nat.le_refl _
  refine W.widen (k := n0 - n0) (n := s0 - s0) (by omega) (by omega) ?_
  refine lv_aload_n hx hb dJ5_ensureCapacityInternal_d00df_0 rfl (lv_at hl 0 rfl) ?_
  obtain ⟨x1, e2, hF⟩ := mg_o hF
  obtain ⟨hr3, fs9, h9, g9⟩ := rdR hP hC ha0 e2
  refine va_get (D := (dC, dI)) (ci := 1) (v := .ref (AD nb ad0 x1)) (C := RJ4) (T := TJ4) (N := 4) hx hb hts inlJ4 hown hK h9 0 rfl rfl 0 (by decide) (hts _ mw_590) (fun _ h9 => h9) g9 dJ5_ensureCapacityInternal_d00df_1 ?_
  clear h9 g9
  obtain ⟨x4, e5, hF⟩ := mg_o hF
  refine hs_lB hx hb hK hP hC hE hS hr3 e5 dJ5_ensureCapacityInternal_d00df_4 ?_
  refine lv_aload_n hx hb dJ5_ensureCapacityInternal_d00df_5 rfl (lv_at hl 0 rfl) ?_
  obtain ⟨x6, e7, hF⟩ := mg_o hF
  obtain ⟨fs9, h9, g9⟩ := rdI hP hC ha0 e7
  refine va_get (D := (dC, dI)) (ci := 1) (v := .int x6) (C := RJ4) (T := TJ4) (N := 4) hx hb hts inlJ4 hown hK h9 0 rfl rfl 1 (by decide) (hts _ mw_591) (fun _ h9 => h9) g9 dJ5_ensureCapacityInternal_d00df_6 ?_
  clear h9 g9
  refine lv_ishr hx hb dJ5_ensureCapacityInternal_d00df_9 ?_
  refine lv_istore_n (lv' := [(2, .int (x4 >>> (x6 &&& 31))), (0, .ref Aa0), (1, .int a1)]) hx hb dJ5_ensureCapacityInternal_d00df_10 rfl hl (by decide) rfl (fun ls hl => ?_)
  refine lv_iload_n hx hb dJ5_ensureCapacityInternal_d00df_11 rfl (lv_at hl 2 rfl) ?_
  refine lv_iload_n hx hb dJ5_ensureCapacityInternal_d00df_12 rfl (lv_at hl 0 rfl) ?_
  refine lv_isub hx hb dJ5_ensureCapacityInternal_d00df_13 ?_
  obtain ⟨t9, n12, s13, E14, hJ10, hF⟩ := mb_o hF
  have hm := mle hJ10
  have join15 : ∀ (ad11 : Nat → Nat) (H : Heap) (locs : List Loc) (ls : Array Slot), axh n0 ad0 n12 ad11 → rf nb ad11 n12 (a0) (Aa0) → va_P (dC, dI) vwCl (CH cy nb ad11 n12 E14) H → va_D A (CH cy nb ad11 n12 E14) → va_S A s.heap H locs → lv_has ls 3 [(2, .int (x4 >>> (x6 &&& 31))), (0, .ref Aa0), (1, .int a1)] → W p l e (headSpec (wsg yJ5_ensureCapacityInternal_d00df cJ5_ensureCapacityInternal_d00df 3 none) ({ frames := 10, cells := nz - n0, slots := sz9 - s0, locals := 500 })).room s m ([.ref Aa0, .int a1] : List Value).toArray below meth c H locs (n12 - n0) (s13 - s0) Qn (F0 m 38 ls []) := by
    intro ad11 H locs ls hX hr16 hP hD hS hl
    have hC := hm.2.2 hC
    have hN : n0 ≤ n12 := Nat.le_trans hN hm.1
    have hT : s0 ≤ s13 := Nat.le_trans hT hm.2.1
    clear hm
    obtain ⟨ht9, hn9, hs9, hE9⟩ := mr_o hF
    subst hn9 hs9 hE9
    have hX9 := hX
    rw [hQ]
    exact W.vret hx hb hr (fun t ht hW => ⟨⟨(), rfl, trivial, _, hX, by rw [ht]; exact hP, hD⟩, hS.F ht⟩) hS.2.2 dJ5_ensureCapacityInternal_d00df_38
  have hK17 := mle1 hF
  have hK18 := mle2 hF
  clear hF hm
  have hF := hJ10
  clear hJ10
  refine lv_if_le (tgt := 38) hx hb dJ5_ensureCapacityInternal_d00df_14 (by decide) (fun c8 => ?_) (fun c8 => ?_)
  · skip
    rw [if_pos c8] at hF
    obtain ⟨ht9, hn9, hs9, hE9⟩ := mr_o hF
    subst ht9 hn9 hs9 hE9
    have hl := lv_sub (l' := [(2, .int (x4 >>> (x6 &&& 31))), (0, .ref Aa0), (1, .int a1)]) hl [0, 1, 2] rfl
    exact join15 _ _ _ _ hX ha0 hP hD hS hl
  · skip
    rw [if_neg c8] at hF
    refine lv_aload_n hx hb dJ5_ensureCapacityInternal_d00df_17 rfl (lv_at hl 1 rfl) ?_
    refine lv_aload_n hx hb dJ5_ensureCapacityInternal_d00df_18 rfl (lv_at hl 1 rfl) ?_
    obtain ⟨x19, e20, hF⟩ := mg_o hF
    obtain ⟨hr21, fs9, h9, g9⟩ := rdR hP hC ha0 e20
    refine va_get (D := (dC, dI)) (ci := 1) (v := .ref (AD nb ad0 x19)) (C := RJ4) (T := TJ4) (N := 4) hx hb hts inlJ4 hown hK h9 0 rfl rfl 0 (by decide) (hts _ mw_590) (fun _ h9 => h9) g9 dJ5_ensureCapacityInternal_d00df_19 ?_
    clear h9 g9
    refine lv_aload_n hx hb dJ5_ensureCapacityInternal_d00df_22 rfl (lv_at hl 1 rfl) ?_
    refine lv_iload_n hx hb dJ5_ensureCapacityInternal_d00df_23 rfl (lv_at hl 2 rfl) ?_
    obtain ⟨fs9, e22, hF⟩ := mg_o hF
    obtain ⟨x23, n25, s26, E27, e24, hF⟩ := mb_o hF
    have hm := mle e24
    have hM1 := mle1 hF
    have hM2 := mle2 hF
    have hm1 := hm.1
    have hm2 := hm.2.1
    have hFc := my_free hD hS hA
    refine va_calli (va_runV (C := RJ4) (As := [.int a1]) (rest := [.ref (AD nb ad0 x19), .ref Aa0]) ⟨hx, hb, hml, hown, hts⟩ (h_J5_newCapacity_0f7a4 l dC dI cy nb ad0 n0 s0 E0 hC (a0) Aa0 ha0 (a1) H.size x23 n25 s26 E27 e24) (cwV 1 hts (gV mw_638 mw_641 mw_640 mw_8 mw_642) rfl rfl rfl (by decide +kernel) ⟨Nat.le_of_ble_eq_true rfl, Nat.le_of_ble_eq_true rfl⟩) (hl_preV hP hK hD hE hS hFc (va_recv hK (rdO_ hP hC ha0 e22) (ci := 1) (q0 := 0) rfl rfl)) rfl rfl hl.1 rfl (lv_room (Nat.le_of_ble_eq_true rfl)) dJ5_ensureCapacityInternal_d00df_24 ⟨show n0 - n0 + (n25 - n0) ≤ nz - n0 by omega, show s0 - s0 + (s26 - s0) ≤ sz9 - s0 by omega⟩) hS (fun q _ h => hFc q h) hFc (fun r9 u t H1 locs ht hvm hw hB hz1 hk1 hS => ?_)
    obtain ⟨ad28, hax, hP1, hD1⟩ := hB
    rw [ht] at hP1
    have hP := hP1
    have hD := hD1.weaken (fun k q _ h => hFc q.1 h)
    generalize H1 = H at hP hS ⊢
    have ha0 := ha0.mv hC.1 hax
    have hr21 := hr21.mv hC.1 hax
    have hX := hX.trans hax
    have hC := hm.2.2 hC
    have hN : n0 ≤ n25 := Nat.le_trans hN hm1
    have hT : s0 ≤ s26 := Nat.le_trans hT hm2
    refine W.widen (k := n25 - n0) (n := s26 - s0) (by omega) (by omega) ?_
    clear hP1 hD1 hFc hk1 hz1 hvm ht hax hm hm1 hm2 hM1 hM2
    obtain rfl := hw.symm
    refine lv_aload_n hx hb dJ5_ensureCapacityInternal_d00df_27 rfl (lv_at hl 1 rfl) ?_
    obtain ⟨x29, e30, hF⟩ := mg_o hF
    obtain ⟨fs9, h9, g9⟩ := rdI hP hC ha0 e30
    refine va_get (D := (dC, dI)) (ci := 1) (v := .int x29) (C := RJ4) (T := TJ4) (N := 4) hx hb hts inlJ4 hown hK h9 0 rfl rfl 1 (by decide) (hts _ mw_591) (fun _ h9 => h9) g9 dJ5_ensureCapacityInternal_d00df_28 ?_
    clear h9 g9
    refine lv_ishl hx hb dJ5_ensureCapacityInternal_d00df_31 ?_
    obtain ⟨x31, n33, s34, E35, e32, hF⟩ := mb_o hF
    have hm := mle e32
    have hM1 := mle1 hF
    have hM2 := mle2 hF
    have hm1 := hm.1
    have hm2 := hm.2.1
    have hFc := my_free hD hS hA
    refine va_callr (va_runS (As := [.ref (AD nb ad0 x19), .int (x23 <<< (x29 &&& 31))]) (rest := [.ref Aa0]) ⟨hx, hb, hml, hown, hts⟩ (h_J7_copyOf_9075b l dC dI cy nb ad28 n25 s26 E27 hC (x19) (AD nb ad0 x19) hr21 ((x23 <<< (x29 &&& 31))) H.size x31 n33 s34 E35 e32) (va_cwS 2 hts (gS mw_656 mw_657 mw_96 mw_658) rfl rfl rfl (by decide +kernel) ⟨Nat.le_of_ble_eq_true rfl, Nat.le_of_ble_eq_true rfl⟩) (hl_preS hP hK hD hE hS hFc) rfl rfl hl.1 rfl (lv_room (Nat.le_of_ble_eq_true rfl)) dJ5_ensureCapacityInternal_d00df_32 ⟨show n25 - n0 + (n33 - n25) ≤ nz - n0 by omega, show s26 - s0 + (s34 - s26) ≤ sz9 - s0 by omega⟩) hS (fun q _ h => hFc q h) hFc (fun u ra t H1 locs ht hvm hw hB hz1 hk1 hS => ?_)
    obtain ⟨ad36, hax, hr37, hP1, hD1⟩ := hB
    rw [ht] at hP1
    have hP := hP1
    have hD := hD1.weaken (fun k q _ h => hFc q.1 h)
    generalize H1 = H at hP hS ⊢
    have ha0 := ha0.mv hC.1 hax
    have hX := hX.trans hax
    have hC := hm.2.2 hC
    have hN : n0 ≤ n33 := Nat.le_trans hN hm1
    have hT : s0 ≤ s34 := Nat.le_trans hT hm2
    refine W.widen (k := n33 - n0) (n := s34 - s0) (by omega) (by omega) ?_
    clear hP1 hD1 hFc hk1 hz1 hvm ht hax hm hm1 hm2 hM1 hM2
    refine my_top (y := .ref (AD nb ad36 x31)) (congrArg Value.ref hr37.2.symm) ?_
    have hr37 := rf_self hr37
    obtain ⟨E39, e40, hF⟩ := mw_o hF
    obtain ⟨q9, fs9, h9, ez9⟩ := wrR (cy := cy) hC ha0 hr37 e40
    refine va_put (D := (dC, dI)) (ci := 1) (v := .ref (AD nb ad36 x31)) (ty := (.array .byte)) (C := RJ4) (T := TJ4) (N := 4) hx hb hts inlJ4 tyJ4 tyJ4_ok nmJ4 hown hK hP hD hS q9 h9 rfl 0 (by decide) (hts _ mw_590) (fun _ h9 => h9) rfl (by decide +kernel) rfl rfl (Nat.le_of_ble_eq_true rfl) dJ5_ensureCapacityInternal_d00df_35 (fun H locs hP hD hS => ?_)
    rw [ez9] at hP hD
    clear ez9 h9
    have hC := sR_clo e40 hC
    obtain ⟨ht9, hn9, hs9, hE9⟩ := mr_o hF
    subst ht9 hn9 hs9 hE9
    have hl := lv_sub (l' := [(2, .int (x4 >>> (x6 &&& 31))), (0, .ref Aa0), (1, .int a1)]) hl [0, 1, 2] rfl
    exact join15 _ _ _ _ hX ha0 hP hD hS hl
noncomputable def H_J1_canEncode_fc78d (a1 : Int32) : MH Int32 := mb (if 255 < a1 then (mr (0 : Int32)) else (mr (1 : Int32)) : MH (Int32)) fun t2 => mb (mp (nz t2)) fun x9 => mr x9
set_option maxHeartbeats 4000000 in
set_option maxRecDepth 100000 in
theorem h_J1_canEncode_fc78d (l : Launch) (dC : Nat → ClassId) (dI : Nat → Nat → Nat) (cy : Nat → ClassId) (nb : Nat → Nat) (ad0 : Nat → Nat) (n0 s0 : Nat) (E0 : HE) (hC : clo n0 E0) (a1 : Int32) (sz : Nat) (ro : Int32) (nz sz9 : Nat) (Ez : HE) (hF : (H_J1_canEncode_fc78d a1).1 (n0, s0, E0) = some (ro, nz, sz9, Ez)) : Met l yJ1_canEncode_fc78d (wsg yJ1_canEncode_fc78d cJ1_canEncode_fc78d 1 (some .boolean)) ({ frames := 8, cells := nz - n0, slots := sz9 - s0, locals := 300 }) (va_Pc [.int a1] (fun U => U.heap.size = sz ∧ va_P (dC, dI) vwCl (CH cy nb ad0 n0 E0) U.heap ∧ va_K (dC, dI) vwCl (tyL cy) U ∧ va_D (fun _ => True) (CH cy nb ad0 n0 E0) ∧ GL nb (va_A (CH cy nb ad0 n0 E0) sz) U)) (va_Qi (fun (r : Int32) (_ : Unit) => r = ro) (fun _ t => ∃ ad2 : Nat → Nat, axh n0 ad0 nz ad2 ∧ va_P (dC, dI) vwCl (CH cy nb ad2 nz Ez) t.heap ∧ va_D (va_A (CH cy nb ad0 n0 E0) sz) (CH cy nb ad2 nz Ez)) (va_A (CH cy nb ad0 n0 E0) sz)) (nz - n0) (sz9 - s0) (va_A (CH cy nb ad0 n0 E0) sz) := by
  refine Met.ofW (cc := cJ1_canEncode_fc78d) (maxL := 1) (ret := (some .boolean)) (by decide) rfl ?_
  intro p e s m args below meth c s₁ B hml hv
  obtain ⟨rfl, hsz, hP, hK, hD0, hE⟩ := hv
  have hx := B.exec
  have hb := B.bytes
  have hr := B.returns
  have hts0 := atoms_spec (ws := (wsg yJ1_canEncode_fc78d cJ1_canEncode_fc78d 1 (some .boolean))) B.pre
  have hts : ∀ w ∈ wsL_law, w.before _ s = true := fun w h => hts0 w (List.mem_cons_of_mem _ h)
  have hown : s.vm.findClass RJ1 = some m.cls := by have h9 := findClass_of_methodNamed B.named; exact h9
  subst hsz
  have hD := hD0.self (sz := s.heap.size)
  generalize hAe : va_A (CH cy nb ad0 n0 E0) s.heap.size = A at hD hE ⊢
  have hA : ∀ q : Nat, s.heap.size ≤ q → A q := fun q h => by rw [← hAe]; exact Or.inr h
  have hS : va_S A s.heap s.heap [] := va_S.rf
  have hl := lv_entry ([.int a1]) (n := 1) (Nat.le_of_ble_eq_true rfl)
  rw [lg_entry_eq]
  generalize (lg_sl ([.int a1]) ++ List.replicate (1 - (lg_sl ([.int a1])).length) Slot.unset).toArray = ls at hl ⊢
  have hl : lv_has ls 1 [(0, .int a1)] := hl
  generalize hHe : s.heap = H at hP hS ⊢
  have hS : va_S A s.heap H [] := by rw [hHe]; exact hS
  refine my_Q (fun Qn hQ => ?_)
  simp only [H_J1_canEncode_fc78d] at hF
  have hX : axh n0 ad0 n0 ad0 := axh_refl
  have hN : n0 ≤ n0 := Nat.le_refl _
  have hT : s0 ≤ s0 := Nat.le_refl _
  refine W.widen (k := n0 - n0) (n := s0 - s0) (by omega) (by omega) ?_
  refine lv_iload_n hx hb dJ1_canEncode_fc78d_0 rfl (lv_at hl 0 rfl) ?_
  refine lv_sipush (v := 255) hx hb dJ1_canEncode_fc78d_1 (by decide) ?_
  obtain ⟨t2, n5, s6, E7, hJ3, hF⟩ := mb_o hF
  have hm := mle hJ3
  have join8 : ∀ (ad4 : Nat → Nat) (H : Heap) (locs : List Loc) (ls : Array Slot), axh n0 ad0 n5 ad4 → va_P (dC, dI) vwCl (CH cy nb ad4 n5 E7) H → va_D A (CH cy nb ad4 n5 E7) → va_S A s.heap H locs → lv_has ls 1 [(0, .int a1)] → W p l e (headSpec (wsg yJ1_canEncode_fc78d cJ1_canEncode_fc78d 1 (some .boolean)) ({ frames := 8, cells := nz - n0, slots := sz9 - s0, locals := 300 })).room s m ([.int a1] : List Value).toArray below meth c H locs (n5 - n0) (s6 - s0) Qn (F0 m 12 ls [.int t2]) := by
    intro ad4 H locs ls hX  hP hD hS hl
    have hC := hm.2.2 hC
    have hN : n0 ≤ n5 := Nat.le_trans hN hm.1
    have hT : s0 ≤ s6 := Nat.le_trans hT hm.2.1
    clear hm
    obtain ⟨x9, e10, hF⟩ := mp_o hF
    refine my_topi (y := x9) (nz_e e10) ?_
    obtain ⟨ht9, hn9, hs9, hE9⟩ := mr_o hF
    subst hn9 hs9 hE9
    have hX9 := hX
    rw [hQ]
    exact W.zret (v := x9) hx hb hr (nz_n e10) (fun t ht hW => ⟨⟨x9, (), rfl, ht9, _, hX, by rw [ht]; exact hP, hD⟩, hS.F ht⟩) hS.2.2 dJ1_canEncode_fc78d_12
  have hK11 := mle1 hF
  have hK12 := mle2 hF
  clear hF hm
  have hF := hJ3
  clear hJ3
  refine lv_icmp_gt (tgt := 11) hx hb dJ1_canEncode_fc78d_4 (by decide) (fun c1 => ?_) (fun c1 => ?_)
  · skip
    rw [if_pos c1] at hF
    refine lv_iconst (v := 0) hx hb dJ1_canEncode_fc78d_11 (by decide) ?_
    obtain ⟨ht9, hn9, hs9, hE9⟩ := mr_o hF
    subst ht9 hn9 hs9 hE9
    have hl := lv_sub (l' := [(0, .int a1)]) hl [0] rfl
    exact join8 _ _ _ _ hX  hP hD hS hl
  · skip
    rw [if_neg c1] at hF
    refine lv_iconst (v := 1) hx hb dJ1_canEncode_fc78d_7 (by decide) ?_
    refine lv_goto (tgt := 12) hx hb dJ1_canEncode_fc78d_8 (by decide) ?_
    obtain ⟨ht9, hn9, hs9, hE9⟩ := mr_o hF
    subst ht9 hn9 hs9 hE9
    have hl := lv_sub (l' := [(0, .int a1)]) hl [0] rfl
    exact join8 _ _ _ _ hX  hP hD hS hl
noncomputable def H_J0_getBytes_840e7 (a0 : Nat) (a1 : Nat) (a2 : Int32) (a3 : Int32) : MH Unit := mb (mg fun n E => sOk n E (a0)) fun _ => mb (H_J0_coder_7d493 (a0)) fun x2 => if x2 = a3 then (mb (mg fun n E => sVl n E (a0)) fun x17 => mb (mg fun n E => sVl n E (a0)) fun x20 => mb (mg fun n E => lB n E (x20)) fun x23 => mb (mcB (x17) (0) (a1) ((a2 <<< (a3 &&& 31))) (x23)) fun _ => mr ()) else (mb (mg fun n E => sVl n E (a0)) fun x9 => mb (mg fun n E => sVl n E (a0)) fun x12 => mb (mg fun n E => lB n E (x12)) fun x15 => m0)
set_option maxHeartbeats 4000000 in
set_option maxRecDepth 100000 in
theorem h_J0_getBytes_840e7 (l : Launch) (dC : Nat → ClassId) (dI : Nat → Nat → Nat) (cy : Nat → ClassId) (nb : Nat → Nat) (ad0 : Nat → Nat) (n0 s0 : Nat) (E0 : HE) (hC : clo n0 E0) (a0 Aa0 : Nat) (ha0 : rf nb ad0 n0 a0 Aa0) (a1 Aa1 : Nat) (ha1 : rf nb ad0 n0 a1 Aa1) (a2 : Int32) (a3 : Int32) (sz : Nat) (nz sz9 : Nat) (Ez : HE) (hF : (H_J0_getBytes_840e7 a0 a1 a2 a3).1 (n0, s0, E0) = some ((), nz, sz9, Ez)) : Met l yJ0_getBytes_840e7 (wsg yJ0_getBytes_840e7 cJ0_getBytes_840e7 4 none) ({ frames := 9, cells := nz - n0, slots := sz9 - s0, locals := 400 }) (va_Pc [.ref Aa0, .ref Aa1, .int a2, .int a3] (fun U => U.heap.size = sz ∧ va_P (dC, dI) vwCl (CH cy nb ad0 n0 E0) U.heap ∧ va_K (dC, dI) vwCl (tyL cy) U ∧ va_D (fun _ => True) (CH cy nb ad0 n0 E0) ∧ GL nb (va_A (CH cy nb ad0 n0 E0) sz) U)) (va_Qv (fun (_ : Unit) => True) (fun _ t => ∃ ad2 : Nat → Nat, axh n0 ad0 nz ad2 ∧ va_P (dC, dI) vwCl (CH cy nb ad2 nz Ez) t.heap ∧ va_D (va_A (CH cy nb ad0 n0 E0) sz) (CH cy nb ad2 nz Ez)) (va_A (CH cy nb ad0 n0 E0) sz)) (nz - n0) (sz9 - s0) (va_A (CH cy nb ad0 n0 E0) sz) := by
  refine Met.ofW (cc := cJ0_getBytes_840e7) (maxL := 4) (ret := none) (by decide) rfl ?_
  intro p e s m args below meth c s₁ B hml hv
  obtain ⟨rfl, hsz, hP, hK, hD0, hE⟩ := hv
  have hx := B.exec
  have hb := B.bytes
  have hr := B.returns
  have hts0 := atoms_spec (ws := (wsg yJ0_getBytes_840e7 cJ0_getBytes_840e7 4 none)) B.pre
  have hts : ∀ w ∈ wsL_law, w.before _ s = true := fun w h => hts0 w (List.mem_cons_of_mem _ h)
  have hown : s.vm.findClass RJ0 = some m.cls := by have h9 := findClass_of_methodNamed B.named; exact h9
  subst hsz
  have hD := hD0.self (sz := s.heap.size)
  generalize hAe : va_A (CH cy nb ad0 n0 E0) s.heap.size = A at hD hE ⊢
  have hA : ∀ q : Nat, s.heap.size ≤ q → A q := fun q h => by rw [← hAe]; exact Or.inr h
  have hS : va_S A s.heap s.heap [] := va_S.rf
  have hl := lv_entry ([.ref Aa0, .ref Aa1, .int a2, .int a3]) (n := 4) (Nat.le_of_ble_eq_true rfl)
  rw [lg_entry_eq]
  generalize (lg_sl ([.ref Aa0, .ref Aa1, .int a2, .int a3]) ++ List.replicate (4 - (lg_sl ([.ref Aa0, .ref Aa1, .int a2, .int a3])).length) Slot.unset).toArray = ls at hl ⊢
  have hl : lv_has ls 4 [(0, .ref Aa0), (1, .ref Aa1), (2, .int a2), (3, .int a3)] := hl
  generalize hHe : s.heap = H at hP hS ⊢
  have hS : va_S A s.heap H [] := by rw [hHe]; exact hS
  refine my_Q (fun Qn hQ => ?_)
  simp only [H_J0_getBytes_840e7] at hF
  have hX : axh n0 ad0 n0 ad0 := axh_refl
  have hN : n0 ≤ n0 := Nat.le_refl _
  have hT : s0 ≤ s0 := Nat.le_refl _
  refine W.widen (k := n0 - n0) (n := s0 - s0) (by omega) (by omega) ?_
  refine lv_aload_n hx hb dJ0_getBytes_840e7_0 rfl (lv_at hl 0 rfl) ?_
  obtain ⟨_, e1, hF⟩ := mg_o hF
  obtain ⟨x2, n4, s5, E6, e3, hF⟩ := mb_o hF
  have hm := mle e3
  have hM1 := mle1 hF
  have hM2 := mle2 hF
  have hm1 := hm.1
  have hm2 := hm.2.1
  have hFc := my_free hD hS hA
  refine va_calli (va_runV (C := RJ0) (As := []) (rest := []) ⟨hx, hb, hml, hown, hts⟩ (h_J0_coder_7d493 l dC dI cy nb ad0 n0 s0 E0 hC (a0) Aa0 ha0 H.size x2 n4 s5 E6 e3) (cwV 0 hts (gV mw_280 mw_281 mw_282 mw_277 mw_283) rfl rfl rfl (by decide +kernel) ⟨Nat.le_of_ble_eq_true rfl, Nat.le_of_ble_eq_true rfl⟩) (hl_preV hP hK hD hE hS hFc (hs_srecv hK hP hC hE hS ha0 e1)) rfl rfl hl.1 rfl (lv_room (Nat.le_of_ble_eq_true rfl)) dJ0_getBytes_840e7_1 ⟨show n0 - n0 + (n4 - n0) ≤ nz - n0 by omega, show s0 - s0 + (s5 - s0) ≤ sz9 - s0 by omega⟩) hS (fun q _ h => hFc q h) hFc (fun r9 u t H1 locs ht hvm hw hB hz1 hk1 hS => ?_)
  obtain ⟨ad7, hax, hP1, hD1⟩ := hB
  rw [ht] at hP1
  have hP := hP1
  have hD := hD1.weaken (fun k q _ h => hFc q.1 h)
  generalize H1 = H at hP hS ⊢
  have ha0 := ha0.mv hC.1 hax
  have ha1 := ha1.mv hC.1 hax
  have hX := hX.trans hax
  have hC := hm.2.2 hC
  have hN : n0 ≤ n4 := Nat.le_trans hN hm1
  have hT : s0 ≤ s5 := Nat.le_trans hT hm2
  refine W.widen (k := n4 - n0) (n := s5 - s0) (by omega) (by omega) ?_
  clear hP1 hD1 hFc hk1 hz1 hvm ht hax hm hm1 hm2 hM1 hM2
  obtain rfl := hw.symm
  refine lv_iload_n hx hb dJ0_getBytes_840e7_4 rfl (lv_at hl 3 rfl) ?_
  refine lv_icmp_ne (tgt := 28) hx hb dJ0_getBytes_840e7_5 (by decide) (fun c8 => ?_) (fun c8 => ?_)
  · skip
    rw [if_neg c8] at hF
    refine lv_aload_n hx hb dJ0_getBytes_840e7_28 rfl (lv_at hl 0 rfl) ?_
    obtain ⟨x9, e10, hF⟩ := mg_o hF
    refine hs_sval hx hb hts inlJ0 hown hK hP hC hE hS ha0 e10 (hts _ mw_279) dJ0_getBytes_840e7_29 ?_
    have hr11 := sVl_r hC e10 (nb := nb) (ad := ad7)
    refine lv_iconst (v := 0) hx hb dJ0_getBytes_840e7_32 (by decide) ?_
    refine lv_aload_n hx hb dJ0_getBytes_840e7_33 rfl (lv_at hl 1 rfl) ?_
    refine lv_iload_n hx hb dJ0_getBytes_840e7_34 rfl (lv_at hl 2 rfl) ?_
    refine lv_aload_n hx hb dJ0_getBytes_840e7_35 rfl (lv_at hl 0 rfl) ?_
    obtain ⟨x12, e13, hF⟩ := mg_o hF
    refine hs_sval hx hb hts inlJ0 hown hK hP hC hE hS ha0 e13 (hts _ mw_279) dJ0_getBytes_840e7_36 ?_
    have hr14 := sVl_r hC e13 (nb := nb) (ad := ad7)
    obtain ⟨x15, e16, hF⟩ := mg_o hF
    refine hs_lB hx hb hK hP hC hE hS hr14 e16 dJ0_getBytes_840e7_39 ?_
    exact (m0_o hF).elim
  · skip
    rw [if_pos c8] at hF
    refine lv_aload_n hx hb dJ0_getBytes_840e7_8 rfl (lv_at hl 0 rfl) ?_
    obtain ⟨x17, e18, hF⟩ := mg_o hF
    refine hs_sval hx hb hts inlJ0 hown hK hP hC hE hS ha0 e18 (hts _ mw_279) dJ0_getBytes_840e7_9 ?_
    have hr19 := sVl_r hC e18 (nb := nb) (ad := ad7)
    refine lv_iconst (v := 0) hx hb dJ0_getBytes_840e7_12 (by decide) ?_
    refine lv_aload_n hx hb dJ0_getBytes_840e7_13 rfl (lv_at hl 1 rfl) ?_
    refine lv_iload_n hx hb dJ0_getBytes_840e7_14 rfl (lv_at hl 2 rfl) ?_
    refine lv_iload_n hx hb dJ0_getBytes_840e7_15 rfl (lv_at hl 3 rfl) ?_
    refine lv_ishl hx hb dJ0_getBytes_840e7_16 ?_
    refine lv_aload_n hx hb dJ0_getBytes_840e7_17 rfl (lv_at hl 0 rfl) ?_
    obtain ⟨x20, e21, hF⟩ := mg_o hF
    refine hs_sval hx hb hts inlJ0 hown hK hP hC hE hS ha0 e21 (hts _ mw_279) dJ0_getBytes_840e7_18 ?_
    have hr22 := sVl_r hC e21 (nb := nb) (ad := ad7)
    obtain ⟨x23, e24, hF⟩ := mg_o hF
    refine hs_lB hx hb hK hP hC hE hS hr22 e24 dJ0_getBytes_840e7_21 ?_
    obtain ⟨E25, e26, hF⟩ := mw_o hF
    refine hs_copyB hx hb (hml.trans hl.1.symm) hown (hts _ mw_733) (hts _ mw_358) (hts _ mw_359) (hts _ mw_360) hK hP hD hC hE hS hr19 ha1 e26 (Nat.le_of_ble_eq_true rfl) (Nat.le_of_ble_eq_true rfl) dJ0_getBytes_840e7_22 (fun H locs hP hD hS => ?_)
    have hC := cpB_clo e26 hC
    refine lv_goto (tgt := 43) hx hb dJ0_getBytes_840e7_25 (by decide) ?_
    obtain ⟨ht9, hn9, hs9, hE9⟩ := mr_o hF
    subst hn9 hs9 hE9
    have hX9 := hX
    rw [hQ]
    exact W.vret hx hb hr (fun t ht hW => ⟨⟨(), rfl, trivial, _, hX, by rw [ht]; exact hP, hD⟩, hS.F ht⟩) hS.2.2 dJ0_getBytes_840e7_43
noncomputable def H_J5_inflateIfNeededFor_a7421 (a0 : Nat) (a1 : Nat) : MH Unit := mb (rI (a0) 1 1) fun x1 => mb (mg fun n E => sOk n E (a1)) fun _ => mb (H_J0_coder_7d493 (a1)) fun x4 => if x1 = x4 then (mr ()) else (m0)
set_option maxHeartbeats 4000000 in
set_option maxRecDepth 100000 in
theorem h_J5_inflateIfNeededFor_a7421 (l : Launch) (dC : Nat → ClassId) (dI : Nat → Nat → Nat) (cy : Nat → ClassId) (nb : Nat → Nat) (ad0 : Nat → Nat) (n0 s0 : Nat) (E0 : HE) (hC : clo n0 E0) (a0 Aa0 : Nat) (ha0 : rf nb ad0 n0 a0 Aa0) (a1 Aa1 : Nat) (ha1 : rf nb ad0 n0 a1 Aa1) (sz : Nat) (nz sz9 : Nat) (Ez : HE) (hF : (H_J5_inflateIfNeededFor_a7421 a0 a1).1 (n0, s0, E0) = some ((), nz, sz9, Ez)) : Met l yJ5_inflateIfNeededFor_a7421 (wsg yJ5_inflateIfNeededFor_a7421 cJ5_inflateIfNeededFor_a7421 2 none) ({ frames := 9, cells := nz - n0, slots := sz9 - s0, locals := 400 }) (va_Pc [.ref Aa0, .ref Aa1] (fun U => U.heap.size = sz ∧ va_P (dC, dI) vwCl (CH cy nb ad0 n0 E0) U.heap ∧ va_K (dC, dI) vwCl (tyL cy) U ∧ va_D (fun _ => True) (CH cy nb ad0 n0 E0) ∧ GL nb (va_A (CH cy nb ad0 n0 E0) sz) U)) (va_Qv (fun (_ : Unit) => True) (fun _ t => ∃ ad2 : Nat → Nat, axh n0 ad0 nz ad2 ∧ va_P (dC, dI) vwCl (CH cy nb ad2 nz Ez) t.heap ∧ va_D (va_A (CH cy nb ad0 n0 E0) sz) (CH cy nb ad2 nz Ez)) (va_A (CH cy nb ad0 n0 E0) sz)) (nz - n0) (sz9 - s0) (va_A (CH cy nb ad0 n0 E0) sz) := by
  refine Met.ofW (cc := cJ5_inflateIfNeededFor_a7421) (maxL := 2) (ret := none) (by decide) rfl ?_
  intro p e s m args below meth c s₁ B hml hv
  obtain ⟨rfl, hsz, hP, hK, hD0, hE⟩ := hv
  have hx := B.exec
  have hb := B.bytes
  have hr := B.returns
  have hts0 := atoms_spec (ws := (wsg yJ5_inflateIfNeededFor_a7421 cJ5_inflateIfNeededFor_a7421 2 none)) B.pre
  have hts : ∀ w ∈ wsL_law, w.before _ s = true := fun w h => hts0 w (List.mem_cons_of_mem _ h)
  have hown : s.vm.findClass RJ5 = some m.cls := by have h9 := findClass_of_methodNamed B.named; exact h9
  subst hsz
  have hD := hD0.self (sz := s.heap.size)
  generalize hAe : va_A (CH cy nb ad0 n0 E0) s.heap.size = A at hD hE ⊢
  have hA : ∀ q : Nat, s.heap.size ≤ q → A q := fun q h => by rw [← hAe]; exact Or.inr h
  have hS : va_S A s.heap s.heap [] := va_S.rf
  have hl := lv_entry ([.ref Aa0, .ref Aa1]) (n := 2) (Nat.le_of_ble_eq_true rfl)
  rw [lg_entry_eq]
  generalize (lg_sl ([.ref Aa0, .ref Aa1]) ++ List.replicate (2 - (lg_sl ([.ref Aa0, .ref Aa1])).length) Slot.unset).toArray = ls at hl ⊢
  have hl : lv_has ls 2 [(0, .ref Aa0), (1, .ref Aa1)] := hl
  generalize hHe : s.heap = H at hP hS ⊢
  have hS : va_S A s.heap H [] := by rw [hHe]; exact hS
  refine my_Q (fun Qn hQ => ?_)
  simp only [H_J5_inflateIfNeededFor_a7421] at hF
  have hX : axh n0 ad0 n0 ad0 := axh_refl
  have hN : n0 ≤ n0 := Nat.le_refl _
  have hT : s0 ≤ s0 := Nat.le_refl _
  refine W.widen (k := n0 - n0) (n := s0 - s0) (by omega) (by omega) ?_
  refine va_gets (C := "java/lang/String") (n := "COMPACT_STRINGS") (d := "Z") (ref := "java/lang/String") (v := .int 1) hx hb hE.ge.cs hS hown (hts _ mw_589) (fun _ h9 => h9) dJ5_inflateIfNeededFor_a7421_0 ?_
  refine lv_if_eq (tgt := 21) hx hb dJ5_inflateIfNeededFor_a7421_3 (by decide) (fun h => absurd h (by decide)) (fun _ => ?_)
  refine lv_aload_n hx hb dJ5_inflateIfNeededFor_a7421_6 rfl (lv_at hl 0 rfl) ?_
  obtain ⟨x1, e2, hF⟩ := mg_o hF
  obtain ⟨fs9, h9, g9⟩ := rdI hP hC ha0 e2
  refine va_get (D := (dC, dI)) (ci := 1) (v := .int x1) (C := RJ4) (T := TJ4) (N := 4) hx hb hts inlJ4 hown hK h9 0 rfl rfl 1 (by decide) (hts _ mw_591) (fun _ h9 => h9) g9 dJ5_inflateIfNeededFor_a7421_7 ?_
  clear h9 g9
  refine lv_aload_n hx hb dJ5_inflateIfNeededFor_a7421_10 rfl (lv_at hl 1 rfl) ?_
  obtain ⟨_, e3, hF⟩ := mg_o hF
  obtain ⟨x4, n6, s7, E8, e5, hF⟩ := mb_o hF
  have hm := mle e5
  have hM1 := mle1 hF
  have hM2 := mle2 hF
  have hm1 := hm.1
  have hm2 := hm.2.1
  have hFc := my_free hD hS hA
  refine va_calli (va_runV (C := RJ0) (As := []) (rest := [.int x1]) ⟨hx, hb, hml, hown, hts⟩ (h_J0_coder_7d493 l dC dI cy nb ad0 n0 s0 E0 hC (a1) Aa1 ha1 H.size x4 n6 s7 E8 e5) (cwV 0 hts (gV mw_707 mw_281 mw_282 mw_277 mw_283) rfl rfl rfl (by decide +kernel) ⟨Nat.le_of_ble_eq_true rfl, Nat.le_of_ble_eq_true rfl⟩) (hl_preV hP hK hD hE hS hFc (hs_srecv hK hP hC hE hS ha1 e3)) rfl rfl hl.1 rfl (lv_room (Nat.le_of_ble_eq_true rfl)) dJ5_inflateIfNeededFor_a7421_11 ⟨show n0 - n0 + (n6 - n0) ≤ nz - n0 by omega, show s0 - s0 + (s7 - s0) ≤ sz9 - s0 by omega⟩) hS (fun q _ h => hFc q h) hFc (fun r9 u t H1 locs ht hvm hw hB hz1 hk1 hS => ?_)
  obtain ⟨ad9, hax, hP1, hD1⟩ := hB
  rw [ht] at hP1
  have hP := hP1
  have hD := hD1.weaken (fun k q _ h => hFc q.1 h)
  generalize H1 = H at hP hS ⊢
  have ha0 := ha0.mv hC.1 hax
  have ha1 := ha1.mv hC.1 hax
  have hX := hX.trans hax
  have hC := hm.2.2 hC
  have hN : n0 ≤ n6 := Nat.le_trans hN hm1
  have hT : s0 ≤ s7 := Nat.le_trans hT hm2
  refine W.widen (k := n6 - n0) (n := s7 - s0) (by omega) (by omega) ?_
  clear hP1 hD1 hFc hk1 hz1 hvm ht hax hm hm1 hm2 hM1 hM2
  obtain rfl := hw.symm
  refine lv_icmp_eq (tgt := 21) hx hb dJ5_inflateIfNeededFor_a7421_14 (by decide) (fun c10 => ?_) (fun c10 => ?_)
  · skip
    rw [if_pos c10] at hF
    obtain ⟨ht9, hn9, hs9, hE9⟩ := mr_o hF
    subst hn9 hs9 hE9
    have hX9 := hX
    rw [hQ]
    exact W.vret hx hb hr (fun t ht hW => ⟨⟨(), rfl, trivial, _, hX, by rw [ht]; exact hP, hD⟩, hS.F ht⟩) hS.2.2 dJ5_inflateIfNeededFor_a7421_21
  · skip
    rw [if_neg c10] at hF
    refine lv_aload_n hx hb dJ5_inflateIfNeededFor_a7421_17 rfl (lv_at hl 0 rfl) ?_
    exact (m0_o hF).elim
noncomputable def H_J5_putStringAt_47b60 (a0 : Nat) (a1 : Int32) (a2 : Nat) : MH Unit := mb (mg fun n E => fO n E (a0) 1) fun _ => mb (H_J5_inflateIfNeededFor_a7421 (a0) (a2)) fun _ => mb (rR (a0) 1 0) fun x7 => mb (rI (a0) 1 1) fun x10 => mb (mg fun n E => sOk n E (a2)) fun _ => mb (H_J0_getBytes_840e7 (a2) (x7) (a1) (x10)) fun _ => mr ()
set_option maxHeartbeats 4000000 in
set_option maxRecDepth 100000 in
theorem h_J5_putStringAt_47b60 (l : Launch) (dC : Nat → ClassId) (dI : Nat → Nat → Nat) (cy : Nat → ClassId) (nb : Nat → Nat) (ad0 : Nat → Nat) (n0 s0 : Nat) (E0 : HE) (hC : clo n0 E0) (a0 Aa0 : Nat) (ha0 : rf nb ad0 n0 a0 Aa0) (a1 : Int32) (a2 Aa2 : Nat) (ha2 : rf nb ad0 n0 a2 Aa2) (sz : Nat) (nz sz9 : Nat) (Ez : HE) (hF : (H_J5_putStringAt_47b60 a0 a1 a2).1 (n0, s0, E0) = some ((), nz, sz9, Ez)) : Met l yJ5_putStringAt_47b60 (wsg yJ5_putStringAt_47b60 cJ5_putStringAt_47b60 3 none) ({ frames := 10, cells := nz - n0, slots := sz9 - s0, locals := 500 }) (va_Pc [.ref Aa0, .int a1, .ref Aa2] (fun U => U.heap.size = sz ∧ va_P (dC, dI) vwCl (CH cy nb ad0 n0 E0) U.heap ∧ va_K (dC, dI) vwCl (tyL cy) U ∧ va_D (fun _ => True) (CH cy nb ad0 n0 E0) ∧ GL nb (va_A (CH cy nb ad0 n0 E0) sz) U)) (va_Qv (fun (_ : Unit) => True) (fun _ t => ∃ ad2 : Nat → Nat, axh n0 ad0 nz ad2 ∧ va_P (dC, dI) vwCl (CH cy nb ad2 nz Ez) t.heap ∧ va_D (va_A (CH cy nb ad0 n0 E0) sz) (CH cy nb ad2 nz Ez)) (va_A (CH cy nb ad0 n0 E0) sz)) (nz - n0) (sz9 - s0) (va_A (CH cy nb ad0 n0 E0) sz) := by
  refine Met.ofW (cc := cJ5_putStringAt_47b60) (maxL := 3) (ret := none) (by decide) rfl ?_
  intro p e s m args below meth c s₁ B hml hv
  obtain ⟨rfl, hsz, hP, hK, hD0, hE⟩ := hv
  have hx := B.exec
  have hb := B.bytes
  have hr := B.returns
  have hts0 := atoms_spec (ws := (wsg yJ5_putStringAt_47b60 cJ5_putStringAt_47b60 3 none)) B.pre
  have hts : ∀ w ∈ wsL_law, w.before _ s = true := fun w h => hts0 w (List.mem_cons_of_mem _ h)
  have hown : s.vm.findClass RJ5 = some m.cls := by have h9 := findClass_of_methodNamed B.named; exact h9
  subst hsz
  have hD := hD0.self (sz := s.heap.size)
  generalize hAe : va_A (CH cy nb ad0 n0 E0) s.heap.size = A at hD hE ⊢
  have hA : ∀ q : Nat, s.heap.size ≤ q → A q := fun q h => by rw [← hAe]; exact Or.inr h
  have hS : va_S A s.heap s.heap [] := va_S.rf
  have hl := lv_entry ([.ref Aa0, .int a1, .ref Aa2]) (n := 3) (Nat.le_of_ble_eq_true rfl)
  rw [lg_entry_eq]
  generalize (lg_sl ([.ref Aa0, .int a1, .ref Aa2]) ++ List.replicate (3 - (lg_sl ([.ref Aa0, .int a1, .ref Aa2])).length) Slot.unset).toArray = ls at hl ⊢
  have hl : lv_has ls 3 [(0, .ref Aa0), (1, .int a1), (2, .ref Aa2)] := hl
  generalize hHe : s.heap = H at hP hS ⊢
  have hS : va_S A s.heap H [] := by rw [hHe]; exact hS
  refine my_Q (fun Qn hQ => ?_)
  simp only [H_J5_putStringAt_47b60] at hF
  have hX : axh n0 ad0 n0 ad0 := axh_refl
  have hN : n0 ≤ n0 := Nat.le_refl _
  have hT : s0 ≤ s0 := Nat.le_refl _
  refine W.widen (k := n0 - n0) (n := s0 - s0) (by omega) (by omega) ?_
  refine lv_aload_n hx hb dJ5_putStringAt_47b60_0 rfl (lv_at hl 0 rfl) ?_
  refine lv_aload_n hx hb dJ5_putStringAt_47b60_1 rfl (lv_at hl 2 rfl) ?_
  obtain ⟨fs9, e1, hF⟩ := mg_o hF
  obtain ⟨⟨⟩, n3, s4, E5, e2, hF⟩ := mb_o hF
  have hm := mle e2
  have hM1 := mle1 hF
  have hM2 := mle2 hF
  have hm1 := hm.1
  have hm2 := hm.2.1
  have hFc := my_free hD hS hA
  refine va_callv (va_runV (C := RJ4) (As := [.ref Aa2]) (rest := []) ⟨hx, hb, hml, hown, hts⟩ (h_J5_inflateIfNeededFor_a7421 l dC dI cy nb ad0 n0 s0 E0 hC (a0) Aa0 ha0 (a2) Aa2 ha2 H.size n3 s4 E5 e2) (cwV 1 hts (gV mw_702 mw_705 mw_704 mw_8 mw_706) rfl rfl rfl (by decide +kernel) ⟨Nat.le_of_ble_eq_true rfl, Nat.le_of_ble_eq_true rfl⟩) (hl_preV hP hK hD hE hS hFc (va_recv hK (rdO_ hP hC ha0 e1) (ci := 1) (q0 := 0) rfl rfl)) rfl rfl hl.1 rfl (lv_room (Nat.le_of_ble_eq_true rfl)) dJ5_putStringAt_47b60_2 ⟨show n0 - n0 + (n3 - n0) ≤ nz - n0 by omega, show s0 - s0 + (s4 - s0) ≤ sz9 - s0 by omega⟩) hS (fun q _ h => hFc q h) hFc (fun u t H1 locs ht hvm hw hB hz1 hk1 hS => ?_)
  obtain ⟨ad6, hax, hP1, hD1⟩ := hB
  rw [ht] at hP1
  have hP := hP1
  have hD := hD1.weaken (fun k q _ h => hFc q.1 h)
  generalize H1 = H at hP hS ⊢
  have ha0 := ha0.mv hC.1 hax
  have ha2 := ha2.mv hC.1 hax
  have hX := hX.trans hax
  have hC := hm.2.2 hC
  have hN : n0 ≤ n3 := Nat.le_trans hN hm1
  have hT : s0 ≤ s4 := Nat.le_trans hT hm2
  refine W.widen (k := n3 - n0) (n := s4 - s0) (by omega) (by omega) ?_
  clear hP1 hD1 hFc hk1 hz1 hvm ht hax hm hm1 hm2 hM1 hM2
  refine lv_aload_n hx hb dJ5_putStringAt_47b60_5 rfl (lv_at hl 2 rfl) ?_
  refine lv_aload_n hx hb dJ5_putStringAt_47b60_6 rfl (lv_at hl 0 rfl) ?_
  obtain ⟨x7, e8, hF⟩ := mg_o hF
  obtain ⟨hr9, fs9, h9, g9⟩ := rdR hP hC ha0 e8
  refine va_get (D := (dC, dI)) (ci := 1) (v := .ref (AD nb ad6 x7)) (C := RJ4) (T := TJ4) (N := 4) hx hb hts inlJ4 hown hK h9 0 rfl rfl 0 (by decide) (hts _ mw_590) (fun _ h9 => h9) g9 dJ5_putStringAt_47b60_7 ?_
  clear h9 g9
  refine lv_iload_n hx hb dJ5_putStringAt_47b60_10 rfl (lv_at hl 1 rfl) ?_
  refine lv_aload_n hx hb dJ5_putStringAt_47b60_11 rfl (lv_at hl 0 rfl) ?_
  obtain ⟨x10, e11, hF⟩ := mg_o hF
  obtain ⟨fs9, h9, g9⟩ := rdI hP hC ha0 e11
  refine va_get (D := (dC, dI)) (ci := 1) (v := .int x10) (C := RJ4) (T := TJ4) (N := 4) hx hb hts inlJ4 hown hK h9 0 rfl rfl 1 (by decide) (hts _ mw_591) (fun _ h9 => h9) g9 dJ5_putStringAt_47b60_12 ?_
  clear h9 g9
  obtain ⟨_, e12, hF⟩ := mg_o hF
  obtain ⟨⟨⟩, n14, s15, E16, e13, hF⟩ := mb_o hF
  have hm := mle e13
  have hM1 := mle1 hF
  have hM2 := mle2 hF
  have hm1 := hm.1
  have hm2 := hm.2.1
  have hFc := my_free hD hS hA
  refine va_callv (va_runV (C := RJ0) (As := [.ref (AD nb ad6 x7), .int a1, .int x10]) (rest := []) ⟨hx, hb, hml, hown, hts⟩ (h_J0_getBytes_840e7 l dC dI cy nb ad6 n3 s4 E5 hC (a2) Aa2 ha2 (x7) (AD nb ad6 x7) hr9 (a1) (x10) H.size n14 s15 E16 e13) (cwV 3 hts (gV mw_729 mw_730 mw_731 mw_277 mw_732) rfl rfl rfl (by decide +kernel) ⟨Nat.le_of_ble_eq_true rfl, Nat.le_of_ble_eq_true rfl⟩) (hl_preV hP hK hD hE hS hFc (hs_srecv hK hP hC hE hS ha2 e12)) rfl rfl hl.1 rfl (lv_room (Nat.le_of_ble_eq_true rfl)) dJ5_putStringAt_47b60_15 ⟨show n3 - n0 + (n14 - n3) ≤ nz - n0 by omega, show s4 - s0 + (s15 - s4) ≤ sz9 - s0 by omega⟩) hS (fun q _ h => hFc q h) hFc (fun u t H1 locs ht hvm hw hB hz1 hk1 hS => ?_)
  obtain ⟨ad17, hax, hP1, hD1⟩ := hB
  rw [ht] at hP1
  have hP := hP1
  have hD := hD1.weaken (fun k q _ h => hFc q.1 h)
  generalize H1 = H at hP hS ⊢
  have ha0 := ha0.mv hC.1 hax
  have ha2 := ha2.mv hC.1 hax
  have hX := hX.trans hax
  have hC := hm.2.2 hC
  have hN : n0 ≤ n14 := Nat.le_trans hN hm1
  have hT : s0 ≤ s15 := Nat.le_trans hT hm2
  refine W.widen (k := n14 - n0) (n := s15 - s0) (by omega) (by omega) ?_
  clear hP1 hD1 hFc hk1 hz1 hvm ht hax hm hm1 hm2 hM1 hM2
  obtain ⟨ht9, hn9, hs9, hE9⟩ := mr_o hF
  subst hn9 hs9 hE9
  have hX9 := hX
  rw [hQ]
  exact W.vret hx hb hr (fun t ht hW => ⟨⟨(), rfl, trivial, _, hX, by rw [ht]; exact hP, hD⟩, hS.F ht⟩) hS.2.2 dJ5_putStringAt_47b60_18
noncomputable def H_J5_append_cf1ce (a0 : Nat) (a1 : Nat) : MH Nat := mb (mg fun n E => sOk n E (a1)) fun _ => mb (H_J0_length_8abf5 (a1)) fun x2 => mb (rI (a0) 1 3) fun x8 => mb (mg fun n E => fO n E (a0) 1) fun _ => mb (H_J5_ensureCapacityInternal_d00df (a0) ((x8 + x2))) fun _ => mb (rI (a0) 1 3) fun x16 => mb (mg fun n E => fO n E (a0) 1) fun _ => mb (H_J5_putStringAt_47b60 (a0) (x16) (a1)) fun _ => mb (rI (a0) 1 3) fun x24 => mb (wI (a0) 1 3 ((x24 + x2))) fun _ => mr a0
set_option maxHeartbeats 4000000 in
set_option maxRecDepth 100000 in
theorem h_J5_append_cf1ce (l : Launch) (dC : Nat → ClassId) (dI : Nat → Nat → Nat) (cy : Nat → ClassId) (nb : Nat → Nat) (ad0 : Nat → Nat) (n0 s0 : Nat) (E0 : HE) (hC : clo n0 E0) (a0 Aa0 : Nat) (ha0 : rf nb ad0 n0 a0 Aa0) (a1 Aa1 : Nat) (ha1 : rf nb ad0 n0 a1 Aa1) (sz : Nat) (ro : Nat) (nz sz9 : Nat) (Ez : HE) (hF : (H_J5_append_cf1ce a0 a1).1 (n0, s0, E0) = some (ro, nz, sz9, Ez)) : Met l yJ5_append_cf1ce (wsg yJ5_append_cf1ce cJ5_append_cf1ce 3 (some (.object "java/lang/AbstractStringBuilder"))) ({ frames := 11, cells := nz - n0, slots := sz9 - s0, locals := 600 }) (va_Pc [.ref Aa0, .ref Aa1] (fun U => U.heap.size = sz ∧ va_P (dC, dI) vwCl (CH cy nb ad0 n0 E0) U.heap ∧ va_K (dC, dI) vwCl (tyL cy) U ∧ va_D (fun _ => True) (CH cy nb ad0 n0 E0) ∧ GL nb (va_A (CH cy nb ad0 n0 E0) sz) U)) (va_Qr (fun (_ : Unit) => True) (fun _ ra t => ∃ ad2 : Nat → Nat, axh n0 ad0 nz ad2 ∧ rf nb ad2 nz ro ra ∧ va_P (dC, dI) vwCl (CH cy nb ad2 nz Ez) t.heap ∧ va_D (va_A (CH cy nb ad0 n0 E0) sz) (CH cy nb ad2 nz Ez)) (va_A (CH cy nb ad0 n0 E0) sz)) (nz - n0) (sz9 - s0) (va_A (CH cy nb ad0 n0 E0) sz) := by
  refine Met.ofW (cc := cJ5_append_cf1ce) (maxL := 3) (ret := (some (.object "java/lang/AbstractStringBuilder"))) (by decide) rfl ?_
  intro p e s m args below meth c s₁ B hml hv
  obtain ⟨rfl, hsz, hP, hK, hD0, hE⟩ := hv
  have hx := B.exec
  have hb := B.bytes
  have hr := B.returns
  have hts0 := atoms_spec (ws := (wsg yJ5_append_cf1ce cJ5_append_cf1ce 3 (some (.object "java/lang/AbstractStringBuilder")))) B.pre
  have hts : ∀ w ∈ wsL_law, w.before _ s = true := fun w h => hts0 w (List.mem_cons_of_mem _ h)
  have hown : s.vm.findClass RJ5 = some m.cls := by have h9 := findClass_of_methodNamed B.named; exact h9
  subst hsz
  have hD := hD0.self (sz := s.heap.size)
  generalize hAe : va_A (CH cy nb ad0 n0 E0) s.heap.size = A at hD hE ⊢
  have hA : ∀ q : Nat, s.heap.size ≤ q → A q := fun q h => by rw [← hAe]; exact Or.inr h
  have hS : va_S A s.heap s.heap [] := va_S.rf
  have hl := lv_entry ([.ref Aa0, .ref Aa1]) (n := 3) (Nat.le_of_ble_eq_true rfl)
  rw [lg_entry_eq]
  generalize (lg_sl ([.ref Aa0, .ref Aa1]) ++ List.replicate (3 - (lg_sl ([.ref Aa0, .ref Aa1])).length) Slot.unset).toArray = ls at hl ⊢
  have hl : lv_has ls 3 [(0, .ref Aa0), (1, .ref Aa1)] := hl
  generalize hHe : s.heap = H at hP hS ⊢
  have hS : va_S A s.heap H [] := by rw [hHe]; exact hS
  refine my_Q (fun Qn hQ => ?_)
  simp only [H_J5_append_cf1ce] at hF
  have hX : axh n0 ad0 n0 ad0 := axh_refl
  have hN : n0 ≤ n0 := Nat.le_refl _
  have hT : s0 ≤ s0 := Nat.le_refl _
  refine W.widen (k := n0 - n0) (n := s0 - s0) (by omega) (by omega) ?_
  refine lv_aload_n hx hb dJ5_append_cf1ce_0 rfl (lv_at hl 1 rfl) ?_
  refine lv_ifnonnull (tgt := 9) hx hb dJ5_append_cf1ce_1 (by decide) ?_
  refine lv_aload_n hx hb dJ5_append_cf1ce_9 rfl (lv_at hl 1 rfl) ?_
  obtain ⟨_, e1, hF⟩ := mg_o hF
  obtain ⟨x2, n4, s5, E6, e3, hF⟩ := mb_o hF
  have hm := mle e3
  have hM1 := mle1 hF
  have hM2 := mle2 hF
  have hm1 := hm.1
  have hm2 := hm.2.1
  have hFc := my_free hD hS hA
  refine va_calli (va_runV (C := RJ0) (As := []) (rest := []) ⟨hx, hb, hml, hown, hts⟩ (h_J0_length_8abf5 l dC dI cy nb ad0 n0 s0 E0 hC (a1) Aa1 ha1 H.size x2 n4 s5 E6 e3) (cwV 0 hts (gV mw_696 mw_275 mw_276 mw_277 mw_278) rfl rfl rfl (by decide +kernel) ⟨Nat.le_of_ble_eq_true rfl, Nat.le_of_ble_eq_true rfl⟩) (hl_preV hP hK hD hE hS hFc (hs_srecv hK hP hC hE hS ha1 e1)) rfl rfl hl.1 rfl (lv_room (Nat.le_of_ble_eq_true rfl)) dJ5_append_cf1ce_10 ⟨show n0 - n0 + (n4 - n0) ≤ nz - n0 by omega, show s0 - s0 + (s5 - s0) ≤ sz9 - s0 by omega⟩) hS (fun q _ h => hFc q h) hFc (fun r9 u t H1 locs ht hvm hw hB hz1 hk1 hS => ?_)
  obtain ⟨ad7, hax, hP1, hD1⟩ := hB
  rw [ht] at hP1
  have hP := hP1
  have hD := hD1.weaken (fun k q _ h => hFc q.1 h)
  generalize H1 = H at hP hS ⊢
  have ha0 := ha0.mv hC.1 hax
  have ha1 := ha1.mv hC.1 hax
  have hX := hX.trans hax
  have hC := hm.2.2 hC
  have hN : n0 ≤ n4 := Nat.le_trans hN hm1
  have hT : s0 ≤ s5 := Nat.le_trans hT hm2
  refine W.widen (k := n4 - n0) (n := s5 - s0) (by omega) (by omega) ?_
  clear hP1 hD1 hFc hk1 hz1 hvm ht hax hm hm1 hm2 hM1 hM2
  obtain rfl := hw.symm
  refine lv_istore_n (lv' := [(2, .int x2), (0, .ref Aa0), (1, .ref Aa1)]) hx hb dJ5_append_cf1ce_13 rfl hl (by decide) rfl (fun ls hl => ?_)
  refine lv_aload_n hx hb dJ5_append_cf1ce_14 rfl (lv_at hl 1 rfl) ?_
  refine lv_aload_n hx hb dJ5_append_cf1ce_15 rfl (lv_at hl 1 rfl) ?_
  obtain ⟨x8, e9, hF⟩ := mg_o hF
  obtain ⟨fs9, h9, g9⟩ := rdI hP hC ha0 e9
  refine va_get (D := (dC, dI)) (ci := 1) (v := .int x8) (C := RJ4) (T := TJ4) (N := 4) hx hb hts inlJ4 hown hK h9 0 rfl rfl 3 (by decide) (hts _ mw_627) (fun _ h9 => h9) g9 dJ5_append_cf1ce_16 ?_
  clear h9 g9
  refine lv_iload_n hx hb dJ5_append_cf1ce_19 rfl (lv_at hl 0 rfl) ?_
  refine lv_iadd hx hb dJ5_append_cf1ce_20 ?_
  obtain ⟨fs9, e10, hF⟩ := mg_o hF
  obtain ⟨⟨⟩, n12, s13, E14, e11, hF⟩ := mb_o hF
  have hm := mle e11
  have hM1 := mle1 hF
  have hM2 := mle2 hF
  have hm1 := hm.1
  have hm2 := hm.2.1
  have hFc := my_free hD hS hA
  refine va_callv (va_runV (C := RJ4) (As := [.int (x8 + x2)]) (rest := []) ⟨hx, hb, hml, hown, hts⟩ (h_J5_ensureCapacityInternal_d00df l dC dI cy nb ad7 n4 s5 E6 hC (a0) Aa0 ha0 ((x8 + x2)) H.size n12 s13 E14 e11) (cwV 1 hts (gV mw_633 mw_636 mw_635 mw_8 mw_637) rfl rfl rfl (by decide +kernel) ⟨Nat.le_of_ble_eq_true rfl, Nat.le_of_ble_eq_true rfl⟩) (hl_preV hP hK hD hE hS hFc (va_recv hK (rdO_ hP hC ha0 e10) (ci := 1) (q0 := 0) rfl rfl)) rfl rfl hl.1 rfl (lv_room (Nat.le_of_ble_eq_true rfl)) dJ5_append_cf1ce_21 ⟨show n4 - n0 + (n12 - n4) ≤ nz - n0 by omega, show s5 - s0 + (s13 - s5) ≤ sz9 - s0 by omega⟩) hS (fun q _ h => hFc q h) hFc (fun u t H1 locs ht hvm hw hB hz1 hk1 hS => ?_)
  obtain ⟨ad15, hax, hP1, hD1⟩ := hB
  rw [ht] at hP1
  have hP := hP1
  have hD := hD1.weaken (fun k q _ h => hFc q.1 h)
  generalize H1 = H at hP hS ⊢
  have ha0 := ha0.mv hC.1 hax
  have ha1 := ha1.mv hC.1 hax
  have hX := hX.trans hax
  have hC := hm.2.2 hC
  have hN : n0 ≤ n12 := Nat.le_trans hN hm1
  have hT : s0 ≤ s13 := Nat.le_trans hT hm2
  refine W.widen (k := n12 - n0) (n := s13 - s0) (by omega) (by omega) ?_
  clear hP1 hD1 hFc hk1 hz1 hvm ht hax hm hm1 hm2 hM1 hM2
  refine lv_aload_n hx hb dJ5_append_cf1ce_24 rfl (lv_at hl 1 rfl) ?_
  refine lv_aload_n hx hb dJ5_append_cf1ce_25 rfl (lv_at hl 1 rfl) ?_
  obtain ⟨x16, e17, hF⟩ := mg_o hF
  obtain ⟨fs9, h9, g9⟩ := rdI hP hC ha0 e17
  refine va_get (D := (dC, dI)) (ci := 1) (v := .int x16) (C := RJ4) (T := TJ4) (N := 4) hx hb hts inlJ4 hown hK h9 0 rfl rfl 3 (by decide) (hts _ mw_627) (fun _ h9 => h9) g9 dJ5_append_cf1ce_26 ?_
  clear h9 g9
  refine lv_aload_n hx hb dJ5_append_cf1ce_29 rfl (lv_at hl 2 rfl) ?_
  obtain ⟨fs9, e18, hF⟩ := mg_o hF
  obtain ⟨⟨⟩, n20, s21, E22, e19, hF⟩ := mb_o hF
  have hm := mle e19
  have hM1 := mle1 hF
  have hM2 := mle2 hF
  have hm1 := hm.1
  have hm2 := hm.2.1
  have hFc := my_free hD hS hA
  refine va_callv (va_runV (C := RJ4) (As := [.int x16, .ref Aa1]) (rest := []) ⟨hx, hb, hml, hown, hts⟩ (h_J5_putStringAt_47b60 l dC dI cy nb ad15 n12 s13 E14 hC (a0) Aa0 ha0 (x16) (a1) Aa1 ha1 H.size n20 s21 E22 e19) (cwV 2 hts (gV mw_697 mw_700 mw_699 mw_8 mw_701) rfl rfl rfl (by decide +kernel) ⟨Nat.le_of_ble_eq_true rfl, Nat.le_of_ble_eq_true rfl⟩) (hl_preV hP hK hD hE hS hFc (va_recv hK (rdO_ hP hC ha0 e18) (ci := 1) (q0 := 0) rfl rfl)) rfl rfl hl.1 rfl (lv_room (Nat.le_of_ble_eq_true rfl)) dJ5_append_cf1ce_30 ⟨show n12 - n0 + (n20 - n12) ≤ nz - n0 by omega, show s13 - s0 + (s21 - s13) ≤ sz9 - s0 by omega⟩) hS (fun q _ h => hFc q h) hFc (fun u t H1 locs ht hvm hw hB hz1 hk1 hS => ?_)
  obtain ⟨ad23, hax, hP1, hD1⟩ := hB
  rw [ht] at hP1
  have hP := hP1
  have hD := hD1.weaken (fun k q _ h => hFc q.1 h)
  generalize H1 = H at hP hS ⊢
  have ha0 := ha0.mv hC.1 hax
  have ha1 := ha1.mv hC.1 hax
  have hX := hX.trans hax
  have hC := hm.2.2 hC
  have hN : n0 ≤ n20 := Nat.le_trans hN hm1
  have hT : s0 ≤ s21 := Nat.le_trans hT hm2
  refine W.widen (k := n20 - n0) (n := s21 - s0) (by omega) (by omega) ?_
  clear hP1 hD1 hFc hk1 hz1 hvm ht hax hm hm1 hm2 hM1 hM2
  refine lv_aload_n hx hb dJ5_append_cf1ce_33 rfl (lv_at hl 1 rfl) ?_
  refine lv_dup hx hb dJ5_append_cf1ce_34 rfl ?_
  obtain ⟨x24, e25, hF⟩ := mg_o hF
  obtain ⟨fs9, h9, g9⟩ := rdI hP hC ha0 e25
  refine va_get (D := (dC, dI)) (ci := 1) (v := .int x24) (C := RJ4) (T := TJ4) (N := 4) hx hb hts inlJ4 hown hK h9 0 rfl rfl 3 (by decide) (hts _ mw_627) (fun _ h9 => h9) g9 dJ5_append_cf1ce_35 ?_
  clear h9 g9
  refine lv_iload_n hx hb dJ5_append_cf1ce_38 rfl (lv_at hl 0 rfl) ?_
  refine lv_iadd hx hb dJ5_append_cf1ce_39 ?_
  obtain ⟨E26, e27, hF⟩ := mw_o hF
  obtain ⟨q9, fs9, h9, ez9⟩ := wrI (cy := cy) hC ha0 e27
  refine va_put (D := (dC, dI)) (ci := 1) (v := .int (x24 + x2)) (ty := .int) (C := RJ4) (T := TJ4) (N := 4) hx hb hts inlJ4 tyJ4 tyJ4_ok nmJ4 hown hK hP hD hS q9 h9 rfl 3 (by decide) (hts _ mw_627) (fun _ h9 => h9) rfl (by decide +kernel) rfl rfl (Nat.le_of_ble_eq_true rfl) dJ5_append_cf1ce_40 (fun H locs hP hD hS => ?_)
  rw [ez9] at hP hD
  clear ez9 h9
  have hC := sI_clo e27 hC
  refine lv_aload_n hx hb dJ5_append_cf1ce_43 rfl (lv_at hl 1 rfl) ?_
  obtain ⟨ht9, hn9, hs9, hE9⟩ := mr_o hF
  subst hn9 hs9 hE9
  have hX9 := hX
  rw [hQ]
  exact W.aret (v := .ref Aa0) hx hb hr (by first | exact Or.inl ⟨_, rfl⟩ | exact Or.inr ⟨_, rfl⟩) (Or.inr ⟨_, rfl⟩) (fun t ht hW => ⟨⟨(), Aa0, rfl, trivial, _, hX, (by rw [← ht9]; exact ha0), by rw [ht]; exact hP, hD⟩, hS.F ht⟩) hS.2.2 dJ5_append_cf1ce_44
noncomputable def H_J4_append_15ec4 (a0 : Nat) (a1 : Nat) : MH Nat := mb (mg fun n E => fO n E (a0) 1) fun _ => mb (H_J5_append_cf1ce (a0) (a1)) fun x2 => mr a0
set_option maxHeartbeats 4000000 in
set_option maxRecDepth 100000 in
theorem h_J4_append_15ec4 (l : Launch) (dC : Nat → ClassId) (dI : Nat → Nat → Nat) (cy : Nat → ClassId) (nb : Nat → Nat) (ad0 : Nat → Nat) (n0 s0 : Nat) (E0 : HE) (hC : clo n0 E0) (a0 Aa0 : Nat) (ha0 : rf nb ad0 n0 a0 Aa0) (a1 Aa1 : Nat) (ha1 : rf nb ad0 n0 a1 Aa1) (sz : Nat) (ro : Nat) (nz sz9 : Nat) (Ez : HE) (hF : (H_J4_append_15ec4 a0 a1).1 (n0, s0, E0) = some (ro, nz, sz9, Ez)) : Met l yJ4_append_15ec4 (wsg yJ4_append_15ec4 cJ4_append_15ec4 2 (some (.object "java/lang/StringBuilder"))) ({ frames := 12, cells := nz - n0, slots := sz9 - s0, locals := 700 }) (va_Pc [.ref Aa0, .ref Aa1] (fun U => U.heap.size = sz ∧ va_P (dC, dI) vwCl (CH cy nb ad0 n0 E0) U.heap ∧ va_K (dC, dI) vwCl (tyL cy) U ∧ va_D (fun _ => True) (CH cy nb ad0 n0 E0) ∧ GL nb (va_A (CH cy nb ad0 n0 E0) sz) U)) (va_Qr (fun (_ : Unit) => True) (fun _ ra t => ∃ ad2 : Nat → Nat, axh n0 ad0 nz ad2 ∧ rf nb ad2 nz ro ra ∧ va_P (dC, dI) vwCl (CH cy nb ad2 nz Ez) t.heap ∧ va_D (va_A (CH cy nb ad0 n0 E0) sz) (CH cy nb ad2 nz Ez)) (va_A (CH cy nb ad0 n0 E0) sz)) (nz - n0) (sz9 - s0) (va_A (CH cy nb ad0 n0 E0) sz) := by
  refine Met.ofW (cc := cJ4_append_15ec4) (maxL := 2) (ret := (some (.object "java/lang/StringBuilder"))) (by decide) rfl ?_
  intro p e s m args below meth c s₁ B hml hv
  obtain ⟨rfl, hsz, hP, hK, hD0, hE⟩ := hv
  have hx := B.exec
  have hb := B.bytes
  have hr := B.returns
  have hts0 := atoms_spec (ws := (wsg yJ4_append_15ec4 cJ4_append_15ec4 2 (some (.object "java/lang/StringBuilder")))) B.pre
  have hts : ∀ w ∈ wsL_law, w.before _ s = true := fun w h => hts0 w (List.mem_cons_of_mem _ h)
  have hown : s.vm.findClass RJ4 = some m.cls := by have h9 := findClass_of_methodNamed B.named; exact h9
  subst hsz
  have hD := hD0.self (sz := s.heap.size)
  generalize hAe : va_A (CH cy nb ad0 n0 E0) s.heap.size = A at hD hE ⊢
  have hA : ∀ q : Nat, s.heap.size ≤ q → A q := fun q h => by rw [← hAe]; exact Or.inr h
  have hS : va_S A s.heap s.heap [] := va_S.rf
  have hl := lv_entry ([.ref Aa0, .ref Aa1]) (n := 2) (Nat.le_of_ble_eq_true rfl)
  rw [lg_entry_eq]
  generalize (lg_sl ([.ref Aa0, .ref Aa1]) ++ List.replicate (2 - (lg_sl ([.ref Aa0, .ref Aa1])).length) Slot.unset).toArray = ls at hl ⊢
  have hl : lv_has ls 2 [(0, .ref Aa0), (1, .ref Aa1)] := hl
  generalize hHe : s.heap = H at hP hS ⊢
  have hS : va_S A s.heap H [] := by rw [hHe]; exact hS
  refine my_Q (fun Qn hQ => ?_)
  simp only [H_J4_append_15ec4] at hF
  have hX : axh n0 ad0 n0 ad0 := axh_refl
  have hN : n0 ≤ n0 := Nat.le_refl _
  have hT : s0 ≤ s0 := Nat.le_refl _
  refine W.widen (k := n0 - n0) (n := s0 - s0) (by omega) (by omega) ?_
  refine lv_aload_n hx hb dJ4_append_15ec4_0 rfl (lv_at hl 0 rfl) ?_
  refine lv_aload_n hx hb dJ4_append_15ec4_1 rfl (lv_at hl 1 rfl) ?_
  obtain ⟨fs9, e1, hF⟩ := mg_o hF
  obtain ⟨x2, n4, s5, E6, e3, hF⟩ := mb_o hF
  have hm := mle e3
  have hM1 := mle1 hF
  have hM2 := mle2 hF
  have hm1 := hm.1
  have hm2 := hm.2.1
  have hFc := my_free hD hS hA
  refine va_callr (va_runSU (C := RJ4) (As := [.ref Aa1]) (rest := []) (hK.1 1 _ rfl).2 ⟨hx, hb, hml, hown, hts⟩ (h_J5_append_cf1ce l dC dI cy nb ad0 n0 s0 E0 hC (a0) Aa0 ha0 (a1) Aa1 ha1 H.size x2 n4 s5 E6 e3) (va_cwSU 1 hts (gSU mw_622 mw_623 mw_624 mw_625 mw_586 mw_626) rfl rfl rfl (by decide +kernel) ⟨Nat.le_of_ble_eq_true rfl, Nat.le_of_ble_eq_true rfl⟩) (hl_preV hP hK hD hE hS hFc (va_recv hK (rdO_ hP hC ha0 e1) (ci := 1) (q0 := 0) rfl rfl)) rfl rfl hl.1 rfl (lv_room (Nat.le_of_ble_eq_true rfl)) dJ4_append_15ec4_2 ⟨show n0 - n0 + (n4 - n0) ≤ nz - n0 by omega, show s0 - s0 + (s5 - s0) ≤ sz9 - s0 by omega⟩) hS (fun q _ h => hFc q h) hFc (fun u ra t H1 locs ht hvm hw hB hz1 hk1 hS => ?_)
  obtain ⟨ad7, hax, hr8, hP1, hD1⟩ := hB
  rw [ht] at hP1
  have hP := hP1
  have hD := hD1.weaken (fun k q _ h => hFc q.1 h)
  generalize H1 = H at hP hS ⊢
  have ha0 := ha0.mv hC.1 hax
  have ha1 := ha1.mv hC.1 hax
  have hX := hX.trans hax
  have hC := hm.2.2 hC
  have hN : n0 ≤ n4 := Nat.le_trans hN hm1
  have hT : s0 ≤ s5 := Nat.le_trans hT hm2
  refine W.widen (k := n4 - n0) (n := s5 - s0) (by omega) (by omega) ?_
  clear hP1 hD1 hFc hk1 hz1 hvm ht hax hm hm1 hm2 hM1 hM2
  refine my_top (y := .ref (AD nb ad7 x2)) (congrArg Value.ref hr8.2.symm) ?_
  have hr8 := rf_self hr8
  refine lv_pop hx hb dJ4_append_15ec4_5 rfl ?_
  refine lv_aload_n hx hb dJ4_append_15ec4_6 rfl (lv_at hl 0 rfl) ?_
  obtain ⟨ht9, hn9, hs9, hE9⟩ := mr_o hF
  subst hn9 hs9 hE9
  have hX9 := hX
  rw [hQ]
  exact W.aret (v := .ref Aa0) hx hb hr (by first | exact Or.inl ⟨_, rfl⟩ | exact Or.inr ⟨_, rfl⟩) (Or.inr ⟨_, rfl⟩) (fun t ht hW => ⟨⟨(), Aa0, rfl, trivial, _, hX, (by rw [← ht9]; exact ha0), by rw [ht]; exact hP, hD⟩, hS.F ht⟩) hS.2.2 dJ4_append_15ec4_7
noncomputable def H_J5_append_3fe6f (a0 : Nat) (a1 : Int32) : MH Nat := mb (rI (a0) 1 3) fun x1 => mb (mg fun n E => fO n E (a0) 1) fun _ => mb (H_J5_ensureCapacityInternal_d00df (a0) ((x1 + 1))) fun _ => mb (mg fun n E => fO n E (a0) 1) fun _ => mb (H_J5_isLatin1_aae02 (a0)) fun x10 => if x10 = 0 then (mb (mg fun n E => fO n E (a0) 1) fun _ => mb (H_J5_isLatin1_aae02 (a0)) fun x18 => if x18 = 0 then (mb (rR (a0) 1 0) fun x25 => mb (rI (a0) 1 3) fun x28 => mb (wI (a0) 1 3 ((x28 + 1))) fun _ => m0) else (m0)) else (mb (H_J1_canEncode_fc78d (a1)) fun x32 => if x32 = 0 then (mb (mg fun n E => fO n E (a0) 1) fun _ => mb (H_J5_isLatin1_aae02 (a0)) fun x40 => if x40 = 0 then (mb (rR (a0) 1 0) fun x47 => mb (rI (a0) 1 3) fun x50 => mb (wI (a0) 1 3 ((x50 + 1))) fun _ => m0) else (m0)) else (mb (rR (a0) 1 0) fun x54 => mb (rI (a0) 1 3) fun x57 => mb (wI (a0) 1 3 ((x57 + 1))) fun _ => mb (wA (x54) 0 (x57) ((vp_nar .byte ((a1).toInt8.toInt32)))) fun _ => mr a0))
set_option maxHeartbeats 4000000 in
set_option maxRecDepth 100000 in
theorem h_J5_append_3fe6f (l : Launch) (dC : Nat → ClassId) (dI : Nat → Nat → Nat) (cy : Nat → ClassId) (nb : Nat → Nat) (ad0 : Nat → Nat) (n0 s0 : Nat) (E0 : HE) (hC : clo n0 E0) (a0 Aa0 : Nat) (ha0 : rf nb ad0 n0 a0 Aa0) (a1 : Int32) (sz : Nat) (ro : Nat) (nz sz9 : Nat) (Ez : HE) (hF : (H_J5_append_3fe6f a0 a1).1 (n0, s0, E0) = some (ro, nz, sz9, Ez)) : Met l yJ5_append_3fe6f (wsg yJ5_append_3fe6f cJ5_append_3fe6f 2 (some (.object "java/lang/AbstractStringBuilder"))) ({ frames := 11, cells := nz - n0, slots := sz9 - s0, locals := 600 }) (va_Pc [.ref Aa0, .int a1] (fun U => U.heap.size = sz ∧ va_P (dC, dI) vwCl (CH cy nb ad0 n0 E0) U.heap ∧ va_K (dC, dI) vwCl (tyL cy) U ∧ va_D (fun _ => True) (CH cy nb ad0 n0 E0) ∧ GL nb (va_A (CH cy nb ad0 n0 E0) sz) U)) (va_Qr (fun (_ : Unit) => True) (fun _ ra t => ∃ ad2 : Nat → Nat, axh n0 ad0 nz ad2 ∧ rf nb ad2 nz ro ra ∧ va_P (dC, dI) vwCl (CH cy nb ad2 nz Ez) t.heap ∧ va_D (va_A (CH cy nb ad0 n0 E0) sz) (CH cy nb ad2 nz Ez)) (va_A (CH cy nb ad0 n0 E0) sz)) (nz - n0) (sz9 - s0) (va_A (CH cy nb ad0 n0 E0) sz) := by
  refine Met.ofW (cc := cJ5_append_3fe6f) (maxL := 2) (ret := (some (.object "java/lang/AbstractStringBuilder"))) (by decide) rfl ?_
  intro p e s m args below meth c s₁ B hml hv
  obtain ⟨rfl, hsz, hP, hK, hD0, hE⟩ := hv
  have hx := B.exec
  have hb := B.bytes
  have hr := B.returns
  have hts0 := atoms_spec (ws := (wsg yJ5_append_3fe6f cJ5_append_3fe6f 2 (some (.object "java/lang/AbstractStringBuilder")))) B.pre
  have hts : ∀ w ∈ wsL_law, w.before _ s = true := fun w h => hts0 w (List.mem_cons_of_mem _ h)
  have hown : s.vm.findClass RJ5 = some m.cls := by have h9 := findClass_of_methodNamed B.named; exact h9
  subst hsz
  have hD := hD0.self (sz := s.heap.size)
  generalize hAe : va_A (CH cy nb ad0 n0 E0) s.heap.size = A at hD hE ⊢
  have hA : ∀ q : Nat, s.heap.size ≤ q → A q := fun q h => by rw [← hAe]; exact Or.inr h
  have hS : va_S A s.heap s.heap [] := va_S.rf
  have hl := lv_entry ([.ref Aa0, .int a1]) (n := 2) (Nat.le_of_ble_eq_true rfl)
  rw [lg_entry_eq]
  generalize (lg_sl ([.ref Aa0, .int a1]) ++ List.replicate (2 - (lg_sl ([.ref Aa0, .int a1])).length) Slot.unset).toArray = ls at hl ⊢
  have hl : lv_has ls 2 [(0, .ref Aa0), (1, .int a1)] := hl
  generalize hHe : s.heap = H at hP hS ⊢
  have hS : va_S A s.heap H [] := by rw [hHe]; exact hS
  refine my_Q (fun Qn hQ => ?_)
  simp only [H_J5_append_3fe6f] at hF
  have hX : axh n0 ad0 n0 ad0 := axh_refl
  have hN : n0 ≤ n0 := Nat.le_refl _
  have hT : s0 ≤ s0 := Nat.le_refl _
  refine W.widen (k := n0 - n0) (n := s0 - s0) (by omega) (by omega) ?_
  refine lv_aload_n hx hb dJ5_append_3fe6f_0 rfl (lv_at hl 0 rfl) ?_
  refine lv_aload_n hx hb dJ5_append_3fe6f_1 rfl (lv_at hl 0 rfl) ?_
  obtain ⟨x1, e2, hF⟩ := mg_o hF
  obtain ⟨fs9, h9, g9⟩ := rdI hP hC ha0 e2
  refine va_get (D := (dC, dI)) (ci := 1) (v := .int x1) (C := RJ4) (T := TJ4) (N := 4) hx hb hts inlJ4 hown hK h9 0 rfl rfl 3 (by decide) (hts _ mw_627) (fun _ h9 => h9) g9 dJ5_append_3fe6f_2 ?_
  clear h9 g9
  refine lv_iconst (v := 1) hx hb dJ5_append_3fe6f_5 (by decide) ?_
  refine lv_iadd hx hb dJ5_append_3fe6f_6 ?_
  obtain ⟨fs9, e3, hF⟩ := mg_o hF
  obtain ⟨⟨⟩, n5, s6, E7, e4, hF⟩ := mb_o hF
  have hm := mle e4
  have hM1 := mle1 hF
  have hM2 := mle2 hF
  have hm1 := hm.1
  have hm2 := hm.2.1
  have hFc := my_free hD hS hA
  refine va_callv (va_runV (C := RJ4) (As := [.int (x1 + 1)]) (rest := []) ⟨hx, hb, hml, hown, hts⟩ (h_J5_ensureCapacityInternal_d00df l dC dI cy nb ad0 n0 s0 E0 hC (a0) Aa0 ha0 ((x1 + 1)) H.size n5 s6 E7 e4) (cwV 1 hts (gV mw_633 mw_636 mw_635 mw_8 mw_637) rfl rfl rfl (by decide +kernel) ⟨Nat.le_of_ble_eq_true rfl, Nat.le_of_ble_eq_true rfl⟩) (hl_preV hP hK hD hE hS hFc (va_recv hK (rdO_ hP hC ha0 e3) (ci := 1) (q0 := 0) rfl rfl)) rfl rfl hl.1 rfl (lv_room (Nat.le_of_ble_eq_true rfl)) dJ5_append_3fe6f_7 ⟨show n0 - n0 + (n5 - n0) ≤ nz - n0 by omega, show s0 - s0 + (s6 - s0) ≤ sz9 - s0 by omega⟩) hS (fun q _ h => hFc q h) hFc (fun u t H1 locs ht hvm hw hB hz1 hk1 hS => ?_)
  obtain ⟨ad8, hax, hP1, hD1⟩ := hB
  rw [ht] at hP1
  have hP := hP1
  have hD := hD1.weaken (fun k q _ h => hFc q.1 h)
  generalize H1 = H at hP hS ⊢
  have ha0 := ha0.mv hC.1 hax
  have hX := hX.trans hax
  have hC := hm.2.2 hC
  have hN : n0 ≤ n5 := Nat.le_trans hN hm1
  have hT : s0 ≤ s6 := Nat.le_trans hT hm2
  refine W.widen (k := n5 - n0) (n := s6 - s0) (by omega) (by omega) ?_
  clear hP1 hD1 hFc hk1 hz1 hvm ht hax hm hm1 hm2 hM1 hM2
  refine lv_aload_n hx hb dJ5_append_3fe6f_10 rfl (lv_at hl 0 rfl) ?_
  obtain ⟨fs9, e9, hF⟩ := mg_o hF
  obtain ⟨x10, n12, s13, E14, e11, hF⟩ := mb_o hF
  have hm := mle e11
  have hM1 := mle1 hF
  have hM2 := mle2 hF
  have hm1 := hm.1
  have hm2 := hm.2.1
  have hFc := my_free hD hS hA
  refine va_calli (va_runV (C := RJ4) (As := []) (rest := []) ⟨hx, hb, hml, hown, hts⟩ (h_J5_isLatin1_aae02 l dC dI cy nb ad8 n5 s6 E7 hC (a0) Aa0 ha0 H.size x10 n12 s13 E14 e11) (cwV 0 hts (gV mw_669 mw_672 mw_671 mw_8 mw_673) rfl rfl rfl (by decide +kernel) ⟨Nat.le_of_ble_eq_true rfl, Nat.le_of_ble_eq_true rfl⟩) (hl_preV hP hK hD hE hS hFc (va_recv hK (rdO_ hP hC ha0 e9) (ci := 1) (q0 := 0) rfl rfl)) rfl rfl hl.1 rfl (lv_room (Nat.le_of_ble_eq_true rfl)) dJ5_append_3fe6f_11 ⟨show n5 - n0 + (n12 - n5) ≤ nz - n0 by omega, show s6 - s0 + (s13 - s6) ≤ sz9 - s0 by omega⟩) hS (fun q _ h => hFc q h) hFc (fun r9 u t H1 locs ht hvm hw hB hz1 hk1 hS => ?_)
  obtain ⟨ad15, hax, hP1, hD1⟩ := hB
  rw [ht] at hP1
  have hP := hP1
  have hD := hD1.weaken (fun k q _ h => hFc q.1 h)
  generalize H1 = H at hP hS ⊢
  have ha0 := ha0.mv hC.1 hax
  have hX := hX.trans hax
  have hC := hm.2.2 hC
  have hN : n0 ≤ n12 := Nat.le_trans hN hm1
  have hT : s0 ≤ s13 := Nat.le_trans hT hm2
  refine W.widen (k := n12 - n0) (n := s13 - s0) (by omega) (by omega) ?_
  clear hP1 hD1 hFc hk1 hz1 hvm ht hax hm hm1 hm2 hM1 hM2
  obtain rfl := hw.symm
  refine lv_if_eq (tgt := 45) hx hb dJ5_append_3fe6f_14 (by decide) (fun c16 => ?_) (fun c16 => ?_)
  · skip
    rw [if_pos c16] at hF
    refine lv_aload_n hx hb dJ5_append_3fe6f_45 rfl (lv_at hl 0 rfl) ?_
    obtain ⟨fs9, e17, hF⟩ := mg_o hF
    obtain ⟨x18, n20, s21, E22, e19, hF⟩ := mb_o hF
    have hm := mle e19
    have hM1 := mle1 hF
    have hM2 := mle2 hF
    have hm1 := hm.1
    have hm2 := hm.2.1
    have hFc := my_free hD hS hA
    refine va_calli (va_runV (C := RJ4) (As := []) (rest := []) ⟨hx, hb, hml, hown, hts⟩ (h_J5_isLatin1_aae02 l dC dI cy nb ad15 n12 s13 E14 hC (a0) Aa0 ha0 H.size x18 n20 s21 E22 e19) (cwV 0 hts (gV mw_669 mw_672 mw_671 mw_8 mw_673) rfl rfl rfl (by decide +kernel) ⟨Nat.le_of_ble_eq_true rfl, Nat.le_of_ble_eq_true rfl⟩) (hl_preV hP hK hD hE hS hFc (va_recv hK (rdO_ hP hC ha0 e17) (ci := 1) (q0 := 0) rfl rfl)) rfl rfl hl.1 rfl (lv_room (Nat.le_of_ble_eq_true rfl)) dJ5_append_3fe6f_46 ⟨show n12 - n0 + (n20 - n12) ≤ nz - n0 by omega, show s13 - s0 + (s21 - s13) ≤ sz9 - s0 by omega⟩) hS (fun q _ h => hFc q h) hFc (fun r9 u t H1 locs ht hvm hw hB hz1 hk1 hS => ?_)
    obtain ⟨ad23, hax, hP1, hD1⟩ := hB
    rw [ht] at hP1
    have hP := hP1
    have hD := hD1.weaken (fun k q _ h => hFc q.1 h)
    generalize H1 = H at hP hS ⊢
    have ha0 := ha0.mv hC.1 hax
    have hX := hX.trans hax
    have hC := hm.2.2 hC
    have hN : n0 ≤ n20 := Nat.le_trans hN hm1
    have hT : s0 ≤ s21 := Nat.le_trans hT hm2
    refine W.widen (k := n20 - n0) (n := s21 - s0) (by omega) (by omega) ?_
    clear hP1 hD1 hFc hk1 hz1 hvm ht hax hm hm1 hm2 hM1 hM2
    obtain rfl := hw.symm
    refine lv_if_eq (tgt := 56) hx hb dJ5_append_3fe6f_49 (by decide) (fun c24 => ?_) (fun c24 => ?_)
    · skip
      rw [if_pos c24] at hF
      refine lv_aload_n hx hb dJ5_append_3fe6f_56 rfl (lv_at hl 0 rfl) ?_
      obtain ⟨x25, e26, hF⟩ := mg_o hF
      obtain ⟨hr27, fs9, h9, g9⟩ := rdR hP hC ha0 e26
      refine va_get (D := (dC, dI)) (ci := 1) (v := .ref (AD nb ad23 x25)) (C := RJ4) (T := TJ4) (N := 4) hx hb hts inlJ4 hown hK h9 0 rfl rfl 0 (by decide) (hts _ mw_590) (fun _ h9 => h9) g9 dJ5_append_3fe6f_57 ?_
      clear h9 g9
      refine lv_aload_n hx hb dJ5_append_3fe6f_60 rfl (lv_at hl 0 rfl) ?_
      refine lv_dup hx hb dJ5_append_3fe6f_61 rfl ?_
      obtain ⟨x28, e29, hF⟩ := mg_o hF
      obtain ⟨fs9, h9, g9⟩ := rdI hP hC ha0 e29
      refine va_get (D := (dC, dI)) (ci := 1) (v := .int x28) (C := RJ4) (T := TJ4) (N := 4) hx hb hts inlJ4 hown hK h9 0 rfl rfl 3 (by decide) (hts _ mw_627) (fun _ h9 => h9) g9 dJ5_append_3fe6f_62 ?_
      clear h9 g9
      refine lv_dup_x1 hx hb dJ5_append_3fe6f_65 rfl rfl ?_
      refine lv_iconst (v := 1) hx hb dJ5_append_3fe6f_66 (by decide) ?_
      refine lv_iadd hx hb dJ5_append_3fe6f_67 ?_
      obtain ⟨E30, e31, hF⟩ := mw_o hF
      obtain ⟨q9, fs9, h9, ez9⟩ := wrI (cy := cy) hC ha0 e31
      refine va_put (D := (dC, dI)) (ci := 1) (v := .int (x28 + 1)) (ty := .int) (C := RJ4) (T := TJ4) (N := 4) hx hb hts inlJ4 tyJ4 tyJ4_ok nmJ4 hown hK hP hD hS q9 h9 rfl 3 (by decide) (hts _ mw_627) (fun _ h9 => h9) rfl (by decide +kernel) rfl rfl (Nat.le_of_ble_eq_true rfl) dJ5_append_3fe6f_68 (fun H locs hP hD hS => ?_)
      rw [ez9] at hP hD
      clear ez9 h9
      have hC := sI_clo e31 hC
      refine lv_iload_n hx hb dJ5_append_3fe6f_71 rfl (lv_at hl 1 rfl) ?_
      exact (m0_o hF).elim
    · skip
      rw [if_neg c24] at hF
      refine lv_aload_n hx hb dJ5_append_3fe6f_52 rfl (lv_at hl 0 rfl) ?_
      exact (m0_o hF).elim
  · skip
    rw [if_neg c16] at hF
    refine lv_iload_n hx hb dJ5_append_3fe6f_17 rfl (lv_at hl 1 rfl) ?_
    obtain ⟨x32, n34, s35, E36, e33, hF⟩ := mb_o hF
    have hm := mle e33
    have hM1 := mle1 hF
    have hM2 := mle2 hF
    have hm1 := hm.1
    have hm2 := hm.2.1
    have hFc := my_free hD hS hA
    refine va_calli (va_runS (As := [.int a1]) (rest := []) ⟨hx, hb, hml, hown, hts⟩ (h_J1_canEncode_fc78d l dC dI cy nb ad15 n12 s13 E14 hC (a1) H.size x32 n34 s35 E36 e33) (va_cwS 1 hts (gS mw_767 mw_768 mw_715 mw_769) rfl rfl rfl (by decide +kernel) ⟨Nat.le_of_ble_eq_true rfl, Nat.le_of_ble_eq_true rfl⟩) (hl_preS hP hK hD hE hS hFc) rfl rfl hl.1 rfl (lv_room (Nat.le_of_ble_eq_true rfl)) dJ5_append_3fe6f_18 ⟨show n12 - n0 + (n34 - n12) ≤ nz - n0 by omega, show s13 - s0 + (s35 - s13) ≤ sz9 - s0 by omega⟩) hS (fun q _ h => hFc q h) hFc (fun r9 u t H1 locs ht hvm hw hB hz1 hk1 hS => ?_)
    obtain ⟨ad37, hax, hP1, hD1⟩ := hB
    rw [ht] at hP1
    have hP := hP1
    have hD := hD1.weaken (fun k q _ h => hFc q.1 h)
    generalize H1 = H at hP hS ⊢
    have ha0 := ha0.mv hC.1 hax
    have hX := hX.trans hax
    have hC := hm.2.2 hC
    have hN : n0 ≤ n34 := Nat.le_trans hN hm1
    have hT : s0 ≤ s35 := Nat.le_trans hT hm2
    refine W.widen (k := n34 - n0) (n := s35 - s0) (by omega) (by omega) ?_
    clear hP1 hD1 hFc hk1 hz1 hvm ht hax hm hm1 hm2 hM1 hM2
    obtain rfl := hw.symm
    refine lv_if_eq (tgt := 45) hx hb dJ5_append_3fe6f_21 (by decide) (fun c38 => ?_) (fun c38 => ?_)
    · skip
      rw [if_pos c38] at hF
      refine lv_aload_n hx hb dJ5_append_3fe6f_45 rfl (lv_at hl 0 rfl) ?_
      obtain ⟨fs9, e39, hF⟩ := mg_o hF
      obtain ⟨x40, n42, s43, E44, e41, hF⟩ := mb_o hF
      have hm := mle e41
      have hM1 := mle1 hF
      have hM2 := mle2 hF
      have hm1 := hm.1
      have hm2 := hm.2.1
      have hFc := my_free hD hS hA
      refine va_calli (va_runV (C := RJ4) (As := []) (rest := []) ⟨hx, hb, hml, hown, hts⟩ (h_J5_isLatin1_aae02 l dC dI cy nb ad37 n34 s35 E36 hC (a0) Aa0 ha0 H.size x40 n42 s43 E44 e41) (cwV 0 hts (gV mw_669 mw_672 mw_671 mw_8 mw_673) rfl rfl rfl (by decide +kernel) ⟨Nat.le_of_ble_eq_true rfl, Nat.le_of_ble_eq_true rfl⟩) (hl_preV hP hK hD hE hS hFc (va_recv hK (rdO_ hP hC ha0 e39) (ci := 1) (q0 := 0) rfl rfl)) rfl rfl hl.1 rfl (lv_room (Nat.le_of_ble_eq_true rfl)) dJ5_append_3fe6f_46 ⟨show n34 - n0 + (n42 - n34) ≤ nz - n0 by omega, show s35 - s0 + (s43 - s35) ≤ sz9 - s0 by omega⟩) hS (fun q _ h => hFc q h) hFc (fun r9 u t H1 locs ht hvm hw hB hz1 hk1 hS => ?_)
      obtain ⟨ad45, hax, hP1, hD1⟩ := hB
      rw [ht] at hP1
      have hP := hP1
      have hD := hD1.weaken (fun k q _ h => hFc q.1 h)
      generalize H1 = H at hP hS ⊢
      have ha0 := ha0.mv hC.1 hax
      have hX := hX.trans hax
      have hC := hm.2.2 hC
      have hN : n0 ≤ n42 := Nat.le_trans hN hm1
      have hT : s0 ≤ s43 := Nat.le_trans hT hm2
      refine W.widen (k := n42 - n0) (n := s43 - s0) (by omega) (by omega) ?_
      clear hP1 hD1 hFc hk1 hz1 hvm ht hax hm hm1 hm2 hM1 hM2
      obtain rfl := hw.symm
      refine lv_if_eq (tgt := 56) hx hb dJ5_append_3fe6f_49 (by decide) (fun c46 => ?_) (fun c46 => ?_)
      · skip
        rw [if_pos c46] at hF
        refine lv_aload_n hx hb dJ5_append_3fe6f_56 rfl (lv_at hl 0 rfl) ?_
        obtain ⟨x47, e48, hF⟩ := mg_o hF
        obtain ⟨hr49, fs9, h9, g9⟩ := rdR hP hC ha0 e48
        refine va_get (D := (dC, dI)) (ci := 1) (v := .ref (AD nb ad45 x47)) (C := RJ4) (T := TJ4) (N := 4) hx hb hts inlJ4 hown hK h9 0 rfl rfl 0 (by decide) (hts _ mw_590) (fun _ h9 => h9) g9 dJ5_append_3fe6f_57 ?_
        clear h9 g9
        refine lv_aload_n hx hb dJ5_append_3fe6f_60 rfl (lv_at hl 0 rfl) ?_
        refine lv_dup hx hb dJ5_append_3fe6f_61 rfl ?_
        obtain ⟨x50, e51, hF⟩ := mg_o hF
        obtain ⟨fs9, h9, g9⟩ := rdI hP hC ha0 e51
        refine va_get (D := (dC, dI)) (ci := 1) (v := .int x50) (C := RJ4) (T := TJ4) (N := 4) hx hb hts inlJ4 hown hK h9 0 rfl rfl 3 (by decide) (hts _ mw_627) (fun _ h9 => h9) g9 dJ5_append_3fe6f_62 ?_
        clear h9 g9
        refine lv_dup_x1 hx hb dJ5_append_3fe6f_65 rfl rfl ?_
        refine lv_iconst (v := 1) hx hb dJ5_append_3fe6f_66 (by decide) ?_
        refine lv_iadd hx hb dJ5_append_3fe6f_67 ?_
        obtain ⟨E52, e53, hF⟩ := mw_o hF
        obtain ⟨q9, fs9, h9, ez9⟩ := wrI (cy := cy) hC ha0 e53
        refine va_put (D := (dC, dI)) (ci := 1) (v := .int (x50 + 1)) (ty := .int) (C := RJ4) (T := TJ4) (N := 4) hx hb hts inlJ4 tyJ4 tyJ4_ok nmJ4 hown hK hP hD hS q9 h9 rfl 3 (by decide) (hts _ mw_627) (fun _ h9 => h9) rfl (by decide +kernel) rfl rfl (Nat.le_of_ble_eq_true rfl) dJ5_append_3fe6f_68 (fun H locs hP hD hS => ?_)
        rw [ez9] at hP hD
        clear ez9 h9
        have hC := sI_clo e53 hC
        refine lv_iload_n hx hb dJ5_append_3fe6f_71 rfl (lv_at hl 1 rfl) ?_
        exact (m0_o hF).elim
      · skip
        rw [if_neg c46] at hF
        refine lv_aload_n hx hb dJ5_append_3fe6f_52 rfl (lv_at hl 0 rfl) ?_
        exact (m0_o hF).elim
    · skip
      rw [if_neg c38] at hF
      refine lv_aload_n hx hb dJ5_append_3fe6f_24 rfl (lv_at hl 0 rfl) ?_
      obtain ⟨x54, e55, hF⟩ := mg_o hF
      obtain ⟨hr56, fs9, h9, g9⟩ := rdR hP hC ha0 e55
      refine va_get (D := (dC, dI)) (ci := 1) (v := .ref (AD nb ad37 x54)) (C := RJ4) (T := TJ4) (N := 4) hx hb hts inlJ4 hown hK h9 0 rfl rfl 0 (by decide) (hts _ mw_590) (fun _ h9 => h9) g9 dJ5_append_3fe6f_25 ?_
      clear h9 g9
      refine lv_aload_n hx hb dJ5_append_3fe6f_28 rfl (lv_at hl 0 rfl) ?_
      refine lv_dup hx hb dJ5_append_3fe6f_29 rfl ?_
      obtain ⟨x57, e58, hF⟩ := mg_o hF
      obtain ⟨fs9, h9, g9⟩ := rdI hP hC ha0 e58
      refine va_get (D := (dC, dI)) (ci := 1) (v := .int x57) (C := RJ4) (T := TJ4) (N := 4) hx hb hts inlJ4 hown hK h9 0 rfl rfl 3 (by decide) (hts _ mw_627) (fun _ h9 => h9) g9 dJ5_append_3fe6f_30 ?_
      clear h9 g9
      refine lv_dup_x1 hx hb dJ5_append_3fe6f_33 rfl rfl ?_
      refine lv_iconst (v := 1) hx hb dJ5_append_3fe6f_34 (by decide) ?_
      refine lv_iadd hx hb dJ5_append_3fe6f_35 ?_
      obtain ⟨E59, e60, hF⟩ := mw_o hF
      obtain ⟨q9, fs9, h9, ez9⟩ := wrI (cy := cy) hC ha0 e60
      refine va_put (D := (dC, dI)) (ci := 1) (v := .int (x57 + 1)) (ty := .int) (C := RJ4) (T := TJ4) (N := 4) hx hb hts inlJ4 tyJ4 tyJ4_ok nmJ4 hown hK hP hD hS q9 h9 rfl 3 (by decide) (hts _ mw_627) (fun _ h9 => h9) rfl (by decide +kernel) rfl rfl (Nat.le_of_ble_eq_true rfl) dJ5_append_3fe6f_36 (fun H locs hP hD hS => ?_)
      rw [ez9] at hP hD
      clear ez9 h9
      have hC := sI_clo e60 hC
      refine lv_iload_n hx hb dJ5_append_3fe6f_39 rfl (lv_at hl 1 rfl) ?_
      refine lv_i2b (v := (a1).toInt8.toInt32) hx hb dJ5_append_3fe6f_40 rfl ?_
      obtain ⟨E61, e62, hF⟩ := mw_o hF
      obtain ⟨q9, m9, f9, h9, i9, ez9⟩ := wrA (cy := cy) hC hr56 e62
      refine va_bast hx hb hK hP hD hS q9 0 h9 rfl i9 dJ5_append_3fe6f_41 (fun H locs hP hD hS => ?_)
      clear i9
      rw [ez9] at hP hD
      clear ez9 h9
      have hC := sA_clo e62 hC
      refine lv_goto (tgt := 75) hx hb dJ5_append_3fe6f_42 (by decide) ?_
      refine lv_aload_n hx hb dJ5_append_3fe6f_75 rfl (lv_at hl 0 rfl) ?_
      obtain ⟨ht9, hn9, hs9, hE9⟩ := mr_o hF
      subst hn9 hs9 hE9
      have hX9 := hX
      rw [hQ]
      exact W.aret (v := .ref Aa0) hx hb hr (by first | exact Or.inl ⟨_, rfl⟩ | exact Or.inr ⟨_, rfl⟩) (Or.inr ⟨_, rfl⟩) (fun t ht hW => ⟨⟨(), Aa0, rfl, trivial, _, hX, (by rw [← ht9]; exact ha0), by rw [ht]; exact hP, hD⟩, hS.F ht⟩) hS.2.2 dJ5_append_3fe6f_76
noncomputable def H_J4_append_cf468 (a0 : Nat) (a1 : Int32) : MH Nat := mb (mg fun n E => fO n E (a0) 1) fun _ => mb (H_J5_append_3fe6f (a0) (a1)) fun x2 => mr a0
set_option maxHeartbeats 4000000 in
set_option maxRecDepth 100000 in
theorem h_J4_append_cf468 (l : Launch) (dC : Nat → ClassId) (dI : Nat → Nat → Nat) (cy : Nat → ClassId) (nb : Nat → Nat) (ad0 : Nat → Nat) (n0 s0 : Nat) (E0 : HE) (hC : clo n0 E0) (a0 Aa0 : Nat) (ha0 : rf nb ad0 n0 a0 Aa0) (a1 : Int32) (sz : Nat) (ro : Nat) (nz sz9 : Nat) (Ez : HE) (hF : (H_J4_append_cf468 a0 a1).1 (n0, s0, E0) = some (ro, nz, sz9, Ez)) : Met l yJ4_append_cf468 (wsg yJ4_append_cf468 cJ4_append_cf468 2 (some (.object "java/lang/StringBuilder"))) ({ frames := 12, cells := nz - n0, slots := sz9 - s0, locals := 700 }) (va_Pc [.ref Aa0, .int a1] (fun U => U.heap.size = sz ∧ va_P (dC, dI) vwCl (CH cy nb ad0 n0 E0) U.heap ∧ va_K (dC, dI) vwCl (tyL cy) U ∧ va_D (fun _ => True) (CH cy nb ad0 n0 E0) ∧ GL nb (va_A (CH cy nb ad0 n0 E0) sz) U)) (va_Qr (fun (_ : Unit) => True) (fun _ ra t => ∃ ad2 : Nat → Nat, axh n0 ad0 nz ad2 ∧ rf nb ad2 nz ro ra ∧ va_P (dC, dI) vwCl (CH cy nb ad2 nz Ez) t.heap ∧ va_D (va_A (CH cy nb ad0 n0 E0) sz) (CH cy nb ad2 nz Ez)) (va_A (CH cy nb ad0 n0 E0) sz)) (nz - n0) (sz9 - s0) (va_A (CH cy nb ad0 n0 E0) sz) := by
  refine Met.ofW (cc := cJ4_append_cf468) (maxL := 2) (ret := (some (.object "java/lang/StringBuilder"))) (by decide) rfl ?_
  intro p e s m args below meth c s₁ B hml hv
  obtain ⟨rfl, hsz, hP, hK, hD0, hE⟩ := hv
  have hx := B.exec
  have hb := B.bytes
  have hr := B.returns
  have hts0 := atoms_spec (ws := (wsg yJ4_append_cf468 cJ4_append_cf468 2 (some (.object "java/lang/StringBuilder")))) B.pre
  have hts : ∀ w ∈ wsL_law, w.before _ s = true := fun w h => hts0 w (List.mem_cons_of_mem _ h)
  have hown : s.vm.findClass RJ4 = some m.cls := by have h9 := findClass_of_methodNamed B.named; exact h9
  subst hsz
  have hD := hD0.self (sz := s.heap.size)
  generalize hAe : va_A (CH cy nb ad0 n0 E0) s.heap.size = A at hD hE ⊢
  have hA : ∀ q : Nat, s.heap.size ≤ q → A q := fun q h => by rw [← hAe]; exact Or.inr h
  have hS : va_S A s.heap s.heap [] := va_S.rf
  have hl := lv_entry ([.ref Aa0, .int a1]) (n := 2) (Nat.le_of_ble_eq_true rfl)
  rw [lg_entry_eq]
  generalize (lg_sl ([.ref Aa0, .int a1]) ++ List.replicate (2 - (lg_sl ([.ref Aa0, .int a1])).length) Slot.unset).toArray = ls at hl ⊢
  have hl : lv_has ls 2 [(0, .ref Aa0), (1, .int a1)] := hl
  generalize hHe : s.heap = H at hP hS ⊢
  have hS : va_S A s.heap H [] := by rw [hHe]; exact hS
  refine my_Q (fun Qn hQ => ?_)
  simp only [H_J4_append_cf468] at hF
  have hX : axh n0 ad0 n0 ad0 := axh_refl
  have hN : n0 ≤ n0 := Nat.le_refl _
  have hT : s0 ≤ s0 := Nat.le_refl _
  refine W.widen (k := n0 - n0) (n := s0 - s0) (by omega) (by omega) ?_
  refine lv_aload_n hx hb dJ4_append_cf468_0 rfl (lv_at hl 0 rfl) ?_
  refine lv_iload_n hx hb dJ4_append_cf468_1 rfl (lv_at hl 1 rfl) ?_
  obtain ⟨fs9, e1, hF⟩ := mg_o hF
  obtain ⟨x2, n4, s5, E6, e3, hF⟩ := mb_o hF
  have hm := mle e3
  have hM1 := mle1 hF
  have hM2 := mle2 hF
  have hm1 := hm.1
  have hm2 := hm.2.1
  have hFc := my_free hD hS hA
  refine va_callr (va_runSU (C := RJ4) (As := [.int a1]) (rest := []) (hK.1 1 _ rfl).2 ⟨hx, hb, hml, hown, hts⟩ (h_J5_append_3fe6f l dC dI cy nb ad0 n0 s0 E0 hC (a0) Aa0 ha0 (a1) H.size x2 n4 s5 E6 e3) (va_cwSU 1 hts (gSU mw_763 mw_764 mw_624 mw_765 mw_586 mw_766) rfl rfl rfl (by decide +kernel) ⟨Nat.le_of_ble_eq_true rfl, Nat.le_of_ble_eq_true rfl⟩) (hl_preV hP hK hD hE hS hFc (va_recv hK (rdO_ hP hC ha0 e1) (ci := 1) (q0 := 0) rfl rfl)) rfl rfl hl.1 rfl (lv_room (Nat.le_of_ble_eq_true rfl)) dJ4_append_cf468_2 ⟨show n0 - n0 + (n4 - n0) ≤ nz - n0 by omega, show s0 - s0 + (s5 - s0) ≤ sz9 - s0 by omega⟩) hS (fun q _ h => hFc q h) hFc (fun u ra t H1 locs ht hvm hw hB hz1 hk1 hS => ?_)
  obtain ⟨ad7, hax, hr8, hP1, hD1⟩ := hB
  rw [ht] at hP1
  have hP := hP1
  have hD := hD1.weaken (fun k q _ h => hFc q.1 h)
  generalize H1 = H at hP hS ⊢
  have ha0 := ha0.mv hC.1 hax
  have hX := hX.trans hax
  have hC := hm.2.2 hC
  have hN : n0 ≤ n4 := Nat.le_trans hN hm1
  have hT : s0 ≤ s5 := Nat.le_trans hT hm2
  refine W.widen (k := n4 - n0) (n := s5 - s0) (by omega) (by omega) ?_
  clear hP1 hD1 hFc hk1 hz1 hvm ht hax hm hm1 hm2 hM1 hM2
  refine my_top (y := .ref (AD nb ad7 x2)) (congrArg Value.ref hr8.2.symm) ?_
  have hr8 := rf_self hr8
  refine lv_pop hx hb dJ4_append_cf468_5 rfl ?_
  refine lv_aload_n hx hb dJ4_append_cf468_6 rfl (lv_at hl 0 rfl) ?_
  obtain ⟨ht9, hn9, hs9, hE9⟩ := mr_o hF
  subst hn9 hs9 hE9
  have hX9 := hX
  rw [hQ]
  exact W.aret (v := .ref Aa0) hx hb hr (by first | exact Or.inl ⟨_, rfl⟩ | exact Or.inr ⟨_, rfl⟩) (Or.inr ⟨_, rfl⟩) (fun t ht hW => ⟨⟨(), Aa0, rfl, trivial, _, hX, (by rw [← ht9]; exact ha0), by rw [ht]; exact hP, hD⟩, hS.F ht⟩) hS.2.2 dJ4_append_cf468_7
