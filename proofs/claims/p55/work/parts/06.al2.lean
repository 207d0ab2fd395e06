noncomputable def H_Jx4a65c_rangeCheckForAdd_d00df (a0 : Nat) (a1 : Int32) : MH Unit := mb (rI (a0) 14 2) fun x1 => if x1 < a1 then (m0) else (if 0 ≤ a1 then (mr ()) else (m0))
set_option maxHeartbeats 4000000 in
set_option maxRecDepth 100000 in
theorem h_Jx4a65c_rangeCheckForAdd_d00df (l : Launch) (dC : Nat → ClassId) (dI : Nat → Nat → Nat) (cy : Nat → ClassId) (nb : Nat → Nat) (ad0 : Nat → Nat) (n0 s0 : Nat) (E0 : HE) (hC : clo n0 E0) (a0 Aa0 : Nat) (ha0 : rf nb ad0 n0 a0 Aa0) (a1 : Int32) (sz : Nat) (nz sz9 : Nat) (Ez : HE) (hF : (H_Jx4a65c_rangeCheckForAdd_d00df a0 a1).1 (n0, s0, E0) = some ((), nz, sz9, Ez)) : Met l yJx4a65c_rangeCheckForAdd_d00df (wsg yJx4a65c_rangeCheckForAdd_d00df cJx4a65c_rangeCheckForAdd_d00df 2 none) ({ frames := 8, cells := nz - n0, slots := sz9 - s0, locals := 300 }) (va_Pc [.ref Aa0, .int a1] (fun U => U.heap.size = sz ∧ va_P (dC, dI) vwCl (CH cy nb ad0 n0 E0) U.heap ∧ va_K (dC, dI) vwCl (tyL cy) U ∧ va_D (fun _ => True) (CH cy nb ad0 n0 E0) ∧ GL nb (va_A (CH cy nb ad0 n0 E0) sz) U)) (va_Qv (fun (_ : Unit) => True) (fun _ t => ∃ ad2 : Nat → Nat, axh n0 ad0 nz ad2 ∧ va_P (dC, dI) vwCl (CH cy nb ad2 nz Ez) t.heap ∧ va_D (va_A (CH cy nb ad0 n0 E0) sz) (CH cy nb ad2 nz Ez)) (va_A (CH cy nb ad0 n0 E0) sz)) (nz - n0) (sz9 - s0) (va_A (CH cy nb ad0 n0 E0) sz) := by
  refine Met.ofW (cc := cJx4a65c_rangeCheckForAdd_d00df) (maxL := 2) (ret := none) (by decide) rfl ?_
  intro p e s m args below meth c s₁ B hml hv
  obtain ⟨rfl, hsz, hP, hK, hD0, hE⟩ := hv
  have hx := B.exec
  have hb := B.bytes
  have hr := B.returns
  have hts0 := atoms_spec (ws := (wsg yJx4a65c_rangeCheckForAdd_d00df cJx4a65c_rangeCheckForAdd_d00df 2 none)) B.pre
  have hts : ∀ w ∈ wsL_law, w.before _ s = true := fun w h => hts0 w (List.mem_cons_of_mem _ h)
  have hown : s.vm.findClass RJx4a65c = some m.cls := by have h9 := findClass_of_methodNamed B.named; exact h9
  subst hsz
  have hD := hD0.self (sz := s.heap.size)
  generalize hAe : va_A (CH cy nb ad0 n0 E0) s.heap.size = A at hD hE ⊢
  have hA : ∀ q : Nat, s.heap.size ≤ q → A q := fun q h => by rw [← hAe]; exact Or.inr h
  have hS : va_S A s.heap s.heap [] := va_S.rf
  have hl := lv_entry ([.ref Aa0, .int a1]) (n := 2) (Nat.le_of_ble_eq_true rfl)
  rw [lg_entry_eq]
  generalize (lg_sl ([.ref Aa0, .int a1]) ++ List.replicate (2 - (lg_sl ([.ref Aa0, .int a1])).length) Slot.unset).toArray = ls at hl ⊢
  have hl : lv_has ls 2 [(0, .ref Aa0), (1, .int a1)] := hl
  generalize hHe : s.heap = H at hP hS ⊢
  have hS : va_S A s.heap H [] := by rw [hHe]; exact hS
  refine my_Q (fun Qn hQ => ?_)
  simp only [H_Jx4a65c_rangeCheckForAdd_d00df] at hF
  have hX : axh n0 ad0 n0 ad0 := axh_refl
  have hN : n0 ≤ n0 := Nat.le_refl _
  have hT : s0 ≤ s0 := Nat.le_refl _
  refine W.widen (k := n0 - n0) (n := s0 - s0) (by omega) (by omega) ?_
  refine lv_iload_n hx hb dJx4a65c_rangeCheckForAdd_d00df_0 rfl (lv_at hl 1 rfl) ?_
  refine lv_aload_n hx hb dJx4a65c_rangeCheckForAdd_d00df_1 rfl (lv_at hl 0 rfl) ?_
  obtain ⟨x1, e2, hF⟩ := mg_o hF
  obtain ⟨fs9, h9, g9⟩ := rdI hP hC ha0 e2
  refine va_get (D := (dC, dI)) (ci := 14) (v := .int x1) (C := RJx4a65c) (T := TJx4a65c) (N := 3) hx hb hts inlJx4a65c hown hK h9 0 rfl rfl 2 (by decide) (hts _ mw_169) (fun _ h9 => h9) g9 dJx4a65c_rangeCheckForAdd_d00df_2 ?_
  clear h9 g9
  refine lv_icmp_gt (tgt := 12) hx hb dJx4a65c_rangeCheckForAdd_d00df_5 (by decide) (fun c3 => ?_) (fun c3 => ?_)
  · skip
    rw [if_pos c3] at hF
    exact (m0_o hF).elim
  · skip
    rw [if_neg c3] at hF
    refine lv_iload_n hx hb dJx4a65c_rangeCheckForAdd_d00df_8 rfl (lv_at hl 1 rfl) ?_
    refine lv_if_ge (tgt := 25) hx hb dJx4a65c_rangeCheckForAdd_d00df_9 (by decide) (fun c4 => ?_) (fun c4 => ?_)
    · skip
      rw [if_pos c4] at hF
      obtain ⟨ht9, hn9, hs9, hE9⟩ := mr_o hF
      subst hn9 hs9 hE9
      have hX9 := hX
      rw [hQ]
      exact W.vret hx hb hr (fun t ht hW => ⟨⟨(), rfl, trivial, _, hX, by rw [ht]; exact hP, hD⟩, hS.F ht⟩) hS.2.2 dJx4a65c_rangeCheckForAdd_d00df_25
    · skip
      rw [if_neg c4] at hF
      exact (m0_o hF).elim
noncomputable def H_Jx4a65c_add_7a177 (a0 : Nat) (a1 : Int32) (a2 : Nat) : MH Unit := mb (mg fun n E => fO n E (a0) 14) fun _ => mb (H_Jx4a65c_rangeCheckForAdd_d00df (a0) (a1)) fun _ => mb (rI (a0) 14 0) fun x7 => mb (wI (a0) 14 0 ((x7 + 1))) fun _ => mb (rI (a0) 14 2) fun x11 => mb (rR (a0) 14 1) fun x13 => mb (mg fun n E => lO n E (x13)) fun x16 => mb (if x11 = x16 then (mb (mg fun n E => fO n E (a0) 14) fun _ => mb (H_Jx4a65c_grow_d5877 (a0)) fun x39 => mr x39) else (mr x13) : MH (Nat)) fun t19 => mb (mcO (t19) (a1) (t19) ((a1 + 1)) ((x11 - a1))) fun _ => mb (mg fun n E => okA n E 9 (a2)) fun _ => mb (wQ (t19) 9 (a1) (a2)) fun _ => mb (wI (a0) 14 2 ((x11 + 1))) fun _ => mr ()
set_option maxHeartbeats 4000000 in
set_option maxRecDepth 100000 in
theorem h_Jx4a65c_add_7a177 (l : Launch) (dC : Nat → ClassId) (dI : Nat → Nat → Nat) (cy : Nat → ClassId) (nb : Nat → Nat) (ad0 : Nat → Nat) (n0 s0 : Nat) (E0 : HE) (hC : clo n0 E0) (a0 Aa0 : Nat) (ha0 : rf nb ad0 n0 a0 Aa0) (a1 : Int32) (a2 Aa2 : Nat) (ha2 : rf nb ad0 n0 a2 Aa2) (sz : Nat) (nz sz9 : Nat) (Ez : HE) (hF : (H_Jx4a65c_add_7a177 a0 a1 a2).1 (n0, s0, E0) = some ((), nz, sz9, Ez)) : Met l yJx4a65c_add_7a177 (wsg yJx4a65c_add_7a177 cJx4a65c_add_7a177 5 none) ({ frames := 12, cells := nz - n0, slots := sz9 - s0, locals := 700 }) (va_Pc [.ref Aa0, .int a1, .ref Aa2] (fun U => U.heap.size = sz ∧ va_P (dC, dI) vwCl (CH cy nb ad0 n0 E0) U.heap ∧ va_K (dC, dI) vwCl (tyL cy) U ∧ va_D (fun _ => True) (CH cy nb ad0 n0 E0) ∧ GL nb (va_A (CH cy nb ad0 n0 E0) sz) U)) (va_Qv (fun (_ : Unit) => True) (fun _ t => ∃ ad2 : Nat → Nat, axh n0 ad0 nz ad2 ∧ va_P (dC, dI) vwCl (CH cy nb ad2 nz Ez) t.heap ∧ va_D (va_A (CH cy nb ad0 n0 E0) sz) (CH cy nb ad2 nz Ez)) (va_A (CH cy nb ad0 n0 E0) sz)) (nz - n0) (sz9 - s0) (va_A (CH cy nb ad0 n0 E0) sz) := by
  refine Met.ofW (cc := cJx4a65c_add_7a177) (maxL := 5) (ret := none) (by decide) rfl ?_
  intro p e s m args below meth c s₁ B hml hv
  obtain ⟨rfl, hsz, hP, hK, hD0, hE⟩ := hv
  have hx := B.exec
  have hb := B.bytes
  have hr := B.returns
  have hts0 := atoms_spec (ws := (wsg yJx4a65c_add_7a177 cJx4a65c_add_7a177 5 none)) B.pre
  have hts : ∀ w ∈ wsL_law, w.before _ s = true := fun w h => hts0 w (List.mem_cons_of_mem _ h)
  have hown : s.vm.findClass RJx4a65c = some m.cls := by have h9 := findClass_of_methodNamed B.named; exact h9
  subst hsz
  have hD := hD0.self (sz := s.heap.size)
  generalize hAe : va_A (CH cy nb ad0 n0 E0) s.heap.size = A at hD hE ⊢
  have hA : ∀ q : Nat, s.heap.size ≤ q → A q := fun q h => by rw [← hAe]; exact Or.inr h
  have hS : va_S A s.heap s.heap [] := va_S.rf
  have hl := lv_entry ([.ref Aa0, .int a1, .ref Aa2]) (n := 5) (Nat.le_of_ble_eq_true rfl)
  rw [lg_entry_eq]
  generalize (lg_sl ([.ref Aa0, .int a1, .ref Aa2]) ++ List.replicate (5 - (lg_sl ([.ref Aa0, .int a1, .ref Aa2])).length) Slot.unset).toArray = ls at hl ⊢
  have hl : lv_has ls 5 [(0, .ref Aa0), (1, .int a1), (2, .ref Aa2)] := hl
  generalize hHe : s.heap = H at hP hS ⊢
  have hS : va_S A s.heap H [] := by rw [hHe]; exact hS
  refine my_Q (fun Qn hQ => ?_)
  simp only [H_Jx4a65c_add_7a177] at hF
  have hX : axh n0 ad0 n0 ad0 := axh_refl
  have hN : n0 ≤ n0 := Nat.le_refl _
  have hT : s0 ≤ s0 := Nat.le_refl _
  refine W.widen (k := n0 - n0) (n := s0 - s0) (by omega) (by omega) ?_
  refine lv_aload_n hx hb dJx4a65c_add_7a177_0 rfl (lv_at hl 0 rfl) ?_
  refine lv_iload_n hx hb dJx4a65c_add_7a177_1 rfl (lv_at hl 1 rfl) ?_
  obtain ⟨fs9, e1, hF⟩ := mg_o hF
  obtain ⟨⟨⟩, n3, s4, E5, e2, hF⟩ := mb_o hF
  have hm := mle e2
  have hM1 := mle1 hF
  have hM2 := mle2 hF
  have hm1 := hm.1
  have hm2 := hm.2.1
  have hFc := my_free hD hS hA
  refine va_callv (va_runV (C := RJx4a65c) (As := [.int a1]) (rest := []) ⟨hx, hb, hml, hown, hts⟩ (h_Jx4a65c_rangeCheckForAdd_d00df l dC dI cy nb ad0 n0 s0 E0 hC (a0) Aa0 ha0 (a1) H.size n3 s4 E5 e2) (cwV 1 hts (gV mw_1382 mw_1383 mw_1384 mw_12 mw_1385) rfl rfl rfl (by decide +kernel) ⟨Nat.le_of_ble_eq_true rfl, Nat.le_of_ble_eq_true rfl⟩) (hl_preV hP hK hD hE hS hFc (va_recv hK (rdO_ hP hC ha0 e1) (ci := 14) (q0 := 0) rfl rfl)) rfl rfl hl.1 rfl (lv_room (Nat.le_of_ble_eq_true rfl)) dJx4a65c_add_7a177_2 ⟨show n0 - n0 + (n3 - n0) ≤ nz - n0 by omega, show s0 - s0 + (s4 - s0) ≤ sz9 - s0 by omega⟩) hS (fun q _ h => hFc q h) hFc (fun u t H1 locs ht hvm hw hB hz1 hk1 hS => ?_)
  obtain ⟨ad6, hax, hP1, hD1⟩ := hB
  rw [ht] at hP1
  have hP := hP1
  have hD := hD1.weaken (fun k q _ h => hFc q.1 h)
  generalize H1 = H at hP hS ⊢
  have ha0 := ha0.mv hC.1 hax
  have ha2 := ha2.mv hC.1 hax
  have hX := hX.trans hax
  have hC := hm.2.2 hC
  have hN : n0 ≤ n3 := Nat.le_trans hN hm1
  have hT : s0 ≤ s4 := Nat.le_trans hT hm2
  refine W.widen (k := n3 - n0) (n := s4 - s0) (by omega) (by omega) ?_
  clear hP1 hD1 hFc hk1 hz1 hvm ht hax hm hm1 hm2 hM1 hM2
  refine lv_aload_n hx hb dJx4a65c_add_7a177_5 rfl (lv_at hl 0 rfl) ?_
  refine lv_dup hx hb dJx4a65c_add_7a177_6 rfl ?_
  obtain ⟨x7, e8, hF⟩ := mg_o hF
  obtain ⟨fs9, h9, g9⟩ := rdI hP hC ha0 e8
  refine va_get (D := (dC, dI)) (ci := 14) (v := .int x7) (C := RJx4a65c) (T := TJx4a65c) (N := 3) hx hb hts inlJx4a65c hown hK h9 0 rfl rfl 0 (by decide) (hts _ mw_844) (u_same (hts _ mw_190)) g9 dJx4a65c_add_7a177_7 ?_
  clear h9 g9
  refine lv_iconst (v := 1) hx hb dJx4a65c_add_7a177_10 (by decide) ?_
  refine lv_iadd hx hb dJx4a65c_add_7a177_11 ?_
  obtain ⟨E9, e10, hF⟩ := mw_o hF
  obtain ⟨q9, fs9, h9, ez9⟩ := wrI (cy := cy) hC ha0 e10
  refine va_put (D := (dC, dI)) (ci := 14) (v := .int (x7 + 1)) (ty := .int) (C := RJx4a65c) (T := TJx4a65c) (N := 3) hx hb hts inlJx4a65c tyJx4a65c tyJx4a65c_ok nmJx4a65c hown hK hP hD hS q9 h9 rfl 0 (by decide) (hts _ mw_844) (u_same (hts _ mw_190)) rfl (by decide +kernel) rfl rfl (Nat.le_of_ble_eq_true rfl) dJx4a65c_add_7a177_12 (fun H locs hP hD hS => ?_)
  rw [ez9] at hP hD
  clear ez9 h9
  have hC := sI_clo e10 hC
  refine lv_aload_n hx hb dJx4a65c_add_7a177_15 rfl (lv_at hl 0 rfl) ?_
  obtain ⟨x11, e12, hF⟩ := mg_o hF
  obtain ⟨fs9, h9, g9⟩ := rdI hP hC ha0 e12
  refine va_get (D := (dC, dI)) (ci := 14) (v := .int x11) (C := RJx4a65c) (T := TJx4a65c) (N := 3) hx hb hts inlJx4a65c hown hK h9 0 rfl rfl 2 (by decide) (hts _ mw_169) (fun _ h9 => h9) g9 dJx4a65c_add_7a177_16 ?_
  clear h9 g9
  refine lv_dup hx hb dJx4a65c_add_7a177_19 rfl ?_
  refine lv_istore_n (lv' := [(3, .int x11), (0, .ref Aa0), (1, .int a1), (2, .ref Aa2)]) hx hb dJx4a65c_add_7a177_20 rfl hl (by decide) rfl (fun ls hl => ?_)
  refine lv_aload_n hx hb dJx4a65c_add_7a177_21 rfl (lv_at hl 1 rfl) ?_
  obtain ⟨x13, e14, hF⟩ := mg_o hF
  obtain ⟨hr15, fs9, h9, g9⟩ := rdR hP hC ha0 e14
  refine va_get (D := (dC, dI)) (ci := 14) (v := .ref (AD nb ad6 x13)) (C := RJx4a65c) (T := TJx4a65c) (N := 3) hx hb hts inlJx4a65c hown hK h9 0 rfl rfl 1 (by decide) (hts _ mw_116) (fun _ h9 => h9) g9 dJx4a65c_add_7a177_22 ?_
  clear h9 g9
  refine lv_dup hx hb dJx4a65c_add_7a177_25 rfl ?_
  refine lv_astore (lv' := [(4, .ref (AD nb ad6 x13)), (3, .int x11), (0, .ref Aa0), (1, .int a1), (2, .ref Aa2)]) hx hb dJx4a65c_add_7a177_26 hl (by decide) rfl (fun ls hl => ?_)
  obtain ⟨x16, e17, hF⟩ := mg_o hF
  refine hs_lO hx hb hK hP hC hE hS hr15 e17 dJx4a65c_add_7a177_28 ?_
  obtain ⟨t19, n22, s23, E24, hJ20, hF⟩ := mb_o hF
  have hm := mle hJ20
  have join25 : ∀ (ad21 : Nat → Nat) (H : Heap) (locs : List Loc) (ls : Array Slot), axh n0 ad0 n22 ad21 → rf nb ad21 n22 (t19) ((AD nb ad21 t19)) → rf nb ad21 n22 (a0) (Aa0) → rf nb ad21 n22 (a2) (Aa2) → va_P (dC, dI) vwCl (CH cy nb ad21 n22 E24) H → va_D A (CH cy nb ad21 n22 E24) → va_S A s.heap H locs → lv_has ls 5 [(4, .ref (AD nb ad21 t19)), (3, .int x11), (0, .ref Aa0), (1, .int a1), (2, .ref Aa2)] → W p l e (headSpec (wsg yJx4a65c_add_7a177 cJx4a65c_add_7a177 5 none) ({ frames := 12, cells := nz - n0, slots := sz9 - s0, locals := 700 })).room s m ([.ref Aa0, .int a1, .ref Aa2] : List Value).toArray below meth c H locs (n22 - n0) (s23 - s0) Qn (F0 m 38 ls []) := by
    intro ad21 H locs ls hX hr26 hr27 hr28 hP hD hS hl
    have hC := hm.2.2 hC
    have hN : n0 ≤ n22 := Nat.le_trans hN hm.1
    have hT : s0 ≤ s23 := Nat.le_trans hT hm.2.1
    clear hm
    refine lv_aload hx hb dJx4a65c_add_7a177_38 (lv_at hl 0 rfl) ?_
    refine lv_iload_n hx hb dJx4a65c_add_7a177_40 rfl (lv_at hl 3 rfl) ?_
    refine lv_aload hx hb dJx4a65c_add_7a177_41 (lv_at hl 0 rfl) ?_
    refine lv_iload_n hx hb dJx4a65c_add_7a177_43 rfl (lv_at hl 3 rfl) ?_
    refine lv_iconst (v := 1) hx hb dJx4a65c_add_7a177_44 (by decide) ?_
    refine lv_iadd hx hb dJx4a65c_add_7a177_45 ?_
    refine lv_iload_n hx hb dJx4a65c_add_7a177_46 rfl (lv_at hl 1 rfl) ?_
    refine lv_iload_n hx hb dJx4a65c_add_7a177_47 rfl (lv_at hl 3 rfl) ?_
    refine lv_isub hx hb dJx4a65c_add_7a177_48 ?_
    obtain ⟨E29, e30, hF⟩ := mw_o hF
    refine hs_copyQ hx hb (hml.trans hl.1.symm) hown (hts _ mw_1256) (hts _ mw_358) (hts _ mw_359) (hts _ mw_360) hK hP hD hC hE hS hr26 hr26 e30 (Nat.le_of_ble_eq_true rfl) (Nat.le_of_ble_eq_true rfl) dJx4a65c_add_7a177_49 (fun H locs hP hD hS => ?_)
    have hC := cpO_clo e30 hC
    refine lv_aload hx hb dJx4a65c_add_7a177_52 (lv_at hl 0 rfl) ?_
    refine lv_iload_n hx hb dJx4a65c_add_7a177_54 rfl (lv_at hl 3 rfl) ?_
    refine lv_aload_n hx hb dJx4a65c_add_7a177_55 rfl (lv_at hl 4 rfl) ?_
    obtain ⟨_, e32, hF⟩ := mg_o hF
    obtain ⟨E31, e33, hF⟩ := mw_o hF
    obtain ⟨q9, m9, f9, h9, i9, ez9⟩ := wrQ (cy := cy) hC hr26 hr28 e33
    refine va_astqM hx hb hK hP hD hS q9 9 h9 rfl (hs_any9 hK hP hC hE hS hr28 e32) i9 dJx4a65c_add_7a177_56 (fun H locs hP hD hS => ?_)
    clear i9
    rw [ez9] at hP hD
    clear ez9 h9
    have hC := sQ_clo e33 hC
    refine lv_aload_n hx hb dJx4a65c_add_7a177_57 rfl (lv_at hl 2 rfl) ?_
    refine lv_iload_n hx hb dJx4a65c_add_7a177_58 rfl (lv_at hl 1 rfl) ?_
    refine lv_iconst (v := 1) hx hb dJx4a65c_add_7a177_59 (by decide) ?_
    refine lv_iadd hx hb dJx4a65c_add_7a177_60 ?_
    obtain ⟨E34, e35, hF⟩ := mw_o hF
    obtain ⟨q9, fs9, h9, ez9⟩ := wrI (cy := cy) hC hr27 e35
    refine va_put (D := (dC, dI)) (ci := 14) (v := .int (x11 + 1)) (ty := .int) (C := RJx4a65c) (T := TJx4a65c) (N := 3) hx hb hts inlJx4a65c tyJx4a65c tyJx4a65c_ok nmJx4a65c hown hK hP hD hS q9 h9 rfl 2 (by decide) (hts _ mw_169) (fun _ h9 => h9) rfl (by decide +kernel) rfl rfl (Nat.le_of_ble_eq_true rfl) dJx4a65c_add_7a177_61 (fun H locs hP hD hS => ?_)
    rw [ez9] at hP hD
    clear ez9 h9
    have hC := sI_clo e35 hC
    obtain ⟨ht9, hn9, hs9, hE9⟩ := mr_o hF
    subst hn9 hs9 hE9
    have hX9 := hX
    rw [hQ]
    exact W.vret hx hb hr (fun t ht hW => ⟨⟨(), rfl, trivial, _, hX, by rw [ht]; exact hP, hD⟩, hS.F ht⟩) hS.2.2 dJx4a65c_add_7a177_64
  have hK36 := mle1 hF
  have hK37 := mle2 hF
  clear hF hm
  have hF := hJ20
  clear hJ20
  refine lv_icmp_ne (tgt := 38) hx hb dJx4a65c_add_7a177_29 (by decide) (fun c18 => ?_) (fun c18 => ?_)
  · skip
    rw [if_neg c18] at hF
    obtain ⟨ht9, hn9, hs9, hE9⟩ := mr_o hF
    subst ht9 hn9 hs9 hE9
    have hl := lv_sub (l' := [(4, .ref (AD nb ad6 x13)), (3, .int x11), (0, .ref Aa0), (1, .int a1), (2, .ref Aa2)]) hl [0, 1, 2, 3, 4] rfl
    have hl : lv_has ls 5 [(4, .ref (AD nb ad6 (x13))), (3, .int x11), (0, .ref Aa0), (1, .int a1), (2, .ref Aa2)] := by try rw [hr15.2]; exact hl
    exact join25 _ _ _ _ hX (rf_self hr15) ha0 ha2 hP hD hS hl
  · skip
    rw [if_pos c18] at hF
    refine lv_aload_n hx hb dJx4a65c_add_7a177_32 rfl (lv_at hl 2 rfl) ?_
    obtain ⟨fs9, e38, hF⟩ := mg_o hF
    obtain ⟨x39, n41, s42, E43, e40, hF⟩ := mb_o hF
    have hm := mle e40
    have hM1 := mle1 hF
    have hM2 := mle2 hF
    have hm1 := hm.1
    have hm2 := hm.2.1
    have hFc := my_free hD hS hA
    refine va_callr (va_runV (C := RJx4a65c) (As := []) (rest := []) ⟨hx, hb, hml, hown, hts⟩ (h_Jx4a65c_grow_d5877 l dC dI cy nb ad6 n3 s4 E9 hC (a0) Aa0 ha0 H.size x39 n41 s42 E43 e40) (cwV 0 hts (gV mw_849 mw_850 mw_851 mw_12 mw_852) rfl rfl rfl (by decide +kernel) ⟨Nat.le_of_ble_eq_true rfl, Nat.le_of_ble_eq_true rfl⟩) (hl_preV hP hK hD hE hS hFc (va_recv hK (rdO_ hP hC ha0 e38) (ci := 14) (q0 := 0) rfl rfl)) rfl rfl hl.1 rfl (lv_room (Nat.le_of_ble_eq_true rfl)) dJx4a65c_add_7a177_33 ⟨show n3 - n0 + (n41 - n3) ≤ nz - n0 by omega, show s4 - s0 + (s42 - s4) ≤ sz9 - s0 by omega⟩) hS (fun q _ h => hFc q h) hFc (fun u ra t H1 locs ht hvm hw hB hz1 hk1 hS => ?_)
    obtain ⟨ad44, hax, hr45, hP1, hD1⟩ := hB
    rw [ht] at hP1
    have hP := hP1
    have hD := hD1.weaken (fun k q _ h => hFc q.1 h)
    generalize H1 = H at hP hS ⊢
    have hr15 := hr15.mv hC.1 hax
    have ha0 := ha0.mv hC.1 hax
    have ha2 := ha2.mv hC.1 hax
    have hX := hX.trans hax
    have hC := hm.2.2 hC
    have hN : n0 ≤ n41 := Nat.le_trans hN hm1
    have hT : s0 ≤ s42 := Nat.le_trans hT hm2
    refine W.widen (k := n41 - n0) (n := s42 - s0) (by omega) (by omega) ?_
    clear hP1 hD1 hFc hk1 hz1 hvm ht hax hm hm1 hm2 hM1 hM2
    refine my_top (y := .ref (AD nb ad44 x39)) (congrArg Value.ref hr45.2.symm) ?_
    have hr45 := rf_self hr45
    refine lv_astore (lv' := [(4, .ref (AD nb ad44 x39)), (3, .int x11), (0, .ref Aa0), (1, .int a1), (2, .ref Aa2)]) hx hb dJx4a65c_add_7a177_36 hl (by decide) rfl (fun ls hl => ?_)
    obtain ⟨ht9, hn9, hs9, hE9⟩ := mr_o hF
    subst ht9 hn9 hs9 hE9
    have hl := lv_sub (l' := [(4, .ref (AD nb ad44 x39)), (3, .int x11), (0, .ref Aa0), (1, .int a1), (2, .ref Aa2)]) hl [0, 1, 2, 3, 4] rfl
    have hl : lv_has ls 5 [(4, .ref (AD nb ad44 (x39))), (3, .int x11), (0, .ref Aa0), (1, .int a1), (2, .ref Aa2)] := by try rw [hr45.2]; exact hl
    exact join25 _ _ _ _ hX (rf_self hr45) ha0 ha2 hP hD hS hl
noncomputable def H_Jx4a65c_fastRemove_b59b0 (a0 : Nat) (a1 : Nat) (a2 : Int32) : MH Unit := mb (rI (a0) 14 0) fun x1 => mb (wI (a0) 14 0 ((x1 + 1))) fun _ => mb (rI (a0) 14 2) fun x5 => mb (if (x5 - 1) ≤ a2 then (mr ()) else (mb (mcO (a1) ((a2 + 1)) (a1) (a2) (((x5 - 1) - a2))) fun _ => mr ()) : MH (Unit)) fun t8 => mb (wI (a0) 14 2 ((x5 - 1))) fun _ => mb (wQN (a1) 9 ((x5 - 1))) fun _ => mr ()
set_option maxHeartbeats 4000000 in
set_option maxRecDepth 100000 in
theorem h_Jx4a65c_fastRemove_b59b0 (l : Launch) (dC : Nat → ClassId) (dI : Nat → Nat → Nat) (cy : Nat → ClassId) (nb : Nat → Nat) (ad0 : Nat → Nat) (n0 s0 : Nat) (E0 : HE) (hC : clo n0 E0) (a0 Aa0 : Nat) (ha0 : rf nb ad0 n0 a0 Aa0) (a1 Aa1 : Nat) (ha1 : rf nb ad0 n0 a1 Aa1) (a2 : Int32) (sz : Nat) (nz sz9 : Nat) (Ez : HE) (hF : (H_Jx4a65c_fastRemove_b59b0 a0 a1 a2).1 (n0, s0, E0) = some ((), nz, sz9, Ez)) : Met l yJx4a65c_fastRemove_b59b0 (wsg yJx4a65c_fastRemove_b59b0 cJx4a65c_fastRemove_b59b0 4 none) ({ frames := 8, cells := nz - n0, slots := sz9 - s0, locals := 300 }) (va_Pc [.ref Aa0, .ref Aa1, .int a2] (fun U => U.heap.size = sz ∧ va_P (dC, dI) vwCl (CH cy nb ad0 n0 E0) U.heap ∧ va_K (dC, dI) vwCl (tyL cy) U ∧ va_D (fun _ => True) (CH cy nb ad0 n0 E0) ∧ GL nb (va_A (CH cy nb ad0 n0 E0) sz) U)) (va_Qv (fun (_ : Unit) => True) (fun _ t => ∃ ad2 : Nat → Nat, axh n0 ad0 nz ad2 ∧ va_P (dC, dI) vwCl (CH cy nb ad2 nz Ez) t.heap ∧ va_D (va_A (CH cy nb ad0 n0 E0) sz) (CH cy nb ad2 nz Ez)) (va_A (CH cy nb ad0 n0 E0) sz)) (nz - n0) (sz9 - s0) (va_A (CH cy nb ad0 n0 E0) sz) := by
  refine Met.ofW (cc := cJx4a65c_fastRemove_b59b0) (maxL := 4) (ret := none) (by decide) rfl ?_
  intro p e s m args below meth c s₁ B hml hv
  obtain ⟨rfl, hsz, hP, hK, hD0, hE⟩ := hv
  have hx := B.exec
  have hb := B.bytes
  have hr := B.returns
  have hts0 := atoms_spec (ws := (wsg yJx4a65c_fastRemove_b59b0 cJx4a65c_fastRemove_b59b0 4 none)) B.pre
  have hts : ∀ w ∈ wsL_law, w.before _ s = true := fun w h => hts0 w (List.mem_cons_of_mem _ h)
  have hown : s.vm.findClass RJx4a65c = some m.cls := by have h9 := findClass_of_methodNamed B.named; exact h9
  subst hsz
  have hD := hD0.self (sz := s.heap.size)
  generalize hAe : va_A (CH cy nb ad0 n0 E0) s.heap.size = A at hD hE ⊢
  have hA : ∀ q : Nat, s.heap.size ≤ q → A q := fun q h => by rw [← hAe]; exact Or.inr h
  have hS : va_S A s.heap s.heap [] := va_S.rf
  have hl := lv_entry ([.ref Aa0, .ref Aa1, .int a2]) (n := 4) (Nat.le_of_ble_eq_true rfl)
  rw [lg_entry_eq]
  generalize (lg_sl ([.ref Aa0, .ref Aa1, .int a2]) ++ List.replicate (4 - (lg_sl ([.ref Aa0, .ref Aa1, .int a2])).length) Slot.unset).toArray = ls at hl ⊢
  have hl : lv_has ls 4 [(0, .ref Aa0), (1, .ref Aa1), (2, .int a2)] := hl
  generalize hHe : s.heap = H at hP hS ⊢
  have hS : va_S A s.heap H [] := by rw [hHe]; exact hS
  refine my_Q (fun Qn hQ => ?_)
  simp only [H_Jx4a65c_fastRemove_b59b0] at hF
  have hX : axh n0 ad0 n0 ad0 := axh_refl
  have hN : n0 ≤ n0 := Nat.le_refl _
  have hT : s0 ≤ s0 := Nat.le_refl _
  refine W.widen (k := n0 - n0) (n := s0 - s0) (by omega) (by omega) ?_
  refine lv_aload_n hx hb dJx4a65c_fastRemove_b59b0_0 rfl (lv_at hl 0 rfl) ?_
  refine lv_dup hx hb dJx4a65c_fastRemove_b59b0_1 rfl ?_
  obtain ⟨x1, e2, hF⟩ := mg_o hF
  obtain ⟨fs9, h9, g9⟩ := rdI hP hC ha0 e2
  refine va_get (D := (dC, dI)) (ci := 14) (v := .int x1) (C := RJx4a65c) (T := TJx4a65c) (N := 3) hx hb hts inlJx4a65c hown hK h9 0 rfl rfl 0 (by decide) (hts _ mw_844) (u_same (hts _ mw_190)) g9 dJx4a65c_fastRemove_b59b0_2 ?_
  clear h9 g9
  refine lv_iconst (v := 1) hx hb dJx4a65c_fastRemove_b59b0_5 (by decide) ?_
  refine lv_iadd hx hb dJx4a65c_fastRemove_b59b0_6 ?_
  obtain ⟨E3, e4, hF⟩ := mw_o hF
  obtain ⟨q9, fs9, h9, ez9⟩ := wrI (cy := cy) hC ha0 e4
  refine va_put (D := (dC, dI)) (ci := 14) (v := .int (x1 + 1)) (ty := .int) (C := RJx4a65c) (T := TJx4a65c) (N := 3) hx hb hts inlJx4a65c tyJx4a65c tyJx4a65c_ok nmJx4a65c hown hK hP hD hS q9 h9 rfl 0 (by decide) (hts _ mw_844) (u_same (hts _ mw_190)) rfl (by decide +kernel) rfl rfl (Nat.le_of_ble_eq_true rfl) dJx4a65c_fastRemove_b59b0_7 (fun H locs hP hD hS => ?_)
  rw [ez9] at hP hD
  clear ez9 h9
  have hC := sI_clo e4 hC
  refine lv_aload_n hx hb dJx4a65c_fastRemove_b59b0_10 rfl (lv_at hl 0 rfl) ?_
  obtain ⟨x5, e6, hF⟩ := mg_o hF
  obtain ⟨fs9, h9, g9⟩ := rdI hP hC ha0 e6
  refine va_get (D := (dC, dI)) (ci := 14) (v := .int x5) (C := RJx4a65c) (T := TJx4a65c) (N := 3) hx hb hts inlJx4a65c hown hK h9 0 rfl rfl 2 (by decide) (hts _ mw_169) (fun _ h9 => h9) g9 dJx4a65c_fastRemove_b59b0_11 ?_
  clear h9 g9
  refine lv_iconst (v := 1) hx hb dJx4a65c_fastRemove_b59b0_14 (by decide) ?_
  refine lv_isub hx hb dJx4a65c_fastRemove_b59b0_15 ?_
  refine lv_dup hx hb dJx4a65c_fastRemove_b59b0_16 rfl ?_
  refine lv_istore_n (lv' := [(3, .int (x5 - 1)), (0, .ref Aa0), (1, .ref Aa1), (2, .int a2)]) hx hb dJx4a65c_fastRemove_b59b0_17 rfl hl (by decide) rfl (fun ls hl => ?_)
  refine lv_iload_n hx hb dJx4a65c_fastRemove_b59b0_18 rfl (lv_at hl 3 rfl) ?_
  obtain ⟨t8, n11, s12, E13, hJ9, hF⟩ := mb_o hF
  have hm := mle hJ9
  have join14 : ∀ (ad10 : Nat → Nat) (H : Heap) (locs : List Loc) (ls : Array Slot), axh n0 ad0 n11 ad10 → rf nb ad10 n11 (a0) (Aa0) → rf nb ad10 n11 (a1) (Aa1) → va_P (dC, dI) vwCl (CH cy nb ad10 n11 E13) H → va_D A (CH cy nb ad10 n11 E13) → va_S A s.heap H locs → lv_has ls 4 [(3, .int (x5 - 1)), (0, .ref Aa0), (1, .ref Aa1), (2, .int a2)] → W p l e (headSpec (wsg yJx4a65c_fastRemove_b59b0 cJx4a65c_fastRemove_b59b0 4 none) ({ frames := 8, cells := nz - n0, slots := sz9 - s0, locals := 300 })).room s m ([.ref Aa0, .ref Aa1, .int a2] : List Value).toArray below meth c H locs (n11 - n0) (s12 - s0) Qn (F0 m 34 ls []) := by
    intro ad10 H locs ls hX hr15 hr16 hP hD hS hl
    have hC := hm.2.2 hC
    have hN : n0 ≤ n11 := Nat.le_trans hN hm.1
    have hT : s0 ≤ s12 := Nat.le_trans hT hm.2.1
    clear hm
    refine lv_aload_n hx hb dJx4a65c_fastRemove_b59b0_34 rfl (lv_at hl 2 rfl) ?_
    refine lv_aload_n hx hb dJx4a65c_fastRemove_b59b0_35 rfl (lv_at hl 1 rfl) ?_
    refine lv_iload_n hx hb dJx4a65c_fastRemove_b59b0_36 rfl (lv_at hl 0 rfl) ?_
    refine lv_dup_x1 hx hb dJx4a65c_fastRemove_b59b0_37 rfl rfl ?_
    obtain ⟨E17, e18, hF⟩ := mw_o hF
    obtain ⟨q9, fs9, h9, ez9⟩ := wrI (cy := cy) hC hr15 e18
    refine va_put (D := (dC, dI)) (ci := 14) (v := .int (x5 - 1)) (ty := .int) (C := RJx4a65c) (T := TJx4a65c) (N := 3) hx hb hts inlJx4a65c tyJx4a65c tyJx4a65c_ok nmJx4a65c hown hK hP hD hS q9 h9 rfl 2 (by decide) (hts _ mw_169) (fun _ h9 => h9) rfl (by decide +kernel) rfl rfl (Nat.le_of_ble_eq_true rfl) dJx4a65c_fastRemove_b59b0_38 (fun H locs hP hD hS => ?_)
    rw [ez9] at hP hD
    clear ez9 h9
    have hC := sI_clo e18 hC
    refine lv_null hx hb dJx4a65c_fastRemove_b59b0_41 ?_
    obtain ⟨E19, e20, hF⟩ := mw_o hF
    obtain ⟨q9, m9, f9, h9, i9, ez9⟩ := wrQN (cy := cy) hC hr16 e20
    refine va_astqN hx hb hK hP hD hS q9 9 h9 rfl i9 dJx4a65c_fastRemove_b59b0_42 (fun H locs hP hD hS => ?_)
    clear i9
    rw [ez9] at hP hD
    clear ez9 h9
    have hC := sQN_clo e20 hC
    obtain ⟨ht9, hn9, hs9, hE9⟩ := mr_o hF
    subst hn9 hs9 hE9
    have hX9 := hX
    rw [hQ]
    exact W.vret hx hb hr (fun t ht hW => ⟨⟨(), rfl, trivial, _, hX, by rw [ht]; exact hP, hD⟩, hS.F ht⟩) hS.2.2 dJx4a65c_fastRemove_b59b0_43
  have hK21 := mle1 hF
  have hK22 := mle2 hF
  clear hF hm
  have hF := hJ9
  clear hJ9
  refine lv_icmp_le (tgt := 34) hx hb dJx4a65c_fastRemove_b59b0_19 (by decide) (fun c7 => ?_) (fun c7 => ?_)
  · skip
    rw [if_pos c7] at hF
    obtain ⟨ht9, hn9, hs9, hE9⟩ := mr_o hF
    subst ht9 hn9 hs9 hE9
    have hl := lv_sub (l' := [(3, .int (x5 - 1)), (0, .ref Aa0), (1, .ref Aa1), (2, .int a2)]) hl [0, 1, 2, 3] rfl
    exact join14 _ _ _ _ hX ha0 ha1 hP hD hS hl
  · skip
    rw [if_neg c7] at hF
    refine lv_aload_n hx hb dJx4a65c_fastRemove_b59b0_22 rfl (lv_at hl 2 rfl) ?_
    refine lv_iload_n hx hb dJx4a65c_fastRemove_b59b0_23 rfl (lv_at hl 3 rfl) ?_
    refine lv_iconst (v := 1) hx hb dJx4a65c_fastRemove_b59b0_24 (by decide) ?_
    refine lv_iadd hx hb dJx4a65c_fastRemove_b59b0_25 ?_
    refine lv_aload_n hx hb dJx4a65c_fastRemove_b59b0_26 rfl (lv_at hl 2 rfl) ?_
    refine lv_iload_n hx hb dJx4a65c_fastRemove_b59b0_27 rfl (lv_at hl 3 rfl) ?_
    refine lv_iload_n hx hb dJx4a65c_fastRemove_b59b0_28 rfl (lv_at hl 0 rfl) ?_
    refine lv_iload_n hx hb dJx4a65c_fastRemove_b59b0_29 rfl (lv_at hl 3 rfl) ?_
    refine lv_isub hx hb dJx4a65c_fastRemove_b59b0_30 ?_
    obtain ⟨E23, e24, hF⟩ := mw_o hF
    refine hs_copyQ hx hb (hml.trans hl.1.symm) hown (hts _ mw_1256) (hts _ mw_358) (hts _ mw_359) (hts _ mw_360) hK hP hD hC hE hS ha1 ha1 e24 (Nat.le_of_ble_eq_true rfl) (Nat.le_of_ble_eq_true rfl) dJx4a65c_fastRemove_b59b0_31 (fun H locs hP hD hS => ?_)
    have hC := cpO_clo e24 hC
    obtain ⟨ht9, hn9, hs9, hE9⟩ := mr_o hF
    subst ht9 hn9 hs9 hE9
    have hl := lv_sub (l' := [(3, .int (x5 - 1)), (0, .ref Aa0), (1, .ref Aa1), (2, .int a2)]) hl [0, 1, 2, 3] rfl
    exact join14 _ _ _ _ hX ha0 ha1 hP hD hS hl
noncomputable def H_Jx4a65c_remove_915e3 (a0 : Nat) (a1 : Int32) : MH Nat := mb (rI (a0) 14 2) fun x1 => mb (H_J15_checkIndex_7cf53 (a1) (x1)) fun x3 => mb (rR (a0) 14 1) fun x9 => mb (rQ (x9) 9 (a1)) fun x12 => mb (mg fun n E => fO n E (a0) 14) fun _ => mb (H_Jx4a65c_fastRemove_b59b0 (a0) (x9) (a1)) fun _ => mr x12
set_option maxHeartbeats 4000000 in
set_option maxRecDepth 100000 in
theorem h_Jx4a65c_remove_915e3 (l : Launch) (dC : Nat → ClassId) (dI : Nat → Nat → Nat) (cy : Nat → ClassId) (nb : Nat → Nat) (ad0 : Nat → Nat) (n0 s0 : Nat) (E0 : HE) (hC : clo n0 E0) (a0 Aa0 : Nat) (ha0 : rf nb ad0 n0 a0 Aa0) (a1 : Int32) (sz : Nat) (ro : Nat) (nz sz9 : Nat) (Ez : HE) (hF : (H_Jx4a65c_remove_915e3 a0 a1).1 (n0, s0, E0) = some (ro, nz, sz9, Ez)) : Met l yJx4a65c_remove_915e3 (wsg yJx4a65c_remove_915e3 cJx4a65c_remove_915e3 4 (some (.object "java/lang/Object"))) ({ frames := 10, cells := nz - n0, slots := sz9 - s0, locals := 500 }) (va_Pc [.ref Aa0, .int a1] (fun U => U.heap.size = sz ∧ va_P (dC, dI) vwCl (CH cy nb ad0 n0 E0) U.heap ∧ va_K (dC, dI) vwCl (tyL cy) U ∧ va_D (fun _ => True) (CH cy nb ad0 n0 E0) ∧ GL nb (va_A (CH cy nb ad0 n0 E0) sz) U)) (va_Qr (fun (_ : Unit) => True) (fun _ ra t => ∃ ad2 : Nat → Nat, axh n0 ad0 nz ad2 ∧ rf nb ad2 nz ro ra ∧ va_P (dC, dI) vwCl (CH cy nb ad2 nz Ez) t.heap ∧ va_D (va_A (CH cy nb ad0 n0 E0) sz) (CH cy nb ad2 nz Ez)) (va_A (CH cy nb ad0 n0 E0) sz)) (nz - n0) (sz9 - s0) (va_A (CH cy nb ad0 n0 E0) sz) := by
  refine Met.ofW (cc := cJx4a65c_remove_915e3) (maxL := 4) (ret := (some (.object "java/lang/Object"))) (by decide) rfl ?_
  intro p e s m args below meth c s₁ B hml hv
  obtain ⟨rfl, hsz, hP, hK, hD0, hE⟩ := hv
  have hx := B.exec
  have hb := B.bytes
  have hr := B.returns
  have hts0 := atoms_spec (ws := (wsg yJx4a65c_remove_915e3 cJx4a65c_remove_915e3 4 (some (.object "java/lang/Object")))) B.pre
  have hts : ∀ w ∈ wsL_law, w.before _ s = true := fun w h => hts0 w (List.mem_cons_of_mem _ h)
  have hown : s.vm.findClass RJx4a65c = some m.cls := by have h9 := findClass_of_methodNamed B.named; exact h9
  subst hsz
  have hD := hD0.self (sz := s.heap.size)
  generalize hAe : va_A (CH cy nb ad0 n0 E0) s.heap.size = A at hD hE ⊢
  have hA : ∀ q : Nat, s.heap.size ≤ q → A q := fun q h => by rw [← hAe]; exact Or.inr h
  have hS : va_S A s.heap s.heap [] := va_S.rf
  have hl := lv_entry ([.ref Aa0, .int a1]) (n := 4) (Nat.le_of_ble_eq_true rfl)
  rw [lg_entry_eq]
  generalize (lg_sl ([.ref Aa0, .int a1]) ++ List.replicate (4 - (lg_sl ([.ref Aa0, .int a1])).length) Slot.unset).toArray = ls at hl ⊢
  have hl : lv_has ls 4 [(0, .ref Aa0), (1, .int a1)] := hl
  generalize hHe : s.heap = H at hP hS ⊢
  have hS : va_S A s.heap H [] := by rw [hHe]; exact hS
  refine my_Q (fun Qn hQ => ?_)
  simp only [H_Jx4a65c_remove_915e3] at hF
  have hX : axh n0 ad0 n0 ad0 := axh_refl
  have hN : n0 ≤ n0 := Nat.le_refl _
  have hT : s0 ≤ s0 := Nat.le_refl _
  refine W.widen (k := n0 - n0) (n := s0 - s0) (by omega) (by omega) ?_
  refine lv_iload_n hx hb dJx4a65c_remove_915e3_0 rfl (lv_at hl 1 rfl) ?_
  refine lv_aload_n hx hb dJx4a65c_remove_915e3_1 rfl (lv_at hl 0 rfl) ?_
  obtain ⟨x1, e2, hF⟩ := mg_o hF
  obtain ⟨fs9, h9, g9⟩ := rdI hP hC ha0 e2
  refine va_get (D := (dC, dI)) (ci := 14) (v := .int x1) (C := RJx4a65c) (T := TJx4a65c) (N := 3) hx hb hts inlJx4a65c hown hK h9 0 rfl rfl 2 (by decide) (hts _ mw_169) (fun _ h9 => h9) g9 dJx4a65c_remove_915e3_2 ?_
  clear h9 g9
  obtain ⟨x3, n5, s6, E7, e4, hF⟩ := mb_o hF
  have hm := mle e4
  have hM1 := mle1 hF
  have hM2 := mle2 hF
  have hm1 := hm.1
  have hm2 := hm.2.1
  have hFc := my_free hD hS hA
  refine va_calli (va_runS (As := [.int a1, .int x1]) (rest := []) ⟨hx, hb, hml, hown, hts⟩ (h_J15_checkIndex_7cf53 l dC dI cy nb ad0 n0 s0 E0 hC (a1) (x1) H.size x3 n5 s6 E7 e4) (va_cwS 2 hts (gS mw_238 mw_239 mw_240 mw_241) rfl rfl rfl (by decide +kernel) ⟨Nat.le_of_ble_eq_true rfl, Nat.le_of_ble_eq_true rfl⟩) (hl_preS hP hK hD hE hS hFc) rfl rfl hl.1 rfl (lv_room (Nat.le_of_ble_eq_true rfl)) dJx4a65c_remove_915e3_5 ⟨show n0 - n0 + (n5 - n0) ≤ nz - n0 by omega, show s0 - s0 + (s6 - s0) ≤ sz9 - s0 by omega⟩) hS (fun q _ h => hFc q h) hFc (fun r9 u t H1 locs ht hvm hw hB hz1 hk1 hS => ?_)
  obtain ⟨ad8, hax, hP1, hD1⟩ := hB
  rw [ht] at hP1
  have hP := hP1
  have hD := hD1.weaken (fun k q _ h => hFc q.1 h)
  generalize H1 = H at hP hS ⊢
  have ha0 := ha0.mv hC.1 hax
  have hX := hX.trans hax
  have hC := hm.2.2 hC
  have hN : n0 ≤ n5 := Nat.le_trans hN hm1
  have hT : s0 ≤ s6 := Nat.le_trans hT hm2
  refine W.widen (k := n5 - n0) (n := s6 - s0) (by omega) (by omega) ?_
  clear hP1 hD1 hFc hk1 hz1 hvm ht hax hm hm1 hm2 hM1 hM2
  obtain rfl := hw.symm
  refine lv_pop hx hb dJx4a65c_remove_915e3_8 rfl ?_
  refine lv_aload_n hx hb dJx4a65c_remove_915e3_9 rfl (lv_at hl 0 rfl) ?_
  obtain ⟨x9, e10, hF⟩ := mg_o hF
  obtain ⟨hr11, fs9, h9, g9⟩ := rdR hP hC ha0 e10
  refine va_get (D := (dC, dI)) (ci := 14) (v := .ref (AD nb ad8 x9)) (C := RJx4a65c) (T := TJx4a65c) (N := 3) hx hb hts inlJx4a65c hown hK h9 0 rfl rfl 1 (by decide) (hts _ mw_116) (fun _ h9 => h9) g9 dJx4a65c_remove_915e3_10 ?_
  clear h9 g9
  refine lv_astore_n (lv' := [(2, .ref (AD nb ad8 x9)), (0, .ref Aa0), (1, .int a1)]) hx hb dJx4a65c_remove_915e3_13 rfl hl (by decide) rfl (fun ls hl => ?_)
  refine lv_aload_n hx hb dJx4a65c_remove_915e3_14 rfl (lv_at hl 0 rfl) ?_
  refine lv_iload_n hx hb dJx4a65c_remove_915e3_15 rfl (lv_at hl 2 rfl) ?_
  obtain ⟨x12, e13, hF⟩ := mg_o hF
  obtain ⟨hr14, m9, f9, h9, i9, g9⟩ := rdQ hP hC hr11 e13
  refine va_aldq hx hb hK h9 0 9 rfl rfl i9 dJx4a65c_remove_915e3_16 ?_
  refine my_top (y := .ref (AD nb ad8 x12)) g9 ?_
  clear h9 i9 g9
  refine lv_astore_n (lv' := [(3, .ref (AD nb ad8 x12)), (2, .ref (AD nb ad8 x9)), (0, .ref Aa0), (1, .int a1)]) hx hb dJx4a65c_remove_915e3_17 rfl hl (by decide) rfl (fun ls hl => ?_)
  refine lv_aload_n hx hb dJx4a65c_remove_915e3_18 rfl (lv_at hl 2 rfl) ?_
  refine lv_aload_n hx hb dJx4a65c_remove_915e3_19 rfl (lv_at hl 1 rfl) ?_
  refine lv_iload_n hx hb dJx4a65c_remove_915e3_20 rfl (lv_at hl 3 rfl) ?_
  obtain ⟨fs9, e15, hF⟩ := mg_o hF
  obtain ⟨⟨⟩, n17, s18, E19, e16, hF⟩ := mb_o hF
  have hm := mle e16
  have hM1 := mle1 hF
  have hM2 := mle2 hF
  have hm1 := hm.1
  have hm2 := hm.2.1
  have hFc := my_free hD hS hA
  refine va_callv (va_runV (C := RJx4a65c) (As := [.ref (AD nb ad8 x9), .int a1]) (rest := []) ⟨hx, hb, hml, hown, hts⟩ (h_Jx4a65c_fastRemove_b59b0 l dC dI cy nb ad8 n5 s6 E7 hC (a0) Aa0 ha0 (x9) (AD nb ad8 x9) hr11 (a1) H.size n17 s18 E19 e16) (cwV 2 hts (gV mw_1252 mw_1253 mw_1254 mw_12 mw_1255) rfl rfl rfl (by decide +kernel) ⟨Nat.le_of_ble_eq_true rfl, Nat.le_of_ble_eq_true rfl⟩) (hl_preV hP hK hD hE hS hFc (va_recv hK (rdO_ hP hC ha0 e15) (ci := 14) (q0 := 0) rfl rfl)) rfl rfl hl.1 rfl (lv_room (Nat.le_of_ble_eq_true rfl)) dJx4a65c_remove_915e3_21 ⟨show n5 - n0 + (n17 - n5) ≤ nz - n0 by omega, show s6 - s0 + (s18 - s6) ≤ sz9 - s0 by omega⟩) hS (fun q _ h => hFc q h) hFc (fun u t H1 locs ht hvm hw hB hz1 hk1 hS => ?_)
  obtain ⟨ad20, hax, hP1, hD1⟩ := hB
  rw [ht] at hP1
  have hP := hP1
  have hD := hD1.weaken (fun k q _ h => hFc q.1 h)
  generalize H1 = H at hP hS ⊢
  have hr14 := hr14.mv hC.1 hax
  have hr11 := hr11.mv hC.1 hax
  have ha0 := ha0.mv hC.1 hax
  have hX := hX.trans hax
  have hC := hm.2.2 hC
  have hN : n0 ≤ n17 := Nat.le_trans hN hm1
  have hT : s0 ≤ s18 := Nat.le_trans hT hm2
  refine W.widen (k := n17 - n0) (n := s18 - s0) (by omega) (by omega) ?_
  clear hP1 hD1 hFc hk1 hz1 hvm ht hax hm hm1 hm2 hM1 hM2
  refine lv_aload_n hx hb dJx4a65c_remove_915e3_24 rfl (lv_at hl 0 rfl) ?_
  obtain ⟨ht9, hn9, hs9, hE9⟩ := mr_o hF
  subst hn9 hs9 hE9
  have hX9 := hX
  rw [hQ]
  exact W.aret (v := .ref (AD nb ad8 x12)) hx hb hr (by first | exact Or.inl ⟨_, rfl⟩ | exact Or.inr ⟨_, rfl⟩) (Or.inr ⟨_, rfl⟩) (fun t ht hW => ⟨⟨(), (AD nb ad8 x12), rfl, trivial, _, hX, (by rw [← ht9]; exact hr14), by rw [ht]; exact hP, hD⟩, hS.F ht⟩) hS.2.2 dJx4a65c_remove_915e3_25
noncomputable def H_Jx4a65c_toArray_d5877 (a0 : Nat) : MH Nat := mb (rR (a0) 14 1) fun x1 => mb (rI (a0) 14 2) fun x4 => mb (H_J7_copyOf_1904c (x1) (x4)) fun x6 => mr x6
set_option maxHeartbeats 4000000 in
set_option maxRecDepth 100000 in
theorem h_Jx4a65c_toArray_d5877 (l : Launch) (dC : Nat → ClassId) (dI : Nat → Nat → Nat) (cy : Nat → ClassId) (nb : Nat → Nat) (ad0 : Nat → Nat) (n0 s0 : Nat) (E0 : HE) (hC : clo n0 E0) (a0 Aa0 : Nat) (ha0 : rf nb ad0 n0 a0 Aa0) (sz : Nat) (ro : Nat) (nz sz9 : Nat) (Ez : HE) (hF : (H_Jx4a65c_toArray_d5877 a0).1 (n0, s0, E0) = some (ro, nz, sz9, Ez)) : Met l yJx4a65c_toArray_d5877 (wsg yJx4a65c_toArray_d5877 cJx4a65c_toArray_d5877 1 (some (.array (.object "java/lang/Object")))) ({ frames := 10, cells := nz - n0, slots := sz9 - s0, locals := 500 }) (va_Pc [.ref Aa0] (fun U => U.heap.size = sz ∧ va_P (dC, dI) vwCl (CH cy nb ad0 n0 E0) U.heap ∧ va_K (dC, dI) vwCl (tyL cy) U ∧ va_D (fun _ => True) (CH cy nb ad0 n0 E0) ∧ GL nb (va_A (CH cy nb ad0 n0 E0) sz) U)) (va_Qr (fun (_ : Unit) => True) (fun _ ra t => ∃ ad2 : Nat → Nat, axh n0 ad0 nz ad2 ∧ rf nb ad2 nz ro ra ∧ va_P (dC, dI) vwCl (CH cy nb ad2 nz Ez) t.heap ∧ va_D (va_A (CH cy nb ad0 n0 E0) sz) (CH cy nb ad2 nz Ez)) (va_A (CH cy nb ad0 n0 E0) sz)) (nz - n0) (sz9 - s0) (va_A (CH cy nb ad0 n0 E0) sz) := by
  refine Met.ofW (cc := cJx4a65c_toArray_d5877) (maxL := 1) (ret := (some (.array (.object "java/lang/Object")))) (by decide) rfl ?_
  intro p e s m args below meth c s₁ B hml hv
  obtain ⟨rfl, hsz, hP, hK, hD0, hE⟩ := hv
  have hx := B.exec
  have hb := B.bytes
  have hr := B.returns
  have hts0 := atoms_spec (ws := (wsg yJx4a65c_toArray_d5877 cJx4a65c_toArray_d5877 1 (some (.array (.object "java/lang/Object"))))) B.pre
  have hts : ∀ w ∈ wsL_law, w.before _ s = true := fun w h => hts0 w (List.mem_cons_of_mem _ h)
  have hown : s.vm.findClass RJx4a65c = some m.cls := by have h9 := findClass_of_methodNamed B.named; exact h9
  subst hsz
  have hD := hD0.self (sz := s.heap.size)
  generalize hAe : va_A (CH cy nb ad0 n0 E0) s.heap.size = A at hD hE ⊢
  have hA : ∀ q : Nat, s.heap.size ≤ q → A q := fun q h => by rw [← hAe]; exact Or.inr h
  have hS : va_S A s.heap s.heap [] := va_S.rf
  have hl := lv_entry ([.ref Aa0]) (n := 1) (Nat.le_of_ble_eq_true rfl)
  rw [lg_entry_eq]
  generalize (lg_sl ([.ref Aa0]) ++ List.replicate (1 - (lg_sl ([.ref Aa0])).length) Slot.unset).toArray = ls at hl ⊢
  have hl : lv_has ls 1 [(0, .ref Aa0)] := hl
  generalize hHe : s.heap = H at hP hS ⊢
  have hS : va_S A s.heap H [] := by rw [hHe]; exact hS
  refine my_Q (fun Qn hQ => ?_)
  simp only [H_Jx4a65c_toArray_d5877] at hF
  have hX : axh n0 ad0 n0 ad0 := axh_refl
  have hN : n0 ≤ n0 := Nat.le_refl _
  have hT : s0 ≤ s0 := Nat.le_refl _
  refine W.widen (k := n0 - n0) (n := s0 - s0) (by omega) (by omega) ?_
  refine lv_aload_n hx hb dJx4a65c_toArray_d5877_0 rfl (lv_at hl 0 rfl) ?_
  obtain ⟨x1, e2, hF⟩ := mg_o hF
  obtain ⟨hr3, fs9, h9, g9⟩ := rdR hP hC ha0 e2
  refine va_get (D := (dC, dI)) (ci := 14) (v := .ref (AD nb ad0 x1)) (C := RJx4a65c) (T := TJx4a65c) (N := 3) hx hb hts inlJx4a65c hown hK h9 0 rfl rfl 1 (by decide) (hts _ mw_116) (fun _ h9 => h9) g9 dJx4a65c_toArray_d5877_1 ?_
  clear h9 g9
  refine lv_aload_n hx hb dJx4a65c_toArray_d5877_4 rfl (lv_at hl 0 rfl) ?_
  obtain ⟨x4, e5, hF⟩ := mg_o hF
  obtain ⟨fs9, h9, g9⟩ := rdI hP hC ha0 e5
  refine va_get (D := (dC, dI)) (ci := 14) (v := .int x4) (C := RJx4a65c) (T := TJx4a65c) (N := 3) hx hb hts inlJx4a65c hown hK h9 0 rfl rfl 2 (by decide) (hts _ mw_169) (fun _ h9 => h9) g9 dJx4a65c_toArray_d5877_5 ?_
  clear h9 g9
  obtain ⟨x6, n8, s9, E10, e7, hF⟩ := mb_o hF
  have hm := mle e7
  have hM1 := mle1 hF
  have hM2 := mle2 hF
  have hm1 := hm.1
  have hm2 := hm.2.1
  have hFc := my_free hD hS hA
  refine va_callr (va_runS (As := [.ref (AD nb ad0 x1), .int x4]) (rest := []) ⟨hx, hb, hml, hown, hts⟩ (h_J7_copyOf_1904c l dC dI cy nb ad0 n0 s0 E0 hC (x1) (AD nb ad0 x1) hr3 (x4) H.size x6 n8 s9 E10 e7) (va_cwS 2 hts (gS mw_860 mw_861 mw_96 mw_862) rfl rfl rfl (by decide +kernel) ⟨Nat.le_of_ble_eq_true rfl, Nat.le_of_ble_eq_true rfl⟩) (hl_preS hP hK hD hE hS hFc) rfl rfl hl.1 rfl (lv_room (Nat.le_of_ble_eq_true rfl)) dJx4a65c_toArray_d5877_8 ⟨show n0 - n0 + (n8 - n0) ≤ nz - n0 by omega, show s0 - s0 + (s9 - s0) ≤ sz9 - s0 by omega⟩) hS (fun q _ h => hFc q h) hFc (fun u ra t H1 locs ht hvm hw hB hz1 hk1 hS => ?_)
  obtain ⟨ad11, hax, hr12, hP1, hD1⟩ := hB
  rw [ht] at hP1
  have hP := hP1
  have hD := hD1.weaken (fun k q _ h => hFc q.1 h)
  generalize H1 = H at hP hS ⊢
  have ha0 := ha0.mv hC.1 hax
  have hX := hX.trans hax
  have hC := hm.2.2 hC
  have hN : n0 ≤ n8 := Nat.le_trans hN hm1
  have hT : s0 ≤ s9 := Nat.le_trans hT hm2
  refine W.widen (k := n8 - n0) (n := s9 - s0) (by omega) (by omega) ?_
  clear hP1 hD1 hFc hk1 hz1 hvm ht hax hm hm1 hm2 hM1 hM2
  refine my_top (y := .ref (AD nb ad11 x6)) (congrArg Value.ref hr12.2.symm) ?_
  have hr12 := rf_self hr12
  obtain ⟨ht9, hn9, hs9, hE9⟩ := mr_o hF
  subst hn9 hs9 hE9
  have hX9 := hX
  rw [hQ]
  exact W.aret (v := .ref (AD nb ad11 x6)) hx hb hr (by first | exact Or.inl ⟨_, rfl⟩ | exact Or.inr ⟨_, rfl⟩) (Or.inr ⟨_, rfl⟩) (fun t ht hW => ⟨⟨(), (AD nb ad11 x6), rfl, trivial, _, hX, (by rw [← ht9]; exact hr12), by rw [ht]; exact hP, hD⟩, hS.F ht⟩) hS.2.2 dJx4a65c_toArray_d5877_11
noncomputable def H_Jx4a65c_addAll_f0b43 (a0 : Nat) (a1 : Nat) : MH Int32 := mb (mg fun n E => fO n E (a1) 14) fun _ => mb (H_Jx4a65c_toArray_d5877 (a1)) fun x2 => mb (rI (a0) 14 0) fun x10 => mb (wI (a0) 14 0 ((x10 + 1))) fun _ => mb (mg fun n E => lO n E (x2)) fun x14 => if x14 = 0 then (mr (0 : Int32)) else (mb (rR (a0) 14 1) fun x17 => mb (mg fun n E => lO n E (x17)) fun x20 => mb (rI (a0) 14 2) fun x22 => mb (if x14 ≤ (x20 - x22) then (mr x17) else (mb (mg fun n E => fO n E (a0) 14) fun _ => mb (H_Jx4a65c_grow_92f84 (a0) ((x22 + x14))) fun x43 => mr x43) : MH (Nat)) fun t25 => mb (mcO (x2) (0) (t25) (x22) (x14)) fun _ => mb (wI (a0) 14 2 ((x22 + x14))) fun _ => mr (1 : Int32))
set_option maxHeartbeats 4000000 in
set_option maxRecDepth 100000 in
theorem h_Jx4a65c_addAll_f0b43 (l : Launch) (dC : Nat → ClassId) (dI : Nat → Nat → Nat) (cy : Nat → ClassId) (nb : Nat → Nat) (ad0 : Nat → Nat) (n0 s0 : Nat) (E0 : HE) (hC : clo n0 E0) (a0 Aa0 : Nat) (ha0 : rf nb ad0 n0 a0 Aa0) (a1 Aa1 : Nat) (ha1 : rf nb ad0 n0 a1 Aa1) (sz : Nat) (ro : Int32) (nz sz9 : Nat) (Ez : HE) (hF : (H_Jx4a65c_addAll_f0b43 a0 a1).1 (n0, s0, E0) = some (ro, nz, sz9, Ez)) : Met l yJx4a65c_addAll_f0b43 (wsg yJx4a65c_addAll_f0b43 cJx4a65c_addAll_f0b43 6 (some .boolean)) ({ frames := 11, cells := nz - n0, slots := sz9 - s0, locals := 600 }) (va_Pc [.ref Aa0, .ref Aa1] (fun U => U.heap.size = sz ∧ va_P (dC, dI) vwCl (CH cy nb ad0 n0 E0) U.heap ∧ va_K (dC, dI) vwCl (tyL cy) U ∧ va_D (fun _ => True) (CH cy nb ad0 n0 E0) ∧ GL nb (va_A (CH cy nb ad0 n0 E0) sz) U)) (va_Qi (fun (r : Int32) (_ : Unit) => r = ro) (fun _ t => ∃ ad2 : Nat → Nat, axh n0 ad0 nz ad2 ∧ va_P (dC, dI) vwCl (CH cy nb ad2 nz Ez) t.heap ∧ va_D (va_A (CH cy nb ad0 n0 E0) sz) (CH cy nb ad2 nz Ez)) (va_A (CH cy nb ad0 n0 E0) sz)) (nz - n0) (sz9 - s0) (va_A (CH cy nb ad0 n0 E0) sz) := by
  refine Met.ofW (cc := cJx4a65c_addAll_f0b43) (maxL := 6) (ret := (some .boolean)) (by decide) rfl ?_
  intro p e s m args below meth c s₁ B hml hv
  obtain ⟨rfl, hsz, hP, hK, hD0, hE⟩ := hv
  have hx := B.exec
  have hb := B.bytes
  have hr := B.returns
  have hts0 := atoms_spec (ws := (wsg yJx4a65c_addAll_f0b43 cJx4a65c_addAll_f0b43 6 (some .boolean))) B.pre
  have hts : ∀ w ∈ wsL_law, w.before _ s = true := fun w h => hts0 w (List.mem_cons_of_mem _ h)
  have hown : s.vm.findClass RJx4a65c = some m.cls := by have h9 := findClass_of_methodNamed B.named; exact h9
  subst hsz
  have hD := hD0.self (sz := s.heap.size)
  generalize hAe : va_A (CH cy nb ad0 n0 E0) s.heap.size = A at hD hE ⊢
  have hA : ∀ q : Nat, s.heap.size ≤ q → A q := fun q h => by rw [← hAe]; exact Or.inr h
  have hS : va_S A s.heap s.heap [] := va_S.rf
  have hl := lv_entry ([.ref Aa0, .ref Aa1]) (n := 6) (Nat.le_of_ble_eq_true rfl)
  rw [lg_entry_eq]
  generalize (lg_sl ([.ref Aa0, .ref Aa1]) ++ List.replicate (6 - (lg_sl ([.ref Aa0, .ref Aa1])).length) Slot.unset).toArray = ls at hl ⊢
  have hl : lv_has ls 6 [(0, .ref Aa0), (1, .ref Aa1)] := hl
  generalize hHe : s.heap = H at hP hS ⊢
  have hS : va_S A s.heap H [] := by rw [hHe]; exact hS
  refine my_Q (fun Qn hQ => ?_)
  simp only [H_Jx4a65c_addAll_f0b43] at hF
  have hX : axh n0 ad0 n0 ad0 := axh_refl
  have hN : n0 ≤ n0 := Nat.le_refl _
  have hT : s0 ≤ s0 := Nat.le_refl _
  refine W.widen (k := n0 - n0) (n := s0 - s0) (by omega) (by omega) ?_
  refine lv_aload_n hx hb dJx4a65c_addAll_f0b43_0 rfl (lv_at hl 1 rfl) ?_
  obtain ⟨fs9, e1, hF⟩ := mg_o hF
  obtain ⟨x2, n4, s5, E6, e3, hF⟩ := mb_o hF
  have hm := mle e3
  have hM1 := mle1 hF
  have hM2 := mle2 hF
  have hm1 := hm.1
  have hm2 := hm.2.1
  have hFc := my_free hD hS hA
  refine va_callFr (va_runF (C := RJx4a65c) (As := []) (rest := []) (hK.1 14 _ rfl).2 ⟨hx, hb, hml, hown, hts⟩ (h_Jx4a65c_toArray_d5877 l dC dI cy nb ad0 n0 s0 E0 hC (a1) Aa1 ha1 H.size x2 n4 s5 E6 e3) (va_cwF 0 hts (gF mw_1294 mw_1295 mw_1296 mw_12 mw_1297) rfl rfl rfl hE.fw0 (by decide +kernel) ⟨Nat.le_of_ble_eq_true rfl, Nat.le_of_ble_eq_true rfl⟩) (hl_preV hP hK hD hE hS hFc (va_recv hK (rdO_ hP hC ha1 e1) (ci := 14) (q0 := 0) rfl rfl)) rfl rfl hl.1 rfl (lv_room (Nat.le_of_ble_eq_true rfl)) dJx4a65c_addAll_f0b43_1 ⟨show n0 - n0 + (n4 - n0) ≤ nz - n0 by omega, show s0 - s0 + (s5 - s0) ≤ sz9 - s0 by omega⟩) hS (fun q _ h => hFc q h) hFc (fun u ra t H1 locs ht hvm hw hB hz1 hk1 hS => ?_)
  obtain ⟨ad7, hax, hr8, hP1, hD1⟩ := hB
  rw [ht] at hP1
  have hP := hP1
  have hD := hD1.weaken (fun k q _ h => hFc q.1 h)
  generalize H1 = H at hP hS ⊢
  have ha0 := ha0.mv hC.1 hax
  have ha1 := ha1.mv hC.1 hax
  have hX := hX.trans hax
  have hC := hm.2.2 hC
  have hN : n0 ≤ n4 := Nat.le_trans hN hm1
  have hT : s0 ≤ s5 := Nat.le_trans hT hm2
  refine W.widen (k := n4 - n0) (n := s5 - s0) (by omega) (by omega) ?_
  clear hP1 hD1 hFc hk1 hz1 hvm ht hax hm hm1 hm2 hM1 hM2
  refine my_top (y := .ref (AD nb ad7 x2)) (congrArg Value.ref hr8.2.symm) ?_
  have hr8 := rf_self hr8
  refine lv_astore_n (lv' := [(2, .ref (AD nb ad7 x2)), (0, .ref Aa0), (1, .ref Aa1)]) hx hb dJx4a65c_addAll_f0b43_6 rfl hl (by decide) rfl (fun ls hl => ?_)
  refine lv_aload_n hx hb dJx4a65c_addAll_f0b43_7 rfl (lv_at hl 1 rfl) ?_
  refine lv_dup hx hb dJx4a65c_addAll_f0b43_8 rfl ?_
  obtain ⟨x10, e11, hF⟩ := mg_o hF
  obtain ⟨fs9, h9, g9⟩ := rdI hP hC ha0 e11
  refine va_get (D := (dC, dI)) (ci := 14) (v := .int x10) (C := RJx4a65c) (T := TJx4a65c) (N := 3) hx hb hts inlJx4a65c hown hK h9 0 rfl rfl 0 (by decide) (hts _ mw_844) (u_same (hts _ mw_190)) g9 dJx4a65c_addAll_f0b43_9 ?_
  clear h9 g9
  refine lv_iconst (v := 1) hx hb dJx4a65c_addAll_f0b43_12 (by decide) ?_
  refine lv_iadd hx hb dJx4a65c_addAll_f0b43_13 ?_
  obtain ⟨E12, e13, hF⟩ := mw_o hF
  obtain ⟨q9, fs9, h9, ez9⟩ := wrI (cy := cy) hC ha0 e13
  refine va_put (D := (dC, dI)) (ci := 14) (v := .int (x10 + 1)) (ty := .int) (C := RJx4a65c) (T := TJx4a65c) (N := 3) hx hb hts inlJx4a65c tyJx4a65c tyJx4a65c_ok nmJx4a65c hown hK hP hD hS q9 h9 rfl 0 (by decide) (hts _ mw_844) (u_same (hts _ mw_190)) rfl (by decide +kernel) rfl rfl (Nat.le_of_ble_eq_true rfl) dJx4a65c_addAll_f0b43_14 (fun H locs hP hD hS => ?_)
  rw [ez9] at hP hD
  clear ez9 h9
  have hC := sI_clo e13 hC
  refine lv_aload_n hx hb dJx4a65c_addAll_f0b43_17 rfl (lv_at hl 0 rfl) ?_
  obtain ⟨x14, e15, hF⟩ := mg_o hF
  refine hs_lO hx hb hK hP hC hE hS hr8 e15 dJx4a65c_addAll_f0b43_18 ?_
  refine lv_istore_n (lv' := [(3, .int x14), (2, .ref (AD nb ad7 x2)), (0, .ref Aa0), (1, .ref Aa1)]) hx hb dJx4a65c_addAll_f0b43_19 rfl hl (by decide) rfl (fun ls hl => ?_)
  refine lv_iload_n hx hb dJx4a65c_addAll_f0b43_20 rfl (lv_at hl 0 rfl) ?_
  refine lv_if_ne (tgt := 26) hx hb dJx4a65c_addAll_f0b43_21 (by decide) (fun c16 => ?_) (fun c16 => ?_)
  · skip
    rw [if_neg c16] at hF
    refine lv_iload_n hx hb dJx4a65c_addAll_f0b43_26 rfl (lv_at hl 0 rfl) ?_
    refine lv_aload_n hx hb dJx4a65c_addAll_f0b43_27 rfl (lv_at hl 2 rfl) ?_
    obtain ⟨x17, e18, hF⟩ := mg_o hF
    obtain ⟨hr19, fs9, h9, g9⟩ := rdR hP hC ha0 e18
    refine va_get (D := (dC, dI)) (ci := 14) (v := .ref (AD nb ad7 x17)) (C := RJx4a65c) (T := TJx4a65c) (N := 3) hx hb hts inlJx4a65c hown hK h9 0 rfl rfl 1 (by decide) (hts _ mw_116) (fun _ h9 => h9) g9 dJx4a65c_addAll_f0b43_28 ?_
    clear h9 g9
    refine lv_dup hx hb dJx4a65c_addAll_f0b43_31 rfl ?_
    refine lv_astore (lv' := [(4, .ref (AD nb ad7 x17)), (3, .int x14), (2, .ref (AD nb ad7 x2)), (0, .ref Aa0), (1, .ref Aa1)]) hx hb dJx4a65c_addAll_f0b43_32 hl (by decide) rfl (fun ls hl => ?_)
    obtain ⟨x20, e21, hF⟩ := mg_o hF
    refine hs_lO hx hb hK hP hC hE hS hr19 e21 dJx4a65c_addAll_f0b43_34 ?_
    refine lv_aload_n hx hb dJx4a65c_addAll_f0b43_35 rfl (lv_at hl 3 rfl) ?_
    obtain ⟨x22, e23, hF⟩ := mg_o hF
    obtain ⟨fs9, h9, g9⟩ := rdI hP hC ha0 e23
    refine va_get (D := (dC, dI)) (ci := 14) (v := .int x22) (C := RJx4a65c) (T := TJx4a65c) (N := 3) hx hb hts inlJx4a65c hown hK h9 0 rfl rfl 2 (by decide) (hts _ mw_169) (fun _ h9 => h9) g9 dJx4a65c_addAll_f0b43_36 ?_
    clear h9 g9
    refine lv_dup hx hb dJx4a65c_addAll_f0b43_39 rfl ?_
    refine lv_istore (lv' := [(5, .int x22), (4, .ref (AD nb ad7 x17)), (3, .int x14), (2, .ref (AD nb ad7 x2)), (0, .ref Aa0), (1, .ref Aa1)]) hx hb dJx4a65c_addAll_f0b43_40 hl (by decide) rfl (fun ls hl => ?_)
    refine lv_isub hx hb dJx4a65c_addAll_f0b43_42 ?_
    obtain ⟨t25, n28, s29, E30, hJ26, hF⟩ := mb_o hF
    have hm := mle hJ26
    have join31 : ∀ (ad27 : Nat → Nat) (H : Heap) (locs : List Loc) (ls : Array Slot), axh n0 ad0 n28 ad27 → rf nb ad27 n28 (t25) ((AD nb ad27 t25)) → rf nb ad27 n28 (x2) ((AD nb ad7 x2)) → rf nb ad27 n28 (a0) (Aa0) → rf nb ad27 n28 (a1) (Aa1) → va_P (dC, dI) vwCl (CH cy nb ad27 n28 E30) H → va_D A (CH cy nb ad27 n28 E30) → va_S A s.heap H locs → lv_has ls 6 [(5, .int x22), (4, .ref (AD nb ad27 t25)), (3, .int x14), (2, .ref (AD nb ad7 x2)), (0, .ref Aa0), (1, .ref Aa1)] → W p l e (headSpec (wsg yJx4a65c_addAll_f0b43 cJx4a65c_addAll_f0b43 6 (some .boolean)) ({ frames := 11, cells := nz - n0, slots := sz9 - s0, locals := 600 })).room s m ([.ref Aa0, .ref Aa1] : List Value).toArray below meth c H locs (n28 - n0) (s29 - s0) Qn (F0 m 56 ls []) := by
      intro ad27 H locs ls hX hr32 hr33 hr34 hr35 hP hD hS hl
      have hC := hm.2.2 hC
      have hN : n0 ≤ n28 := Nat.le_trans hN hm.1
      have hT : s0 ≤ s29 := Nat.le_trans hT hm.2.1
      clear hm
      refine lv_aload_n hx hb dJx4a65c_addAll_f0b43_56 rfl (lv_at hl 3 rfl) ?_
      refine lv_iconst (v := 0) hx hb dJx4a65c_addAll_f0b43_57 (by decide) ?_
      refine lv_aload hx hb dJx4a65c_addAll_f0b43_58 (lv_at hl 1 rfl) ?_
      refine lv_iload hx hb dJx4a65c_addAll_f0b43_60 (lv_at hl 0 rfl) ?_
      refine lv_iload_n hx hb dJx4a65c_addAll_f0b43_62 rfl (lv_at hl 2 rfl) ?_
      obtain ⟨E36, e37, hF⟩ := mw_o hF
      refine hs_copyQ hx hb (hml.trans hl.1.symm) hown (hts _ mw_1256) (hts _ mw_358) (hts _ mw_359) (hts _ mw_360) hK hP hD hC hE hS hr33 hr32 e37 (Nat.le_of_ble_eq_true rfl) (Nat.le_of_ble_eq_true rfl) dJx4a65c_addAll_f0b43_63 (fun H locs hP hD hS => ?_)
      have hC := cpO_clo e37 hC
      refine lv_aload_n hx hb dJx4a65c_addAll_f0b43_66 rfl (lv_at hl 4 rfl) ?_
      refine lv_iload hx hb dJx4a65c_addAll_f0b43_67 (lv_at hl 0 rfl) ?_
      refine lv_iload_n hx hb dJx4a65c_addAll_f0b43_69 rfl (lv_at hl 2 rfl) ?_
      refine lv_iadd hx hb dJx4a65c_addAll_f0b43_70 ?_
      obtain ⟨E38, e39, hF⟩ := mw_o hF
      obtain ⟨q9, fs9, h9, ez9⟩ := wrI (cy := cy) hC hr34 e39
      refine va_put (D := (dC, dI)) (ci := 14) (v := .int (x22 + x14)) (ty := .int) (C := RJx4a65c) (T := TJx4a65c) (N := 3) hx hb hts inlJx4a65c tyJx4a65c tyJx4a65c_ok nmJx4a65c hown hK hP hD hS q9 h9 rfl 2 (by decide) (hts _ mw_169) (fun _ h9 => h9) rfl (by decide +kernel) rfl rfl (Nat.le_of_ble_eq_true rfl) dJx4a65c_addAll_f0b43_71 (fun H locs hP hD hS => ?_)
      rw [ez9] at hP hD
      clear ez9 h9
      have hC := sI_clo e39 hC
      refine lv_iconst (v := 1) hx hb dJx4a65c_addAll_f0b43_74 (by decide) ?_
      obtain ⟨ht9, hn9, hs9, hE9⟩ := mr_o hF
      subst hn9 hs9 hE9
      have hX9 := hX
      rw [hQ]
      exact W.zret (v := 1) hx hb hr (by rfl) (fun t ht hW => ⟨⟨1, (), rfl, ht9, _, hX, by rw [ht]; exact hP, hD⟩, hS.F ht⟩) hS.2.2 dJx4a65c_addAll_f0b43_75
    have hK40 := mle1 hF
    have hK41 := mle2 hF
    clear hF hm
    have hF := hJ26
    clear hJ26
    refine lv_icmp_le (tgt := 56) hx hb dJx4a65c_addAll_f0b43_43 (by decide) (fun c24 => ?_) (fun c24 => ?_)
    · skip
      rw [if_pos c24] at hF
      obtain ⟨ht9, hn9, hs9, hE9⟩ := mr_o hF
      subst ht9 hn9 hs9 hE9
      have hl := lv_sub (l' := [(5, .int x22), (4, .ref (AD nb ad7 x17)), (3, .int x14), (2, .ref (AD nb ad7 x2)), (0, .ref Aa0), (1, .ref Aa1)]) hl [0, 1, 2, 3, 4, 5] rfl
      have hl : lv_has ls 6 [(5, .int x22), (4, .ref (AD nb ad7 (x17))), (3, .int x14), (2, .ref (AD nb ad7 x2)), (0, .ref Aa0), (1, .ref Aa1)] := by try rw [hr19.2]; exact hl
      exact join31 _ _ _ _ hX (rf_self hr19) hr8 ha0 ha1 hP hD hS hl
    · skip
      rw [if_neg c24] at hF
      refine lv_aload_n hx hb dJx4a65c_addAll_f0b43_46 rfl (lv_at hl 4 rfl) ?_
      refine lv_iload hx hb dJx4a65c_addAll_f0b43_47 (lv_at hl 0 rfl) ?_
      refine lv_iload_n hx hb dJx4a65c_addAll_f0b43_49 rfl (lv_at hl 2 rfl) ?_
      refine lv_iadd hx hb dJx4a65c_addAll_f0b43_50 ?_
      obtain ⟨fs9, e42, hF⟩ := mg_o hF
      obtain ⟨x43, n45, s46, E47, e44, hF⟩ := mb_o hF
      have hm := mle e44
      have hM1 := mle1 hF
      have hM2 := mle2 hF
      have hm1 := hm.1
      have hm2 := hm.2.1
      have hFc := my_free hD hS hA
      refine va_callr (va_runV (C := RJx4a65c) (As := [.int (x22 + x14)]) (rest := []) ⟨hx, hb, hml, hown, hts⟩ (h_Jx4a65c_grow_92f84 l dC dI cy nb ad7 n4 s5 E12 hC (a0) Aa0 ha0 ((x22 + x14)) H.size x43 n45 s46 E47 e44) (cwV 1 hts (gV mw_853 mw_854 mw_855 mw_12 mw_856) rfl rfl rfl (by decide +kernel) ⟨Nat.le_of_ble_eq_true rfl, Nat.le_of_ble_eq_true rfl⟩) (hl_preV hP hK hD hE hS hFc (va_recv hK (rdO_ hP hC ha0 e42) (ci := 14) (q0 := 0) rfl rfl)) rfl rfl hl.1 rfl (lv_room (Nat.le_of_ble_eq_true rfl)) dJx4a65c_addAll_f0b43_51 ⟨show n4 - n0 + (n45 - n4) ≤ nz - n0 by omega, show s5 - s0 + (s46 - s5) ≤ sz9 - s0 by omega⟩) hS (fun q _ h => hFc q h) hFc (fun u ra t H1 locs ht hvm hw hB hz1 hk1 hS => ?_)
      obtain ⟨ad48, hax, hr49, hP1, hD1⟩ := hB
      rw [ht] at hP1
      have hP := hP1
      have hD := hD1.weaken (fun k q _ h => hFc q.1 h)
      generalize H1 = H at hP hS ⊢
      have hr19 := hr19.mv hC.1 hax
      have hr8 := hr8.mv hC.1 hax
      have ha0 := ha0.mv hC.1 hax
      have ha1 := ha1.mv hC.1 hax
      have hX := hX.trans hax
      have hC := hm.2.2 hC
      have hN : n0 ≤ n45 := Nat.le_trans hN hm1
      have hT : s0 ≤ s46 := Nat.le_trans hT hm2
      refine W.widen (k := n45 - n0) (n := s46 - s0) (by omega) (by omega) ?_
      clear hP1 hD1 hFc hk1 hz1 hvm ht hax hm hm1 hm2 hM1 hM2
      refine my_top (y := .ref (AD nb ad48 x43)) (congrArg Value.ref hr49.2.symm) ?_
      have hr49 := rf_self hr49
      refine lv_astore (lv' := [(4, .ref (AD nb ad48 x43)), (5, .int x22), (3, .int x14), (2, .ref (AD nb ad7 x2)), (0, .ref Aa0), (1, .ref Aa1)]) hx hb dJx4a65c_addAll_f0b43_54 hl (by decide) rfl (fun ls hl => ?_)
      obtain ⟨ht9, hn9, hs9, hE9⟩ := mr_o hF
      subst ht9 hn9 hs9 hE9
      have hl := lv_sub (l' := [(5, .int x22), (4, .ref (AD nb ad48 x43)), (3, .int x14), (2, .ref (AD nb ad7 x2)), (0, .ref Aa0), (1, .ref Aa1)]) hl [1, 0, 2, 3, 4, 5] rfl
      have hl : lv_has ls 6 [(5, .int x22), (4, .ref (AD nb ad48 (x43))), (3, .int x14), (2, .ref (AD nb ad7 x2)), (0, .ref Aa0), (1, .ref Aa1)] := by try rw [hr49.2]; exact hl
      exact join31 _ _ _ _ hX (rf_self hr49) hr8 ha0 ha1 hP hD hS hl
  · skip
    rw [if_pos c16] at hF
    refine lv_iconst (v := 0) hx hb dJx4a65c_addAll_f0b43_24 (by decide) ?_
    obtain ⟨ht9, hn9, hs9, hE9⟩ := mr_o hF
    subst hn9 hs9 hE9
    have hX9 := hX
    rw [hQ]
    exact W.zret (v := 0) hx hb hr (by rfl) (fun t ht hW => ⟨⟨0, (), rfl, ht9, _, hX, by rw [ht]; exact hP, hD⟩, hS.F ht⟩) hS.2.2 dJx4a65c_addAll_f0b43_25
noncomputable def H_Jx35411_init_45d68 (a0 : Nat) (a1 : Nat) : MH Unit := mb (wR (a0) 13 3 (a1)) fun _ => mb (wI (a0) 13 1 ((-1))) fun _ => mb (rR (a0) 13 3) fun x5 => mb (rI (x5) 14 0) fun x8 => mb (wI (a0) 13 2 (x8)) fun _ => mr ()
set_option maxHeartbeats 4000000 in
set_option maxRecDepth 100000 in
theorem h_Jx35411_init_45d68 (l : Launch) (dC : Nat → ClassId) (dI : Nat → Nat → Nat) (cy : Nat → ClassId) (nb : Nat → Nat) (ad0 : Nat → Nat) (n0 s0 : Nat) (E0 : HE) (hC : clo n0 E0) (a0 Aa0 : Nat) (ha0 : rf nb ad0 n0 a0 Aa0) (a1 Aa1 : Nat) (ha1 : rf nb ad0 n0 a1 Aa1) (sz : Nat) (nz sz9 : Nat) (Ez : HE) (hF : (H_Jx35411_init_45d68 a0 a1).1 (n0, s0, E0) = some ((), nz, sz9, Ez)) : Met l yJx35411_init_45d68 (wsg yJx35411_init_45d68 cJx35411_init_45d68 2 none) ({ frames := 8, cells := nz - n0, slots := sz9 - s0, locals := 300 }) (va_Pc [.ref Aa0, .ref Aa1] (fun U => U.heap.size = sz ∧ va_P (dC, dI) vwCl (CH cy nb ad0 n0 E0) U.heap ∧ va_K (dC, dI) vwCl (tyL cy) U ∧ va_D (fun _ => True) (CH cy nb ad0 n0 E0) ∧ GL nb (va_A (CH cy nb ad0 n0 E0) sz) U)) (va_Qv (fun (_ : Unit) => True) (fun _ t => ∃ ad2 : Nat → Nat, axh n0 ad0 nz ad2 ∧ va_P (dC, dI) vwCl (CH cy nb ad2 nz Ez) t.heap ∧ va_D (va_A (CH cy nb ad0 n0 E0) sz) (CH cy nb ad2 nz Ez)) (va_A (CH cy nb ad0 n0 E0) sz)) (nz - n0) (sz9 - s0) (va_A (CH cy nb ad0 n0 E0) sz) := by
  refine Met.ofW (cc := cJx35411_init_45d68) (maxL := 2) (ret := none) (by decide) rfl ?_
  intro p e s m args below meth c s₁ B hml hv
  obtain ⟨rfl, hsz, hP, hK, hD0, hE⟩ := hv
  have hx := B.exec
  have hb := B.bytes
  have hr := B.returns
  have hts0 := atoms_spec (ws := (wsg yJx35411_init_45d68 cJx35411_init_45d68 2 none)) B.pre
  have hts : ∀ w ∈ wsL_law, w.before _ s = true := fun w h => hts0 w (List.mem_cons_of_mem _ h)
  have hown : s.vm.findClass RJx35411 = some m.cls := by have h9 := findClass_of_methodNamed B.named; exact h9
  have hnm : meth.name = "<init>" := by have h9 := B.name; exact h9
  subst hsz
  have hD := hD0.self (sz := s.heap.size)
  generalize hAe : va_A (CH cy nb ad0 n0 E0) s.heap.size = A at hD hE ⊢
  have hA : ∀ q : Nat, s.heap.size ≤ q → A q := fun q h => by rw [← hAe]; exact Or.inr h
  have hS : va_S A s.heap s.heap [] := va_S.rf
  have hl := lv_entry ([.ref Aa0, .ref Aa1]) (n := 2) (Nat.le_of_ble_eq_true rfl)
  rw [lg_entry_eq]
  generalize (lg_sl ([.ref Aa0, .ref Aa1]) ++ List.replicate (2 - (lg_sl ([.ref Aa0, .ref Aa1])).length) Slot.unset).toArray = ls at hl ⊢
  have hl : lv_has ls 2 [(0, .ref Aa0), (1, .ref Aa1)] := hl
  generalize hHe : s.heap = H at hP hS ⊢
  have hS : va_S A s.heap H [] := by rw [hHe]; exact hS
  refine my_Q (fun Qn hQ => ?_)
  simp only [H_Jx35411_init_45d68] at hF
  have hX : axh n0 ad0 n0 ad0 := axh_refl
  have hN : n0 ≤ n0 := Nat.le_refl _
  have hT : s0 ≤ s0 := Nat.le_refl _
  refine W.widen (k := n0 - n0) (n := s0 - s0) (by omega) (by omega) ?_
  refine lv_aload_n hx hb dJx35411_init_45d68_0 rfl (lv_at hl 0 rfl) ?_
  refine lv_aload_n hx hb dJx35411_init_45d68_1 rfl (lv_at hl 1 rfl) ?_
  obtain ⟨E1, e2, hF⟩ := mw_o hF
  obtain ⟨q9, fs9, h9, ez9⟩ := wrR (cy := cy) hC ha0 ha1 e2
  refine va_putF (D := (dC, dI)) (ci := 13) (v := .ref Aa1) (ty := (.object "java/util/ArrayList")) (C := RJx35411) (T := TJx35411) (N := 4) hx hb hts inlJx35411 tyJx35411 tyJx35411_ok nmJx35411 hown hK hP hD hS q9 h9 rfl 3 (by decide) (hts _ mw_186) (fun _ h9 => h9) rfl hnm rfl (by decide +kernel) rfl rfl (Nat.le_of_ble_eq_true rfl) dJx35411_init_45d68_2 (fun H locs hP hD hS => ?_)
  rw [ez9] at hP hD
  clear ez9 h9
  have hC := sR_clo e2 hC
  refine lv_aload_n hx hb dJx35411_init_45d68_5 rfl (lv_at hl 0 rfl) ?_
  refine W.objInit hx hb hown (hts _ mw_187) (hts _ mw_18) (hts _ mw_19) rfl (by rw [hml]; exact hl.1) rfl dJx35411_init_45d68_6 (Nat.le_of_ble_eq_true rfl) (Nat.le_of_ble_eq_true rfl) ?_
  refine W.eq (g2 := F0 m 9 ls []) rfl ?_
  refine lv_aload_n hx hb dJx35411_init_45d68_9 rfl (lv_at hl 0 rfl) ?_
  refine lv_iconst (v := (-1)) hx hb dJx35411_init_45d68_10 (by decide) ?_
  obtain ⟨E3, e4, hF⟩ := mw_o hF
  obtain ⟨q9, fs9, h9, ez9⟩ := wrI (cy := cy) hC ha0 e4
  refine va_put (D := (dC, dI)) (ci := 13) (v := .int (-1)) (ty := .int) (C := RJx35411) (T := TJx35411) (N := 4) hx hb hts inlJx35411 tyJx35411 tyJx35411_ok nmJx35411 hown hK hP hD hS q9 h9 rfl 1 (by decide) (hts _ mw_188) (fun _ h9 => h9) rfl (by decide +kernel) rfl rfl (Nat.le_of_ble_eq_true rfl) dJx35411_init_45d68_11 (fun H locs hP hD hS => ?_)
  rw [ez9] at hP hD
  clear ez9 h9
  have hC := sI_clo e4 hC
  refine lv_aload_n hx hb dJx35411_init_45d68_14 rfl (lv_at hl 0 rfl) ?_
  refine lv_aload_n hx hb dJx35411_init_45d68_15 rfl (lv_at hl 0 rfl) ?_
  obtain ⟨x5, e6, hF⟩ := mg_o hF
  obtain ⟨hr7, fs9, h9, g9⟩ := rdR hP hC ha0 e6
  refine va_get (D := (dC, dI)) (ci := 13) (v := .ref (AD nb ad0 x5)) (C := RJx35411) (T := TJx35411) (N := 4) hx hb hts inlJx35411 hown hK h9 0 rfl rfl 3 (by decide) (hts _ mw_186) (fun _ h9 => h9) g9 dJx35411_init_45d68_16 ?_
  clear h9 g9
  obtain ⟨x8, e9, hF⟩ := mg_o hF
  obtain ⟨fs9, h9, g9⟩ := rdI hP hC hr7 e9
  refine va_get (D := (dC, dI)) (ci := 14) (v := .int x8) (C := RJx4a65c) (T := TJx4a65c) (N := 3) hx hb hts inlJx4a65c hown hK h9 0 rfl rfl 0 (by decide) (hts _ mw_189) (u_same (hts _ mw_190)) g9 dJx35411_init_45d68_19 ?_
  clear h9 g9
  obtain ⟨E10, e11, hF⟩ := mw_o hF
  obtain ⟨q9, fs9, h9, ez9⟩ := wrI (cy := cy) hC ha0 e11
  refine va_put (D := (dC, dI)) (ci := 13) (v := .int x8) (ty := .int) (C := RJx35411) (T := TJx35411) (N := 4) hx hb hts inlJx35411 tyJx35411 tyJx35411_ok nmJx35411 hown hK hP hD hS q9 h9 rfl 2 (by decide) (hts _ mw_191) (fun _ h9 => h9) rfl (by decide +kernel) rfl rfl (Nat.le_of_ble_eq_true rfl) dJx35411_init_45d68_22 (fun H locs hP hD hS => ?_)
  rw [ez9] at hP hD
  clear ez9 h9
  have hC := sI_clo e11 hC
  obtain ⟨ht9, hn9, hs9, hE9⟩ := mr_o hF
  subst hn9 hs9 hE9
  have hX9 := hX
  rw [hQ]
  exact W.vret hx hb hr (fun t ht hW => ⟨⟨(), rfl, trivial, _, hX, by rw [ht]; exact hP, hD⟩, hS.F ht⟩) hS.2.2 dJx35411_init_45d68_25
noncomputable def H_Jx4a65c_iterator_32c93 (a0 : Nat) : MH Nat := mb (mn 4 (.inr (13, [.int 0, .int 0, .int 0, .null])) nok_Jx35411) fun x4 => mb (H_Jx35411_init_45d68 (x4) (a0)) fun _ => mr x4
set_option maxHeartbeats 4000000 in
set_option maxRecDepth 100000 in
theorem h_Jx4a65c_iterator_32c93 (l : Launch) (dC : Nat → ClassId) (dI : Nat → Nat → Nat) (cy : Nat → ClassId) (nb : Nat → Nat) (ad0 : Nat → Nat) (n0 s0 : Nat) (E0 : HE) (hC : clo n0 E0) (a0 Aa0 : Nat) (ha0 : rf nb ad0 n0 a0 Aa0) (sz : Nat) (ro : Nat) (nz sz9 : Nat) (Ez : HE) (hF : (H_Jx4a65c_iterator_32c93 a0).1 (n0, s0, E0) = some (ro, nz, sz9, Ez)) : Met l yJx4a65c_iterator_32c93 (wsg yJx4a65c_iterator_32c93 cJx4a65c_iterator_32c93 1 (some (.object "java/util/Iterator"))) ({ frames := 9, cells := nz - n0, slots := sz9 - s0, locals := 400 }) (va_Pc [.ref Aa0] (fun U => U.heap.size = sz ∧ va_P (dC, dI) vwCl (CH cy nb ad0 n0 E0) U.heap ∧ va_K (dC, dI) vwCl (tyL cy) U ∧ va_D (fun _ => True) (CH cy nb ad0 n0 E0) ∧ GL nb (va_A (CH cy nb ad0 n0 E0) sz) U)) (va_Qr (fun (_ : Unit) => True) (fun _ ra t => ∃ ad2 : Nat → Nat, axh n0 ad0 nz ad2 ∧ rf nb ad2 nz ro ra ∧ va_P (dC, dI) vwCl (CH cy nb ad2 nz Ez) t.heap ∧ va_D (va_A (CH cy nb ad0 n0 E0) sz) (CH cy nb ad2 nz Ez)) (va_A (CH cy nb ad0 n0 E0) sz)) (nz - n0) (sz9 - s0) (va_A (CH cy nb ad0 n0 E0) sz) := by
  refine Met.ofW (cc := cJx4a65c_iterator_32c93) (maxL := 1) (ret := (some (.object "java/util/Iterator"))) (by decide) rfl ?_
  intro p e s m args below meth c s₁ B hml hv
  obtain ⟨rfl, hsz, hP, hK, hD0, hE⟩ := hv
  have hx := B.exec
  have hb := B.bytes
  have hr := B.returns
  have hts0 := atoms_spec (ws := (wsg yJx4a65c_iterator_32c93 cJx4a65c_iterator_32c93 1 (some (.object "java/util/Iterator")))) B.pre
  have hts : ∀ w ∈ wsL_law, w.before _ s = true := fun w h => hts0 w (List.mem_cons_of_mem _ h)
  have hown : s.vm.findClass RJx4a65c = some m.cls := by have h9 := findClass_of_methodNamed B.named; exact h9
  subst hsz
  have hD := hD0.self (sz := s.heap.size)
  generalize hAe : va_A (CH cy nb ad0 n0 E0) s.heap.size = A at hD hE ⊢
  have hA : ∀ q : Nat, s.heap.size ≤ q → A q := fun q h => by rw [← hAe]; exact Or.inr h
  have hS : va_S A s.heap s.heap [] := va_S.rf
  have hl := lv_entry ([.ref Aa0]) (n := 1) (Nat.le_of_ble_eq_true rfl)
  rw [lg_entry_eq]
  generalize (lg_sl ([.ref Aa0]) ++ List.replicate (1 - (lg_sl ([.ref Aa0])).length) Slot.unset).toArray = ls at hl ⊢
  have hl : lv_has ls 1 [(0, .ref Aa0)] := hl
  generalize hHe : s.heap = H at hP hS ⊢
  have hS : va_S A s.heap H [] := by rw [hHe]; exact hS
  refine my_Q (fun Qn hQ => ?_)
  simp only [H_Jx4a65c_iterator_32c93] at hF
  have hX : axh n0 ad0 n0 ad0 := axh_refl
  have hN : n0 ≤ n0 := Nat.le_refl _
  have hT : s0 ≤ s0 := Nat.le_refl _
  refine W.widen (k := n0 - n0) (n := s0 - s0) (by omega) (by omega) ?_
  obtain ⟨x4, n1, s2, E3, hq, hF⟩ := mn_o hF
  have hM1 := mle1 hF
  have hM2 := mle2 hF
  have hq9 := hq.2.1
  have hq8 := hq.2.2.1
  refine va_new (ci := 13) (fs := [.int 0, .int 0, .int 0, .null]) (C := RJx35411) (T := TJx35411) (N := 4) hx hb hts inlJx35411 tyJx35411 tyJx35411_ok hown (hts _ mw_180) (hts _ mw_181) (hts _ mw_182) hK hP hD hS hA rfl (fun j hj => by match j, hj with | 0, _ => rfl | 1, _ => rfl | 2, _ => rfl | 3, _ => rfl | (n+4), h => omega) (show n0 - n0 + 1 ≤ nz - n0 by omega) (show s0 - s0 + 4 ≤ sz9 - s0 by omega) dJx4a65c_iterator_32c93_0 (fun q5 H hP hD hS => ?_)
  obtain ⟨ad6, hax, hr7, hC9, hw9⟩ := new_w (cy := cy) (nb := nb) (ad := ad0) (e := .inr (13, [.int 0, .int 0, .int 0, .null])) nok_Jx35411 (fun _ => rfl) hC q5 hq
  rw [hw9] at hP hD
  have ha0 := ha0.mv hC.1 hax
  have hX := hX.trans hax
  have hC := hC9
  obtain ⟨-, hq1, hq2, -, -⟩ := hq
  have hN : n0 ≤ n1 := by omega
  have hT : s0 ≤ s2 := by omega
  refine W.widen (k := n1 - n0) (n := s2 - s0) (by omega) (by omega) ?_
  clear hM1 hM2 hax hC9 hw9 hq1 hq2 hq8 hq9
  refine lv_dup hx hb dJx4a65c_iterator_32c93_3 rfl ?_
  refine lv_aload_n hx hb dJx4a65c_iterator_32c93_4 rfl (lv_at hl 0 rfl) ?_
  obtain ⟨⟨⟩, n9, s10, E11, e8, hF⟩ := mb_o hF
  have hm := mle e8
  have hM1 := mle1 hF
  have hM2 := mle2 hF
  have hm1 := hm.1
  have hm2 := hm.2.1
  have hFc := my_free hD hS hA
  refine va_callv (va_runI (As := [.ref Aa0]) (rest := [.ref q5]) ⟨hx, hb, hml, hown, hts⟩ (h_Jx35411_init_45d68 l dC dI cy nb ad6 n1 s2 E3 hC (x4) q5 hr7 (a0) Aa0 ha0 H.size n9 s10 E11 e8) (cwI 1 hts (gI mw_185) rfl rfl rfl (hts _ mw_182) (hts _ mw_183) (hts _ mw_184) rfl (by decide +kernel) ⟨Nat.le_of_ble_eq_true rfl, Nat.le_of_ble_eq_true rfl⟩) (hl_preS hP hK hD hE hS hFc) rfl rfl hl.1 rfl (lv_room (Nat.le_of_ble_eq_true rfl)) dJx4a65c_iterator_32c93_5 ⟨show n1 - n0 + (n9 - n1) ≤ nz - n0 by omega, show s2 - s0 + (s10 - s2) ≤ sz9 - s0 by omega⟩) hS (fun q _ h => hFc q h) hFc (fun u t H1 locs ht hvm hw hB hz1 hk1 hS => ?_)
  obtain ⟨ad12, hax, hP1, hD1⟩ := hB
  rw [ht] at hP1
  have hP := hP1
  have hD := hD1.weaken (fun k q _ h => hFc q.1 h)
  generalize H1 = H at hP hS ⊢
  have ha0 := ha0.mv hC.1 hax
  have hr7 := hr7.mv hC.1 hax
  have hX := hX.trans hax
  have hC := hm.2.2 hC
  have hN : n0 ≤ n9 := Nat.le_trans hN hm1
  have hT : s0 ≤ s10 := Nat.le_trans hT hm2
  refine W.widen (k := n9 - n0) (n := s10 - s0) (by omega) (by omega) ?_
  clear hP1 hD1 hFc hk1 hz1 hvm ht hax hm hm1 hm2 hM1 hM2
  obtain ⟨ht9, hn9, hs9, hE9⟩ := mr_o hF
  subst hn9 hs9 hE9
  have hX9 := hX
  rw [hQ]
  exact W.aret (v := .ref q5) hx hb hr (by first | exact Or.inl ⟨_, rfl⟩ | exact Or.inr ⟨_, rfl⟩) (Or.inr ⟨_, rfl⟩) (fun t ht hW => ⟨⟨(), q5, rfl, trivial, _, hX, (by rw [← ht9]; exact hr7), by rw [ht]; exact hP, hD⟩, hS.F ht⟩) hS.2.2 dJx4a65c_iterator_32c93_8
noncomputable def H_Jx35411_hasNext_aae02 (a0 : Nat) : MH Int32 := mb (rI (a0) 13 0) fun x1 => mb (rR (a0) 13 3) fun x3 => mb (rI (x3) 14 2) fun x6 => mb (if x1 = x6 then (mr (0 : Int32)) else (mr (1 : Int32)) : MH (Int32)) fun t9 => mb (mp (nz t9)) fun x17 => mr x17
set_option maxHeartbeats 4000000 in
set_option maxRecDepth 100000 in
theorem h_Jx35411_hasNext_aae02 (l : Launch) (dC : Nat → ClassId) (dI : Nat → Nat → Nat) (cy : Nat → ClassId) (nb : Nat → Nat) (ad0 : Nat → Nat) (n0 s0 : Nat) (E0 : HE) (hC : clo n0 E0) (a0 Aa0 : Nat) (ha0 : rf nb ad0 n0 a0 Aa0) (sz : Nat) (ro : Int32) (nz sz9 : Nat) (Ez : HE) (hF : (H_Jx35411_hasNext_aae02 a0).1 (n0, s0, E0) = some (ro, nz, sz9, Ez)) : Met l yJx35411_hasNext_aae02 (wsg yJx35411_hasNext_aae02 cJx35411_hasNext_aae02 1 (some .boolean)) ({ frames := 8, cells := nz - n0, slots := sz9 - s0, locals := 300 }) (va_Pc [.ref Aa0] (fun U => U.heap.size = sz ∧ va_P (dC, dI) vwCl (CH cy nb ad0 n0 E0) U.heap ∧ va_K (dC, dI) vwCl (tyL cy) U ∧ va_D (fun _ => True) (CH cy nb ad0 n0 E0) ∧ GL nb (va_A (CH cy nb ad0 n0 E0) sz) U)) (va_Qi (fun (r : Int32) (_ : Unit) => r = ro) (fun _ t => ∃ ad2 : Nat → Nat, axh n0 ad0 nz ad2 ∧ va_P (dC, dI) vwCl (CH cy nb ad2 nz Ez) t.heap ∧ va_D (va_A (CH cy nb ad0 n0 E0) sz) (CH cy nb ad2 nz Ez)) (va_A (CH cy nb ad0 n0 E0) sz)) (nz - n0) (sz9 - s0) (va_A (CH cy nb ad0 n0 E0) sz) := by
  refine Met.ofW (cc := cJx35411_hasNext_aae02) (maxL := 1) (ret := (some .boolean)) (by decide) rfl ?_
  intro p e s m args below meth c s₁ B hml hv
  obtain ⟨rfl, hsz, hP, hK, hD0, hE⟩ := hv
  have hx := B.exec
  have hb := B.bytes
  have hr := B.returns
  have hts0 := atoms_spec (ws := (wsg yJx35411_hasNext_aae02 cJx35411_hasNext_aae02 1 (some .boolean))) B.pre
  have hts : ∀ w ∈ wsL_law, w.before _ s = true := fun w h => hts0 w (List.mem_cons_of_mem _ h)
  have hown : s.vm.findClass RJx35411 = some m.cls := by have h9 := findClass_of_methodNamed B.named; exact h9
  subst hsz
  have hD := hD0.self (sz := s.heap.size)
  generalize hAe : va_A (CH cy nb ad0 n0 E0) s.heap.size = A at hD hE ⊢
  have hA : ∀ q : Nat, s.heap.size ≤ q → A q := fun q h => by rw [← hAe]; exact Or.inr h
  have hS : va_S A s.heap s.heap [] := va_S.rf
  have hl := lv_entry ([.ref Aa0]) (n := 1) (Nat.le_of_ble_eq_true rfl)
  rw [lg_entry_eq]
  generalize (lg_sl ([.ref Aa0]) ++ List.replicate (1 - (lg_sl ([.ref Aa0])).length) Slot.unset).toArray = ls at hl ⊢
  have hl : lv_has ls 1 [(0, .ref Aa0)] := hl
  generalize hHe : s.heap = H at hP hS ⊢
  have hS : va_S A s.heap H [] := by rw [hHe]; exact hS
  refine my_Q (fun Qn hQ => ?_)
  simp only [H_Jx35411_hasNext_aae02] at hF
  have hX : axh n0 ad0 n0 ad0 := axh_refl
  have hN : n0 ≤ n0 := Nat.le_refl _
  have hT : s0 ≤ s0 := Nat.le_refl _
  refine W.widen (k := n0 - n0) (n := s0 - s0) (by omega) (by omega) ?_
  refine lv_aload_n hx hb dJx35411_hasNext_aae02_0 rfl (lv_at hl 0 rfl) ?_
  obtain ⟨x1, e2, hF⟩ := mg_o hF
  obtain ⟨fs9, h9, g9⟩ := rdI hP hC ha0 e2
  refine va_get (D := (dC, dI)) (ci := 13) (v := .int x1) (C := RJx35411) (T := TJx35411) (N := 4) hx hb hts inlJx35411 hown hK h9 0 rfl rfl 0 (by decide) (hts _ mw_196) (fun _ h9 => h9) g9 dJx35411_hasNext_aae02_1 ?_
  clear h9 g9
  refine lv_aload_n hx hb dJx35411_hasNext_aae02_4 rfl (lv_at hl 0 rfl) ?_
  obtain ⟨x3, e4, hF⟩ := mg_o hF
  obtain ⟨hr5, fs9, h9, g9⟩ := rdR hP hC ha0 e4
  refine va_get (D := (dC, dI)) (ci := 13) (v := .ref (AD nb ad0 x3)) (C := RJx35411) (T := TJx35411) (N := 4) hx hb hts inlJx35411 hown hK h9 0 rfl rfl 3 (by decide) (hts _ mw_186) (fun _ h9 => h9) g9 dJx35411_hasNext_aae02_5 ?_
  clear h9 g9
  obtain ⟨x6, e7, hF⟩ := mg_o hF
  obtain ⟨fs9, h9, g9⟩ := rdI hP hC hr5 e7
  refine va_getN (D := (dC, dI)) (ci := 14) (v := .int x6) (C := RJx4a65c) (T := TJx4a65c) (N := 3) hx hb hts inlJx4a65c hown hK h9 0 rfl rfl 2 (by decide) (va_Nw.use rfl hE.fn0) (fun _ h9 => h9) g9 dJx35411_hasNext_aae02_8 ?_
  clear h9 g9
  obtain ⟨t9, n12, s13, E14, hJ10, hF⟩ := mb_o hF
  have hm := mle hJ10
  have join15 : ∀ (ad11 : Nat → Nat) (H : Heap) (locs : List Loc) (ls : Array Slot), axh n0 ad0 n12 ad11 → rf nb ad11 n12 (a0) (Aa0) → va_P (dC, dI) vwCl (CH cy nb ad11 n12 E14) H → va_D A (CH cy nb ad11 n12 E14) → va_S A s.heap H locs → lv_has ls 1 [(0, .ref Aa0)] → W p l e (headSpec (wsg yJx35411_hasNext_aae02 cJx35411_hasNext_aae02 1 (some .boolean)) ({ frames := 8, cells := nz - n0, slots := sz9 - s0, locals := 300 })).room s m ([.ref Aa0] : List Value).toArray below meth c H locs (n12 - n0) (s13 - s0) Qn (F0 m 19 ls [.int t9]) := by
    intro ad11 H locs ls hX hr16 hP hD hS hl
    have hC := hm.2.2 hC
    have hN : n0 ≤ n12 := Nat.le_trans hN hm.1
    have hT : s0 ≤ s13 := Nat.le_trans hT hm.2.1
    clear hm
    obtain ⟨x17, e18, hF⟩ := mp_o hF
    refine my_topi (y := x17) (nz_e e18) ?_
    obtain ⟨ht9, hn9, hs9, hE9⟩ := mr_o hF
    subst hn9 hs9 hE9
    have hX9 := hX
    rw [hQ]
    exact W.zret (v := x17) hx hb hr (nz_n e18) (fun t ht hW => ⟨⟨x17, (), rfl, ht9, _, hX, by rw [ht]; exact hP, hD⟩, hS.F ht⟩) hS.2.2 dJx35411_hasNext_aae02_19
  have hK19 := mle1 hF
  have hK20 := mle2 hF
  clear hF hm
  have hF := hJ10
  clear hJ10
  refine lv_icmp_eq (tgt := 18) hx hb dJx35411_hasNext_aae02_11 (by decide) (fun c8 => ?_) (fun c8 => ?_)
  · skip
    rw [if_pos c8] at hF
    refine lv_iconst (v := 0) hx hb dJx35411_hasNext_aae02_18 (by decide) ?_
    obtain ⟨ht9, hn9, hs9, hE9⟩ := mr_o hF
    subst ht9 hn9 hs9 hE9
    have hl := lv_sub (l' := [(0, .ref Aa0)]) hl [0] rfl
    exact join15 _ _ _ _ hX ha0 hP hD hS hl
  · skip
    rw [if_neg c8] at hF
    refine lv_iconst (v := 1) hx hb dJx35411_hasNext_aae02_14 (by decide) ?_
    refine lv_goto (tgt := 19) hx hb dJx35411_hasNext_aae02_15 (by decide) ?_
    obtain ⟨ht9, hn9, hs9, hE9⟩ := mr_o hF
    subst ht9 hn9 hs9 hE9
    have hl := lv_sub (l' := [(0, .ref Aa0)]) hl [0] rfl
    exact join15 _ _ _ _ hX ha0 hP hD hS hl
noncomputable def H_Jx35411_checkForComodification_da8c8 (a0 : Nat) : MH Unit := mb (rR (a0) 13 3) fun x1 => mb (rI (x1) 14 0) fun x4 => mb (rI (a0) 13 2) fun x6 => if x4 = x6 then (mr ()) else (m0)
set_option maxHeartbeats 4000000 in
set_option maxRecDepth 100000 in
theorem h_Jx35411_checkForComodification_da8c8 (l : Launch) (dC : Nat → ClassId) (dI : Nat → Nat → Nat) (cy : Nat → ClassId) (nb : Nat → Nat) (ad0 : Nat → Nat) (n0 s0 : Nat) (E0 : HE) (hC : clo n0 E0) (a0 Aa0 : Nat) (ha0 : rf nb ad0 n0 a0 Aa0) (sz : Nat) (nz sz9 : Nat) (Ez : HE) (hF : (H_Jx35411_checkForComodification_da8c8 a0).1 (n0, s0, E0) = some ((), nz, sz9, Ez)) : Met l yJx35411_checkForComodification_da8c8 (wsg yJx35411_checkForComodification_da8c8 cJx35411_checkForComodification_da8c8 1 none) ({ frames := 8, cells := nz - n0, slots := sz9 - s0, locals := 300 }) (va_Pc [.ref Aa0] (fun U => U.heap.size = sz ∧ va_P (dC, dI) vwCl (CH cy nb ad0 n0 E0) U.heap ∧ va_K (dC, dI) vwCl (tyL cy) U ∧ va_D (fun _ => True) (CH cy nb ad0 n0 E0) ∧ GL nb (va_A (CH cy nb ad0 n0 E0) sz) U)) (va_Qv (fun (_ : Unit) => True) (fun _ t => ∃ ad2 : Nat → Nat, axh n0 ad0 nz ad2 ∧ va_P (dC, dI) vwCl (CH cy nb ad2 nz Ez) t.heap ∧ va_D (va_A (CH cy nb ad0 n0 E0) sz) (CH cy nb ad2 nz Ez)) (va_A (CH cy nb ad0 n0 E0) sz)) (nz - n0) (sz9 - s0) (va_A (CH cy nb ad0 n0 E0) sz) := by
  refine Met.ofW (cc := cJx35411_checkForComodification_da8c8) (maxL := 1) (ret := none) (by decide) rfl ?_
  intro p e s m args below meth c s₁ B hml hv
  obtain ⟨rfl, hsz, hP, hK, hD0, hE⟩ := hv
  have hx := B.exec
  have hb := B.bytes
  have hr := B.returns
  have hts0 := atoms_spec (ws := (wsg yJx35411_checkForComodification_da8c8 cJx35411_checkForComodification_da8c8 1 none)) B.pre
  have hts : ∀ w ∈ wsL_law, w.before _ s = true := fun w h => hts0 w (List.mem_cons_of_mem _ h)
  have hown : s.vm.findClass RJx35411 = some m.cls := by have h9 := findClass_of_methodNamed B.named; exact h9
  subst hsz
  have hD := hD0.self (sz := s.heap.size)
  generalize hAe : va_A (CH cy nb ad0 n0 E0) s.heap.size = A at hD hE ⊢
  have hA : ∀ q : Nat, s.heap.size ≤ q → A q := fun q h => by rw [← hAe]; exact Or.inr h
  have hS : va_S A s.heap s.heap [] := va_S.rf
  have hl := lv_entry ([.ref Aa0]) (n := 1) (Nat.le_of_ble_eq_true rfl)
  rw [lg_entry_eq]
  generalize (lg_sl ([.ref Aa0]) ++ List.replicate (1 - (lg_sl ([.ref Aa0])).length) Slot.unset).toArray = ls at hl ⊢
  have hl : lv_has ls 1 [(0, .ref Aa0)] := hl
  generalize hHe : s.heap = H at hP hS ⊢
  have hS : va_S A s.heap H [] := by rw [hHe]; exact hS
  refine my_Q (fun Qn hQ => ?_)
  simp only [H_Jx35411_checkForComodification_da8c8] at hF
  have hX : axh n0 ad0 n0 ad0 := axh_refl
  have hN : n0 ≤ n0 := Nat.le_refl _
  have hT : s0 ≤ s0 := Nat.le_refl _
  refine W.widen (k := n0 - n0) (n := s0 - s0) (by omega) (by omega) ?_
  refine lv_aload_n hx hb dJx35411_checkForComodification_da8c8_0 rfl (lv_at hl 0 rfl) ?_
  obtain ⟨x1, e2, hF⟩ := mg_o hF
  obtain ⟨hr3, fs9, h9, g9⟩ := rdR hP hC ha0 e2
  refine va_get (D := (dC, dI)) (ci := 13) (v := .ref (AD nb ad0 x1)) (C := RJx35411) (T := TJx35411) (N := 4) hx hb hts inlJx35411 hown hK h9 0 rfl rfl 3 (by decide) (hts _ mw_186) (fun _ h9 => h9) g9 dJx35411_checkForComodification_da8c8_1 ?_
  clear h9 g9
  obtain ⟨x4, e5, hF⟩ := mg_o hF
  obtain ⟨fs9, h9, g9⟩ := rdI hP hC hr3 e5
  refine va_get (D := (dC, dI)) (ci := 14) (v := .int x4) (C := RJx4a65c) (T := TJx4a65c) (N := 3) hx hb hts inlJx4a65c hown hK h9 0 rfl rfl 0 (by decide) (hts _ mw_189) (u_same (hts _ mw_190)) g9 dJx35411_checkForComodification_da8c8_4 ?_
  clear h9 g9
  refine lv_aload_n hx hb dJx35411_checkForComodification_da8c8_7 rfl (lv_at hl 0 rfl) ?_
  obtain ⟨x6, e7, hF⟩ := mg_o hF
  obtain ⟨fs9, h9, g9⟩ := rdI hP hC ha0 e7
  refine va_get (D := (dC, dI)) (ci := 13) (v := .int x6) (C := RJx35411) (T := TJx35411) (N := 4) hx hb hts inlJx35411 hown hK h9 0 rfl rfl 2 (by decide) (hts _ mw_191) (fun _ h9 => h9) g9 dJx35411_checkForComodification_da8c8_8 ?_
  clear h9 g9
  refine lv_icmp_eq (tgt := 22) hx hb dJx35411_checkForComodification_da8c8_11 (by decide) (fun c8 => ?_) (fun c8 => ?_)
  · skip
    rw [if_pos c8] at hF
    obtain ⟨ht9, hn9, hs9, hE9⟩ := mr_o hF
    subst hn9 hs9 hE9
    have hX9 := hX
    rw [hQ]
    exact W.vret hx hb hr (fun t ht hW => ⟨⟨(), rfl, trivial, _, hX, by rw [ht]; exact hP, hD⟩, hS.F ht⟩) hS.2.2 dJx35411_checkForComodification_da8c8_22
  · skip
    rw [if_neg c8] at hF
    exact (m0_o hF).elim
noncomputable def H_Jx35411_next_0502b (a0 : Nat) : MH Nat := mb (mg fun n E => fO n E (a0) 13) fun _ => mb (H_Jx35411_checkForComodification_da8c8 (a0)) fun _ => mb (rI (a0) 13 0) fun x7 => mb (rR (a0) 13 3) fun x9 => mb (rI (x9) 14 2) fun x12 => if x7 < x12 then (mb (rR (a0) 13 3) fun x15 => mb (rR (x15) 14 1) fun x18 => mb (mg fun n E => lO n E (x18)) fun x21 => if x7 < x21 then (mb (wI (a0) 13 0 ((x7 + 1))) fun _ => mb (wI (a0) 13 1 (x7)) fun _ => mb (rQ (x18) 9 (x7)) fun x28 => mr x28) else (m0)) else (m0)
set_option maxHeartbeats 4000000 in
set_option maxRecDepth 100000 in
theorem h_Jx35411_next_0502b (l : Launch) (dC : Nat → ClassId) (dI : Nat → Nat → Nat) (cy : Nat → ClassId) (nb : Nat → Nat) (ad0 : Nat → Nat) (n0 s0 : Nat) (E0 : HE) (hC : clo n0 E0) (a0 Aa0 : Nat) (ha0 : rf nb ad0 n0 a0 Aa0) (sz : Nat) (ro : Nat) (nz sz9 : Nat) (Ez : HE) (hF : (H_Jx35411_next_0502b a0).1 (n0, s0, E0) = some (ro, nz, sz9, Ez)) : Met l yJx35411_next_0502b (wsg yJx35411_next_0502b cJx35411_next_0502b 3 (some (.object "java/lang/Object"))) ({ frames := 9, cells := nz - n0, slots := sz9 - s0, locals := 400 }) (va_Pc [.ref Aa0] (fun U => U.heap.size = sz ∧ va_P (dC, dI) vwCl (CH cy nb ad0 n0 E0) U.heap ∧ va_K (dC, dI) vwCl (tyL cy) U ∧ va_D (fun _ => True) (CH cy nb ad0 n0 E0) ∧ GL nb (va_A (CH cy nb ad0 n0 E0) sz) U)) (va_Qr (fun (_ : Unit) => True) (fun _ ra t => ∃ ad2 : Nat → Nat, axh n0 ad0 nz ad2 ∧ rf nb ad2 nz ro ra ∧ va_P (dC, dI) vwCl (CH cy nb ad2 nz Ez) t.heap ∧ va_D (va_A (CH cy nb ad0 n0 E0) sz) (CH cy nb ad2 nz Ez)) (va_A (CH cy nb ad0 n0 E0) sz)) (nz - n0) (sz9 - s0) (va_A (CH cy nb ad0 n0 E0) sz) := by
  refine Met.ofW (cc := cJx35411_next_0502b) (maxL := 3) (ret := (some (.object "java/lang/Object"))) (by decide) rfl ?_
  intro p e s m args below meth c s₁ B hml hv
  obtain ⟨rfl, hsz, hP, hK, hD0, hE⟩ := hv
  have hx := B.exec
  have hb := B.bytes
  have hr := B.returns
  have hts0 := atoms_spec (ws := (wsg yJx35411_next_0502b cJx35411_next_0502b 3 (some (.object "java/lang/Object")))) B.pre
  have hts : ∀ w ∈ wsL_law, w.before _ s = true := fun w h => hts0 w (List.mem_cons_of_mem _ h)
  have hown : s.vm.findClass RJx35411 = some m.cls := by have h9 := findClass_of_methodNamed B.named; exact h9
  subst hsz
  have hD := hD0.self (sz := s.heap.size)
  generalize hAe : va_A (CH cy nb ad0 n0 E0) s.heap.size = A at hD hE ⊢
  have hA : ∀ q : Nat, s.heap.size ≤ q → A q := fun q h => by rw [← hAe]; exact Or.inr h
  have hS : va_S A s.heap s.heap [] := va_S.rf
  have hl := lv_entry ([.ref Aa0]) (n := 3) (Nat.le_of_ble_eq_true rfl)
  rw [lg_entry_eq]
  generalize (lg_sl ([.ref Aa0]) ++ List.replicate (3 - (lg_sl ([.ref Aa0])).length) Slot.unset).toArray = ls at hl ⊢
  have hl : lv_has ls 3 [(0, .ref Aa0)] := hl
  generalize hHe : s.heap = H at hP hS ⊢
  have hS : va_S A s.heap H [] := by rw [hHe]; exact hS
  refine my_Q (fun Qn hQ => ?_)
  simp only [H_Jx35411_next_0502b] at hF
  have hX : axh n0 ad0 n0 ad0 := axh_refl
  have hN : n0 ≤ n0 := Nat.le_refl _
  have hT : s0 ≤ s0 := Nat.le_refl _
  refine W.widen (k := n0 - n0) (n := s0 - s0) (by omega) (by omega) ?_
  refine lv_aload_n hx hb dJx35411_next_0502b_0 rfl (lv_at hl 0 rfl) ?_
  obtain ⟨fs9, e1, hF⟩ := mg_o hF
  obtain ⟨⟨⟩, n3, s4, E5, e2, hF⟩ := mb_o hF
  have hm := mle e2
  have hM1 := mle1 hF
  have hM2 := mle2 hF
  have hm1 := hm.1
  have hm2 := hm.2.1
  have hFc := my_free hD hS hA
  refine va_callv (va_runV (C := RJx35411) (As := []) (rest := []) ⟨hx, hb, hml, hown, hts⟩ (h_Jx35411_checkForComodification_da8c8 l dC dI cy nb ad0 n0 s0 E0 hC (a0) Aa0 ha0 H.size n3 s4 E5 e2) (cwV 0 hts (gV mw_202 mw_203 mw_204 mw_182 mw_205) rfl rfl rfl (by decide +kernel) ⟨Nat.le_of_ble_eq_true rfl, Nat.le_of_ble_eq_true rfl⟩) (hl_preV hP hK hD hE hS hFc (va_recv hK (rdO_ hP hC ha0 e1) (ci := 13) (q0 := 0) rfl rfl)) rfl rfl hl.1 rfl (lv_room (Nat.le_of_ble_eq_true rfl)) dJx35411_next_0502b_1 ⟨show n0 - n0 + (n3 - n0) ≤ nz - n0 by omega, show s0 - s0 + (s4 - s0) ≤ sz9 - s0 by omega⟩) hS (fun q _ h => hFc q h) hFc (fun u t H1 locs ht hvm hw hB hz1 hk1 hS => ?_)
  obtain ⟨ad6, hax, hP1, hD1⟩ := hB
  rw [ht] at hP1
  have hP := hP1
  have hD := hD1.weaken (fun k q _ h => hFc q.1 h)
  generalize H1 = H at hP hS ⊢
  have ha0 := ha0.mv hC.1 hax
  have hX := hX.trans hax
  have hC := hm.2.2 hC
  have hN : n0 ≤ n3 := Nat.le_trans hN hm1
  have hT : s0 ≤ s4 := Nat.le_trans hT hm2
  refine W.widen (k := n3 - n0) (n := s4 - s0) (by omega) (by omega) ?_
  clear hP1 hD1 hFc hk1 hz1 hvm ht hax hm hm1 hm2 hM1 hM2
  refine lv_aload_n hx hb dJx35411_next_0502b_4 rfl (lv_at hl 0 rfl) ?_
  obtain ⟨x7, e8, hF⟩ := mg_o hF
  obtain ⟨fs9, h9, g9⟩ := rdI hP hC ha0 e8
  refine va_get (D := (dC, dI)) (ci := 13) (v := .int x7) (C := RJx35411) (T := TJx35411) (N := 4) hx hb hts inlJx35411 hown hK h9 0 rfl rfl 0 (by decide) (hts _ mw_196) (fun _ h9 => h9) g9 dJx35411_next_0502b_5 ?_
  clear h9 g9
  refine lv_istore_n (lv' := [(1, .int x7), (0, .ref Aa0)]) hx hb dJx35411_next_0502b_8 rfl hl (by decide) rfl (fun ls hl => ?_)
  refine lv_iload_n hx hb dJx35411_next_0502b_9 rfl (lv_at hl 0 rfl) ?_
  refine lv_aload_n hx hb dJx35411_next_0502b_10 rfl (lv_at hl 1 rfl) ?_
  obtain ⟨x9, e10, hF⟩ := mg_o hF
  obtain ⟨hr11, fs9, h9, g9⟩ := rdR hP hC ha0 e10
  refine va_get (D := (dC, dI)) (ci := 13) (v := .ref (AD nb ad6 x9)) (C := RJx35411) (T := TJx35411) (N := 4) hx hb hts inlJx35411 hown hK h9 0 rfl rfl 3 (by decide) (hts _ mw_186) (fun _ h9 => h9) g9 dJx35411_next_0502b_11 ?_
  clear h9 g9
  obtain ⟨x12, e13, hF⟩ := mg_o hF
  obtain ⟨fs9, h9, g9⟩ := rdI hP hC hr11 e13
  refine va_getN (D := (dC, dI)) (ci := 14) (v := .int x12) (C := RJx4a65c) (T := TJx4a65c) (N := 3) hx hb hts inlJx4a65c hown hK h9 0 rfl rfl 2 (by decide) (va_Nw.use rfl hE.fn0) (fun _ h9 => h9) g9 dJx35411_next_0502b_14 ?_
  clear h9 g9
  refine lv_icmp_lt (tgt := 28) hx hb dJx35411_next_0502b_17 (by decide) (fun c14 => ?_) (fun c14 => ?_)
  · skip
    rw [if_pos c14] at hF
    refine lv_aload_n hx hb dJx35411_next_0502b_28 rfl (lv_at hl 1 rfl) ?_
    obtain ⟨x15, e16, hF⟩ := mg_o hF
    obtain ⟨hr17, fs9, h9, g9⟩ := rdR hP hC ha0 e16
    refine va_get (D := (dC, dI)) (ci := 13) (v := .ref (AD nb ad6 x15)) (C := RJx35411) (T := TJx35411) (N := 4) hx hb hts inlJx35411 hown hK h9 0 rfl rfl 3 (by decide) (hts _ mw_186) (fun _ h9 => h9) g9 dJx35411_next_0502b_29 ?_
    clear h9 g9
    obtain ⟨x18, e19, hF⟩ := mg_o hF
    obtain ⟨hr20, fs9, h9, g9⟩ := rdR hP hC hr17 e19
    refine va_get (D := (dC, dI)) (ci := 14) (v := .ref (AD nb ad6 x18)) (C := RJx4a65c) (T := TJx4a65c) (N := 3) hx hb hts inlJx4a65c hown hK h9 0 rfl rfl 1 (by decide) (hts _ mw_201) (fun _ h9 => h9) g9 dJx35411_next_0502b_32 ?_
    clear h9 g9
    refine lv_astore_n (lv' := [(2, .ref (AD nb ad6 x18)), (1, .int x7), (0, .ref Aa0)]) hx hb dJx35411_next_0502b_35 rfl hl (by decide) rfl (fun ls hl => ?_)
    refine lv_iload_n hx hb dJx35411_next_0502b_36 rfl (lv_at hl 1 rfl) ?_
    refine lv_aload_n hx hb dJx35411_next_0502b_37 rfl (lv_at hl 0 rfl) ?_
    obtain ⟨x21, e22, hF⟩ := mg_o hF
    refine hs_lO hx hb hK hP hC hE hS hr20 e22 dJx35411_next_0502b_38 ?_
    refine lv_icmp_lt (tgt := 50) hx hb dJx35411_next_0502b_39 (by decide) (fun c23 => ?_) (fun c23 => ?_)
    · skip
      rw [if_pos c23] at hF
      refine lv_aload_n hx hb dJx35411_next_0502b_50 rfl (lv_at hl 2 rfl) ?_
      refine lv_iload_n hx hb dJx35411_next_0502b_51 rfl (lv_at hl 1 rfl) ?_
      refine lv_iconst (v := 1) hx hb dJx35411_next_0502b_52 (by decide) ?_
      refine lv_iadd hx hb dJx35411_next_0502b_53 ?_
      obtain ⟨E24, e25, hF⟩ := mw_o hF
      obtain ⟨q9, fs9, h9, ez9⟩ := wrI (cy := cy) hC ha0 e25
      refine va_put (D := (dC, dI)) (ci := 13) (v := .int (x7 + 1)) (ty := .int) (C := RJx35411) (T := TJx35411) (N := 4) hx hb hts inlJx35411 tyJx35411 tyJx35411_ok nmJx35411 hown hK hP hD hS q9 h9 rfl 0 (by decide) (hts _ mw_196) (fun _ h9 => h9) rfl (by decide +kernel) rfl rfl (Nat.le_of_ble_eq_true rfl) dJx35411_next_0502b_54 (fun H locs hP hD hS => ?_)
      rw [ez9] at hP hD
      clear ez9 h9
      have hC := sI_clo e25 hC
      refine lv_aload_n hx hb dJx35411_next_0502b_57 rfl (lv_at hl 0 rfl) ?_
      refine lv_aload_n hx hb dJx35411_next_0502b_58 rfl (lv_at hl 2 rfl) ?_
      refine lv_iload_n hx hb dJx35411_next_0502b_59 rfl (lv_at hl 1 rfl) ?_
      refine lv_dup_x1 hx hb dJx35411_next_0502b_60 rfl rfl ?_
      obtain ⟨E26, e27, hF⟩ := mw_o hF
      obtain ⟨q9, fs9, h9, ez9⟩ := wrI (cy := cy) hC ha0 e27
      refine va_put (D := (dC, dI)) (ci := 13) (v := .int x7) (ty := .int) (C := RJx35411) (T := TJx35411) (N := 4) hx hb hts inlJx35411 tyJx35411 tyJx35411_ok nmJx35411 hown hK hP hD hS q9 h9 rfl 1 (by decide) (hts _ mw_188) (fun _ h9 => h9) rfl (by decide +kernel) rfl rfl (Nat.le_of_ble_eq_true rfl) dJx35411_next_0502b_61 (fun H locs hP hD hS => ?_)
      rw [ez9] at hP hD
      clear ez9 h9
      have hC := sI_clo e27 hC
      obtain ⟨x28, e29, hF⟩ := mg_o hF
      obtain ⟨hr30, m9, f9, h9, i9, g9⟩ := rdQ hP hC hr20 e29
      refine va_aldq hx hb hK h9 0 9 rfl rfl i9 dJx35411_next_0502b_64 ?_
      refine my_top (y := .ref (AD nb ad6 x28)) g9 ?_
      clear h9 i9 g9
      obtain ⟨ht9, hn9, hs9, hE9⟩ := mr_o hF
      subst hn9 hs9 hE9
      have hX9 := hX
      rw [hQ]
      exact W.aret (v := .ref (AD nb ad6 x28)) hx hb hr (by first | exact Or.inl ⟨_, rfl⟩ | exact Or.inr ⟨_, rfl⟩) (Or.inr ⟨_, rfl⟩) (fun t ht hW => ⟨⟨(), (AD nb ad6 x28), rfl, trivial, _, hX, (by rw [← ht9]; exact hr30), by rw [ht]; exact hP, hD⟩, hS.F ht⟩) hS.2.2 dJx35411_next_0502b_65
    · skip
      rw [if_neg c23] at hF
      exact (m0_o hF).elim
  · skip
    rw [if_neg c14] at hF
    exact (m0_o hF).elim
