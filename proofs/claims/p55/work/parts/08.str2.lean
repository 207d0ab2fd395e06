noncomputable def H_J6_stringSize_0f7a4_L16 (t2 : Int32 × Int32) : Nat → Int32 → Int32 → MH (Sum (Int32) (Int32 × Int32))
  | 0, _, _ => m0
  | m21 + 1, y26, y27 => if 10 ≤ y26 then (mr (.inr (y26, y27))) else (if (t2.2) ≤ y27 then (H_J6_stringSize_0f7a4_L16 t2 m21 ((y26 + 1)) ((10 * y27))) else (mr (.inl (y26 + (t2.1)))))
noncomputable def H_J6_stringSize_0f7a4 (a1 : Int32) : MH Int32 := mb (if a1 < 0 then (mr ((1 : Int32), a1)) else (mr ((0 : Int32), (-a1))) : MH (Int32 × Int32)) fun t2 => mb (H_J6_stringSize_0f7a4_L16 t2 FUEL ((1 : Int32)) ((-10 : Int32))) fun t9 => match t9 with | .inl r => mr r | .inr t17 => mr (10 + (t2.1))
set_option maxHeartbeats 4000000 in
set_option maxRecDepth 100000 in
theorem h_J6_stringSize_0f7a4 (l : Launch) (dC : Nat → ClassId) (dI : Nat → Nat → Nat) (cy : Nat → ClassId) (nb : Nat → Nat) (ad0 : Nat → Nat) (n0 s0 : Nat) (E0 : HE) (hC : clo n0 E0) (a1 : Int32) (sz : Nat) (ro : Int32) (nz sz9 : Nat) (Ez : HE) (hF : (H_J6_stringSize_0f7a4 a1).1 (n0, s0, E0) = some (ro, nz, sz9, Ez)) : Met l yJ6_stringSize_0f7a4 (wsg yJ6_stringSize_0f7a4 cJ6_stringSize_0f7a4 4 (some .int)) ({ frames := 8, cells := nz - n0, slots := sz9 - s0, locals := 300 }) (va_Pc [.int a1] (fun U => U.heap.size = sz ∧ va_P (dC, dI) vwCl (CH cy nb ad0 n0 E0) U.heap ∧ va_K (dC, dI) vwCl (tyL cy) U ∧ va_D (fun _ => True) (CH cy nb ad0 n0 E0) ∧ GL nb (va_A (CH cy nb ad0 n0 E0) sz) U)) (va_Qi (fun (r : Int32) (_ : Unit) => r = ro) (fun _ t => ∃ ad2 : Nat → Nat, axh n0 ad0 nz ad2 ∧ va_P (dC, dI) vwCl (CH cy nb ad2 nz Ez) t.heap ∧ va_D (va_A (CH cy nb ad0 n0 E0) sz) (CH cy nb ad2 nz Ez)) (va_A (CH cy nb ad0 n0 E0) sz)) (nz - n0) (sz9 - s0) (va_A (CH cy nb ad0 n0 E0) sz) := by
  refine Met.ofW (cc := cJ6_stringSize_0f7a4) (maxL := 4) (ret := (some .int)) (by decide) rfl ?_
  intro p e s m args below meth c s₁ B hml hv
  obtain ⟨rfl, hsz, hP, hK, hD0, hE⟩ := hv
  have hx := B.exec
  have hb := B.bytes
  have hr := B.returns
  have hts0 := atoms_spec (ws := (wsg yJ6_stringSize_0f7a4 cJ6_stringSize_0f7a4 4 (some .int))) B.pre
  have hts : ∀ w ∈ wsL_law, w.before _ s = true := fun w h => hts0 w (List.mem_cons_of_mem _ h)
  have hown : s.vm.findClass RJ6 = some m.cls := by have h9 := findClass_of_methodNamed B.named; exact h9
  subst hsz
  have hD := hD0.self (sz := s.heap.size)
  generalize hAe : va_A (CH cy nb ad0 n0 E0) s.heap.size = A at hD hE ⊢
  have hA : ∀ q : Nat, s.heap.size ≤ q → A q := fun q h => by rw [← hAe]; exact Or.inr h
  have hS : va_S A s.heap s.heap [] := va_S.rf
  have hl := lv_entry ([.int a1]) (n := 4) (Nat.le_of_ble_eq_true rfl)
  rw [lg_entry_eq]
  generalize (lg_sl ([.int a1]) ++ List.replicate (4 - (lg_sl ([.int a1])).length) Slot.unset).toArray = ls at hl ⊢
  have hl : lv_has ls 4 [(0, .int a1)] := hl
  generalize hHe : s.heap = H at hP hS ⊢
  have hS : va_S A s.heap H [] := by rw [hHe]; exact hS
  refine my_Q (fun Qn hQ => ?_)
  simp only [H_J6_stringSize_0f7a4] at hF
  have hX : axh n0 ad0 n0 ad0 := axh_refl
  have hN : n0 ≤ n0 := Nat.le_refl _
  have hT : s0 ≤ s0 := Nat.le_refl _
  refine W.widen (k := n0 - n0) (n := s0 - s0) (by omega) (by omega) ?_
  refine lv_iconst (v := 1) hx hb dJ6_stringSize_0f7a4_0 (by decide) ?_
  refine lv_istore_n (lv' := [(1, .int 1), (0, .int a1)]) hx hb dJ6_stringSize_0f7a4_1 rfl hl (by decide) rfl (fun ls hl => ?_)
  refine lv_iload_n hx hb dJ6_stringSize_0f7a4_2 rfl (lv_at hl 1 rfl) ?_
  obtain ⟨t2, n5, s6, E7, hJ3, hF⟩ := mb_o hF
  have hm := mle hJ3
  have join8 : ∀ (ad4 : Nat → Nat) (H : Heap) (locs : List Loc) (ls : Array Slot), axh n0 ad0 n5 ad4 → va_P (dC, dI) vwCl (CH cy nb ad4 n5 E7) H → va_D A (CH cy nb ad4 n5 E7) → va_S A s.heap H locs → lv_has ls 4 [(1, .int (t2.1)), (0, .int (t2.2))] → W p l e (headSpec (wsg yJ6_stringSize_0f7a4 cJ6_stringSize_0f7a4 4 (some .int)) ({ frames := 8, cells := nz - n0, slots := sz9 - s0, locals := 300 })).room s m ([.int a1] : List Value).toArray below meth c H locs (n5 - n0) (s6 - s0) Qn (F0 m 11 ls []) := by
    intro ad4 H locs ls hX  hP hD hS hl
    have hC := hm.2.2 hC
    have hN : n0 ≤ n5 := Nat.le_trans hN hm.1
    have hT : s0 ≤ s6 := Nat.le_trans hT hm.2.1
    clear hm
    refine lv_bipush (v := (-10)) hx hb dJ6_stringSize_0f7a4_11 (by decide) ?_
    refine lv_istore_n (lv' := [(2, .int (-10)), (1, .int (t2.1)), (0, .int (t2.2))]) hx hb dJ6_stringSize_0f7a4_13 rfl hl (by decide) rfl (fun ls hl => ?_)
    refine lv_iconst (v := 1) hx hb dJ6_stringSize_0f7a4_14 (by decide) ?_
    refine lv_istore_n (lv' := [(3, .int 1), (2, .int (-10)), (1, .int (t2.1)), (0, .int (t2.2))]) hx hb dJ6_stringSize_0f7a4_15 rfl hl (by decide) rfl (fun ls hl => ?_)
    obtain ⟨t9, n11, s12, E13, hL10, hF⟩ := mb_o hF
    have hm := mle hL10
    have kx15 : ∀ (t17 : Int32 × Int32), t9 = .inr t17 → ∀ (ad14 : Nat → Nat) (H : Heap) (locs : List Loc) (ls : Array Slot), axh n0 ad0 n11 ad14 → va_P (dC, dI) vwCl (CH cy nb ad14 n11 E13) H → va_D A (CH cy nb ad14 n11 E13) → va_S A s.heap H locs → lv_has ls 4 [(3, .int (t17.1)), (2, .int (t17.2)), (1, .int (t2.1)), (0, .int (t2.2))] → W p l e (headSpec (wsg yJ6_stringSize_0f7a4 cJ6_stringSize_0f7a4 4 (some .int)) ({ frames := 8, cells := nz - n0, slots := sz9 - s0, locals := 300 })).room s m ([.int a1] : List Value).toArray below meth c H locs (n11 - n0) (s12 - s0) Qn (F0 m 42 ls []) := by
      intro t17 he
      subst he
      intro ad14 H locs ls hX  hP hD hS hl
      have hC := hm.2.2 hC
      have hN : n0 ≤ n11 := Nat.le_trans hN hm.1
      have hT : s0 ≤ s12 := Nat.le_trans hT hm.2.1
      clear hm
      refine lv_bipush (v := 10) hx hb dJ6_stringSize_0f7a4_42 (by decide) ?_
      refine lv_iload_n hx hb dJ6_stringSize_0f7a4_44 rfl (lv_at hl 2 rfl) ?_
      refine lv_iadd hx hb dJ6_stringSize_0f7a4_45 ?_
      obtain ⟨ht9, hn9, hs9, hE9⟩ := mr_o hF
      subst hn9 hs9 hE9
      have hX9 := hX
      rw [hQ]
      exact W.iret (v := (10 + (t2.1))) hx hb hr (fun t ht hW => ⟨⟨(10 + (t2.1)), (), rfl, ht9, _, hX, by rw [ht]; exact hP, hD⟩, hS.F ht⟩) hS.2.2 dJ6_stringSize_0f7a4_46
    have kr16 : ∀ r : Int32, t9 = .inl r → (mr r : MH _).1 (n11, s12, E13) = some (ro, nz, sz9, Ez) := by
      intro r he
      subst he
      exact hF
    have hK18 := mle1 hF
    have hK19 := mle2 hF
    clear hF hm
    have loop20 : ∀ (m21 : Nat) (y26 : Int32) (y27 : Int32) (n23 s24 : Nat) (E25 : HE), (H_J6_stringSize_0f7a4_L16 t2 m21 y26 y27).1 (n23, s24, E25) = some (t9, n11, s12, E13) → clo n23 E25 → n0 ≤ n23 → s0 ≤ s24 → ∀ (ad22 : Nat → Nat) (H : Heap) (locs : List Loc) (ls : Array Slot), axh n0 ad0 n23 ad22 → va_P (dC, dI) vwCl (CH cy nb ad22 n23 E25) H → va_D A (CH cy nb ad22 n23 E25) → va_S A s.heap H locs → lv_has ls 4 [(3, .int y26), (2, .int y27), (1, .int (t2.1)), (0, .int (t2.2))] → W p l e (headSpec (wsg yJ6_stringSize_0f7a4 cJ6_stringSize_0f7a4 4 (some .int)) ({ frames := 8, cells := nz - n0, slots := sz9 - s0, locals := 300 })).room s m ([.int a1] : List Value).toArray below meth c H locs (n23 - n0) (s24 - s0) Qn (F0 m 16 ls []) := by
      intro m21
      induction m21 with
      | zero => intro y26 y27 n23 s24 E25 hF; exact (m0_o hF).elim
      | succ m21 ih =>
        intro y26 y27 n23 s24 E25 hF hC hN hT ad22 H locs ls hX  hP hD hS hl
        simp only [H_J6_stringSize_0f7a4_L16] at hF
        refine lv_iload_n hx hb dJ6_stringSize_0f7a4_16 rfl (lv_at hl 0 rfl) ?_
        refine lv_bipush (v := 10) hx hb dJ6_stringSize_0f7a4_17 (by decide) ?_
        refine lv_icmp_ge (tgt := 42) hx hb dJ6_stringSize_0f7a4_19 (by decide) (fun c28 => ?_) (fun c28 => ?_)
        · skip
          rw [if_pos c28] at hF
          obtain ⟨ht9, hn9, hs9, hE9⟩ := mr_o hF
          subst hn9 hs9 hE9
          have hl := lv_sub (l' := [(3, .int y26), (2, .int y27), (1, .int (t2.1)), (0, .int (t2.2))]) hl [0, 1, 2, 3] rfl
          exact kx15 _ ht9.symm _ _ _ _ hX  hP hD hS hl
        · skip
          rw [if_neg c28] at hF
          refine lv_iload_n hx hb dJ6_stringSize_0f7a4_22 rfl (lv_at hl 3 rfl) ?_
          refine lv_iload_n hx hb dJ6_stringSize_0f7a4_23 rfl (lv_at hl 1 rfl) ?_
          refine lv_icmp_le (tgt := 31) hx hb dJ6_stringSize_0f7a4_24 (by decide) (fun c29 => ?_) (fun c29 => ?_)
          · skip
            rw [if_pos c29] at hF
            refine lv_bipush (v := 10) hx hb dJ6_stringSize_0f7a4_31 (by decide) ?_
            refine lv_iload_n hx hb dJ6_stringSize_0f7a4_33 rfl (lv_at hl 1 rfl) ?_
            refine lv_imul hx hb dJ6_stringSize_0f7a4_34 ?_
            refine lv_istore_n (lv' := [(2, .int (10 * y27)), (3, .int y26), (1, .int (t2.1)), (0, .int (t2.2))]) hx hb dJ6_stringSize_0f7a4_35 rfl hl (by decide) rfl (fun ls hl => ?_)
            refine lv_iinc (v := (y26 + 1)) (lv' := [(3, .int (y26 + 1)), (2, .int (10 * y27)), (1, .int (t2.1)), (0, .int (t2.2))]) hx hb dJ6_stringSize_0f7a4_36 hl (k := 1) rfl (by rfl) (by decide) rfl (fun ls hl => ?_)
            refine lv_goto (tgt := 16) hx hb dJ6_stringSize_0f7a4_39 (by decide) ?_
            have hl := lv_sub (l' := [(3, .int (y26 + 1)), (2, .int (10 * y27)), (1, .int (t2.1)), (0, .int (t2.2))]) hl [0, 1, 2, 3] rfl
            exact ih _ _ _ _ _ hF hC hN hT _ _ _ _ hX  hP hD hS hl
          · skip
            rw [if_neg c29] at hF
            refine lv_iload_n hx hb dJ6_stringSize_0f7a4_27 rfl (lv_at hl 0 rfl) ?_
            refine lv_iload_n hx hb dJ6_stringSize_0f7a4_28 rfl (lv_at hl 2 rfl) ?_
            refine lv_iadd hx hb dJ6_stringSize_0f7a4_29 ?_
            obtain ⟨hi9, hn9, hs9, hE9⟩ := mr_o hF
            subst hn9 hs9 hE9
            have hF := kr16 _ hi9.symm
            obtain ⟨ht9, hn9, hs9, hE9⟩ := mr_o hF
            subst hn9 hs9 hE9
            rw [hQ]
            exact W.iret (v := (y26 + (t2.1))) hx hb hr (fun t ht hW => ⟨⟨(y26 + (t2.1)), (), rfl, ht9, _, hX, by rw [ht]; exact hP, hD⟩, hS.F ht⟩) hS.2.2 dJ6_stringSize_0f7a4_30
    have hl := lv_sub (l' := [(3, .int 1), (2, .int (-10)), (1, .int (t2.1)), (0, .int (t2.2))]) hl [0, 1, 2, 3] rfl
    exact loop20 FUEL _ _ _ _ _ hL10 hC hN hT _ _ _ _ hX  hP hD hS hl
  have hK30 := mle1 hF
  have hK31 := mle2 hF
  clear hF hm
  have hF := hJ3
  clear hJ3
  refine lv_if_lt (tgt := 11) hx hb dJ6_stringSize_0f7a4_3 (by decide) (fun c1 => ?_) (fun c1 => ?_)
  · skip
    rw [if_pos c1] at hF
    obtain ⟨ht9, hn9, hs9, hE9⟩ := mr_o hF
    subst ht9 hn9 hs9 hE9
    have hl := lv_sub (l' := [(1, .int 1), (0, .int a1)]) hl [0, 1] rfl
    exact join8 _ _ _ _ hX  hP hD hS hl
  · skip
    rw [if_neg c1] at hF
    refine lv_iconst (v := 0) hx hb dJ6_stringSize_0f7a4_6 (by decide) ?_
    refine lv_istore_n (lv' := [(1, .int 0), (0, .int a1)]) hx hb dJ6_stringSize_0f7a4_7 rfl hl (by decide) rfl (fun ls hl => ?_)
    refine lv_iload_n hx hb dJ6_stringSize_0f7a4_8 rfl (lv_at hl 1 rfl) ?_
    refine lv_ineg hx hb dJ6_stringSize_0f7a4_9 ?_
    refine lv_istore_n (lv' := [(0, .int (-a1)), (1, .int 0)]) hx hb dJ6_stringSize_0f7a4_10 rfl hl (by decide) rfl (fun ls hl => ?_)
    obtain ⟨ht9, hn9, hs9, hE9⟩ := mr_o hF
    subst ht9 hn9 hs9 hE9
    have hl := lv_sub (l' := [(1, .int 0), (0, .int (-a1))]) hl [1, 0] rfl
    exact join8 _ _ _ _ hX  hP hD hS hl
noncomputable def H_J6_getChars_ba4f3_L22 (t2 : Int32) (a2 : Int32) (a3 : Nat) : Nat → Int32 → Int32 → MH (Int32 × Int32)
  | 0, _, _ => m0
  | m63 + 1, y68, y69 => if (-100) < y69 then (mr (y68, y69)) else (mb (mp (dv y69 100)) fun x72 => mb (mg fun n E => gB n E (1001991) (((x72 * 100) - y69))) fun x74 => mb (wA (a3) 0 ((y68 + (-1))) ((vp_nar .byte (x74)))) fun _ => mb (mg fun n E => gB n E (1001992) (((x72 * 100) - y69))) fun x78 => mb (wA (a3) 0 (((y68 + (-1)) + (-1))) ((vp_nar .byte (x78)))) fun _ => H_J6_getChars_ba4f3_L22 t2 a2 a3 m63 (((y68 + (-1)) + (-1))) (x72))
noncomputable def H_J6_getChars_ba4f3 (a1 : Int32) (a2 : Int32) (a3 : Nat) : MH Int32 := mb (if 0 ≤ a1 then (mr (0 : Int32)) else (mr (1 : Int32)) : MH (Int32)) fun t2 => mb (if t2 = 0 then (mr (-a1)) else (mr a1) : MH (Int32)) fun t11 => mb (H_J6_getChars_ba4f3_L22 t2 a2 a3 FUEL (a2) (t11)) fun t19 => mb (mg fun n E => gB n E (1001991) ((-(t19.2)))) fun x28 => mb (wA (a3) 0 (((t19.1) + (-1))) ((vp_nar .byte (x28)))) fun _ => mb (if (-9) ≤ (t19.2) then (mr ((t19.1) + (-1))) else (mb (mg fun n E => gB n E (1001992) ((-(t19.2)))) fun x56 => mb (wA (a3) 0 ((((t19.1) + (-1)) + (-1))) ((vp_nar .byte (x56)))) fun _ => mr (((t19.1) + (-1)) + (-1))) : MH (Int32)) fun t33 => mb (if t2 = 0 then (mr t33) else (mb (wA (a3) 0 ((t33 + (-1))) ((vp_nar .byte (45)))) fun _ => mr (t33 + (-1))) : MH (Int32)) fun t42 => mr t42
set_option maxHeartbeats 4000000 in
set_option maxRecDepth 100000 in
theorem h_J6_getChars_ba4f3 (l : Launch) (dC : Nat → ClassId) (dI : Nat → Nat → Nat) (cy : Nat → ClassId) (nb : Nat → Nat) (ad0 : Nat → Nat) (n0 s0 : Nat) (E0 : HE) (hC : clo n0 E0) (a1 : Int32) (a2 : Int32) (a3 Aa3 : Nat) (ha3 : rf nb ad0 n0 a3 Aa3) (sz : Nat) (ro : Int32) (nz sz9 : Nat) (Ez : HE) (hF : (H_J6_getChars_ba4f3 a1 a2 a3).1 (n0, s0, E0) = some (ro, nz, sz9, Ez)) : Met l yJ6_getChars_ba4f3 (wsg yJ6_getChars_ba4f3 cJ6_getChars_ba4f3 7 (some .int)) ({ frames := 8, cells := nz - n0, slots := sz9 - s0, locals := 300 }) (va_Pc [.int a1, .int a2, .ref Aa3] (fun U => U.heap.size = sz ∧ va_P (dC, dI) vwCl (CH cy nb ad0 n0 E0) U.heap ∧ va_K (dC, dI) vwCl (tyL cy) U ∧ va_D (fun _ => True) (CH cy nb ad0 n0 E0) ∧ GL nb (va_A (CH cy nb ad0 n0 E0) sz) U)) (va_Qi (fun (r : Int32) (_ : Unit) => r = ro) (fun _ t => ∃ ad2 : Nat → Nat, axh n0 ad0 nz ad2 ∧ va_P (dC, dI) vwCl (CH cy nb ad2 nz Ez) t.heap ∧ va_D (va_A (CH cy nb ad0 n0 E0) sz) (CH cy nb ad2 nz Ez)) (va_A (CH cy nb ad0 n0 E0) sz)) (nz - n0) (sz9 - s0) (va_A (CH cy nb ad0 n0 E0) sz) := by
  refine Met.ofW (cc := cJ6_getChars_ba4f3) (maxL := 7) (ret := (some .int)) (by decide) rfl ?_
  intro p e s m args below meth c s₁ B hml hv
  obtain ⟨rfl, hsz, hP, hK, hD0, hE⟩ := hv
  have hx := B.exec
  have hb := B.bytes
  have hr := B.returns
  have hts0 := atoms_spec (ws := (wsg yJ6_getChars_ba4f3 cJ6_getChars_ba4f3 7 (some .int))) B.pre
  have hts : ∀ w ∈ wsL_law, w.before _ s = true := fun w h => hts0 w (List.mem_cons_of_mem _ h)
  have hown : s.vm.findClass RJ6 = some m.cls := by have h9 := findClass_of_methodNamed B.named; exact h9
  subst hsz
  have hD := hD0.self (sz := s.heap.size)
  generalize hAe : va_A (CH cy nb ad0 n0 E0) s.heap.size = A at hD hE ⊢
  have hA : ∀ q : Nat, s.heap.size ≤ q → A q := fun q h => by rw [← hAe]; exact Or.inr h
  have hS : va_S A s.heap s.heap [] := va_S.rf
  have hl := lv_entry ([.int a1, .int a2, .ref Aa3]) (n := 7) (Nat.le_of_ble_eq_true rfl)
  rw [lg_entry_eq]
  generalize (lg_sl ([.int a1, .int a2, .ref Aa3]) ++ List.replicate (7 - (lg_sl ([.int a1, .int a2, .ref Aa3])).length) Slot.unset).toArray = ls at hl ⊢
  have hl : lv_has ls 7 [(0, .int a1), (1, .int a2), (2, .ref Aa3)] := hl
  generalize hHe : s.heap = H at hP hS ⊢
  have hS : va_S A s.heap H [] := by rw [hHe]; exact hS
  refine my_Q (fun Qn hQ => ?_)
  simp only [H_J6_getChars_ba4f3] at hF
  have hX : axh n0 ad0 n0 ad0 := axh_refl
  have hN : n0 ≤ n0 := Nat.le_refl _
  have hT : s0 ≤ s0 := Nat.le_refl _
  refine W.widen (k := n0 - n0) (n := s0 - s0) (by omega) (by omega) ?_
  refine lv_iload_n hx hb dJ6_getChars_ba4f3_0 rfl (lv_at hl 1 rfl) ?_
  refine lv_istore (lv' := [(5, .int a2), (0, .int a1), (1, .int a2), (2, .ref Aa3)]) hx hb dJ6_getChars_ba4f3_1 hl (by decide) rfl (fun ls hl => ?_)
  refine lv_iload_n hx hb dJ6_getChars_ba4f3_3 rfl (lv_at hl 1 rfl) ?_
  obtain ⟨t2, n5, s6, E7, hJ3, hF⟩ := mb_o hF
  have hm := mle hJ3
  have join8 : ∀ (ad4 : Nat → Nat) (H : Heap) (locs : List Loc) (ls : Array Slot), axh n0 ad0 n5 ad4 → rf nb ad4 n5 (a3) (Aa3) → va_P (dC, dI) vwCl (CH cy nb ad4 n5 E7) H → va_D A (CH cy nb ad4 n5 E7) → va_S A s.heap H locs → lv_has ls 7 [(5, .int a2), (0, .int a1), (1, .int a2), (2, .ref Aa3)] → W p l e (headSpec (wsg yJ6_getChars_ba4f3 cJ6_getChars_ba4f3 7 (some .int)) ({ frames := 8, cells := nz - n0, slots := sz9 - s0, locals := 300 })).room s m ([.int a1, .int a2, .ref Aa3] : List Value).toArray below meth c H locs (n5 - n0) (s6 - s0) Qn (F0 m 12 ls [.int t2]) := by
    intro ad4 H locs ls hX hr9 hP hD hS hl
    have hC := hm.2.2 hC
    have hN : n0 ≤ n5 := Nat.le_trans hN hm.1
    have hT : s0 ≤ s6 := Nat.le_trans hT hm.2.1
    clear hm
    refine lv_istore (lv' := [(6, .int t2), (5, .int a2), (0, .int a1), (1, .int a2), (2, .ref Aa3)]) hx hb dJ6_getChars_ba4f3_12 hl (by decide) rfl (fun ls hl => ?_)
    refine lv_iload hx hb dJ6_getChars_ba4f3_14 (lv_at hl 0 rfl) ?_
    obtain ⟨t11, n14, s15, E16, hJ12, hF⟩ := mb_o hF
    have hm := mle hJ12
    have join17 : ∀ (ad13 : Nat → Nat) (H : Heap) (locs : List Loc) (ls : Array Slot), axh n0 ad0 n14 ad13 → rf nb ad13 n14 (a3) (Aa3) → va_P (dC, dI) vwCl (CH cy nb ad13 n14 E16) H → va_D A (CH cy nb ad13 n14 E16) → va_S A s.heap H locs → lv_has ls 7 [(6, .int t2), (5, .int a2), (0, .int t11), (1, .int a2), (2, .ref Aa3)] → W p l e (headSpec (wsg yJ6_getChars_ba4f3 cJ6_getChars_ba4f3 7 (some .int)) ({ frames := 8, cells := nz - n0, slots := sz9 - s0, locals := 300 })).room s m ([.int a1, .int a2, .ref Aa3] : List Value).toArray below meth c H locs (n14 - n0) (s15 - s0) Qn (F0 m 22 ls []) := by
      intro ad13 H locs ls hX hr18 hP hD hS hl
      have hC := hm.2.2 hC
      have hN : n0 ≤ n14 := Nat.le_trans hN hm.1
      have hT : s0 ≤ s15 := Nat.le_trans hT hm.2.1
      clear hm
      obtain ⟨t19, n21, s22, E23, hL20, hF⟩ := mb_o hF
      have hm := mle hL20
      have kx25 : ∀ (ad24 : Nat → Nat) (H : Heap) (locs : List Loc) (ls : Array Slot), axh n0 ad0 n21 ad24 → rf nb ad24 n21 (a3) (Aa3) → va_P (dC, dI) vwCl (CH cy nb ad24 n21 E23) H → va_D A (CH cy nb ad24 n21 E23) → va_S A s.heap H locs → lv_has ls 7 [(5, .int (t19.1)), (0, .int (t19.2)), (6, .int t2), (1, .int a2), (2, .ref Aa3)] → W p l e (headSpec (wsg yJ6_getChars_ba4f3 cJ6_getChars_ba4f3 7 (some .int)) ({ frames := 8, cells := nz - n0, slots := sz9 - s0, locals := 300 })).room s m ([.int a1, .int a2, .ref Aa3] : List Value).toArray below meth c H locs (n21 - n0) (s22 - s0) Qn (F0 m 72 ls []) := by
        intro ad24 H locs ls hX hr27 hP hD hS hl
        have hC := hm.2.2 hC
        have hN : n0 ≤ n21 := Nat.le_trans hN hm.1
        have hT : s0 ≤ s22 := Nat.le_trans hT hm.2.1
        clear hm
        refine lv_aload_n hx hb dJ6_getChars_ba4f3_72 rfl (lv_at hl 4 rfl) ?_
        refine lv_iinc (v := ((t19.1) + (-1))) (lv' := [(5, .int ((t19.1) + (-1))), (0, .int (t19.2)), (6, .int t2), (1, .int a2), (2, .ref Aa3)]) hx hb dJ6_getChars_ba4f3_73 hl (k := 0) rfl (by rfl) (by decide) rfl (fun ls hl => ?_)
        refine lv_iload hx hb dJ6_getChars_ba4f3_76 (lv_at hl 0 rfl) ?_
        refine va_gets (C := "java/lang/Integer") (n := "DigitOnes") (d := "[B") (ref := "java/lang/Integer") (v := .ref (nb 1991)) hx hb hE.dg1.1 hS hown (hts _ mw_749) (fun _ h9 => h9) dJ6_getChars_ba4f3_78 ?_
        refine lv_iload_n hx hb dJ6_getChars_ba4f3_81 rfl (lv_at hl 1 rfl) ?_
        refine lv_ineg hx hb dJ6_getChars_ba4f3_82 ?_
        obtain ⟨x28, e29, hF⟩ := mg_o hF
        refine hs_gB hx hb hK hP hC hE hS rf_c e29 dJ6_getChars_ba4f3_83 ?_
        obtain ⟨E30, e31, hF⟩ := mw_o hF
        obtain ⟨q9, m9, f9, h9, i9, ez9⟩ := wrA (cy := cy) hC hr27 e31
        refine va_bast hx hb hK hP hD hS q9 0 h9 rfl i9 dJ6_getChars_ba4f3_84 (fun H locs hP hD hS => ?_)
        clear i9
        rw [ez9] at hP hD
        clear ez9 h9
        have hC := sA_clo e31 hC
        refine lv_iload_n hx hb dJ6_getChars_ba4f3_85 rfl (lv_at hl 1 rfl) ?_
        refine lv_bipush (v := (-9)) hx hb dJ6_getChars_ba4f3_86 (by decide) ?_
        obtain ⟨t33, n36, s37, E38, hJ34, hF⟩ := mb_o hF
        have hm := mle hJ34
        have join39 : ∀ (ad35 : Nat → Nat) (H : Heap) (locs : List Loc) (ls : Array Slot), axh n0 ad0 n36 ad35 → rf nb ad35 n36 (a3) (Aa3) → va_P (dC, dI) vwCl (CH cy nb ad35 n36 E38) H → va_D A (CH cy nb ad35 n36 E38) → va_S A s.heap H locs → lv_has ls 7 [(5, .int t33), (0, .int (t19.2)), (6, .int t2), (1, .int a2), (2, .ref Aa3)] → W p l e (headSpec (wsg yJ6_getChars_ba4f3 cJ6_getChars_ba4f3 7 (some .int)) ({ frames := 8, cells := nz - n0, slots := sz9 - s0, locals := 300 })).room s m ([.int a1, .int a2, .ref Aa3] : List Value).toArray below meth c H locs (n36 - n0) (s37 - s0) Qn (F0 m 104 ls []) := by
          intro ad35 H locs ls hX hr40 hP hD hS hl
          have hC := hm.2.2 hC
          have hN : n0 ≤ n36 := Nat.le_trans hN hm.1
          have hT : s0 ≤ s37 := Nat.le_trans hT hm.2.1
          clear hm
          refine lv_iload hx hb dJ6_getChars_ba4f3_104 (lv_at hl 2 rfl) ?_
          obtain ⟨t42, n45, s46, E47, hJ43, hF⟩ := mb_o hF
          have hm := mle hJ43
          have join48 : ∀ (ad44 : Nat → Nat) (H : Heap) (locs : List Loc) (ls : Array Slot), axh n0 ad0 n45 ad44 → rf nb ad44 n45 (a3) (Aa3) → va_P (dC, dI) vwCl (CH cy nb ad44 n45 E47) H → va_D A (CH cy nb ad44 n45 E47) → va_S A s.heap H locs → lv_has ls 7 [(5, .int t42), (0, .int (t19.2)), (6, .int t2), (1, .int a2), (2, .ref Aa3)] → W p l e (headSpec (wsg yJ6_getChars_ba4f3 cJ6_getChars_ba4f3 7 (some .int)) ({ frames := 8, cells := nz - n0, slots := sz9 - s0, locals := 300 })).room s m ([.int a1, .int a2, .ref Aa3] : List Value).toArray below meth c H locs (n45 - n0) (s46 - s0) Qn (F0 m 118 ls []) := by
            intro ad44 H locs ls hX hr49 hP hD hS hl
            have hC := hm.2.2 hC
            have hN : n0 ≤ n45 := Nat.le_trans hN hm.1
            have hT : s0 ≤ s46 := Nat.le_trans hT hm.2.1
            clear hm
            refine lv_iload hx hb dJ6_getChars_ba4f3_118 (lv_at hl 0 rfl) ?_
            obtain ⟨ht9, hn9, hs9, hE9⟩ := mr_o hF
            subst hn9 hs9 hE9
            have hX9 := hX
            rw [hQ]
            exact W.iret (v := t42) hx hb hr (fun t ht hW => ⟨⟨t42, (), rfl, ht9, _, hX, by rw [ht]; exact hP, hD⟩, hS.F ht⟩) hS.2.2 dJ6_getChars_ba4f3_120
          have hK50 := mle1 hF
          have hK51 := mle2 hF
          clear hF hm
          have hF := hJ43
          clear hJ43
          refine lv_if_eq (tgt := 118) hx hb dJ6_getChars_ba4f3_106 (by decide) (fun c41 => ?_) (fun c41 => ?_)
          · skip
            rw [if_pos c41] at hF
            obtain ⟨ht9, hn9, hs9, hE9⟩ := mr_o hF
            subst ht9 hn9 hs9 hE9
            have hl := lv_sub (l' := [(5, .int t33), (0, .int (t19.2)), (6, .int t2), (1, .int a2), (2, .ref Aa3)]) hl [0, 1, 2, 3, 4] rfl
            exact join48 _ _ _ _ hX hr40 hP hD hS hl
          · skip
            rw [if_neg c41] at hF
            refine lv_aload_n hx hb dJ6_getChars_ba4f3_109 rfl (lv_at hl 4 rfl) ?_
            refine lv_iinc (v := (t33 + (-1))) (lv' := [(5, .int (t33 + (-1))), (0, .int (t19.2)), (6, .int t2), (1, .int a2), (2, .ref Aa3)]) hx hb dJ6_getChars_ba4f3_110 hl (k := 0) rfl (by rfl) (by decide) rfl (fun ls hl => ?_)
            refine lv_iload hx hb dJ6_getChars_ba4f3_113 (lv_at hl 0 rfl) ?_
            refine lv_bipush (v := 45) hx hb dJ6_getChars_ba4f3_115 (by decide) ?_
            obtain ⟨E52, e53, hF⟩ := mw_o hF
            obtain ⟨q9, m9, f9, h9, i9, ez9⟩ := wrA (cy := cy) hC hr40 e53
            refine va_bast hx hb hK hP hD hS q9 0 h9 rfl i9 dJ6_getChars_ba4f3_117 (fun H locs hP hD hS => ?_)
            clear i9
            rw [ez9] at hP hD
            clear ez9 h9
            have hC := sA_clo e53 hC
            obtain ⟨ht9, hn9, hs9, hE9⟩ := mr_o hF
            subst ht9 hn9 hs9 hE9
            have hl := lv_sub (l' := [(5, .int (t33 + (-1))), (0, .int (t19.2)), (6, .int t2), (1, .int a2), (2, .ref Aa3)]) hl [0, 1, 2, 3, 4] rfl
            exact join48 _ _ _ _ hX hr40 hP hD hS hl
        have hK54 := mle1 hF
        have hK55 := mle2 hF
        clear hF hm
        have hF := hJ34
        clear hJ34
        refine lv_icmp_ge (tgt := 104) hx hb dJ6_getChars_ba4f3_88 (by decide) (fun c32 => ?_) (fun c32 => ?_)
        · skip
          rw [if_pos c32] at hF
          obtain ⟨ht9, hn9, hs9, hE9⟩ := mr_o hF
          subst ht9 hn9 hs9 hE9
          have hl := lv_sub (l' := [(5, .int ((t19.1) + (-1))), (0, .int (t19.2)), (6, .int t2), (1, .int a2), (2, .ref Aa3)]) hl [0, 1, 2, 3, 4] rfl
          exact join39 _ _ _ _ hX hr27 hP hD hS hl
        · skip
          rw [if_neg c32] at hF
          refine lv_aload_n hx hb dJ6_getChars_ba4f3_91 rfl (lv_at hl 4 rfl) ?_
          refine lv_iinc (v := (((t19.1) + (-1)) + (-1))) (lv' := [(5, .int (((t19.1) + (-1)) + (-1))), (0, .int (t19.2)), (6, .int t2), (1, .int a2), (2, .ref Aa3)]) hx hb dJ6_getChars_ba4f3_92 hl (k := 0) rfl (by rfl) (by decide) rfl (fun ls hl => ?_)
          refine lv_iload hx hb dJ6_getChars_ba4f3_95 (lv_at hl 0 rfl) ?_
          refine va_gets (C := "java/lang/Integer") (n := "DigitTens") (d := "[B") (ref := "java/lang/Integer") (v := .ref (nb 1992)) hx hb hE.dg2.1 hS hown (hts _ mw_750) (fun _ h9 => h9) dJ6_getChars_ba4f3_97 ?_
          refine lv_iload_n hx hb dJ6_getChars_ba4f3_100 rfl (lv_at hl 1 rfl) ?_
          refine lv_ineg hx hb dJ6_getChars_ba4f3_101 ?_
          obtain ⟨x56, e57, hF⟩ := mg_o hF
          refine hs_gB hx hb hK hP hC hE hS rf_c e57 dJ6_getChars_ba4f3_102 ?_
          obtain ⟨E58, e59, hF⟩ := mw_o hF
          obtain ⟨q9, m9, f9, h9, i9, ez9⟩ := wrA (cy := cy) hC hr27 e59
          refine va_bast hx hb hK hP hD hS q9 0 h9 rfl i9 dJ6_getChars_ba4f3_103 (fun H locs hP hD hS => ?_)
          clear i9
          rw [ez9] at hP hD
          clear ez9 h9
          have hC := sA_clo e59 hC
          obtain ⟨ht9, hn9, hs9, hE9⟩ := mr_o hF
          subst ht9 hn9 hs9 hE9
          have hl := lv_sub (l' := [(5, .int (((t19.1) + (-1)) + (-1))), (0, .int (t19.2)), (6, .int t2), (1, .int a2), (2, .ref Aa3)]) hl [0, 1, 2, 3, 4] rfl
          exact join39 _ _ _ _ hX hr27 hP hD hS hl
      have hK60 := mle1 hF
      have hK61 := mle2 hF
      clear hF hm
      have loop62 : ∀ (m63 : Nat) (y68 : Int32) (y69 : Int32) (n65 s66 : Nat) (E67 : HE), (H_J6_getChars_ba4f3_L22 t2 a2 a3 m63 y68 y69).1 (n65, s66, E67) = some (t19, n21, s22, E23) → clo n65 E67 → n0 ≤ n65 → s0 ≤ s66 → ∀ (ad64 : Nat → Nat) (H : Heap) (locs : List Loc) (ls : Array Slot), axh n0 ad0 n65 ad64 → rf nb ad64 n65 (a3) (Aa3) → va_P (dC, dI) vwCl (CH cy nb ad64 n65 E67) H → va_D A (CH cy nb ad64 n65 E67) → va_S A s.heap H locs → lv_has ls 7 [(5, .int y68), (0, .int y69), (6, .int t2), (1, .int a2), (2, .ref Aa3)] → W p l e (headSpec (wsg yJ6_getChars_ba4f3 cJ6_getChars_ba4f3 7 (some .int)) ({ frames := 8, cells := nz - n0, slots := sz9 - s0, locals := 300 })).room s m ([.int a1, .int a2, .ref Aa3] : List Value).toArray below meth c H locs (n65 - n0) (s66 - s0) Qn (F0 m 22 ls []) := by
        intro m63
        induction m63 with
        | zero => intro y68 y69 n65 s66 E67 hF; exact (m0_o hF).elim
        | succ m63 ih =>
          intro y68 y69 n65 s66 E67 hF hC hN hT ad64 H locs ls hX hr70 hP hD hS hl
          simp only [H_J6_getChars_ba4f3_L22] at hF
          refine lv_iload_n hx hb dJ6_getChars_ba4f3_22 rfl (lv_at hl 1 rfl) ?_
          refine lv_bipush (v := (-100)) hx hb dJ6_getChars_ba4f3_23 (by decide) ?_
          refine lv_icmp_gt (tgt := 72) hx hb dJ6_getChars_ba4f3_25 (by decide) (fun c71 => ?_) (fun c71 => ?_)
          · skip
            rw [if_pos c71] at hF
            obtain ⟨ht9, hn9, hs9, hE9⟩ := mr_o hF
            subst hn9 hs9 hE9
            subst ht9
            have hl := lv_sub (l' := [(5, .int y68), (0, .int y69), (6, .int t2), (1, .int a2), (2, .ref Aa3)]) hl [0, 1, 2, 3, 4] rfl
            exact kx25 _ _ _ _ hX hr70 hP hD hS hl
          · skip
            rw [if_neg c71] at hF
            refine lv_iload_n hx hb dJ6_getChars_ba4f3_28 rfl (lv_at hl 1 rfl) ?_
            refine lv_bipush (v := 100) hx hb dJ6_getChars_ba4f3_29 (by decide) ?_
            obtain ⟨x72, e73, hF⟩ := mp_o hF
            refine lv_idiv hx hb dJ6_getChars_ba4f3_31 (dv_ne e73) ?_
            refine my_topi (y := x72) (dv_eq e73) ?_
            refine lv_istore_n (lv' := [(3, .int x72), (5, .int y68), (0, .int y69), (6, .int t2), (1, .int a2), (2, .ref Aa3)]) hx hb dJ6_getChars_ba4f3_32 rfl hl (by decide) rfl (fun ls hl => ?_)
            refine lv_iload_n hx hb dJ6_getChars_ba4f3_33 rfl (lv_at hl 0 rfl) ?_
            refine lv_bipush (v := 100) hx hb dJ6_getChars_ba4f3_34 (by decide) ?_
            refine lv_imul hx hb dJ6_getChars_ba4f3_36 ?_
            refine lv_iload_n hx hb dJ6_getChars_ba4f3_37 rfl (lv_at hl 2 rfl) ?_
            refine lv_isub hx hb dJ6_getChars_ba4f3_38 ?_
            refine lv_istore (lv' := [(4, .int ((x72 * 100) - y69)), (3, .int x72), (5, .int y68), (0, .int y69), (6, .int t2), (1, .int a2), (2, .ref Aa3)]) hx hb dJ6_getChars_ba4f3_39 hl (by decide) rfl (fun ls hl => ?_)
            refine lv_iload_n hx hb dJ6_getChars_ba4f3_41 rfl (lv_at hl 1 rfl) ?_
            refine lv_istore_n (lv' := [(0, .int x72), (4, .int ((x72 * 100) - y69)), (3, .int x72), (5, .int y68), (6, .int t2), (1, .int a2), (2, .ref Aa3)]) hx hb dJ6_getChars_ba4f3_42 rfl hl (by decide) rfl (fun ls hl => ?_)
            refine lv_aload_n hx hb dJ6_getChars_ba4f3_43 rfl (lv_at hl 6 rfl) ?_
            refine lv_iinc (v := (y68 + (-1))) (lv' := [(5, .int (y68 + (-1))), (0, .int x72), (4, .int ((x72 * 100) - y69)), (3, .int x72), (6, .int t2), (1, .int a2), (2, .ref Aa3)]) hx hb dJ6_getChars_ba4f3_44 hl (k := 3) rfl (by rfl) (by decide) rfl (fun ls hl => ?_)
            refine lv_iload hx hb dJ6_getChars_ba4f3_47 (lv_at hl 0 rfl) ?_
            refine va_gets (C := "java/lang/Integer") (n := "DigitOnes") (d := "[B") (ref := "java/lang/Integer") (v := .ref (nb 1991)) hx hb hE.dg1.1 hS hown (hts _ mw_749) (fun _ h9 => h9) dJ6_getChars_ba4f3_49 ?_
            refine lv_iload hx hb dJ6_getChars_ba4f3_52 (lv_at hl 2 rfl) ?_
            obtain ⟨x74, e75, hF⟩ := mg_o hF
            refine hs_gB hx hb hK hP hC hE hS rf_c e75 dJ6_getChars_ba4f3_54 ?_
            obtain ⟨E76, e77, hF⟩ := mw_o hF
            obtain ⟨q9, m9, f9, h9, i9, ez9⟩ := wrA (cy := cy) hC hr70 e77
            refine va_bast hx hb hK hP hD hS q9 0 h9 rfl i9 dJ6_getChars_ba4f3_55 (fun H locs hP hD hS => ?_)
            clear i9
            rw [ez9] at hP hD
            clear ez9 h9
            have hC := sA_clo e77 hC
            refine lv_aload_n hx hb dJ6_getChars_ba4f3_56 rfl (lv_at hl 6 rfl) ?_
            refine lv_iinc (v := ((y68 + (-1)) + (-1))) (lv' := [(5, .int ((y68 + (-1)) + (-1))), (0, .int x72), (4, .int ((x72 * 100) - y69)), (3, .int x72), (6, .int t2), (1, .int a2), (2, .ref Aa3)]) hx hb dJ6_getChars_ba4f3_57 hl (k := 0) rfl (by rfl) (by decide) rfl (fun ls hl => ?_)
            refine lv_iload hx hb dJ6_getChars_ba4f3_60 (lv_at hl 0 rfl) ?_
            refine va_gets (C := "java/lang/Integer") (n := "DigitTens") (d := "[B") (ref := "java/lang/Integer") (v := .ref (nb 1992)) hx hb hE.dg2.1 hS hown (hts _ mw_750) (fun _ h9 => h9) dJ6_getChars_ba4f3_62 ?_
            refine lv_iload hx hb dJ6_getChars_ba4f3_65 (lv_at hl 2 rfl) ?_
            obtain ⟨x78, e79, hF⟩ := mg_o hF
            refine hs_gB hx hb hK hP hC hE hS rf_c e79 dJ6_getChars_ba4f3_67 ?_
            obtain ⟨E80, e81, hF⟩ := mw_o hF
            obtain ⟨q9, m9, f9, h9, i9, ez9⟩ := wrA (cy := cy) hC hr70 e81
            refine va_bast hx hb hK hP hD hS q9 0 h9 rfl i9 dJ6_getChars_ba4f3_68 (fun H locs hP hD hS => ?_)
            clear i9
            rw [ez9] at hP hD
            clear ez9 h9
            have hC := sA_clo e81 hC
            refine lv_goto (tgt := 22) hx hb dJ6_getChars_ba4f3_69 (by decide) ?_
            have hl := lv_sub (l' := [(5, .int ((y68 + (-1)) + (-1))), (0, .int x72), (6, .int t2), (1, .int a2), (2, .ref Aa3)]) hl [0, 1, 4, 5, 6] rfl
            exact ih _ _ _ _ _ hF hC hN hT _ _ _ _ hX hr70 hP hD hS hl
      have hl := lv_sub (l' := [(5, .int a2), (0, .int t11), (6, .int t2), (1, .int a2), (2, .ref Aa3)]) hl [1, 2, 0, 3, 4] rfl
      exact loop62 FUEL _ _ _ _ _ hL20 hC hN hT _ _ _ _ hX hr18 hP hD hS hl
    have hK82 := mle1 hF
    have hK83 := mle2 hF
    clear hF hm
    have hF := hJ12
    clear hJ12
    refine lv_if_ne (tgt := 22) hx hb dJ6_getChars_ba4f3_16 (by decide) (fun c10 => ?_) (fun c10 => ?_)
    · skip
      rw [if_neg c10] at hF
      obtain ⟨ht9, hn9, hs9, hE9⟩ := mr_o hF
      subst ht9 hn9 hs9 hE9
      have hl := lv_sub (l' := [(6, .int t2), (5, .int a2), (0, .int a1), (1, .int a2), (2, .ref Aa3)]) hl [0, 1, 2, 3, 4] rfl
      exact join17 _ _ _ _ hX hr9 hP hD hS hl
    · skip
      rw [if_pos c10] at hF
      refine lv_iload_n hx hb dJ6_getChars_ba4f3_19 rfl (lv_at hl 2 rfl) ?_
      refine lv_ineg hx hb dJ6_getChars_ba4f3_20 ?_
      refine lv_istore_n (lv' := [(0, .int (-a1)), (6, .int t2), (5, .int a2), (1, .int a2), (2, .ref Aa3)]) hx hb dJ6_getChars_ba4f3_21 rfl hl (by decide) rfl (fun ls hl => ?_)
      obtain ⟨ht9, hn9, hs9, hE9⟩ := mr_o hF
      subst ht9 hn9 hs9 hE9
      have hl := lv_sub (l' := [(6, .int t2), (5, .int a2), (0, .int (-a1)), (1, .int a2), (2, .ref Aa3)]) hl [1, 2, 0, 3, 4] rfl
      exact join17 _ _ _ _ hX hr9 hP hD hS hl
  have hK84 := mle1 hF
  have hK85 := mle2 hF
  clear hF hm
  have hF := hJ3
  clear hJ3
  refine lv_if_ge (tgt := 11) hx hb dJ6_getChars_ba4f3_4 (by decide) (fun c1 => ?_) (fun c1 => ?_)
  · skip
    rw [if_pos c1] at hF
    refine lv_iconst (v := 0) hx hb dJ6_getChars_ba4f3_11 (by decide) ?_
    obtain ⟨ht9, hn9, hs9, hE9⟩ := mr_o hF
    subst ht9 hn9 hs9 hE9
    have hl := lv_sub (l' := [(5, .int a2), (0, .int a1), (1, .int a2), (2, .ref Aa3)]) hl [0, 1, 2, 3] rfl
    exact join8 _ _ _ _ hX ha3 hP hD hS hl
  · skip
    rw [if_neg c1] at hF
    refine lv_iconst (v := 1) hx hb dJ6_getChars_ba4f3_7 (by decide) ?_
    refine lv_goto (tgt := 12) hx hb dJ6_getChars_ba4f3_8 (by decide) ?_
    obtain ⟨ht9, hn9, hs9, hE9⟩ := mr_o hF
    subst ht9 hn9 hs9 hE9
    have hl := lv_sub (l' := [(5, .int a2), (0, .int a1), (1, .int a2), (2, .ref Aa3)]) hl [0, 1, 2, 3] rfl
    exact join8 _ _ _ _ hX ha3 hP hD hS hl
noncomputable def H_J5_append_c97b9 (a0 : Nat) (a1 : Int32) : MH Nat := mb (rI (a0) 1 3) fun x1 => mb (H_J6_stringSize_0f7a4 (a1)) fun x3 => mb (mg fun n E => fO n E (a0) 1) fun _ => mb (H_J5_ensureCapacityInternal_d00df (a0) ((x1 + x3))) fun _ => mb (mg fun n E => fO n E (a0) 1) fun _ => mb (H_J5_isLatin1_aae02 (a0)) fun x16 => if x16 = 0 then (mb (rR (a0) 1 0) fun x23 => m0) else (mb (rR (a0) 1 0) fun x26 => mb (H_J6_getChars_ba4f3 (a1) ((x1 + x3)) (x26)) fun x29 => mb (wI (a0) 1 3 ((x1 + x3))) fun _ => mr a0)
set_option maxHeartbeats 4000000 in
set_option maxRecDepth 100000 in
theorem h_J5_append_c97b9 (l : Launch) (dC : Nat → ClassId) (dI : Nat → Nat → Nat) (cy : Nat → ClassId) (nb : Nat → Nat) (ad0 : Nat → Nat) (n0 s0 : Nat) (E0 : HE) (hC : clo n0 E0) (a0 Aa0 : Nat) (ha0 : rf nb ad0 n0 a0 Aa0) (a1 : Int32) (sz : Nat) (ro : Nat) (nz sz9 : Nat) (Ez : HE) (hF : (H_J5_append_c97b9 a0 a1).1 (n0, s0, E0) = some (ro, nz, sz9, Ez)) : Met l yJ5_append_c97b9 (wsg yJ5_append_c97b9 cJ5_append_c97b9 4 (some (.object "java/lang/AbstractStringBuilder"))) ({ frames := 11, cells := nz - n0, slots := sz9 - s0, locals := 600 }) (va_Pc [.ref Aa0, .int a1] (fun U => U.heap.size = sz ∧ va_P (dC, dI) vwCl (CH cy nb ad0 n0 E0) U.heap ∧ va_K (dC, dI) vwCl (tyL cy) U ∧ va_D (fun _ => True) (CH cy nb ad0 n0 E0) ∧ GL nb (va_A (CH cy nb ad0 n0 E0) sz) U)) (va_Qr (fun (_ : Unit) => True) (fun _ ra t => ∃ ad2 : Nat → Nat, axh n0 ad0 nz ad2 ∧ rf nb ad2 nz ro ra ∧ va_P (dC, dI) vwCl (CH cy nb ad2 nz Ez) t.heap ∧ va_D (va_A (CH cy nb ad0 n0 E0) sz) (CH cy nb ad2 nz Ez)) (va_A (CH cy nb ad0 n0 E0) sz)) (nz - n0) (sz9 - s0) (va_A (CH cy nb ad0 n0 E0) sz) := by
  refine Met.ofW (cc := cJ5_append_c97b9) (maxL := 4) (ret := (some (.object "java/lang/AbstractStringBuilder"))) (by decide) rfl ?_
  intro p e s m args below meth c s₁ B hml hv
  obtain ⟨rfl, hsz, hP, hK, hD0, hE⟩ := hv
  have hx := B.exec
  have hb := B.bytes
  have hr := B.returns
  have hts0 := atoms_spec (ws := (wsg yJ5_append_c97b9 cJ5_append_c97b9 4 (some (.object "java/lang/AbstractStringBuilder")))) B.pre
  have hts : ∀ w ∈ wsL_law, w.before _ s = true := fun w h => hts0 w (List.mem_cons_of_mem _ h)
  have hown : s.vm.findClass RJ5 = some m.cls := by have h9 := findClass_of_methodNamed B.named; exact h9
  subst hsz
  have hD := hD0.self (sz := s.heap.size)
  generalize hAe : va_A (CH cy nb ad0 n0 E0) s.heap.size = A at hD hE ⊢
  have hA : ∀ q : Nat, s.heap.size ≤ q → A q := fun q h => by rw [← hAe]; exact Or.inr h
  have hS : va_S A s.heap s.heap [] := va_S.rf
  have hl := lv_entry ([.ref Aa0, .int a1]) (n := 4) (Nat.le_of_ble_eq_true rfl)
  rw [lg_entry_eq]
  generalize (lg_sl ([.ref Aa0, .int a1]) ++ List.replicate (4 - (lg_sl ([.ref Aa0, .int a1])).length) Slot.unset).toArray = ls at hl ⊢
  have hl : lv_has ls 4 [(0, .ref Aa0), (1, .int a1)] := hl
  generalize hHe : s.heap = H at hP hS ⊢
  have hS : va_S A s.heap H [] := by rw [hHe]; exact hS
  refine my_Q (fun Qn hQ => ?_)
  simp only [H_J5_append_c97b9] at hF
  have hX : axh n0 ad0 n0 ad0 := axh_refl
  have hN : n0 ≤ n0 := Nat.le_refl _
  have hT : s0 ≤ s0 := Nat.le_refl _
  refine W.widen (k := n0 - n0) (n := s0 - s0) (by omega) (by omega) ?_
  refine lv_aload_n hx hb dJ5_append_c97b9_0 rfl (lv_at hl 0 rfl) ?_
  obtain ⟨x1, e2, hF⟩ := mg_o hF
  obtain ⟨fs9, h9, g9⟩ := rdI hP hC ha0 e2
  refine va_get (D := (dC, dI)) (ci := 1) (v := .int x1) (C := RJ4) (T := TJ4) (N := 4) hx hb hts inlJ4 hown hK h9 0 rfl rfl 3 (by decide) (hts _ mw_627) (fun _ h9 => h9) g9 dJ5_append_c97b9_1 ?_
  clear h9 g9
  refine lv_istore_n (lv' := [(2, .int x1), (0, .ref Aa0), (1, .int a1)]) hx hb dJ5_append_c97b9_4 rfl hl (by decide) rfl (fun ls hl => ?_)
  refine lv_iload_n hx hb dJ5_append_c97b9_5 rfl (lv_at hl 0 rfl) ?_
  refine lv_iload_n hx hb dJ5_append_c97b9_6 rfl (lv_at hl 2 rfl) ?_
  obtain ⟨x3, n5, s6, E7, e4, hF⟩ := mb_o hF
  have hm := mle e4
  have hM1 := mle1 hF
  have hM2 := mle2 hF
  have hm1 := hm.1
  have hm2 := hm.2.1
  have hFc := my_free hD hS hA
  refine va_calli (va_runS (As := [.int a1]) (rest := [.int x1]) ⟨hx, hb, hml, hown, hts⟩ (h_J6_stringSize_0f7a4 l dC dI cy nb ad0 n0 s0 E0 hC (a1) H.size x3 n5 s6 E7 e4) (va_cwS 1 hts (gS mw_743 mw_744 mw_311 mw_745) rfl rfl rfl (by decide +kernel) ⟨Nat.le_of_ble_eq_true rfl, Nat.le_of_ble_eq_true rfl⟩) (hl_preS hP hK hD hE hS hFc) rfl rfl hl.1 rfl (lv_room (Nat.le_of_ble_eq_true rfl)) dJ5_append_c97b9_7 ⟨show n0 - n0 + (n5 - n0) ≤ nz - n0 by omega, show s0 - s0 + (s6 - s0) ≤ sz9 - s0 by omega⟩) hS (fun q _ h => hFc q h) hFc (fun r9 u t H1 locs ht hvm hw hB hz1 hk1 hS => ?_)
  obtain ⟨ad8, hax, hP1, hD1⟩ := hB
  rw [ht] at hP1
  have hP := hP1
  have hD := hD1.weaken (fun k q _ h => hFc q.1 h)
  generalize H1 = H at hP hS ⊢
  have ha0 := ha0.mv hC.1 hax
  have hX := hX.trans hax
  have hC := hm.2.2 hC
  have hN : n0 ≤ n5 := Nat.le_trans hN hm1
  have hT : s0 ≤ s6 := Nat.le_trans hT hm2
  refine W.widen (k := n5 - n0) (n := s6 - s0) (by omega) (by omega) ?_
  clear hP1 hD1 hFc hk1 hz1 hvm ht hax hm hm1 hm2 hM1 hM2
  obtain rfl := hw.symm
  refine lv_iadd hx hb dJ5_append_c97b9_10 ?_
  refine lv_istore_n (lv' := [(3, .int (x1 + x3)), (2, .int x1), (0, .ref Aa0), (1, .int a1)]) hx hb dJ5_append_c97b9_11 rfl hl (by decide) rfl (fun ls hl => ?_)
  refine lv_aload_n hx hb dJ5_append_c97b9_12 rfl (lv_at hl 2 rfl) ?_
  refine lv_iload_n hx hb dJ5_append_c97b9_13 rfl (lv_at hl 0 rfl) ?_
  obtain ⟨fs9, e9, hF⟩ := mg_o hF
  obtain ⟨⟨⟩, n11, s12, E13, e10, hF⟩ := mb_o hF
  have hm := mle e10
  have hM1 := mle1 hF
  have hM2 := mle2 hF
  have hm1 := hm.1
  have hm2 := hm.2.1
  have hFc := my_free hD hS hA
  refine va_callv (va_runV (C := RJ4) (As := [.int (x1 + x3)]) (rest := []) ⟨hx, hb, hml, hown, hts⟩ (h_J5_ensureCapacityInternal_d00df l dC dI cy nb ad8 n5 s6 E7 hC (a0) Aa0 ha0 ((x1 + x3)) H.size n11 s12 E13 e10) (cwV 1 hts (gV mw_633 mw_636 mw_635 mw_8 mw_637) rfl rfl rfl (by decide +kernel) ⟨Nat.le_of_ble_eq_true rfl, Nat.le_of_ble_eq_true rfl⟩) (hl_preV hP hK hD hE hS hFc (va_recv hK (rdO_ hP hC ha0 e9) (ci := 1) (q0 := 0) rfl rfl)) rfl rfl hl.1 rfl (lv_room (Nat.le_of_ble_eq_true rfl)) dJ5_append_c97b9_14 ⟨show n5 - n0 + (n11 - n5) ≤ nz - n0 by omega, show s6 - s0 + (s12 - s6) ≤ sz9 - s0 by omega⟩) hS (fun q _ h => hFc q h) hFc (fun u t H1 locs ht hvm hw hB hz1 hk1 hS => ?_)
  obtain ⟨ad14, hax, hP1, hD1⟩ := hB
  rw [ht] at hP1
  have hP := hP1
  have hD := hD1.weaken (fun k q _ h => hFc q.1 h)
  generalize H1 = H at hP hS ⊢
  have ha0 := ha0.mv hC.1 hax
  have hX := hX.trans hax
  have hC := hm.2.2 hC
  have hN : n0 ≤ n11 := Nat.le_trans hN hm1
  have hT : s0 ≤ s12 := Nat.le_trans hT hm2
  refine W.widen (k := n11 - n0) (n := s12 - s0) (by omega) (by omega) ?_
  clear hP1 hD1 hFc hk1 hz1 hvm ht hax hm hm1 hm2 hM1 hM2
  refine lv_aload_n hx hb dJ5_append_c97b9_17 rfl (lv_at hl 2 rfl) ?_
  obtain ⟨fs9, e15, hF⟩ := mg_o hF
  obtain ⟨x16, n18, s19, E20, e17, hF⟩ := mb_o hF
  have hm := mle e17
  have hM1 := mle1 hF
  have hM2 := mle2 hF
  have hm1 := hm.1
  have hm2 := hm.2.1
  have hFc := my_free hD hS hA
  refine va_calli (va_runV (C := RJ4) (As := []) (rest := []) ⟨hx, hb, hml, hown, hts⟩ (h_J5_isLatin1_aae02 l dC dI cy nb ad14 n11 s12 E13 hC (a0) Aa0 ha0 H.size x16 n18 s19 E20 e17) (cwV 0 hts (gV mw_669 mw_672 mw_671 mw_8 mw_673) rfl rfl rfl (by decide +kernel) ⟨Nat.le_of_ble_eq_true rfl, Nat.le_of_ble_eq_true rfl⟩) (hl_preV hP hK hD hE hS hFc (va_recv hK (rdO_ hP hC ha0 e15) (ci := 1) (q0 := 0) rfl rfl)) rfl rfl hl.1 rfl (lv_room (Nat.le_of_ble_eq_true rfl)) dJ5_append_c97b9_18 ⟨show n11 - n0 + (n18 - n11) ≤ nz - n0 by omega, show s12 - s0 + (s19 - s12) ≤ sz9 - s0 by omega⟩) hS (fun q _ h => hFc q h) hFc (fun r9 u t H1 locs ht hvm hw hB hz1 hk1 hS => ?_)
  obtain ⟨ad21, hax, hP1, hD1⟩ := hB
  rw [ht] at hP1
  have hP := hP1
  have hD := hD1.weaken (fun k q _ h => hFc q.1 h)
  generalize H1 = H at hP hS ⊢
  have ha0 := ha0.mv hC.1 hax
  have hX := hX.trans hax
  have hC := hm.2.2 hC
  have hN : n0 ≤ n18 := Nat.le_trans hN hm1
  have hT : s0 ≤ s19 := Nat.le_trans hT hm2
  refine W.widen (k := n18 - n0) (n := s19 - s0) (by omega) (by omega) ?_
  clear hP1 hD1 hFc hk1 hz1 hvm ht hax hm hm1 hm2 hM1 hM2
  obtain rfl := hw.symm
  refine lv_if_eq (tgt := 37) hx hb dJ5_append_c97b9_21 (by decide) (fun c22 => ?_) (fun c22 => ?_)
  · skip
    rw [if_pos c22] at hF
    refine lv_iload_n hx hb dJ5_append_c97b9_37 rfl (lv_at hl 3 rfl) ?_
    refine lv_iload_n hx hb dJ5_append_c97b9_38 rfl (lv_at hl 1 rfl) ?_
    refine lv_iload_n hx hb dJ5_append_c97b9_39 rfl (lv_at hl 0 rfl) ?_
    refine lv_aload_n hx hb dJ5_append_c97b9_40 rfl (lv_at hl 2 rfl) ?_
    obtain ⟨x23, e24, hF⟩ := mg_o hF
    obtain ⟨hr25, fs9, h9, g9⟩ := rdR hP hC ha0 e24
    refine va_get (D := (dC, dI)) (ci := 1) (v := .ref (AD nb ad21 x23)) (C := RJ4) (T := TJ4) (N := 4) hx hb hts inlJ4 hown hK h9 0 rfl rfl 0 (by decide) (hts _ mw_590) (fun _ h9 => h9) g9 dJ5_append_c97b9_41 ?_
    clear h9 g9
    exact (m0_o hF).elim
  · skip
    rw [if_neg c22] at hF
    refine lv_iload_n hx hb dJ5_append_c97b9_24 rfl (lv_at hl 3 rfl) ?_
    refine lv_iload_n hx hb dJ5_append_c97b9_25 rfl (lv_at hl 0 rfl) ?_
    refine lv_aload_n hx hb dJ5_append_c97b9_26 rfl (lv_at hl 2 rfl) ?_
    obtain ⟨x26, e27, hF⟩ := mg_o hF
    obtain ⟨hr28, fs9, h9, g9⟩ := rdR hP hC ha0 e27
    refine va_get (D := (dC, dI)) (ci := 1) (v := .ref (AD nb ad21 x26)) (C := RJ4) (T := TJ4) (N := 4) hx hb hts inlJ4 hown hK h9 0 rfl rfl 0 (by decide) (hts _ mw_590) (fun _ h9 => h9) g9 dJ5_append_c97b9_27 ?_
    clear h9 g9
    obtain ⟨x29, n31, s32, E33, e30, hF⟩ := mb_o hF
    have hm := mle e30
    have hM1 := mle1 hF
    have hM2 := mle2 hF
    have hm1 := hm.1
    have hm2 := hm.2.1
    have hFc := my_free hD hS hA
    refine va_calli (va_runS (As := [.int a1, .int (x1 + x3), .ref (AD nb ad21 x26)]) (rest := []) ⟨hx, hb, hml, hown, hts⟩ (h_J6_getChars_ba4f3 l dC dI cy nb ad21 n18 s19 E20 hC (a1) ((x1 + x3)) (x26) (AD nb ad21 x26) hr28 H.size x29 n31 s32 E33 e30) (va_cwS 3 hts (gS mw_746 mw_747 mw_311 mw_748) rfl rfl rfl (by decide +kernel) ⟨Nat.le_of_ble_eq_true rfl, Nat.le_of_ble_eq_true rfl⟩) (hl_preS hP hK hD hE hS hFc) rfl rfl hl.1 rfl (lv_room (Nat.le_of_ble_eq_true rfl)) dJ5_append_c97b9_30 ⟨show n18 - n0 + (n31 - n18) ≤ nz - n0 by omega, show s19 - s0 + (s32 - s19) ≤ sz9 - s0 by omega⟩) hS (fun q _ h => hFc q h) hFc (fun r9 u t H1 locs ht hvm hw hB hz1 hk1 hS => ?_)
    obtain ⟨ad34, hax, hP1, hD1⟩ := hB
    rw [ht] at hP1
    have hP := hP1
    have hD := hD1.weaken (fun k q _ h => hFc q.1 h)
    generalize H1 = H at hP hS ⊢
    have ha0 := ha0.mv hC.1 hax
    have hX := hX.trans hax
    have hC := hm.2.2 hC
    have hN : n0 ≤ n31 := Nat.le_trans hN hm1
    have hT : s0 ≤ s32 := Nat.le_trans hT hm2
    refine W.widen (k := n31 - n0) (n := s32 - s0) (by omega) (by omega) ?_
    clear hP1 hD1 hFc hk1 hz1 hvm ht hax hm hm1 hm2 hM1 hM2
    obtain rfl := hw.symm
    refine lv_pop hx hb dJ5_append_c97b9_33 rfl ?_
    refine lv_goto (tgt := 48) hx hb dJ5_append_c97b9_34 (by decide) ?_
    refine lv_aload_n hx hb dJ5_append_c97b9_48 rfl (lv_at hl 2 rfl) ?_
    refine lv_iload_n hx hb dJ5_append_c97b9_49 rfl (lv_at hl 0 rfl) ?_
    obtain ⟨E35, e36, hF⟩ := mw_o hF
    obtain ⟨q9, fs9, h9, ez9⟩ := wrI (cy := cy) hC ha0 e36
    refine va_put (D := (dC, dI)) (ci := 1) (v := .int (x1 + x3)) (ty := .int) (C := RJ4) (T := TJ4) (N := 4) hx hb hts inlJ4 tyJ4 tyJ4_ok nmJ4 hown hK hP hD hS q9 h9 rfl 3 (by decide) (hts _ mw_627) (fun _ h9 => h9) rfl (by decide +kernel) rfl rfl (Nat.le_of_ble_eq_true rfl) dJ5_append_c97b9_50 (fun H locs hP hD hS => ?_)
    rw [ez9] at hP hD
    clear ez9 h9
    have hC := sI_clo e36 hC
    refine lv_aload_n hx hb dJ5_append_c97b9_53 rfl (lv_at hl 2 rfl) ?_
    obtain ⟨ht9, hn9, hs9, hE9⟩ := mr_o hF
    subst hn9 hs9 hE9
    have hX9 := hX
    rw [hQ]
    exact W.aret (v := .ref Aa0) hx hb hr (by first | exact Or.inl ⟨_, rfl⟩ | exact Or.inr ⟨_, rfl⟩) (Or.inr ⟨_, rfl⟩) (fun t ht hW => ⟨⟨(), Aa0, rfl, trivial, _, hX, (by rw [← ht9]; exact ha0), by rw [ht]; exact hP, hD⟩, hS.F ht⟩) hS.2.2 dJ5_append_c97b9_54
noncomputable def H_J4_append_bf812 (a0 : Nat) (a1 : Int32) : MH Nat := mb (mg fun n E => fO n E (a0) 1) fun _ => mb (H_J5_append_c97b9 (a0) (a1)) fun x2 => mr a0
set_option maxHeartbeats 4000000 in
set_option maxRecDepth 100000 in
theorem h_J4_append_bf812 (l : Launch) (dC : Nat → ClassId) (dI : Nat → Nat → Nat) (cy : Nat → ClassId) (nb : Nat → Nat) (ad0 : Nat → Nat) (n0 s0 : Nat) (E0 : HE) (hC : clo n0 E0) (a0 Aa0 : Nat) (ha0 : rf nb ad0 n0 a0 Aa0) (a1 : Int32) (sz : Nat) (ro : Nat) (nz sz9 : Nat) (Ez : HE) (hF : (H_J4_append_bf812 a0 a1).1 (n0, s0, E0) = some (ro, nz, sz9, Ez)) : Met l yJ4_append_bf812 (wsg yJ4_append_bf812 cJ4_append_bf812 2 (some (.object "java/lang/StringBuilder"))) ({ frames := 12, cells := nz - n0, slots := sz9 - s0, locals := 700 }) (va_Pc [.ref Aa0, .int a1] (fun U => U.heap.size = sz ∧ va_P (dC, dI) vwCl (CH cy nb ad0 n0 E0) U.heap ∧ va_K (dC, dI) vwCl (tyL cy) U ∧ va_D (fun _ => True) (CH cy nb ad0 n0 E0) ∧ GL nb (va_A (CH cy nb ad0 n0 E0) sz) U)) (va_Qr (fun (_ : Unit) => True) (fun _ ra t => ∃ ad2 : Nat → Nat, axh n0 ad0 nz ad2 ∧ rf nb ad2 nz ro ra ∧ va_P (dC, dI) vwCl (CH cy nb ad2 nz Ez) t.heap ∧ va_D (va_A (CH cy nb ad0 n0 E0) sz) (CH cy nb ad2 nz Ez)) (va_A (CH cy nb ad0 n0 E0) sz)) (nz - n0) (sz9 - s0) (va_A (CH cy nb ad0 n0 E0) sz) := by
  refine Met.ofW (cc := cJ4_append_bf812) (maxL := 2) (ret := (some (.object "java/lang/StringBuilder"))) (by decide) rfl ?_
  intro p e s m args below meth c s₁ B hml hv
  obtain ⟨rfl, hsz, hP, hK, hD0, hE⟩ := hv
  have hx := B.exec
  have hb := B.bytes
  have hr := B.returns
  have hts0 := atoms_spec (ws := (wsg yJ4_append_bf812 cJ4_append_bf812 2 (some (.object "java/lang/StringBuilder")))) B.pre
  have hts : ∀ w ∈ wsL_law, w.before _ s = true := fun w h => hts0 w (List.mem_cons_of_mem _ h)
  have hown : s.vm.findClass RJ4 = some m.cls := by have h9 := findClass_of_methodNamed B.named; exact h9
  subst hsz
  have hD := hD0.self (sz := s.heap.size)
  generalize hAe : va_A (CH cy nb ad0 n0 E0) s.heap.size = A at hD hE ⊢
  have hA : ∀ q : Nat, s.heap.size ≤ q → A q := fun q h => by rw [← hAe]; exact Or.inr h
  have hS : va_S A s.heap s.heap [] := va_S.rf
  have hl := lv_entry ([.ref Aa0, .int a1]) (n := 2) (Nat.le_of_ble_eq_true rfl)
  rw [lg_entry_eq]
  generalize (lg_sl ([.ref Aa0, .int a1]) ++ List.replicate (2 - (lg_sl ([.ref Aa0, .int a1])).length) Slot.unset).toArray = ls at hl ⊢
  have hl : lv_has ls 2 [(0, .ref Aa0), (1, .int a1)] := hl
  generalize hHe : s.heap = H at hP hS ⊢
  have hS : va_S A s.heap H [] := by rw [hHe]; exact hS
  refine my_Q (fun Qn hQ => ?_)
  simp only [H_J4_append_bf812] at hF
  have hX : axh n0 ad0 n0 ad0 := axh_refl
  have hN : n0 ≤ n0 := Nat.le_refl _
  have hT : s0 ≤ s0 := Nat.le_refl _
  refine W.widen (k := n0 - n0) (n := s0 - s0) (by omega) (by omega) ?_
  refine lv_aload_n hx hb dJ4_append_bf812_0 rfl (lv_at hl 0 rfl) ?_
  refine lv_iload_n hx hb dJ4_append_bf812_1 rfl (lv_at hl 1 rfl) ?_
  obtain ⟨fs9, e1, hF⟩ := mg_o hF
  obtain ⟨x2, n4, s5, E6, e3, hF⟩ := mb_o hF
  have hm := mle e3
  have hM1 := mle1 hF
  have hM2 := mle2 hF
  have hm1 := hm.1
  have hm2 := hm.2.1
  have hFc := my_free hD hS hA
  refine va_callr (va_runSU (C := RJ4) (As := [.int a1]) (rest := []) (hK.1 1 _ rfl).2 ⟨hx, hb, hml, hown, hts⟩ (h_J5_append_c97b9 l dC dI cy nb ad0 n0 s0 E0 hC (a0) Aa0 ha0 (a1) H.size x2 n4 s5 E6 e3) (va_cwSU 1 hts (gSU mw_739 mw_740 mw_624 mw_741 mw_586 mw_742) rfl rfl rfl (by decide +kernel) ⟨Nat.le_of_ble_eq_true rfl, Nat.le_of_ble_eq_true rfl⟩) (hl_preV hP hK hD hE hS hFc (va_recv hK (rdO_ hP hC ha0 e1) (ci := 1) (q0 := 0) rfl rfl)) rfl rfl hl.1 rfl (lv_room (Nat.le_of_ble_eq_true rfl)) dJ4_append_bf812_2 ⟨show n0 - n0 + (n4 - n0) ≤ nz - n0 by omega, show s0 - s0 + (s5 - s0) ≤ sz9 - s0 by omega⟩) hS (fun q _ h => hFc q h) hFc (fun u ra t H1 locs ht hvm hw hB hz1 hk1 hS => ?_)
  obtain ⟨ad7, hax, hr8, hP1, hD1⟩ := hB
  rw [ht] at hP1
  have hP := hP1
  have hD := hD1.weaken (fun k q _ h => hFc q.1 h)
  generalize H1 = H at hP hS ⊢
  have ha0 := ha0.mv hC.1 hax
  have hX := hX.trans hax
  have hC := hm.2.2 hC
  have hN : n0 ≤ n4 := Nat.le_trans hN hm1
  have hT : s0 ≤ s5 := Nat.le_trans hT hm2
  refine W.widen (k := n4 - n0) (n := s5 - s0) (by omega) (by omega) ?_
  clear hP1 hD1 hFc hk1 hz1 hvm ht hax hm hm1 hm2 hM1 hM2
  refine my_top (y := .ref (AD nb ad7 x2)) (congrArg Value.ref hr8.2.symm) ?_
  have hr8 := rf_self hr8
  refine lv_pop hx hb dJ4_append_bf812_5 rfl ?_
  refine lv_aload_n hx hb dJ4_append_bf812_6 rfl (lv_at hl 0 rfl) ?_
  obtain ⟨ht9, hn9, hs9, hE9⟩ := mr_o hF
  subst hn9 hs9 hE9
  have hX9 := hX
  rw [hQ]
  exact W.aret (v := .ref Aa0) hx hb hr (by first | exact Or.inl ⟨_, rfl⟩ | exact Or.inr ⟨_, rfl⟩) (Or.inr ⟨_, rfl⟩) (fun t ht hW => ⟨⟨(), Aa0, rfl, trivial, _, hX, (by rw [← ht9]; exact ha0), by rw [ht]; exact hP, hD⟩, hS.F ht⟩) hS.2.2 dJ4_append_bf812_7
noncomputable def H_J5_getBytes_840e7 (a0 : Nat) (a1 : Nat) (a2 : Int32) (a3 : Int32) : MH Unit := mb (rI (a0) 1 1) fun x1 => if x1 = a3 then (mb (rR (a0) 1 0) fun x9 => mb (rI (a0) 1 3) fun x12 => mb (mcB (x9) (0) (a1) ((a2 <<< (a3 &&& 31))) ((x12 <<< (a3 &&& 31)))) fun _ => mr ()) else (mb (rR (a0) 1 0) fun x4 => mb (rI (a0) 1 3) fun x7 => m0)
set_option maxHeartbeats 4000000 in
set_option maxRecDepth 100000 in
theorem h_J5_getBytes_840e7 (l : Launch) (dC : Nat → ClassId) (dI : Nat → Nat → Nat) (cy : Nat → ClassId) (nb : Nat → Nat) (ad0 : Nat → Nat) (n0 s0 : Nat) (E0 : HE) (hC : clo n0 E0) (a0 Aa0 : Nat) (ha0 : rf nb ad0 n0 a0 Aa0) (a1 Aa1 : Nat) (ha1 : rf nb ad0 n0 a1 Aa1) (a2 : Int32) (a3 : Int32) (sz : Nat) (nz sz9 : Nat) (Ez : HE) (hF : (H_J5_getBytes_840e7 a0 a1 a2 a3).1 (n0, s0, E0) = some ((), nz, sz9, Ez)) : Met l yJ5_getBytes_840e7 (wsg yJ5_getBytes_840e7 cJ5_getBytes_840e7 4 none) ({ frames := 8, cells := nz - n0, slots := sz9 - s0, locals := 300 }) (va_Pc [.ref Aa0, .ref Aa1, .int a2, .int a3] (fun U => U.heap.size = sz ∧ va_P (dC, dI) vwCl (CH cy nb ad0 n0 E0) U.heap ∧ va_K (dC, dI) vwCl (tyL cy) U ∧ va_D (fun _ => True) (CH cy nb ad0 n0 E0) ∧ GL nb (va_A (CH cy nb ad0 n0 E0) sz) U)) (va_Qv (fun (_ : Unit) => True) (fun _ t => ∃ ad2 : Nat → Nat, axh n0 ad0 nz ad2 ∧ va_P (dC, dI) vwCl (CH cy nb ad2 nz Ez) t.heap ∧ va_D (va_A (CH cy nb ad0 n0 E0) sz) (CH cy nb ad2 nz Ez)) (va_A (CH cy nb ad0 n0 E0) sz)) (nz - n0) (sz9 - s0) (va_A (CH cy nb ad0 n0 E0) sz) := by
  refine Met.ofW (cc := cJ5_getBytes_840e7) (maxL := 4) (ret := none) (by decide) rfl ?_
  intro p e s m args below meth c s₁ B hml hv
  obtain ⟨rfl, hsz, hP, hK, hD0, hE⟩ := hv
  have hx := B.exec
  have hb := B.bytes
  have hr := B.returns
  have hts0 := atoms_spec (ws := (wsg yJ5_getBytes_840e7 cJ5_getBytes_840e7 4 none)) B.pre
  have hts : ∀ w ∈ wsL_law, w.before _ s = true := fun w h => hts0 w (List.mem_cons_of_mem _ h)
  have hown : s.vm.findClass RJ5 = some m.cls := by have h9 := findClass_of_methodNamed B.named; exact h9
  subst hsz
  have hD := hD0.self (sz := s.heap.size)
  generalize hAe : va_A (CH cy nb ad0 n0 E0) s.heap.size = A at hD hE ⊢
  have hA : ∀ q : Nat, s.heap.size ≤ q → A q := fun q h => by rw [← hAe]; exact Or.inr h
  have hS : va_S A s.heap s.heap [] := va_S.rf
  have hl := lv_entry ([.ref Aa0, .ref Aa1, .int a2, .int a3]) (n := 4) (Nat.le_of_ble_eq_true rfl)
  rw [lg_entry_eq]
  generalize (lg_sl ([.ref Aa0, .ref Aa1, .int a2, .int a3]) ++ List.replicate (4 - (lg_sl ([.ref Aa0, .ref Aa1, .int a2, .int a3])).length) Slot.unset).toArray = ls at hl ⊢
  have hl : lv_has ls 4 [(0, .ref Aa0), (1, .ref Aa1), (2, .int a2), (3, .int a3)] := hl
  generalize hHe : s.heap = H at hP hS ⊢
  have hS : va_S A s.heap H [] := by rw [hHe]; exact hS
  refine my_Q (fun Qn hQ => ?_)
  simp only [H_J5_getBytes_840e7] at hF
  have hX : axh n0 ad0 n0 ad0 := axh_refl
  have hN : n0 ≤ n0 := Nat.le_refl _
  have hT : s0 ≤ s0 := Nat.le_refl _
  refine W.widen (k := n0 - n0) (n := s0 - s0) (by omega) (by omega) ?_
  refine lv_aload_n hx hb dJ5_getBytes_840e7_0 rfl (lv_at hl 0 rfl) ?_
  obtain ⟨x1, e2, hF⟩ := mg_o hF
  obtain ⟨fs9, h9, g9⟩ := rdI hP hC ha0 e2
  refine va_get (D := (dC, dI)) (ci := 1) (v := .int x1) (C := RJ4) (T := TJ4) (N := 4) hx hb hts inlJ4 hown hK h9 0 rfl rfl 1 (by decide) (hts _ mw_591) (fun _ h9 => h9) g9 dJ5_getBytes_840e7_1 ?_
  clear h9 g9
  refine lv_iload_n hx hb dJ5_getBytes_840e7_4 rfl (lv_at hl 3 rfl) ?_
  refine lv_icmp_ne (tgt := 29) hx hb dJ5_getBytes_840e7_5 (by decide) (fun c3 => ?_) (fun c3 => ?_)
  · skip
    rw [if_neg c3] at hF
    refine lv_aload_n hx hb dJ5_getBytes_840e7_29 rfl (lv_at hl 0 rfl) ?_
    obtain ⟨x4, e5, hF⟩ := mg_o hF
    obtain ⟨hr6, fs9, h9, g9⟩ := rdR hP hC ha0 e5
    refine va_get (D := (dC, dI)) (ci := 1) (v := .ref (AD nb ad0 x4)) (C := RJ4) (T := TJ4) (N := 4) hx hb hts inlJ4 hown hK h9 0 rfl rfl 0 (by decide) (hts _ mw_590) (fun _ h9 => h9) g9 dJ5_getBytes_840e7_30 ?_
    clear h9 g9
    refine lv_iconst (v := 0) hx hb dJ5_getBytes_840e7_33 (by decide) ?_
    refine lv_aload_n hx hb dJ5_getBytes_840e7_34 rfl (lv_at hl 1 rfl) ?_
    refine lv_iload_n hx hb dJ5_getBytes_840e7_35 rfl (lv_at hl 2 rfl) ?_
    refine lv_aload_n hx hb dJ5_getBytes_840e7_36 rfl (lv_at hl 0 rfl) ?_
    obtain ⟨x7, e8, hF⟩ := mg_o hF
    obtain ⟨fs9, h9, g9⟩ := rdI hP hC ha0 e8
    refine va_get (D := (dC, dI)) (ci := 1) (v := .int x7) (C := RJ4) (T := TJ4) (N := 4) hx hb hts inlJ4 hown hK h9 0 rfl rfl 3 (by decide) (hts _ mw_627) (fun _ h9 => h9) g9 dJ5_getBytes_840e7_37 ?_
    clear h9 g9
    exact (m0_o hF).elim
  · skip
    rw [if_pos c3] at hF
    refine lv_aload_n hx hb dJ5_getBytes_840e7_8 rfl (lv_at hl 0 rfl) ?_
    obtain ⟨x9, e10, hF⟩ := mg_o hF
    obtain ⟨hr11, fs9, h9, g9⟩ := rdR hP hC ha0 e10
    refine va_get (D := (dC, dI)) (ci := 1) (v := .ref (AD nb ad0 x9)) (C := RJ4) (T := TJ4) (N := 4) hx hb hts inlJ4 hown hK h9 0 rfl rfl 0 (by decide) (hts _ mw_590) (fun _ h9 => h9) g9 dJ5_getBytes_840e7_9 ?_
    clear h9 g9
    refine lv_iconst (v := 0) hx hb dJ5_getBytes_840e7_12 (by decide) ?_
    refine lv_aload_n hx hb dJ5_getBytes_840e7_13 rfl (lv_at hl 1 rfl) ?_
    refine lv_iload_n hx hb dJ5_getBytes_840e7_14 rfl (lv_at hl 2 rfl) ?_
    refine lv_iload_n hx hb dJ5_getBytes_840e7_15 rfl (lv_at hl 3 rfl) ?_
    refine lv_ishl hx hb dJ5_getBytes_840e7_16 ?_
    refine lv_aload_n hx hb dJ5_getBytes_840e7_17 rfl (lv_at hl 0 rfl) ?_
    obtain ⟨x12, e13, hF⟩ := mg_o hF
    obtain ⟨fs9, h9, g9⟩ := rdI hP hC ha0 e13
    refine va_get (D := (dC, dI)) (ci := 1) (v := .int x12) (C := RJ4) (T := TJ4) (N := 4) hx hb hts inlJ4 hown hK h9 0 rfl rfl 3 (by decide) (hts _ mw_627) (fun _ h9 => h9) g9 dJ5_getBytes_840e7_18 ?_
    clear h9 g9
    refine lv_iload_n hx hb dJ5_getBytes_840e7_21 rfl (lv_at hl 3 rfl) ?_
    refine lv_ishl hx hb dJ5_getBytes_840e7_22 ?_
    obtain ⟨E14, e15, hF⟩ := mw_o hF
    refine hs_copyB hx hb (hml.trans hl.1.symm) hown (hts _ mw_910) (hts _ mw_358) (hts _ mw_359) (hts _ mw_360) hK hP hD hC hE hS hr11 ha1 e15 (Nat.le_of_ble_eq_true rfl) (Nat.le_of_ble_eq_true rfl) dJ5_getBytes_840e7_23 (fun H locs hP hD hS => ?_)
    have hC := cpB_clo e15 hC
    refine lv_goto (tgt := 43) hx hb dJ5_getBytes_840e7_26 (by decide) ?_
    obtain ⟨ht9, hn9, hs9, hE9⟩ := mr_o hF
    subst hn9 hs9 hE9
    have hX9 := hX
    rw [hQ]
    exact W.vret hx hb hr (fun t ht hW => ⟨⟨(), rfl, trivial, _, hX, by rw [ht]; exact hP, hD⟩, hS.F ht⟩) hS.2.2 dJ5_getBytes_840e7_43
noncomputable def H_J5_inflateIfNeededFor_56e69 (a0 : Nat) (a1 : Nat) : MH Unit := mb (rI (a0) 1 1) fun x1 => mb (mg fun n E => fO n E (a1) 1) fun _ => mb (H_J5_getCoder_7d493 (a1)) fun x4 => if x1 = x4 then (mr ()) else (m0)
set_option maxHeartbeats 4000000 in
set_option maxRecDepth 100000 in
theorem h_J5_inflateIfNeededFor_56e69 (l : Launch) (dC : Nat → ClassId) (dI : Nat → Nat → Nat) (cy : Nat → ClassId) (nb : Nat → Nat) (ad0 : Nat → Nat) (n0 s0 : Nat) (E0 : HE) (hC : clo n0 E0) (a0 Aa0 : Nat) (ha0 : rf nb ad0 n0 a0 Aa0) (a1 Aa1 : Nat) (ha1 : rf nb ad0 n0 a1 Aa1) (sz : Nat) (nz sz9 : Nat) (Ez : HE) (hF : (H_J5_inflateIfNeededFor_56e69 a0 a1).1 (n0, s0, E0) = some ((), nz, sz9, Ez)) : Met l yJ5_inflateIfNeededFor_56e69 (wsg yJ5_inflateIfNeededFor_56e69 cJ5_inflateIfNeededFor_56e69 2 none) ({ frames := 9, cells := nz - n0, slots := sz9 - s0, locals := 400 }) (va_Pc [.ref Aa0, .ref Aa1] (fun U => U.heap.size = sz ∧ va_P (dC, dI) vwCl (CH cy nb ad0 n0 E0) U.heap ∧ va_K (dC, dI) vwCl (tyL cy) U ∧ va_D (fun _ => True) (CH cy nb ad0 n0 E0) ∧ GL nb (va_A (CH cy nb ad0 n0 E0) sz) U)) (va_Qv (fun (_ : Unit) => True) (fun _ t => ∃ ad2 : Nat → Nat, axh n0 ad0 nz ad2 ∧ va_P (dC, dI) vwCl (CH cy nb ad2 nz Ez) t.heap ∧ va_D (va_A (CH cy nb ad0 n0 E0) sz) (CH cy nb ad2 nz Ez)) (va_A (CH cy nb ad0 n0 E0) sz)) (nz - n0) (sz9 - s0) (va_A (CH cy nb ad0 n0 E0) sz) := by
  refine Met.ofW (cc := cJ5_inflateIfNeededFor_56e69) (maxL := 2) (ret := none) (by decide) rfl ?_
  intro p e s m args below meth c s₁ B hml hv
  obtain ⟨rfl, hsz, hP, hK, hD0, hE⟩ := hv
  have hx := B.exec
  have hb := B.bytes
  have hr := B.returns
  have hts0 := atoms_spec (ws := (wsg yJ5_inflateIfNeededFor_56e69 cJ5_inflateIfNeededFor_56e69 2 none)) B.pre
  have hts : ∀ w ∈ wsL_law, w.before _ s = true := fun w h => hts0 w (List.mem_cons_of_mem _ h)
  have hown : s.vm.findClass RJ5 = some m.cls := by have h9 := findClass_of_methodNamed B.named; exact h9
  subst hsz
  have hD := hD0.self (sz := s.heap.size)
  generalize hAe : va_A (CH cy nb ad0 n0 E0) s.heap.size = A at hD hE ⊢
  have hA : ∀ q : Nat, s.heap.size ≤ q → A q := fun q h => by rw [← hAe]; exact Or.inr h
  have hS : va_S A s.heap s.heap [] := va_S.rf
  have hl := lv_entry ([.ref Aa0, .ref Aa1]) (n := 2) (Nat.le_of_ble_eq_true rfl)
  rw [lg_entry_eq]
  generalize (lg_sl ([.ref Aa0, .ref Aa1]) ++ List.replicate (2 - (lg_sl ([.ref Aa0, .ref Aa1])).length) Slot.unset).toArray = ls at hl ⊢
  have hl : lv_has ls 2 [(0, .ref Aa0), (1, .ref Aa1)] := hl
  generalize hHe : s.heap = H at hP hS ⊢
  have hS : va_S A s.heap H [] := by rw [hHe]; exact hS
  refine my_Q (fun Qn hQ => ?_)
  simp only [H_J5_inflateIfNeededFor_56e69] at hF
  have hX : axh n0 ad0 n0 ad0 := axh_refl
  have hN : n0 ≤ n0 := Nat.le_refl _
  have hT : s0 ≤ s0 := Nat.le_refl _
  refine W.widen (k := n0 - n0) (n := s0 - s0) (by omega) (by omega) ?_
  refine va_gets (C := "java/lang/String") (n := "COMPACT_STRINGS") (d := "Z") (ref := "java/lang/String") (v := .int 1) hx hb hE.ge.cs hS hown (hts _ mw_589) (fun _ h9 => h9) dJ5_inflateIfNeededFor_56e69_0 ?_
  refine lv_if_eq (tgt := 21) hx hb dJ5_inflateIfNeededFor_56e69_3 (by decide) (fun h => absurd h (by decide)) (fun _ => ?_)
  refine lv_aload_n hx hb dJ5_inflateIfNeededFor_56e69_6 rfl (lv_at hl 0 rfl) ?_
  obtain ⟨x1, e2, hF⟩ := mg_o hF
  obtain ⟨fs9, h9, g9⟩ := rdI hP hC ha0 e2
  refine va_get (D := (dC, dI)) (ci := 1) (v := .int x1) (C := RJ4) (T := TJ4) (N := 4) hx hb hts inlJ4 hown hK h9 0 rfl rfl 1 (by decide) (hts _ mw_591) (fun _ h9 => h9) g9 dJ5_inflateIfNeededFor_56e69_7 ?_
  clear h9 g9
  refine lv_aload_n hx hb dJ5_inflateIfNeededFor_56e69_10 rfl (lv_at hl 1 rfl) ?_
  obtain ⟨fs9, e3, hF⟩ := mg_o hF
  obtain ⟨x4, n6, s7, E8, e5, hF⟩ := mb_o hF
  have hm := mle e5
  have hM1 := mle1 hF
  have hM2 := mle2 hF
  have hm1 := hm.1
  have hm2 := hm.2.1
  have hFc := my_free hD hS hA
  refine va_calli (va_runV (C := RJ4) (As := []) (rest := [.int x1]) ⟨hx, hb, hml, hown, hts⟩ (h_J5_getCoder_7d493 l dC dI cy nb ad0 n0 s0 E0 hC (a1) Aa1 ha1 H.size x4 n6 s7 E8 e5) (cwV 0 hts (gV mw_900 mw_903 mw_902 mw_8 mw_904) rfl rfl rfl (by decide +kernel) ⟨Nat.le_of_ble_eq_true rfl, Nat.le_of_ble_eq_true rfl⟩) (hl_preV hP hK hD hE hS hFc (va_recv hK (rdO_ hP hC ha1 e3) (ci := 1) (q0 := 0) rfl rfl)) rfl rfl hl.1 rfl (lv_room (Nat.le_of_ble_eq_true rfl)) dJ5_inflateIfNeededFor_56e69_11 ⟨show n0 - n0 + (n6 - n0) ≤ nz - n0 by omega, show s0 - s0 + (s7 - s0) ≤ sz9 - s0 by omega⟩) hS (fun q _ h => hFc q h) hFc (fun r9 u t H1 locs ht hvm hw hB hz1 hk1 hS => ?_)
  obtain ⟨ad9, hax, hP1, hD1⟩ := hB
  rw [ht] at hP1
  have hP := hP1
  have hD := hD1.weaken (fun k q _ h => hFc q.1 h)
  generalize H1 = H at hP hS ⊢
  have ha0 := ha0.mv hC.1 hax
  have ha1 := ha1.mv hC.1 hax
  have hX := hX.trans hax
  have hC := hm.2.2 hC
  have hN : n0 ≤ n6 := Nat.le_trans hN hm1
  have hT : s0 ≤ s7 := Nat.le_trans hT hm2
  refine W.widen (k := n6 - n0) (n := s7 - s0) (by omega) (by omega) ?_
  clear hP1 hD1 hFc hk1 hz1 hvm ht hax hm hm1 hm2 hM1 hM2
  obtain rfl := hw.symm
  refine lv_icmp_eq (tgt := 21) hx hb dJ5_inflateIfNeededFor_56e69_14 (by decide) (fun c10 => ?_) (fun c10 => ?_)
  · skip
    rw [if_pos c10] at hF
    obtain ⟨ht9, hn9, hs9, hE9⟩ := mr_o hF
    subst hn9 hs9 hE9
    have hX9 := hX
    rw [hQ]
    exact W.vret hx hb hr (fun t ht hW => ⟨⟨(), rfl, trivial, _, hX, by rw [ht]; exact hP, hD⟩, hS.F ht⟩) hS.2.2 dJ5_inflateIfNeededFor_56e69_21
  · skip
    rw [if_neg c10] at hF
    refine lv_aload_n hx hb dJ5_inflateIfNeededFor_56e69_17 rfl (lv_at hl 0 rfl) ?_
    exact (m0_o hF).elim
noncomputable def H_J5_append_2ceeb (a0 : Nat) (a1 : Nat) : MH Nat := mb (mg fun n E => fO n E (a1) 1) fun _ => mb (H_J4_length_8abf5 (a1)) fun x2 => mb (rI (a0) 1 3) fun x8 => mb (mg fun n E => fO n E (a0) 1) fun _ => mb (H_J5_ensureCapacityInternal_d00df (a0) ((x8 + x2))) fun _ => mb (mg fun n E => fO n E (a0) 1) fun _ => mb (H_J5_inflateIfNeededFor_56e69 (a0) (a1)) fun _ => mb (rR (a0) 1 0) fun x22 => mb (rI (a0) 1 3) fun x25 => mb (rI (a0) 1 1) fun x27 => mb (mg fun n E => fO n E (a1) 1) fun _ => mb (H_J5_getBytes_840e7 (a1) (x22) (x25) (x27)) fun _ => mb (rI (a0) 1 3) fun x35 => mb (wI (a0) 1 3 ((x35 + x2))) fun _ => mb (rI (a0) 1 2) fun x39 => mb (rI (a1) 1 2) fun x41 => mb (mp (nz (x39 ||| x41))) fun x44 => mb (wI (a0) 1 2 (x44)) fun _ => mr a0
set_option maxHeartbeats 4000000 in
set_option maxRecDepth 100000 in
theorem h_J5_append_2ceeb (l : Launch) (dC : Nat → ClassId) (dI : Nat → Nat → Nat) (cy : Nat → ClassId) (nb : Nat → Nat) (ad0 : Nat → Nat) (n0 s0 : Nat) (E0 : HE) (hC : clo n0 E0) (a0 Aa0 : Nat) (ha0 : rf nb ad0 n0 a0 Aa0) (a1 Aa1 : Nat) (ha1 : rf nb ad0 n0 a1 Aa1) (sz : Nat) (ro : Nat) (nz sz9 : Nat) (Ez : HE) (hF : (H_J5_append_2ceeb a0 a1).1 (n0, s0, E0) = some (ro, nz, sz9, Ez)) : Met l yJ5_append_2ceeb (wsg yJ5_append_2ceeb cJ5_append_2ceeb 3 (some (.object "java/lang/AbstractStringBuilder"))) ({ frames := 11, cells := nz - n0, slots := sz9 - s0, locals := 600 }) (va_Pc [.ref Aa0, .ref Aa1] (fun U => U.heap.size = sz ∧ va_P (dC, dI) vwCl (CH cy nb ad0 n0 E0) U.heap ∧ va_K (dC, dI) vwCl (tyL cy) U ∧ va_D (fun _ => True) (CH cy nb ad0 n0 E0) ∧ GL nb (va_A (CH cy nb ad0 n0 E0) sz) U)) (va_Qr (fun (_ : Unit) => True) (fun _ ra t => ∃ ad2 : Nat → Nat, axh n0 ad0 nz ad2 ∧ rf nb ad2 nz ro ra ∧ va_P (dC, dI) vwCl (CH cy nb ad2 nz Ez) t.heap ∧ va_D (va_A (CH cy nb ad0 n0 E0) sz) (CH cy nb ad2 nz Ez)) (va_A (CH cy nb ad0 n0 E0) sz)) (nz - n0) (sz9 - s0) (va_A (CH cy nb ad0 n0 E0) sz) := by
  refine Met.ofW (cc := cJ5_append_2ceeb) (maxL := 3) (ret := (some (.object "java/lang/AbstractStringBuilder"))) (by decide) rfl ?_
  intro p e s m args below meth c s₁ B hml hv
  obtain ⟨rfl, hsz, hP, hK, hD0, hE⟩ := hv
  have hx := B.exec
  have hb := B.bytes
  have hr := B.returns
  have hts0 := atoms_spec (ws := (wsg yJ5_append_2ceeb cJ5_append_2ceeb 3 (some (.object "java/lang/AbstractStringBuilder")))) B.pre
  have hts : ∀ w ∈ wsL_law, w.before _ s = true := fun w h => hts0 w (List.mem_cons_of_mem _ h)
  have hown : s.vm.findClass RJ5 = some m.cls := by have h9 := findClass_of_methodNamed B.named; exact h9
  subst hsz
  have hD := hD0.self (sz := s.heap.size)
  generalize hAe : va_A (CH cy nb ad0 n0 E0) s.heap.size = A at hD hE ⊢
  have hA : ∀ q : Nat, s.heap.size ≤ q → A q := fun q h => by rw [← hAe]; exact Or.inr h
  have hS : va_S A s.heap s.heap [] := va_S.rf
  have hl := lv_entry ([.ref Aa0, .ref Aa1]) (n := 3) (Nat.le_of_ble_eq_true rfl)
  rw [lg_entry_eq]
  generalize (lg_sl ([.ref Aa0, .ref Aa1]) ++ List.replicate (3 - (lg_sl ([.ref Aa0, .ref Aa1])).length) Slot.unset).toArray = ls at hl ⊢
  have hl : lv_has ls 3 [(0, .ref Aa0), (1, .ref Aa1)] := hl
  generalize hHe : s.heap = H at hP hS ⊢
  have hS : va_S A s.heap H [] := by rw [hHe]; exact hS
  refine my_Q (fun Qn hQ => ?_)
  simp only [H_J5_append_2ceeb] at hF
  have hX : axh n0 ad0 n0 ad0 := axh_refl
  have hN : n0 ≤ n0 := Nat.le_refl _
  have hT : s0 ≤ s0 := Nat.le_refl _
  refine W.widen (k := n0 - n0) (n := s0 - s0) (by omega) (by omega) ?_
  refine lv_aload_n hx hb dJ5_append_2ceeb_0 rfl (lv_at hl 1 rfl) ?_
  refine lv_ifnonnull (tgt := 9) hx hb dJ5_append_2ceeb_1 (by decide) ?_
  refine lv_aload_n hx hb dJ5_append_2ceeb_9 rfl (lv_at hl 1 rfl) ?_
  obtain ⟨fs9, e1, hF⟩ := mg_o hF
  obtain ⟨x2, n4, s5, E6, e3, hF⟩ := mb_o hF
  have hm := mle e3
  have hM1 := mle1 hF
  have hM2 := mle2 hF
  have hm1 := hm.1
  have hm2 := hm.2.1
  have hFc := my_free hD hS hA
  refine va_calli (va_runU (C := RJ4) (As := []) (rest := []) ⟨hx, hb, hml, hown, hts⟩ (h_J4_length_8abf5 l dC dI cy nb ad0 n0 s0 E0 hC (a1) Aa1 ha1 H.size x2 n4 s5 E6 e3) (va_cwO 0 hts (gO mw_894 mw_800 mw_801 mw_802 mw_803 mw_8 mw_804) rfl rfl rfl mw_807 (by decide +kernel) ⟨Nat.le_of_ble_eq_true rfl, Nat.le_of_ble_eq_true rfl⟩) (hl_preV hP hK hD hE hS hFc (va_recv hK (rdO_ hP hC ha1 e1) (ci := 1) (q0 := 0) rfl rfl)) rfl rfl hl.1 rfl (lv_room (Nat.le_of_ble_eq_true rfl)) dJ5_append_2ceeb_10 ⟨show n0 - n0 + (n4 - n0) ≤ nz - n0 by omega, show s0 - s0 + (s5 - s0) ≤ sz9 - s0 by omega⟩) hS (fun q _ h => hFc q h) hFc (fun r9 u t H1 locs ht hvm hw hB hz1 hk1 hS => ?_)
  obtain ⟨ad7, hax, hP1, hD1⟩ := hB
  rw [ht] at hP1
  have hP := hP1
  have hD := hD1.weaken (fun k q _ h => hFc q.1 h)
  generalize H1 = H at hP hS ⊢
  have ha0 := ha0.mv hC.1 hax
  have ha1 := ha1.mv hC.1 hax
  have hX := hX.trans hax
  have hC := hm.2.2 hC
  have hN : n0 ≤ n4 := Nat.le_trans hN hm1
  have hT : s0 ≤ s5 := Nat.le_trans hT hm2
  refine W.widen (k := n4 - n0) (n := s5 - s0) (by omega) (by omega) ?_
  clear hP1 hD1 hFc hk1 hz1 hvm ht hax hm hm1 hm2 hM1 hM2
  obtain rfl := hw.symm
  refine lv_istore_n (lv' := [(2, .int x2), (0, .ref Aa0), (1, .ref Aa1)]) hx hb dJ5_append_2ceeb_13 rfl hl (by decide) rfl (fun ls hl => ?_)
  refine lv_aload_n hx hb dJ5_append_2ceeb_14 rfl (lv_at hl 1 rfl) ?_
  refine lv_aload_n hx hb dJ5_append_2ceeb_15 rfl (lv_at hl 1 rfl) ?_
  obtain ⟨x8, e9, hF⟩ := mg_o hF
  obtain ⟨fs9, h9, g9⟩ := rdI hP hC ha0 e9
  refine va_get (D := (dC, dI)) (ci := 1) (v := .int x8) (C := RJ4) (T := TJ4) (N := 4) hx hb hts inlJ4 hown hK h9 0 rfl rfl 3 (by decide) (hts _ mw_627) (fun _ h9 => h9) g9 dJ5_append_2ceeb_16 ?_
  clear h9 g9
  refine lv_iload_n hx hb dJ5_append_2ceeb_19 rfl (lv_at hl 0 rfl) ?_
  refine lv_iadd hx hb dJ5_append_2ceeb_20 ?_
  obtain ⟨fs9, e10, hF⟩ := mg_o hF
  obtain ⟨⟨⟩, n12, s13, E14, e11, hF⟩ := mb_o hF
  have hm := mle e11
  have hM1 := mle1 hF
  have hM2 := mle2 hF
  have hm1 := hm.1
  have hm2 := hm.2.1
  have hFc := my_free hD hS hA
  refine va_callv (va_runV (C := RJ4) (As := [.int (x8 + x2)]) (rest := []) ⟨hx, hb, hml, hown, hts⟩ (h_J5_ensureCapacityInternal_d00df l dC dI cy nb ad7 n4 s5 E6 hC (a0) Aa0 ha0 ((x8 + x2)) H.size n12 s13 E14 e11) (cwV 1 hts (gV mw_633 mw_636 mw_635 mw_8 mw_637) rfl rfl rfl (by decide +kernel) ⟨Nat.le_of_ble_eq_true rfl, Nat.le_of_ble_eq_true rfl⟩) (hl_preV hP hK hD hE hS hFc (va_recv hK (rdO_ hP hC ha0 e10) (ci := 1) (q0 := 0) rfl rfl)) rfl rfl hl.1 rfl (lv_room (Nat.le_of_ble_eq_true rfl)) dJ5_append_2ceeb_21 ⟨show n4 - n0 + (n12 - n4) ≤ nz - n0 by omega, show s5 - s0 + (s13 - s5) ≤ sz9 - s0 by omega⟩) hS (fun q _ h => hFc q h) hFc (fun u t H1 locs ht hvm hw hB hz1 hk1 hS => ?_)
  obtain ⟨ad15, hax, hP1, hD1⟩ := hB
  rw [ht] at hP1
  have hP := hP1
  have hD := hD1.weaken (fun k q _ h => hFc q.1 h)
  generalize H1 = H at hP hS ⊢
  have ha0 := ha0.mv hC.1 hax
  have ha1 := ha1.mv hC.1 hax
  have hX := hX.trans hax
  have hC := hm.2.2 hC
  have hN : n0 ≤ n12 := Nat.le_trans hN hm1
  have hT : s0 ≤ s13 := Nat.le_trans hT hm2
  refine W.widen (k := n12 - n0) (n := s13 - s0) (by omega) (by omega) ?_
  clear hP1 hD1 hFc hk1 hz1 hvm ht hax hm hm1 hm2 hM1 hM2
  refine lv_aload_n hx hb dJ5_append_2ceeb_24 rfl (lv_at hl 1 rfl) ?_
  refine lv_aload_n hx hb dJ5_append_2ceeb_25 rfl (lv_at hl 2 rfl) ?_
  obtain ⟨fs9, e16, hF⟩ := mg_o hF
  obtain ⟨⟨⟩, n18, s19, E20, e17, hF⟩ := mb_o hF
  have hm := mle e17
  have hM1 := mle1 hF
  have hM2 := mle2 hF
  have hm1 := hm.1
  have hm2 := hm.2.1
  have hFc := my_free hD hS hA
  refine va_callv (va_runV (C := RJ4) (As := [.ref Aa1]) (rest := []) ⟨hx, hb, hml, hown, hts⟩ (h_J5_inflateIfNeededFor_56e69 l dC dI cy nb ad15 n12 s13 E14 hC (a0) Aa0 ha0 (a1) Aa1 ha1 H.size n18 s19 E20 e17) (cwV 1 hts (gV mw_895 mw_898 mw_897 mw_8 mw_899) rfl rfl rfl (by decide +kernel) ⟨Nat.le_of_ble_eq_true rfl, Nat.le_of_ble_eq_true rfl⟩) (hl_preV hP hK hD hE hS hFc (va_recv hK (rdO_ hP hC ha0 e16) (ci := 1) (q0 := 0) rfl rfl)) rfl rfl hl.1 rfl (lv_room (Nat.le_of_ble_eq_true rfl)) dJ5_append_2ceeb_26 ⟨show n12 - n0 + (n18 - n12) ≤ nz - n0 by omega, show s13 - s0 + (s19 - s13) ≤ sz9 - s0 by omega⟩) hS (fun q _ h => hFc q h) hFc (fun u t H1 locs ht hvm hw hB hz1 hk1 hS => ?_)
  obtain ⟨ad21, hax, hP1, hD1⟩ := hB
  rw [ht] at hP1
  have hP := hP1
  have hD := hD1.weaken (fun k q _ h => hFc q.1 h)
  generalize H1 = H at hP hS ⊢
  have ha0 := ha0.mv hC.1 hax
  have ha1 := ha1.mv hC.1 hax
  have hX := hX.trans hax
  have hC := hm.2.2 hC
  have hN : n0 ≤ n18 := Nat.le_trans hN hm1
  have hT : s0 ≤ s19 := Nat.le_trans hT hm2
  refine W.widen (k := n18 - n0) (n := s19 - s0) (by omega) (by omega) ?_
  clear hP1 hD1 hFc hk1 hz1 hvm ht hax hm hm1 hm2 hM1 hM2
  refine lv_aload_n hx hb dJ5_append_2ceeb_29 rfl (lv_at hl 2 rfl) ?_
  refine lv_aload_n hx hb dJ5_append_2ceeb_30 rfl (lv_at hl 1 rfl) ?_
  obtain ⟨x22, e23, hF⟩ := mg_o hF
  obtain ⟨hr24, fs9, h9, g9⟩ := rdR hP hC ha0 e23
  refine va_get (D := (dC, dI)) (ci := 1) (v := .ref (AD nb ad21 x22)) (C := RJ4) (T := TJ4) (N := 4) hx hb hts inlJ4 hown hK h9 0 rfl rfl 0 (by decide) (hts _ mw_590) (fun _ h9 => h9) g9 dJ5_append_2ceeb_31 ?_
  clear h9 g9
  refine lv_aload_n hx hb dJ5_append_2ceeb_34 rfl (lv_at hl 1 rfl) ?_
  obtain ⟨x25, e26, hF⟩ := mg_o hF
  obtain ⟨fs9, h9, g9⟩ := rdI hP hC ha0 e26
  refine va_get (D := (dC, dI)) (ci := 1) (v := .int x25) (C := RJ4) (T := TJ4) (N := 4) hx hb hts inlJ4 hown hK h9 0 rfl rfl 3 (by decide) (hts _ mw_627) (fun _ h9 => h9) g9 dJ5_append_2ceeb_35 ?_
  clear h9 g9
  refine lv_aload_n hx hb dJ5_append_2ceeb_38 rfl (lv_at hl 1 rfl) ?_
  obtain ⟨x27, e28, hF⟩ := mg_o hF
  obtain ⟨fs9, h9, g9⟩ := rdI hP hC ha0 e28
  refine va_get (D := (dC, dI)) (ci := 1) (v := .int x27) (C := RJ4) (T := TJ4) (N := 4) hx hb hts inlJ4 hown hK h9 0 rfl rfl 1 (by decide) (hts _ mw_591) (fun _ h9 => h9) g9 dJ5_append_2ceeb_39 ?_
  clear h9 g9
  obtain ⟨fs9, e29, hF⟩ := mg_o hF
  obtain ⟨⟨⟩, n31, s32, E33, e30, hF⟩ := mb_o hF
  have hm := mle e30
  have hM1 := mle1 hF
  have hM2 := mle2 hF
  have hm1 := hm.1
  have hm2 := hm.2.1
  have hFc := my_free hD hS hA
  refine va_callv (va_runV (C := RJ4) (As := [.ref (AD nb ad21 x22), .int x25, .int x27]) (rest := []) ⟨hx, hb, hml, hown, hts⟩ (h_J5_getBytes_840e7 l dC dI cy nb ad21 n18 s19 E20 hC (a1) Aa1 ha1 (x22) (AD nb ad21 x22) hr24 (x25) (x27) H.size n31 s32 E33 e30) (cwV 3 hts (gV mw_905 mw_908 mw_907 mw_8 mw_909) rfl rfl rfl (by decide +kernel) ⟨Nat.le_of_ble_eq_true rfl, Nat.le_of_ble_eq_true rfl⟩) (hl_preV hP hK hD hE hS hFc (va_recv hK (rdO_ hP hC ha1 e29) (ci := 1) (q0 := 0) rfl rfl)) rfl rfl hl.1 rfl (lv_room (Nat.le_of_ble_eq_true rfl)) dJ5_append_2ceeb_42 ⟨show n18 - n0 + (n31 - n18) ≤ nz - n0 by omega, show s19 - s0 + (s32 - s19) ≤ sz9 - s0 by omega⟩) hS (fun q _ h => hFc q h) hFc (fun u t H1 locs ht hvm hw hB hz1 hk1 hS => ?_)
  obtain ⟨ad34, hax, hP1, hD1⟩ := hB
  rw [ht] at hP1
  have hP := hP1
  have hD := hD1.weaken (fun k q _ h => hFc q.1 h)
  generalize H1 = H at hP hS ⊢
  have ha0 := ha0.mv hC.1 hax
  have ha1 := ha1.mv hC.1 hax
  have hX := hX.trans hax
  have hC := hm.2.2 hC
  have hN : n0 ≤ n31 := Nat.le_trans hN hm1
  have hT : s0 ≤ s32 := Nat.le_trans hT hm2
  refine W.widen (k := n31 - n0) (n := s32 - s0) (by omega) (by omega) ?_
  clear hP1 hD1 hFc hk1 hz1 hvm ht hax hm hm1 hm2 hM1 hM2
  refine lv_aload_n hx hb dJ5_append_2ceeb_45 rfl (lv_at hl 1 rfl) ?_
  refine lv_dup hx hb dJ5_append_2ceeb_46 rfl ?_
  obtain ⟨x35, e36, hF⟩ := mg_o hF
  obtain ⟨fs9, h9, g9⟩ := rdI hP hC ha0 e36
  refine va_get (D := (dC, dI)) (ci := 1) (v := .int x35) (C := RJ4) (T := TJ4) (N := 4) hx hb hts inlJ4 hown hK h9 0 rfl rfl 3 (by decide) (hts _ mw_627) (fun _ h9 => h9) g9 dJ5_append_2ceeb_47 ?_
  clear h9 g9
  refine lv_iload_n hx hb dJ5_append_2ceeb_50 rfl (lv_at hl 0 rfl) ?_
  refine lv_iadd hx hb dJ5_append_2ceeb_51 ?_
  obtain ⟨E37, e38, hF⟩ := mw_o hF
  obtain ⟨q9, fs9, h9, ez9⟩ := wrI (cy := cy) hC ha0 e38
  refine va_put (D := (dC, dI)) (ci := 1) (v := .int (x35 + x2)) (ty := .int) (C := RJ4) (T := TJ4) (N := 4) hx hb hts inlJ4 tyJ4 tyJ4_ok nmJ4 hown hK hP hD hS q9 h9 rfl 3 (by decide) (hts _ mw_627) (fun _ h9 => h9) rfl (by decide +kernel) rfl rfl (Nat.le_of_ble_eq_true rfl) dJ5_append_2ceeb_52 (fun H locs hP hD hS => ?_)
  rw [ez9] at hP hD
  clear ez9 h9
  have hC := sI_clo e38 hC
  refine lv_aload_n hx hb dJ5_append_2ceeb_55 rfl (lv_at hl 1 rfl) ?_
  refine lv_dup hx hb dJ5_append_2ceeb_56 rfl ?_
  obtain ⟨x39, e40, hF⟩ := mg_o hF
  obtain ⟨fs9, h9, g9⟩ := rdI hP hC ha0 e40
  refine va_get (D := (dC, dI)) (ci := 1) (v := .int x39) (C := RJ4) (T := TJ4) (N := 4) hx hb hts inlJ4 hown hK h9 0 rfl rfl 2 (by decide) (hts _ mw_893) (fun _ h9 => h9) g9 dJ5_append_2ceeb_57 ?_
  clear h9 g9
  refine lv_aload_n hx hb dJ5_append_2ceeb_60 rfl (lv_at hl 2 rfl) ?_
  obtain ⟨x41, e42, hF⟩ := mg_o hF
  obtain ⟨fs9, h9, g9⟩ := rdI hP hC ha1 e42
  refine va_get (D := (dC, dI)) (ci := 1) (v := .int x41) (C := RJ4) (T := TJ4) (N := 4) hx hb hts inlJ4 hown hK h9 0 rfl rfl 2 (by decide) (hts _ mw_893) (fun _ h9 => h9) g9 dJ5_append_2ceeb_61 ?_
  clear h9 g9
  refine lv_ior hx hb dJ5_append_2ceeb_64 ?_
  obtain ⟨x44, e45, hF⟩ := mp_o hF
  refine my_topi (y := x44) (nz_e e45) ?_
  obtain ⟨E43, e46, hF⟩ := mw_o hF
  obtain ⟨q9, fs9, h9, ez9⟩ := wrI (cy := cy) hC ha0 e46
  refine va_put (D := (dC, dI)) (ci := 1) (v := .int x44) (ty := .boolean) (C := RJ4) (T := TJ4) (N := 4) hx hb hts inlJ4 tyJ4 tyJ4_ok nmJ4 hown hK hP hD hS q9 h9 rfl 2 (by decide) (hts _ mw_893) (fun _ h9 => h9) rfl (by decide +kernel) (nz_n e45) (nz_f e45) (Nat.le_of_ble_eq_true rfl) dJ5_append_2ceeb_65 (fun H locs hP hD hS => ?_)
  rw [ez9] at hP hD
  clear ez9 h9
  have hC := sI_clo e46 hC
  refine lv_aload_n hx hb dJ5_append_2ceeb_68 rfl (lv_at hl 1 rfl) ?_
  obtain ⟨ht9, hn9, hs9, hE9⟩ := mr_o hF
  subst hn9 hs9 hE9
  have hX9 := hX
  rw [hQ]
  exact W.aret (v := .ref Aa0) hx hb hr (by first | exact Or.inl ⟨_, rfl⟩ | exact Or.inr ⟨_, rfl⟩) (Or.inr ⟨_, rfl⟩) (fun t ht hW => ⟨⟨(), Aa0, rfl, trivial, _, hX, (by rw [← ht9]; exact ha0), by rw [ht]; exact hP, hD⟩, hS.F ht⟩) hS.2.2 dJ5_append_2ceeb_69
noncomputable def H_J5_append_8f9a3 (a0 : Nat) (a1 : Nat) : MH Nat := mb (mg fun n E => fO n E (a1) 1) fun _ => mb (mg fun n E => fO n E (a1) 1) fun _ => mb (mg fun n E => fO n E (a1) 1) fun _ => mb (mg fun n E => fO n E (a0) 1) fun _ => mb (H_J5_append_2ceeb (a0) (a1)) fun x5 => mr x5
set_option maxHeartbeats 4000000 in
set_option maxRecDepth 100000 in
theorem h_J5_append_8f9a3 (l : Launch) (dC : Nat → ClassId) (dI : Nat → Nat → Nat) (cy : Nat → ClassId) (nb : Nat → Nat) (ad0 : Nat → Nat) (n0 s0 : Nat) (E0 : HE) (hC : clo n0 E0) (a0 Aa0 : Nat) (ha0 : rf nb ad0 n0 a0 Aa0) (a1 Aa1 : Nat) (ha1 : rf nb ad0 n0 a1 Aa1) (sz : Nat) (ro : Nat) (nz sz9 : Nat) (Ez : HE) (hF : (H_J5_append_8f9a3 a0 a1).1 (n0, s0, E0) = some (ro, nz, sz9, Ez)) : Met l yJ5_append_8f9a3 (wsg yJ5_append_8f9a3 cJ5_append_8f9a3 2 (some (.object "java/lang/AbstractStringBuilder"))) ({ frames := 12, cells := nz - n0, slots := sz9 - s0, locals := 700 }) (va_Pc [.ref Aa0, .ref Aa1] (fun U => U.heap.size = sz ∧ va_P (dC, dI) vwCl (CH cy nb ad0 n0 E0) U.heap ∧ va_K (dC, dI) vwCl (tyL cy) U ∧ va_D (fun _ => True) (CH cy nb ad0 n0 E0) ∧ GL nb (va_A (CH cy nb ad0 n0 E0) sz) U)) (va_Qr (fun (_ : Unit) => True) (fun _ ra t => ∃ ad2 : Nat → Nat, axh n0 ad0 nz ad2 ∧ rf nb ad2 nz ro ra ∧ va_P (dC, dI) vwCl (CH cy nb ad2 nz Ez) t.heap ∧ va_D (va_A (CH cy nb ad0 n0 E0) sz) (CH cy nb ad2 nz Ez)) (va_A (CH cy nb ad0 n0 E0) sz)) (nz - n0) (sz9 - s0) (va_A (CH cy nb ad0 n0 E0) sz) := by
  refine Met.ofW (cc := cJ5_append_8f9a3) (maxL := 2) (ret := (some (.object "java/lang/AbstractStringBuilder"))) (by decide) rfl ?_
  intro p e s m args below meth c s₁ B hml hv
  obtain ⟨rfl, hsz, hP, hK, hD0, hE⟩ := hv
  have hx := B.exec
  have hb := B.bytes
  have hr := B.returns
  have hts0 := atoms_spec (ws := (wsg yJ5_append_8f9a3 cJ5_append_8f9a3 2 (some (.object "java/lang/AbstractStringBuilder")))) B.pre
  have hts : ∀ w ∈ wsL_law, w.before _ s = true := fun w h => hts0 w (List.mem_cons_of_mem _ h)
  have hown : s.vm.findClass RJ5 = some m.cls := by have h9 := findClass_of_methodNamed B.named; exact h9
  subst hsz
  have hD := hD0.self (sz := s.heap.size)
  generalize hAe : va_A (CH cy nb ad0 n0 E0) s.heap.size = A at hD hE ⊢
  have hA : ∀ q : Nat, s.heap.size ≤ q → A q := fun q h => by rw [← hAe]; exact Or.inr h
  have hS : va_S A s.heap s.heap [] := va_S.rf
  have hl := lv_entry ([.ref Aa0, .ref Aa1]) (n := 2) (Nat.le_of_ble_eq_true rfl)
  rw [lg_entry_eq]
  generalize (lg_sl ([.ref Aa0, .ref Aa1]) ++ List.replicate (2 - (lg_sl ([.ref Aa0, .ref Aa1])).length) Slot.unset).toArray = ls at hl ⊢
  have hl : lv_has ls 2 [(0, .ref Aa0), (1, .ref Aa1)] := hl
  generalize hHe : s.heap = H at hP hS ⊢
  have hS : va_S A s.heap H [] := by rw [hHe]; exact hS
  refine my_Q (fun Qn hQ => ?_)
  simp only [H_J5_append_8f9a3] at hF
  have hX : axh n0 ad0 n0 ad0 := axh_refl
  have hN : n0 ≤ n0 := Nat.le_refl _
  have hT : s0 ≤ s0 := Nat.le_refl _
  refine W.widen (k := n0 - n0) (n := s0 - s0) (by omega) (by omega) ?_
  refine lv_aload_n hx hb dJ5_append_8f9a3_0 rfl (lv_at hl 1 rfl) ?_
  refine lv_ifnonnull (tgt := 9) hx hb dJ5_append_8f9a3_1 (by decide) ?_
  refine lv_aload_n hx hb dJ5_append_8f9a3_9 rfl (lv_at hl 1 rfl) ?_
  obtain ⟨fs9, e1, hF⟩ := mg_o hF
  refine va_instNo (C := RJ4) hx hb hown (hts _ mw_880) hE.nc0 (va_recv hK (rdO_ hP hC ha1 e1) (ci := 1) (q0 := 0) rfl rfl) dJ5_append_8f9a3_10 ?_
  refine lv_if_eq (tgt := 25) hx hb dJ5_append_8f9a3_13 (by decide) (fun _ => ?_) (fun h => absurd (by decide) h)
  refine lv_aload_n hx hb dJ5_append_8f9a3_25 rfl (lv_at hl 1 rfl) ?_
  obtain ⟨fs9, e2, hF⟩ := mg_o hF
  refine va_instY (C := RJ4) hx hb hown (hts _ mw_881) hE.cs0 (va_recv hK (rdO_ hP hC ha1 e2) (ci := 1) (q0 := 0) rfl rfl) dJ5_append_8f9a3_26 ?_
  refine lv_if_eq (tgt := 41) hx hb dJ5_append_8f9a3_29 (by decide) (fun h => absurd h (by decide)) (fun _ => ?_)
  refine lv_aload_n hx hb dJ5_append_8f9a3_32 rfl (lv_at hl 0 rfl) ?_
  refine lv_aload_n hx hb dJ5_append_8f9a3_33 rfl (lv_at hl 1 rfl) ?_
  obtain ⟨fs9, e3, hF⟩ := mg_o hF
  refine va_castY (C := RJ4) hx hb hown (hts _ mw_881) hE.cs0 (va_recv hK (rdO_ hP hC ha1 e3) (ci := 1) (q0 := 0) rfl rfl) dJ5_append_8f9a3_34 ?_
  obtain ⟨fs9, e4, hF⟩ := mg_o hF
  obtain ⟨x5, n7, s8, E9, e6, hF⟩ := mb_o hF
  have hm := mle e6
  have hM1 := mle1 hF
  have hM2 := mle2 hF
  have hm1 := hm.1
  have hm2 := hm.2.1
  have hFc := my_free hD hS hA
  refine va_callr (va_runV (C := RJ4) (As := [.ref Aa1]) (rest := []) ⟨hx, hb, hml, hown, hts⟩ (h_J5_append_2ceeb l dC dI cy nb ad0 n0 s0 E0 hC (a0) Aa0 ha0 (a1) Aa1 ha1 H.size x5 n7 s8 E9 e6) (cwV 1 hts (gV mw_888 mw_891 mw_890 mw_8 mw_892) rfl rfl rfl (by decide +kernel) ⟨Nat.le_of_ble_eq_true rfl, Nat.le_of_ble_eq_true rfl⟩) (hl_preV hP hK hD hE hS hFc (va_recv hK (rdO_ hP hC ha0 e4) (ci := 1) (q0 := 0) rfl rfl)) rfl rfl hl.1 rfl (lv_room (Nat.le_of_ble_eq_true rfl)) dJ5_append_8f9a3_37 ⟨show n0 - n0 + (n7 - n0) ≤ nz - n0 by omega, show s0 - s0 + (s8 - s0) ≤ sz9 - s0 by omega⟩) hS (fun q _ h => hFc q h) hFc (fun u ra t H1 locs ht hvm hw hB hz1 hk1 hS => ?_)
  obtain ⟨ad10, hax, hr11, hP1, hD1⟩ := hB
  rw [ht] at hP1
  have hP := hP1
  have hD := hD1.weaken (fun k q _ h => hFc q.1 h)
  generalize H1 = H at hP hS ⊢
  have ha0 := ha0.mv hC.1 hax
  have ha1 := ha1.mv hC.1 hax
  have hX := hX.trans hax
  have hC := hm.2.2 hC
  have hN : n0 ≤ n7 := Nat.le_trans hN hm1
  have hT : s0 ≤ s8 := Nat.le_trans hT hm2
  refine W.widen (k := n7 - n0) (n := s8 - s0) (by omega) (by omega) ?_
  clear hP1 hD1 hFc hk1 hz1 hvm ht hax hm hm1 hm2 hM1 hM2
  refine my_top (y := .ref (AD nb ad10 x5)) (congrArg Value.ref hr11.2.symm) ?_
  have hr11 := rf_self hr11
  obtain ⟨ht9, hn9, hs9, hE9⟩ := mr_o hF
  subst hn9 hs9 hE9
  have hX9 := hX
  rw [hQ]
  exact W.aret (v := .ref (AD nb ad10 x5)) hx hb hr (by first | exact Or.inl ⟨_, rfl⟩ | exact Or.inr ⟨_, rfl⟩) (Or.inr ⟨_, rfl⟩) (fun t ht hW => ⟨⟨(), (AD nb ad10 x5), rfl, trivial, _, hX, (by rw [← ht9]; exact hr11), by rw [ht]; exact hP, hD⟩, hS.F ht⟩) hS.2.2 dJ5_append_8f9a3_40
noncomputable def H_J4_append_1fab5 (a0 : Nat) (a1 : Nat) : MH Nat := mb (mg fun n E => fO n E (a0) 1) fun _ => mb (H_J5_append_8f9a3 (a0) (a1)) fun x2 => mr a0
set_option maxHeartbeats 4000000 in
set_option maxRecDepth 100000 in
theorem h_J4_append_1fab5 (l : Launch) (dC : Nat → ClassId) (dI : Nat → Nat → Nat) (cy : Nat → ClassId) (nb : Nat → Nat) (ad0 : Nat → Nat) (n0 s0 : Nat) (E0 : HE) (hC : clo n0 E0) (a0 Aa0 : Nat) (ha0 : rf nb ad0 n0 a0 Aa0) (a1 Aa1 : Nat) (ha1 : rf nb ad0 n0 a1 Aa1) (sz : Nat) (ro : Nat) (nz sz9 : Nat) (Ez : HE) (hF : (H_J4_append_1fab5 a0 a1).1 (n0, s0, E0) = some (ro, nz, sz9, Ez)) : Met l yJ4_append_1fab5 (wsg yJ4_append_1fab5 cJ4_append_1fab5 2 (some (.object "java/lang/StringBuilder"))) ({ frames := 13, cells := nz - n0, slots := sz9 - s0, locals := 800 }) (va_Pc [.ref Aa0, .ref Aa1] (fun U => U.heap.size = sz ∧ va_P (dC, dI) vwCl (CH cy nb ad0 n0 E0) U.heap ∧ va_K (dC, dI) vwCl (tyL cy) U ∧ va_D (fun _ => True) (CH cy nb ad0 n0 E0) ∧ GL nb (va_A (CH cy nb ad0 n0 E0) sz) U)) (va_Qr (fun (_ : Unit) => True) (fun _ ra t => ∃ ad2 : Nat → Nat, axh n0 ad0 nz ad2 ∧ rf nb ad2 nz ro ra ∧ va_P (dC, dI) vwCl (CH cy nb ad2 nz Ez) t.heap ∧ va_D (va_A (CH cy nb ad0 n0 E0) sz) (CH cy nb ad2 nz Ez)) (va_A (CH cy nb ad0 n0 E0) sz)) (nz - n0) (sz9 - s0) (va_A (CH cy nb ad0 n0 E0) sz) := by
  refine Met.ofW (cc := cJ4_append_1fab5) (maxL := 2) (ret := (some (.object "java/lang/StringBuilder"))) (by decide) rfl ?_
  intro p e s m args below meth c s₁ B hml hv
  obtain ⟨rfl, hsz, hP, hK, hD0, hE⟩ := hv
  have hx := B.exec
  have hb := B.bytes
  have hr := B.returns
  have hts0 := atoms_spec (ws := (wsg yJ4_append_1fab5 cJ4_append_1fab5 2 (some (.object "java/lang/StringBuilder")))) B.pre
  have hts : ∀ w ∈ wsL_law, w.before _ s = true := fun w h => hts0 w (List.mem_cons_of_mem _ h)
  have hown : s.vm.findClass RJ4 = some m.cls := by have h9 := findClass_of_methodNamed B.named; exact h9
  subst hsz
  have hD := hD0.self (sz := s.heap.size)
  generalize hAe : va_A (CH cy nb ad0 n0 E0) s.heap.size = A at hD hE ⊢
  have hA : ∀ q : Nat, s.heap.size ≤ q → A q := fun q h => by rw [← hAe]; exact Or.inr h
  have hS : va_S A s.heap s.heap [] := va_S.rf
  have hl := lv_entry ([.ref Aa0, .ref Aa1]) (n := 2) (Nat.le_of_ble_eq_true rfl)
  rw [lg_entry_eq]
  generalize (lg_sl ([.ref Aa0, .ref Aa1]) ++ List.replicate (2 - (lg_sl ([.ref Aa0, .ref Aa1])).length) Slot.unset).toArray = ls at hl ⊢
  have hl : lv_has ls 2 [(0, .ref Aa0), (1, .ref Aa1)] := hl
  generalize hHe : s.heap = H at hP hS ⊢
  have hS : va_S A s.heap H [] := by rw [hHe]; exact hS
  refine my_Q (fun Qn hQ => ?_)
  simp only [H_J4_append_1fab5] at hF
  have hX : axh n0 ad0 n0 ad0 := axh_refl
  have hN : n0 ≤ n0 := Nat.le_refl _
  have hT : s0 ≤ s0 := Nat.le_refl _
  refine W.widen (k := n0 - n0) (n := s0 - s0) (by omega) (by omega) ?_
  refine lv_aload_n hx hb dJ4_append_1fab5_0 rfl (lv_at hl 0 rfl) ?_
  refine lv_aload_n hx hb dJ4_append_1fab5_1 rfl (lv_at hl 1 rfl) ?_
  obtain ⟨fs9, e1, hF⟩ := mg_o hF
  obtain ⟨x2, n4, s5, E6, e3, hF⟩ := mb_o hF
  have hm := mle e3
  have hM1 := mle1 hF
  have hM2 := mle2 hF
  have hm1 := hm.1
  have hm2 := hm.2.1
  have hFc := my_free hD hS hA
  refine va_callr (va_runSU (C := RJ4) (As := [.ref Aa1]) (rest := []) (hK.1 1 _ rfl).2 ⟨hx, hb, hml, hown, hts⟩ (h_J5_append_8f9a3 l dC dI cy nb ad0 n0 s0 E0 hC (a0) Aa0 ha0 (a1) Aa1 ha1 H.size x2 n4 s5 E6 e3) (va_cwSU 1 hts (gSU mw_876 mw_877 mw_624 mw_878 mw_586 mw_879) rfl rfl rfl (by decide +kernel) ⟨Nat.le_of_ble_eq_true rfl, Nat.le_of_ble_eq_true rfl⟩) (hl_preV hP hK hD hE hS hFc (va_recv hK (rdO_ hP hC ha0 e1) (ci := 1) (q0 := 0) rfl rfl)) rfl rfl hl.1 rfl (lv_room (Nat.le_of_ble_eq_true rfl)) dJ4_append_1fab5_2 ⟨show n0 - n0 + (n4 - n0) ≤ nz - n0 by omega, show s0 - s0 + (s5 - s0) ≤ sz9 - s0 by omega⟩) hS (fun q _ h => hFc q h) hFc (fun u ra t H1 locs ht hvm hw hB hz1 hk1 hS => ?_)
  obtain ⟨ad7, hax, hr8, hP1, hD1⟩ := hB
  rw [ht] at hP1
  have hP := hP1
  have hD := hD1.weaken (fun k q _ h => hFc q.1 h)
  generalize H1 = H at hP hS ⊢
  have ha0 := ha0.mv hC.1 hax
  have ha1 := ha1.mv hC.1 hax
  have hX := hX.trans hax
  have hC := hm.2.2 hC
  have hN : n0 ≤ n4 := Nat.le_trans hN hm1
  have hT : s0 ≤ s5 := Nat.le_trans hT hm2
  refine W.widen (k := n4 - n0) (n := s5 - s0) (by omega) (by omega) ?_
  clear hP1 hD1 hFc hk1 hz1 hvm ht hax hm hm1 hm2 hM1 hM2
  refine my_top (y := .ref (AD nb ad7 x2)) (congrArg Value.ref hr8.2.symm) ?_
  have hr8 := rf_self hr8
  refine lv_pop hx hb dJ4_append_1fab5_5 rfl ?_
  refine lv_aload_n hx hb dJ4_append_1fab5_6 rfl (lv_at hl 0 rfl) ?_
  obtain ⟨ht9, hn9, hs9, hE9⟩ := mr_o hF
  subst hn9 hs9 hE9
  have hX9 := hX
  rw [hQ]
  exact W.aret (v := .ref Aa0) hx hb hr (by first | exact Or.inl ⟨_, rfl⟩ | exact Or.inr ⟨_, rfl⟩) (Or.inr ⟨_, rfl⟩) (fun t ht hW => ⟨⟨(), Aa0, rfl, trivial, _, hX, (by rw [← ht9]; exact ha0), by rw [ht]; exact hP, hD⟩, hS.F ht⟩) hS.2.2 dJ4_append_1fab5_7
noncomputable def H_J0_init_db425 (a0 : Nat) (a1 : Nat) : MH Unit := mb (mg fun n E => fO n E (a1) 1) fun _ => mb (H_J5_getValue_6d5f1 (a1)) fun x2 => mb (mg fun n E => fO n E (a1) 1) fun _ => mb (H_J4_length_8abf5 (a1)) fun x11 => mb (mg fun n E => fO n E (a1) 1) fun _ => mb (H_J5_isLatin1_aae02 (a1)) fun x18 => if x18 = 0 then (mb (rI (a1) 1 2) fun x25 => if x25 = 0 then (mb (wI (a0) 0 1 (1)) fun _ => mb (H_J7_copyOfRange_39247 (x2) (0) ((x11 <<< ((1 : Int32) &&& 31)))) fun x30 => mb (wR (a0) 0 0 (x30)) fun _ => mr ()) else (m0)) else (mb (wI (a0) 0 1 (0)) fun _ => mb (H_J7_copyOfRange_39247 (x2) (0) (x11)) fun x42 => mb (wR (a0) 0 0 (x42)) fun _ => mr ())
set_option maxHeartbeats 4000000 in
set_option maxRecDepth 100000 in
theorem h_J0_init_db425 (l : Launch) (dC : Nat → ClassId) (dI : Nat → Nat → Nat) (cy : Nat → ClassId) (nb : Nat → Nat) (ad0 : Nat → Nat) (n0 s0 : Nat) (E0 : HE) (hC : clo n0 E0) (a0 Aa0 : Nat) (ha0 : rf nb ad0 n0 a0 Aa0) (a1 Aa1 : Nat) (ha1 : rf nb ad0 n0 a1 Aa1) (a2 : Value) (ha2 : a2 = .null ∨ ∃ q, a2 = .ref q) (sz : Nat) (nz sz9 : Nat) (Ez : HE) (hF : (H_J0_init_db425 a0 a1).1 (n0, s0, E0) = some ((), nz, sz9, Ez)) : Met l yJ0_init_db425 (wsg yJ0_init_db425 cJ0_init_db425 5 none) ({ frames := 11, cells := nz - n0, slots := sz9 - s0, locals := 600 }) (va_Pc [.ref Aa0, .ref Aa1, a2] (fun U => U.heap.size = sz ∧ va_P (dC, dI) vwCl (CH cy nb ad0 n0 E0) U.heap ∧ va_K (dC, dI) vwCl (tyL cy) U ∧ va_D (fun _ => True) (CH cy nb ad0 n0 E0) ∧ GL nb (va_A (CH cy nb ad0 n0 E0) sz) U)) (va_Qv (fun (_ : Unit) => True) (fun _ t => ∃ ad2 : Nat → Nat, axh n0 ad0 nz ad2 ∧ va_P (dC, dI) vwCl (CH cy nb ad2 nz Ez) t.heap ∧ va_D (va_A (CH cy nb ad0 n0 E0) sz) (CH cy nb ad2 nz Ez)) (va_A (CH cy nb ad0 n0 E0) sz)) (nz - n0) (sz9 - s0) (va_A (CH cy nb ad0 n0 E0) sz) := by
  rcases ha2 with rfl | ⟨q8, rfl⟩
  · skip
    refine Met.ofW (cc := cJ0_init_db425) (maxL := 5) (ret := none) (by decide) rfl ?_
    intro p e s m args below meth c s₁ B hml hv
    obtain ⟨rfl, hsz, hP, hK, hD0, hE⟩ := hv
    have hx := B.exec
    have hb := B.bytes
    have hr := B.returns
    have hts0 := atoms_spec (ws := (wsg yJ0_init_db425 cJ0_init_db425 5 none)) B.pre
    have hts : ∀ w ∈ wsL_law, w.before _ s = true := fun w h => hts0 w (List.mem_cons_of_mem _ h)
    have hown : s.vm.findClass RJ0 = some m.cls := by have h9 := findClass_of_methodNamed B.named; exact h9
    have hnm : meth.name = "<init>" := by have h9 := B.name; exact h9
    subst hsz
    have hD := hD0.self (sz := s.heap.size)
    generalize hAe : va_A (CH cy nb ad0 n0 E0) s.heap.size = A at hD hE ⊢
    have hA : ∀ q : Nat, s.heap.size ≤ q → A q := fun q h => by rw [← hAe]; exact Or.inr h
    have hS : va_S A s.heap s.heap [] := va_S.rf
    have hl := lv_entry ([.ref Aa0, .ref Aa1, .null]) (n := 5) (Nat.le_of_ble_eq_true rfl)
    rw [lg_entry_eq]
    generalize (lg_sl ([.ref Aa0, .ref Aa1, .null]) ++ List.replicate (5 - (lg_sl ([.ref Aa0, .ref Aa1, .null])).length) Slot.unset).toArray = ls at hl ⊢
    have hl : lv_has ls 5 [(0, .ref Aa0), (1, .ref Aa1), (2, .null)] := hl
    generalize hHe : s.heap = H at hP hS ⊢
    have hS : va_S A s.heap H [] := by rw [hHe]; exact hS
    refine my_Q (fun Qn hQ => ?_)
    simp only [H_J0_init_db425] at hF
    have hX : axh n0 ad0 n0 ad0 := axh_refl
    have hN : n0 ≤ n0 := Nat.le_refl _
    have hT : s0 ≤ s0 := Nat.le_refl _
    refine W.widen (k := n0 - n0) (n := s0 - s0) (by omega) (by omega) ?_
    refine lv_aload_n hx hb dJ0_init_db425_0 rfl (lv_at hl 0 rfl) ?_
    refine W.objInit hx hb hown (hts _ mw_792) (hts _ mw_18) (hts _ mw_19) rfl (by rw [hml]; exact hl.1) rfl dJ0_init_db425_1 (Nat.le_of_ble_eq_true rfl) (Nat.le_of_ble_eq_true rfl) ?_
    refine W.eq (g2 := F0 m 4 ls []) rfl ?_
    refine lv_aload_n hx hb dJ0_init_db425_4 rfl (lv_at hl 1 rfl) ?_
    obtain ⟨fs9, e1, hF⟩ := mg_o hF
    obtain ⟨x2, n4, s5, E6, e3, hF⟩ := mb_o hF
    have hm := mle e3
    have hM1 := mle1 hF
    have hM2 := mle2 hF
    have hm1 := hm.1
    have hm2 := hm.2.1
    have hFc := my_free hD hS hA
    refine va_callr (va_runV (C := RJ4) (As := []) (rest := []) ⟨hx, hb, hml, hown, hts⟩ (h_J5_getValue_6d5f1 l dC dI cy nb ad0 n0 s0 E0 hC (a1) Aa1 ha1 H.size x2 n4 s5 E6 e3) (cwV 0 hts (gV mw_794 mw_797 mw_796 mw_8 mw_798) rfl rfl rfl (by decide +kernel) ⟨Nat.le_of_ble_eq_true rfl, Nat.le_of_ble_eq_true rfl⟩) (hl_preV hP hK hD hE hS hFc (va_recv hK (rdO_ hP hC ha1 e1) (ci := 1) (q0 := 0) rfl rfl)) rfl rfl hl.1 rfl (lv_room (Nat.le_of_ble_eq_true rfl)) dJ0_init_db425_5 ⟨show n0 - n0 + (n4 - n0) ≤ nz - n0 by omega, show s0 - s0 + (s5 - s0) ≤ sz9 - s0 by omega⟩) hS (fun q _ h => hFc q h) hFc (fun u ra t H1 locs ht hvm hw hB hz1 hk1 hS => ?_)
    obtain ⟨ad7, hax, hr8, hP1, hD1⟩ := hB
    rw [ht] at hP1
    have hP := hP1
    have hD := hD1.weaken (fun k q _ h => hFc q.1 h)
    generalize H1 = H at hP hS ⊢
    have ha0 := ha0.mv hC.1 hax
    have ha1 := ha1.mv hC.1 hax
    have hX := hX.trans hax
    have hC := hm.2.2 hC
    have hN : n0 ≤ n4 := Nat.le_trans hN hm1
    have hT : s0 ≤ s5 := Nat.le_trans hT hm2
    refine W.widen (k := n4 - n0) (n := s5 - s0) (by omega) (by omega) ?_
    clear hP1 hD1 hFc hk1 hz1 hvm ht hax hm hm1 hm2 hM1 hM2
    refine my_top (y := .ref (AD nb ad7 x2)) (congrArg Value.ref hr8.2.symm) ?_
    have hr8 := rf_self hr8
    refine lv_astore_n (lv' := [(3, .ref (AD nb ad7 x2)), (0, .ref Aa0), (1, .ref Aa1), (2, .null)]) hx hb dJ0_init_db425_8 rfl hl (by decide) rfl (fun ls hl => ?_)
    refine lv_aload_n hx hb dJ0_init_db425_9 rfl (lv_at hl 2 rfl) ?_
    obtain ⟨fs9, e10, hF⟩ := mg_o hF
    obtain ⟨x11, n13, s14, E15, e12, hF⟩ := mb_o hF
    have hm := mle e12
    have hM1 := mle1 hF
    have hM2 := mle2 hF
    have hm1 := hm.1
    have hm2 := hm.2.1
    have hFc := my_free hD hS hA
    refine va_calli (va_runU (C := RJ4) (As := []) (rest := []) ⟨hx, hb, hml, hown, hts⟩ (h_J4_length_8abf5 l dC dI cy nb ad7 n4 s5 E6 hC (a1) Aa1 ha1 H.size x11 n13 s14 E15 e12) (va_cwO 0 hts (gO mw_799 mw_800 mw_801 mw_802 mw_803 mw_8 mw_804) rfl rfl rfl mw_807 (by decide +kernel) ⟨Nat.le_of_ble_eq_true rfl, Nat.le_of_ble_eq_true rfl⟩) (hl_preV hP hK hD hE hS hFc (va_recv hK (rdO_ hP hC ha1 e10) (ci := 1) (q0 := 0) rfl rfl)) rfl rfl hl.1 rfl (lv_room (Nat.le_of_ble_eq_true rfl)) dJ0_init_db425_10 ⟨show n4 - n0 + (n13 - n4) ≤ nz - n0 by omega, show s5 - s0 + (s14 - s5) ≤ sz9 - s0 by omega⟩) hS (fun q _ h => hFc q h) hFc (fun r9 u t H1 locs ht hvm hw hB hz1 hk1 hS => ?_)
    obtain ⟨ad16, hax, hP1, hD1⟩ := hB
    rw [ht] at hP1
    have hP := hP1
    have hD := hD1.weaken (fun k q _ h => hFc q.1 h)
    generalize H1 = H at hP hS ⊢
    have hr8 := hr8.mv hC.1 hax
    have ha0 := ha0.mv hC.1 hax
    have ha1 := ha1.mv hC.1 hax
    have hX := hX.trans hax
    have hC := hm.2.2 hC
    have hN : n0 ≤ n13 := Nat.le_trans hN hm1
    have hT : s0 ≤ s14 := Nat.le_trans hT hm2
    refine W.widen (k := n13 - n0) (n := s14 - s0) (by omega) (by omega) ?_
    clear hP1 hD1 hFc hk1 hz1 hvm ht hax hm hm1 hm2 hM1 hM2
    obtain rfl := hw.symm
    refine lv_istore (lv' := [(4, .int x11), (3, .ref (AD nb ad7 x2)), (0, .ref Aa0), (1, .ref Aa1), (2, .null)]) hx hb dJ0_init_db425_13 hl (by decide) rfl (fun ls hl => ?_)
    refine lv_aload_n hx hb dJ0_init_db425_15 rfl (lv_at hl 3 rfl) ?_
    obtain ⟨fs9, e17, hF⟩ := mg_o hF
    obtain ⟨x18, n20, s21, E22, e19, hF⟩ := mb_o hF
    have hm := mle e19
    have hM1 := mle1 hF
    have hM2 := mle2 hF
    have hm1 := hm.1
    have hm2 := hm.2.1
    have hFc := my_free hD hS hA
    refine va_calli (va_runV (C := RJ4) (As := []) (rest := []) ⟨hx, hb, hml, hown, hts⟩ (h_J5_isLatin1_aae02 l dC dI cy nb ad16 n13 s14 E15 hC (a1) Aa1 ha1 H.size x18 n20 s21 E22 e19) (cwV 0 hts (gV mw_808 mw_672 mw_671 mw_8 mw_673) rfl rfl rfl (by decide +kernel) ⟨Nat.le_of_ble_eq_true rfl, Nat.le_of_ble_eq_true rfl⟩) (hl_preV hP hK hD hE hS hFc (va_recv hK (rdO_ hP hC ha1 e17) (ci := 1) (q0 := 0) rfl rfl)) rfl rfl hl.1 rfl (lv_room (Nat.le_of_ble_eq_true rfl)) dJ0_init_db425_16 ⟨show n13 - n0 + (n20 - n13) ≤ nz - n0 by omega, show s14 - s0 + (s21 - s14) ≤ sz9 - s0 by omega⟩) hS (fun q _ h => hFc q h) hFc (fun r9 u t H1 locs ht hvm hw hB hz1 hk1 hS => ?_)
    obtain ⟨ad23, hax, hP1, hD1⟩ := hB
    rw [ht] at hP1
    have hP := hP1
    have hD := hD1.weaken (fun k q _ h => hFc q.1 h)
    generalize H1 = H at hP hS ⊢
    have hr8 := hr8.mv hC.1 hax
    have ha0 := ha0.mv hC.1 hax
    have ha1 := ha1.mv hC.1 hax
    have hX := hX.trans hax
    have hC := hm.2.2 hC
    have hN : n0 ≤ n20 := Nat.le_trans hN hm1
    have hT : s0 ≤ s21 := Nat.le_trans hT hm2
    refine W.widen (k := n20 - n0) (n := s21 - s0) (by omega) (by omega) ?_
    clear hP1 hD1 hFc hk1 hz1 hvm ht hax hm hm1 hm2 hM1 hM2
    obtain rfl := hw.symm
    refine lv_if_eq (tgt := 41) hx hb dJ0_init_db425_19 (by decide) (fun c24 => ?_) (fun c24 => ?_)
    · skip
      rw [if_pos c24] at hF
      refine va_gets (C := "java/lang/String") (n := "COMPACT_STRINGS") (d := "Z") (ref := "java/lang/String") (v := .int 1) hx hb hE.ge.cs hS hown (hts _ mw_284) (fun _ h9 => h9) dJ0_init_db425_41 ?_
      refine lv_if_eq (tgt := 79) hx hb dJ0_init_db425_44 (by decide) (fun h => absurd h (by decide)) (fun _ => ?_)
      refine lv_aload_n hx hb dJ0_init_db425_47 rfl (lv_at hl 3 rfl) ?_
      obtain ⟨x25, e26, hF⟩ := mg_o hF
      obtain ⟨fs9, h9, g9⟩ := rdI hP hC ha1 e26
      refine va_get (D := (dC, dI)) (ci := 1) (v := .int x25) (C := RJ4) (T := TJ4) (N := 4) hx hb hts inlJ4 hown hK h9 0 rfl rfl 2 (by decide) (hts _ mw_793) (fun _ h9 => h9) g9 dJ0_init_db425_48 ?_
      clear h9 g9
      refine lv_if_eq (tgt := 79) hx hb dJ0_init_db425_51 (by decide) (fun c27 => ?_) (fun c27 => ?_)
      · skip
        rw [if_pos c27] at hF
        refine lv_aload_n hx hb dJ0_init_db425_79 rfl (lv_at hl 2 rfl) ?_
        refine lv_iconst (v := 1) hx hb dJ0_init_db425_80 (by decide) ?_
        obtain ⟨E28, e29, hF⟩ := mw_o hF
        obtain ⟨q9, fs9, h9, ez9⟩ := wrI (cy := cy) hC ha0 e29
        refine va_putF (D := (dC, dI)) (ci := 0) (v := .int 1) (ty := .byte) (C := RJ0) (T := TJ0) (N := 4) hx hb hts inlJ0 tyJ0 tyJ0_ok nmJ0 hown hK hP hD hS q9 h9 rfl 1 (by decide) (hts _ mw_285) (fun _ h9 => h9) rfl hnm rfl (by decide +kernel) rfl rfl (Nat.le_of_ble_eq_true rfl) dJ0_init_db425_81 (fun H locs hP hD hS => ?_)
        rw [ez9] at hP hD
        clear ez9 h9
        have hC := sI_clo e29 hC
        refine lv_aload_n hx hb dJ0_init_db425_84 rfl (lv_at hl 2 rfl) ?_
        refine lv_aload_n hx hb dJ0_init_db425_85 rfl (lv_at hl 1 rfl) ?_
        refine lv_iconst (v := 0) hx hb dJ0_init_db425_86 (by decide) ?_
        refine lv_iload hx hb dJ0_init_db425_87 (lv_at hl 0 rfl) ?_
        refine lv_iconst (v := 1) hx hb dJ0_init_db425_89 (by decide) ?_
        refine lv_ishl hx hb dJ0_init_db425_90 ?_
        obtain ⟨x30, n32, s33, E34, e31, hF⟩ := mb_o hF
        have hm := mle e31
        have hM1 := mle1 hF
        have hM2 := mle2 hF
        have hm1 := hm.1
        have hm2 := hm.2.1
        have hFc := my_free hD hS hA
        refine va_callr (va_runS (As := [.ref (AD nb ad7 x2), .int 0, .int (x11 <<< ((1 : Int32) &&& 31))]) (rest := [.ref Aa0]) ⟨hx, hb, hml, hown, hts⟩ (h_J7_copyOfRange_39247 l dC dI cy nb ad23 n20 s21 E28 hC (x2) (AD nb ad7 x2) hr8 (0) ((x11 <<< ((1 : Int32) &&& 31))) H.size x30 n32 s33 E34 e31) (va_cwS 3 hts (gS mw_809 mw_810 mw_96 mw_811) rfl rfl rfl (by decide +kernel) ⟨Nat.le_of_ble_eq_true rfl, Nat.le_of_ble_eq_true rfl⟩) (hl_preS hP hK hD hE hS hFc) rfl rfl hl.1 rfl (lv_room (Nat.le_of_ble_eq_true rfl)) dJ0_init_db425_91 ⟨show n20 - n0 + (n32 - n20) ≤ nz - n0 by omega, show s21 - s0 + (s33 - s21) ≤ sz9 - s0 by omega⟩) hS (fun q _ h => hFc q h) hFc (fun u ra t H1 locs ht hvm hw hB hz1 hk1 hS => ?_)
        obtain ⟨ad35, hax, hr36, hP1, hD1⟩ := hB
        rw [ht] at hP1
        have hP := hP1
        have hD := hD1.weaken (fun k q _ h => hFc q.1 h)
        generalize H1 = H at hP hS ⊢
        have hr8 := hr8.mv hC.1 hax
        have ha0 := ha0.mv hC.1 hax
        have ha1 := ha1.mv hC.1 hax
        have hX := hX.trans hax
        have hC := hm.2.2 hC
        have hN : n0 ≤ n32 := Nat.le_trans hN hm1
        have hT : s0 ≤ s33 := Nat.le_trans hT hm2
        refine W.widen (k := n32 - n0) (n := s33 - s0) (by omega) (by omega) ?_
        clear hP1 hD1 hFc hk1 hz1 hvm ht hax hm hm1 hm2 hM1 hM2
        refine my_top (y := .ref (AD nb ad35 x30)) (congrArg Value.ref hr36.2.symm) ?_
        have hr36 := rf_self hr36
        obtain ⟨E38, e39, hF⟩ := mw_o hF
        obtain ⟨q9, fs9, h9, ez9⟩ := wrR (cy := cy) hC ha0 hr36 e39
        refine va_putF (D := (dC, dI)) (ci := 0) (v := .ref (AD nb ad35 x30)) (ty := (.array .byte)) (C := RJ0) (T := TJ0) (N := 4) hx hb hts inlJ0 tyJ0 tyJ0_ok nmJ0 hown hK hP hD hS q9 h9 rfl 0 (by decide) (hts _ mw_279) (fun _ h9 => h9) rfl hnm rfl (by decide +kernel) rfl rfl (Nat.le_of_ble_eq_true rfl) dJ0_init_db425_94 (fun H locs hP hD hS => ?_)
        rw [ez9] at hP hD
        clear ez9 h9
        have hC := sR_clo e39 hC
        obtain ⟨ht9, hn9, hs9, hE9⟩ := mr_o hF
        subst hn9 hs9 hE9
        have hX9 := hX
        rw [hQ]
        exact W.vret hx hb hr (fun t ht hW => ⟨⟨(), rfl, trivial, _, hX, by rw [ht]; exact hP, hD⟩, hS.F ht⟩) hS.2.2 dJ0_init_db425_97
      · skip
        rw [if_neg c27] at hF
        refine lv_aload_n hx hb dJ0_init_db425_54 rfl (lv_at hl 2 rfl) ?_
        refine lv_aload_n hx hb dJ0_init_db425_55 rfl (lv_at hl 1 rfl) ?_
        refine lv_iconst (v := 0) hx hb dJ0_init_db425_56 (by decide) ?_
        refine lv_iload hx hb dJ0_init_db425_57 (lv_at hl 0 rfl) ?_
        exact (m0_o hF).elim
    · skip
      rw [if_neg c24] at hF
      refine lv_aload_n hx hb dJ0_init_db425_22 rfl (lv_at hl 2 rfl) ?_
      refine lv_iconst (v := 0) hx hb dJ0_init_db425_23 (by decide) ?_
      obtain ⟨E40, e41, hF⟩ := mw_o hF
      obtain ⟨q9, fs9, h9, ez9⟩ := wrI (cy := cy) hC ha0 e41
      refine va_putF (D := (dC, dI)) (ci := 0) (v := .int 0) (ty := .byte) (C := RJ0) (T := TJ0) (N := 4) hx hb hts inlJ0 tyJ0 tyJ0_ok nmJ0 hown hK hP hD hS q9 h9 rfl 1 (by decide) (hts _ mw_285) (fun _ h9 => h9) rfl hnm rfl (by decide +kernel) rfl rfl (Nat.le_of_ble_eq_true rfl) dJ0_init_db425_24 (fun H locs hP hD hS => ?_)
      rw [ez9] at hP hD
      clear ez9 h9
      have hC := sI_clo e41 hC
      refine lv_aload_n hx hb dJ0_init_db425_27 rfl (lv_at hl 2 rfl) ?_
      refine lv_aload_n hx hb dJ0_init_db425_28 rfl (lv_at hl 1 rfl) ?_
      refine lv_iconst (v := 0) hx hb dJ0_init_db425_29 (by decide) ?_
      refine lv_iload hx hb dJ0_init_db425_30 (lv_at hl 0 rfl) ?_
      obtain ⟨x42, n44, s45, E46, e43, hF⟩ := mb_o hF
      have hm := mle e43
      have hM1 := mle1 hF
      have hM2 := mle2 hF
      have hm1 := hm.1
      have hm2 := hm.2.1
      have hFc := my_free hD hS hA
      refine va_callr (va_runS (As := [.ref (AD nb ad7 x2), .int 0, .int x11]) (rest := [.ref Aa0]) ⟨hx, hb, hml, hown, hts⟩ (h_J7_copyOfRange_39247 l dC dI cy nb ad23 n20 s21 E40 hC (x2) (AD nb ad7 x2) hr8 (0) (x11) H.size x42 n44 s45 E46 e43) (va_cwS 3 hts (gS mw_809 mw_810 mw_96 mw_811) rfl rfl rfl (by decide +kernel) ⟨Nat.le_of_ble_eq_true rfl, Nat.le_of_ble_eq_true rfl⟩) (hl_preS hP hK hD hE hS hFc) rfl rfl hl.1 rfl (lv_room (Nat.le_of_ble_eq_true rfl)) dJ0_init_db425_32 ⟨show n20 - n0 + (n44 - n20) ≤ nz - n0 by omega, show s21 - s0 + (s45 - s21) ≤ sz9 - s0 by omega⟩) hS (fun q _ h => hFc q h) hFc (fun u ra t H1 locs ht hvm hw hB hz1 hk1 hS => ?_)
      obtain ⟨ad47, hax, hr48, hP1, hD1⟩ := hB
      rw [ht] at hP1
      have hP := hP1
      have hD := hD1.weaken (fun k q _ h => hFc q.1 h)
      generalize H1 = H at hP hS ⊢
      have hr8 := hr8.mv hC.1 hax
      have ha0 := ha0.mv hC.1 hax
      have ha1 := ha1.mv hC.1 hax
      have hX := hX.trans hax
      have hC := hm.2.2 hC
      have hN : n0 ≤ n44 := Nat.le_trans hN hm1
      have hT : s0 ≤ s45 := Nat.le_trans hT hm2
      refine W.widen (k := n44 - n0) (n := s45 - s0) (by omega) (by omega) ?_
      clear hP1 hD1 hFc hk1 hz1 hvm ht hax hm hm1 hm2 hM1 hM2
      refine my_top (y := .ref (AD nb ad47 x42)) (congrArg Value.ref hr48.2.symm) ?_
      have hr48 := rf_self hr48
      obtain ⟨E50, e51, hF⟩ := mw_o hF
      obtain ⟨q9, fs9, h9, ez9⟩ := wrR (cy := cy) hC ha0 hr48 e51
      refine va_putF (D := (dC, dI)) (ci := 0) (v := .ref (AD nb ad47 x42)) (ty := (.array .byte)) (C := RJ0) (T := TJ0) (N := 4) hx hb hts inlJ0 tyJ0 tyJ0_ok nmJ0 hown hK hP hD hS q9 h9 rfl 0 (by decide) (hts _ mw_279) (fun _ h9 => h9) rfl hnm rfl (by decide +kernel) rfl rfl (Nat.le_of_ble_eq_true rfl) dJ0_init_db425_35 (fun H locs hP hD hS => ?_)
      rw [ez9] at hP hD
      clear ez9 h9
      have hC := sR_clo e51 hC
      refine lv_goto (tgt := 97) hx hb dJ0_init_db425_38 (by decide) ?_
      obtain ⟨ht9, hn9, hs9, hE9⟩ := mr_o hF
      subst hn9 hs9 hE9
      have hX9 := hX
      rw [hQ]
      exact W.vret hx hb hr (fun t ht hW => ⟨⟨(), rfl, trivial, _, hX, by rw [ht]; exact hP, hD⟩, hS.F ht⟩) hS.2.2 dJ0_init_db425_97
  · skip
    refine Met.ofW (cc := cJ0_init_db425) (maxL := 5) (ret := none) (by decide) rfl ?_
    intro p e s m args below meth c s₁ B hml hv
    obtain ⟨rfl, hsz, hP, hK, hD0, hE⟩ := hv
    have hx := B.exec
    have hb := B.bytes
    have hr := B.returns
    have hts0 := atoms_spec (ws := (wsg yJ0_init_db425 cJ0_init_db425 5 none)) B.pre
    have hts : ∀ w ∈ wsL_law, w.before _ s = true := fun w h => hts0 w (List.mem_cons_of_mem _ h)
    have hown : s.vm.findClass RJ0 = some m.cls := by have h9 := findClass_of_methodNamed B.named; exact h9
    have hnm : meth.name = "<init>" := by have h9 := B.name; exact h9
    subst hsz
    have hD := hD0.self (sz := s.heap.size)
    generalize hAe : va_A (CH cy nb ad0 n0 E0) s.heap.size = A at hD hE ⊢
    have hA : ∀ q : Nat, s.heap.size ≤ q → A q := fun q h => by rw [← hAe]; exact Or.inr h
    have hS : va_S A s.heap s.heap [] := va_S.rf
    have hl := lv_entry ([.ref Aa0, .ref Aa1, .ref q8]) (n := 5) (Nat.le_of_ble_eq_true rfl)
    rw [lg_entry_eq]
    generalize (lg_sl ([.ref Aa0, .ref Aa1, .ref q8]) ++ List.replicate (5 - (lg_sl ([.ref Aa0, .ref Aa1, .ref q8])).length) Slot.unset).toArray = ls at hl ⊢
    have hl : lv_has ls 5 [(0, .ref Aa0), (1, .ref Aa1), (2, .ref q8)] := hl
    generalize hHe : s.heap = H at hP hS ⊢
    have hS : va_S A s.heap H [] := by rw [hHe]; exact hS
    refine my_Q (fun Qn hQ => ?_)
    simp only [H_J0_init_db425] at hF
    have hX : axh n0 ad0 n0 ad0 := axh_refl
    have hN : n0 ≤ n0 := Nat.le_refl _
    have hT : s0 ≤ s0 := Nat.le_refl _
    refine W.widen (k := n0 - n0) (n := s0 - s0) (by omega) (by omega) ?_
    refine lv_aload_n hx hb dJ0_init_db425_0 rfl (lv_at hl 0 rfl) ?_
    refine W.objInit hx hb hown (hts _ mw_792) (hts _ mw_18) (hts _ mw_19) rfl (by rw [hml]; exact hl.1) rfl dJ0_init_db425_1 (Nat.le_of_ble_eq_true rfl) (Nat.le_of_ble_eq_true rfl) ?_
    refine W.eq (g2 := F0 m 4 ls []) rfl ?_
    refine lv_aload_n hx hb dJ0_init_db425_4 rfl (lv_at hl 1 rfl) ?_
    obtain ⟨fs9, e1, hF⟩ := mg_o hF
    obtain ⟨x2, n4, s5, E6, e3, hF⟩ := mb_o hF
    have hm := mle e3
    have hM1 := mle1 hF
    have hM2 := mle2 hF
    have hm1 := hm.1
    have hm2 := hm.2.1
    have hFc := my_free hD hS hA
    refine va_callr (va_runV (C := RJ4) (As := []) (rest := []) ⟨hx, hb, hml, hown, hts⟩ (h_J5_getValue_6d5f1 l dC dI cy nb ad0 n0 s0 E0 hC (a1) Aa1 ha1 H.size x2 n4 s5 E6 e3) (cwV 0 hts (gV mw_794 mw_797 mw_796 mw_8 mw_798) rfl rfl rfl (by decide +kernel) ⟨Nat.le_of_ble_eq_true rfl, Nat.le_of_ble_eq_true rfl⟩) (hl_preV hP hK hD hE hS hFc (va_recv hK (rdO_ hP hC ha1 e1) (ci := 1) (q0 := 0) rfl rfl)) rfl rfl hl.1 rfl (lv_room (Nat.le_of_ble_eq_true rfl)) dJ0_init_db425_5 ⟨show n0 - n0 + (n4 - n0) ≤ nz - n0 by omega, show s0 - s0 + (s5 - s0) ≤ sz9 - s0 by omega⟩) hS (fun q _ h => hFc q h) hFc (fun u ra t H1 locs ht hvm hw hB hz1 hk1 hS => ?_)
    obtain ⟨ad7, hax, hr8, hP1, hD1⟩ := hB
    rw [ht] at hP1
    have hP := hP1
    have hD := hD1.weaken (fun k q _ h => hFc q.1 h)
    generalize H1 = H at hP hS ⊢
    have ha0 := ha0.mv hC.1 hax
    have ha1 := ha1.mv hC.1 hax
    have hX := hX.trans hax
    have hC := hm.2.2 hC
    have hN : n0 ≤ n4 := Nat.le_trans hN hm1
    have hT : s0 ≤ s5 := Nat.le_trans hT hm2
    refine W.widen (k := n4 - n0) (n := s5 - s0) (by omega) (by omega) ?_
    clear hP1 hD1 hFc hk1 hz1 hvm ht hax hm hm1 hm2 hM1 hM2
    refine my_top (y := .ref (AD nb ad7 x2)) (congrArg Value.ref hr8.2.symm) ?_
    have hr8 := rf_self hr8
    refine lv_astore_n (lv' := [(3, .ref (AD nb ad7 x2)), (0, .ref Aa0), (1, .ref Aa1), (2, .ref q8)]) hx hb dJ0_init_db425_8 rfl hl (by decide) rfl (fun ls hl => ?_)
    refine lv_aload_n hx hb dJ0_init_db425_9 rfl (lv_at hl 2 rfl) ?_
    obtain ⟨fs9, e10, hF⟩ := mg_o hF
    obtain ⟨x11, n13, s14, E15, e12, hF⟩ := mb_o hF
    have hm := mle e12
    have hM1 := mle1 hF
    have hM2 := mle2 hF
    have hm1 := hm.1
    have hm2 := hm.2.1
    have hFc := my_free hD hS hA
    refine va_calli (va_runU (C := RJ4) (As := []) (rest := []) ⟨hx, hb, hml, hown, hts⟩ (h_J4_length_8abf5 l dC dI cy nb ad7 n4 s5 E6 hC (a1) Aa1 ha1 H.size x11 n13 s14 E15 e12) (va_cwO 0 hts (gO mw_799 mw_800 mw_801 mw_802 mw_803 mw_8 mw_804) rfl rfl rfl mw_807 (by decide +kernel) ⟨Nat.le_of_ble_eq_true rfl, Nat.le_of_ble_eq_true rfl⟩) (hl_preV hP hK hD hE hS hFc (va_recv hK (rdO_ hP hC ha1 e10) (ci := 1) (q0 := 0) rfl rfl)) rfl rfl hl.1 rfl (lv_room (Nat.le_of_ble_eq_true rfl)) dJ0_init_db425_10 ⟨show n4 - n0 + (n13 - n4) ≤ nz - n0 by omega, show s5 - s0 + (s14 - s5) ≤ sz9 - s0 by omega⟩) hS (fun q _ h => hFc q h) hFc (fun r9 u t H1 locs ht hvm hw hB hz1 hk1 hS => ?_)
    obtain ⟨ad16, hax, hP1, hD1⟩ := hB
    rw [ht] at hP1
    have hP := hP1
    have hD := hD1.weaken (fun k q _ h => hFc q.1 h)
    generalize H1 = H at hP hS ⊢
    have hr8 := hr8.mv hC.1 hax
    have ha0 := ha0.mv hC.1 hax
    have ha1 := ha1.mv hC.1 hax
    have hX := hX.trans hax
    have hC := hm.2.2 hC
    have hN : n0 ≤ n13 := Nat.le_trans hN hm1
    have hT : s0 ≤ s14 := Nat.le_trans hT hm2
    refine W.widen (k := n13 - n0) (n := s14 - s0) (by omega) (by omega) ?_
    clear hP1 hD1 hFc hk1 hz1 hvm ht hax hm hm1 hm2 hM1 hM2
    obtain rfl := hw.symm
    refine lv_istore (lv' := [(4, .int x11), (3, .ref (AD nb ad7 x2)), (0, .ref Aa0), (1, .ref Aa1), (2, .ref q8)]) hx hb dJ0_init_db425_13 hl (by decide) rfl (fun ls hl => ?_)
    refine lv_aload_n hx hb dJ0_init_db425_15 rfl (lv_at hl 3 rfl) ?_
    obtain ⟨fs9, e17, hF⟩ := mg_o hF
    obtain ⟨x18, n20, s21, E22, e19, hF⟩ := mb_o hF
    have hm := mle e19
    have hM1 := mle1 hF
    have hM2 := mle2 hF
    have hm1 := hm.1
    have hm2 := hm.2.1
    have hFc := my_free hD hS hA
    refine va_calli (va_runV (C := RJ4) (As := []) (rest := []) ⟨hx, hb, hml, hown, hts⟩ (h_J5_isLatin1_aae02 l dC dI cy nb ad16 n13 s14 E15 hC (a1) Aa1 ha1 H.size x18 n20 s21 E22 e19) (cwV 0 hts (gV mw_808 mw_672 mw_671 mw_8 mw_673) rfl rfl rfl (by decide +kernel) ⟨Nat.le_of_ble_eq_true rfl, Nat.le_of_ble_eq_true rfl⟩) (hl_preV hP hK hD hE hS hFc (va_recv hK (rdO_ hP hC ha1 e17) (ci := 1) (q0 := 0) rfl rfl)) rfl rfl hl.1 rfl (lv_room (Nat.le_of_ble_eq_true rfl)) dJ0_init_db425_16 ⟨show n13 - n0 + (n20 - n13) ≤ nz - n0 by omega, show s14 - s0 + (s21 - s14) ≤ sz9 - s0 by omega⟩) hS (fun q _ h => hFc q h) hFc (fun r9 u t H1 locs ht hvm hw hB hz1 hk1 hS => ?_)
    obtain ⟨ad23, hax, hP1, hD1⟩ := hB
    rw [ht] at hP1
    have hP := hP1
    have hD := hD1.weaken (fun k q _ h => hFc q.1 h)
    generalize H1 = H at hP hS ⊢
    have hr8 := hr8.mv hC.1 hax
    have ha0 := ha0.mv hC.1 hax
    have ha1 := ha1.mv hC.1 hax
    have hX := hX.trans hax
    have hC := hm.2.2 hC
    have hN : n0 ≤ n20 := Nat.le_trans hN hm1
    have hT : s0 ≤ s21 := Nat.le_trans hT hm2
    refine W.widen (k := n20 - n0) (n := s21 - s0) (by omega) (by omega) ?_
    clear hP1 hD1 hFc hk1 hz1 hvm ht hax hm hm1 hm2 hM1 hM2
    obtain rfl := hw.symm
    refine lv_if_eq (tgt := 41) hx hb dJ0_init_db425_19 (by decide) (fun c24 => ?_) (fun c24 => ?_)
    · skip
      rw [if_pos c24] at hF
      refine va_gets (C := "java/lang/String") (n := "COMPACT_STRINGS") (d := "Z") (ref := "java/lang/String") (v := .int 1) hx hb hE.ge.cs hS hown (hts _ mw_284) (fun _ h9 => h9) dJ0_init_db425_41 ?_
      refine lv_if_eq (tgt := 79) hx hb dJ0_init_db425_44 (by decide) (fun h => absurd h (by decide)) (fun _ => ?_)
      refine lv_aload_n hx hb dJ0_init_db425_47 rfl (lv_at hl 3 rfl) ?_
      obtain ⟨x25, e26, hF⟩ := mg_o hF
      obtain ⟨fs9, h9, g9⟩ := rdI hP hC ha1 e26
      refine va_get (D := (dC, dI)) (ci := 1) (v := .int x25) (C := RJ4) (T := TJ4) (N := 4) hx hb hts inlJ4 hown hK h9 0 rfl rfl 2 (by decide) (hts _ mw_793) (fun _ h9 => h9) g9 dJ0_init_db425_48 ?_
      clear h9 g9
      refine lv_if_eq (tgt := 79) hx hb dJ0_init_db425_51 (by decide) (fun c27 => ?_) (fun c27 => ?_)
      · skip
        rw [if_pos c27] at hF
        refine lv_aload_n hx hb dJ0_init_db425_79 rfl (lv_at hl 2 rfl) ?_
        refine lv_iconst (v := 1) hx hb dJ0_init_db425_80 (by decide) ?_
        obtain ⟨E28, e29, hF⟩ := mw_o hF
        obtain ⟨q9, fs9, h9, ez9⟩ := wrI (cy := cy) hC ha0 e29
        refine va_putF (D := (dC, dI)) (ci := 0) (v := .int 1) (ty := .byte) (C := RJ0) (T := TJ0) (N := 4) hx hb hts inlJ0 tyJ0 tyJ0_ok nmJ0 hown hK hP hD hS q9 h9 rfl 1 (by decide) (hts _ mw_285) (fun _ h9 => h9) rfl hnm rfl (by decide +kernel) rfl rfl (Nat.le_of_ble_eq_true rfl) dJ0_init_db425_81 (fun H locs hP hD hS => ?_)
        rw [ez9] at hP hD
        clear ez9 h9
        have hC := sI_clo e29 hC
        refine lv_aload_n hx hb dJ0_init_db425_84 rfl (lv_at hl 2 rfl) ?_
        refine lv_aload_n hx hb dJ0_init_db425_85 rfl (lv_at hl 1 rfl) ?_
        refine lv_iconst (v := 0) hx hb dJ0_init_db425_86 (by decide) ?_
        refine lv_iload hx hb dJ0_init_db425_87 (lv_at hl 0 rfl) ?_
        refine lv_iconst (v := 1) hx hb dJ0_init_db425_89 (by decide) ?_
        refine lv_ishl hx hb dJ0_init_db425_90 ?_
        obtain ⟨x30, n32, s33, E34, e31, hF⟩ := mb_o hF
        have hm := mle e31
        have hM1 := mle1 hF
        have hM2 := mle2 hF
        have hm1 := hm.1
        have hm2 := hm.2.1
        have hFc := my_free hD hS hA
        refine va_callr (va_runS (As := [.ref (AD nb ad7 x2), .int 0, .int (x11 <<< ((1 : Int32) &&& 31))]) (rest := [.ref Aa0]) ⟨hx, hb, hml, hown, hts⟩ (h_J7_copyOfRange_39247 l dC dI cy nb ad23 n20 s21 E28 hC (x2) (AD nb ad7 x2) hr8 (0) ((x11 <<< ((1 : Int32) &&& 31))) H.size x30 n32 s33 E34 e31) (va_cwS 3 hts (gS mw_809 mw_810 mw_96 mw_811) rfl rfl rfl (by decide +kernel) ⟨Nat.le_of_ble_eq_true rfl, Nat.le_of_ble_eq_true rfl⟩) (hl_preS hP hK hD hE hS hFc) rfl rfl hl.1 rfl (lv_room (Nat.le_of_ble_eq_true rfl)) dJ0_init_db425_91 ⟨show n20 - n0 + (n32 - n20) ≤ nz - n0 by omega, show s21 - s0 + (s33 - s21) ≤ sz9 - s0 by omega⟩) hS (fun q _ h => hFc q h) hFc (fun u ra t H1 locs ht hvm hw hB hz1 hk1 hS => ?_)
        obtain ⟨ad35, hax, hr36, hP1, hD1⟩ := hB
        rw [ht] at hP1
        have hP := hP1
        have hD := hD1.weaken (fun k q _ h => hFc q.1 h)
        generalize H1 = H at hP hS ⊢
        have hr8 := hr8.mv hC.1 hax
        have ha0 := ha0.mv hC.1 hax
        have ha1 := ha1.mv hC.1 hax
        have hX := hX.trans hax
        have hC := hm.2.2 hC
        have hN : n0 ≤ n32 := Nat.le_trans hN hm1
        have hT : s0 ≤ s33 := Nat.le_trans hT hm2
        refine W.widen (k := n32 - n0) (n := s33 - s0) (by omega) (by omega) ?_
        clear hP1 hD1 hFc hk1 hz1 hvm ht hax hm hm1 hm2 hM1 hM2
        refine my_top (y := .ref (AD nb ad35 x30)) (congrArg Value.ref hr36.2.symm) ?_
        have hr36 := rf_self hr36
        obtain ⟨E38, e39, hF⟩ := mw_o hF
        obtain ⟨q9, fs9, h9, ez9⟩ := wrR (cy := cy) hC ha0 hr36 e39
        refine va_putF (D := (dC, dI)) (ci := 0) (v := .ref (AD nb ad35 x30)) (ty := (.array .byte)) (C := RJ0) (T := TJ0) (N := 4) hx hb hts inlJ0 tyJ0 tyJ0_ok nmJ0 hown hK hP hD hS q9 h9 rfl 0 (by decide) (hts _ mw_279) (fun _ h9 => h9) rfl hnm rfl (by decide +kernel) rfl rfl (Nat.le_of_ble_eq_true rfl) dJ0_init_db425_94 (fun H locs hP hD hS => ?_)
        rw [ez9] at hP hD
        clear ez9 h9
        have hC := sR_clo e39 hC
        obtain ⟨ht9, hn9, hs9, hE9⟩ := mr_o hF
        subst hn9 hs9 hE9
        have hX9 := hX
        rw [hQ]
        exact W.vret hx hb hr (fun t ht hW => ⟨⟨(), rfl, trivial, _, hX, by rw [ht]; exact hP, hD⟩, hS.F ht⟩) hS.2.2 dJ0_init_db425_97
      · skip
        rw [if_neg c27] at hF
        refine lv_aload_n hx hb dJ0_init_db425_54 rfl (lv_at hl 2 rfl) ?_
        refine lv_aload_n hx hb dJ0_init_db425_55 rfl (lv_at hl 1 rfl) ?_
        refine lv_iconst (v := 0) hx hb dJ0_init_db425_56 (by decide) ?_
        refine lv_iload hx hb dJ0_init_db425_57 (lv_at hl 0 rfl) ?_
        exact (m0_o hF).elim
    · skip
      rw [if_neg c24] at hF
      refine lv_aload_n hx hb dJ0_init_db425_22 rfl (lv_at hl 2 rfl) ?_
      refine lv_iconst (v := 0) hx hb dJ0_init_db425_23 (by decide) ?_
      obtain ⟨E40, e41, hF⟩ := mw_o hF
      obtain ⟨q9, fs9, h9, ez9⟩ := wrI (cy := cy) hC ha0 e41
      refine va_putF (D := (dC, dI)) (ci := 0) (v := .int 0) (ty := .byte) (C := RJ0) (T := TJ0) (N := 4) hx hb hts inlJ0 tyJ0 tyJ0_ok nmJ0 hown hK hP hD hS q9 h9 rfl 1 (by decide) (hts _ mw_285) (fun _ h9 => h9) rfl hnm rfl (by decide +kernel) rfl rfl (Nat.le_of_ble_eq_true rfl) dJ0_init_db425_24 (fun H locs hP hD hS => ?_)
      rw [ez9] at hP hD
      clear ez9 h9
      have hC := sI_clo e41 hC
      refine lv_aload_n hx hb dJ0_init_db425_27 rfl (lv_at hl 2 rfl) ?_
      refine lv_aload_n hx hb dJ0_init_db425_28 rfl (lv_at hl 1 rfl) ?_
      refine lv_iconst (v := 0) hx hb dJ0_init_db425_29 (by decide) ?_
      refine lv_iload hx hb dJ0_init_db425_30 (lv_at hl 0 rfl) ?_
      obtain ⟨x42, n44, s45, E46, e43, hF⟩ := mb_o hF
      have hm := mle e43
      have hM1 := mle1 hF
      have hM2 := mle2 hF
      have hm1 := hm.1
      have hm2 := hm.2.1
      have hFc := my_free hD hS hA
      refine va_callr (va_runS (As := [.ref (AD nb ad7 x2), .int 0, .int x11]) (rest := [.ref Aa0]) ⟨hx, hb, hml, hown, hts⟩ (h_J7_copyOfRange_39247 l dC dI cy nb ad23 n20 s21 E40 hC (x2) (AD nb ad7 x2) hr8 (0) (x11) H.size x42 n44 s45 E46 e43) (va_cwS 3 hts (gS mw_809 mw_810 mw_96 mw_811) rfl rfl rfl (by decide +kernel) ⟨Nat.le_of_ble_eq_true rfl, Nat.le_of_ble_eq_true rfl⟩) (hl_preS hP hK hD hE hS hFc) rfl rfl hl.1 rfl (lv_room (Nat.le_of_ble_eq_true rfl)) dJ0_init_db425_32 ⟨show n20 - n0 + (n44 - n20) ≤ nz - n0 by omega, show s21 - s0 + (s45 - s21) ≤ sz9 - s0 by omega⟩) hS (fun q _ h => hFc q h) hFc (fun u ra t H1 locs ht hvm hw hB hz1 hk1 hS => ?_)
      obtain ⟨ad47, hax, hr48, hP1, hD1⟩ := hB
      rw [ht] at hP1
      have hP := hP1
      have hD := hD1.weaken (fun k q _ h => hFc q.1 h)
      generalize H1 = H at hP hS ⊢
      have hr8 := hr8.mv hC.1 hax
      have ha0 := ha0.mv hC.1 hax
      have ha1 := ha1.mv hC.1 hax
      have hX := hX.trans hax
      have hC := hm.2.2 hC
      have hN : n0 ≤ n44 := Nat.le_trans hN hm1
      have hT : s0 ≤ s45 := Nat.le_trans hT hm2
      refine W.widen (k := n44 - n0) (n := s45 - s0) (by omega) (by omega) ?_
      clear hP1 hD1 hFc hk1 hz1 hvm ht hax hm hm1 hm2 hM1 hM2
      refine my_top (y := .ref (AD nb ad47 x42)) (congrArg Value.ref hr48.2.symm) ?_
      have hr48 := rf_self hr48
      obtain ⟨E50, e51, hF⟩ := mw_o hF
      obtain ⟨q9, fs9, h9, ez9⟩ := wrR (cy := cy) hC ha0 hr48 e51
      refine va_putF (D := (dC, dI)) (ci := 0) (v := .ref (AD nb ad47 x42)) (ty := (.array .byte)) (C := RJ0) (T := TJ0) (N := 4) hx hb hts inlJ0 tyJ0 tyJ0_ok nmJ0 hown hK hP hD hS q9 h9 rfl 0 (by decide) (hts _ mw_279) (fun _ h9 => h9) rfl hnm rfl (by decide +kernel) rfl rfl (Nat.le_of_ble_eq_true rfl) dJ0_init_db425_35 (fun H locs hP hD hS => ?_)
      rw [ez9] at hP hD
      clear ez9 h9
      have hC := sR_clo e51 hC
      refine lv_goto (tgt := 97) hx hb dJ0_init_db425_38 (by decide) ?_
      obtain ⟨ht9, hn9, hs9, hE9⟩ := mr_o hF
      subst hn9 hs9 hE9
      have hX9 := hX
      rw [hQ]
      exact W.vret hx hb hr (fun t ht hW => ⟨⟨(), rfl, trivial, _, hX, by rw [ht]; exact hP, hD⟩, hS.F ht⟩) hS.2.2 dJ0_init_db425_97
noncomputable def H_J0_init_81219 (a0 : Nat) (a1 : Nat) : MH Unit := mb (H_J0_init_db425 (a0) (a1)) fun _ => mr ()
set_option maxHeartbeats 4000000 in
set_option maxRecDepth 100000 in
theorem h_J0_init_81219 (l : Launch) (dC : Nat → ClassId) (dI : Nat → Nat → Nat) (cy : Nat → ClassId) (nb : Nat → Nat) (ad0 : Nat → Nat) (n0 s0 : Nat) (E0 : HE) (hC : clo n0 E0) (a0 Aa0 : Nat) (ha0 : rf nb ad0 n0 a0 Aa0) (a1 Aa1 : Nat) (ha1 : rf nb ad0 n0 a1 Aa1) (sz : Nat) (nz sz9 : Nat) (Ez : HE) (hF : (H_J0_init_81219 a0 a1).1 (n0, s0, E0) = some ((), nz, sz9, Ez)) : Met l yJ0_init_81219 (wsg yJ0_init_81219 cJ0_init_81219 2 none) ({ frames := 12, cells := nz - n0, slots := sz9 - s0, locals := 700 }) (va_Pc [.ref Aa0, .ref Aa1] (fun U => U.heap.size = sz ∧ va_P (dC, dI) vwCl (CH cy nb ad0 n0 E0) U.heap ∧ va_K (dC, dI) vwCl (tyL cy) U ∧ va_D (fun _ => True) (CH cy nb ad0 n0 E0) ∧ GL nb (va_A (CH cy nb ad0 n0 E0) sz) U)) (va_Qv (fun (_ : Unit) => True) (fun _ t => ∃ ad2 : Nat → Nat, axh n0 ad0 nz ad2 ∧ va_P (dC, dI) vwCl (CH cy nb ad2 nz Ez) t.heap ∧ va_D (va_A (CH cy nb ad0 n0 E0) sz) (CH cy nb ad2 nz Ez)) (va_A (CH cy nb ad0 n0 E0) sz)) (nz - n0) (sz9 - s0) (va_A (CH cy nb ad0 n0 E0) sz) := by
  refine Met.ofW (cc := cJ0_init_81219) (maxL := 2) (ret := none) (by decide) rfl ?_
  intro p e s m args below meth c s₁ B hml hv
  obtain ⟨rfl, hsz, hP, hK, hD0, hE⟩ := hv
  have hx := B.exec
  have hb := B.bytes
  have hr := B.returns
  have hts0 := atoms_spec (ws := (wsg yJ0_init_81219 cJ0_init_81219 2 none)) B.pre
  have hts : ∀ w ∈ wsL_law, w.before _ s = true := fun w h => hts0 w (List.mem_cons_of_mem _ h)
  have hown : s.vm.findClass RJ0 = some m.cls := by have h9 := findClass_of_methodNamed B.named; exact h9
  have hnm : meth.name = "<init>" := by have h9 := B.name; exact h9
  subst hsz
  have hD := hD0.self (sz := s.heap.size)
  generalize hAe : va_A (CH cy nb ad0 n0 E0) s.heap.size = A at hD hE ⊢
  have hA : ∀ q : Nat, s.heap.size ≤ q → A q := fun q h => by rw [← hAe]; exact Or.inr h
  have hS : va_S A s.heap s.heap [] := va_S.rf
  have hl := lv_entry ([.ref Aa0, .ref Aa1]) (n := 2) (Nat.le_of_ble_eq_true rfl)
  rw [lg_entry_eq]
  generalize (lg_sl ([.ref Aa0, .ref Aa1]) ++ List.replicate (2 - (lg_sl ([.ref Aa0, .ref Aa1])).length) Slot.unset).toArray = ls at hl ⊢
  have hl : lv_has ls 2 [(0, .ref Aa0), (1, .ref Aa1)] := hl
  generalize hHe : s.heap = H at hP hS ⊢
  have hS : va_S A s.heap H [] := by rw [hHe]; exact hS
  refine my_Q (fun Qn hQ => ?_)
  simp only [H_J0_init_81219] at hF
  have hX : axh n0 ad0 n0 ad0 := axh_refl
  have hN : n0 ≤ n0 := Nat.le_refl _
  have hT : s0 ≤ s0 := Nat.le_refl _
  refine W.widen (k := n0 - n0) (n := s0 - s0) (by omega) (by omega) ?_
  refine lv_aload_n hx hb dJ0_init_81219_0 rfl (lv_at hl 0 rfl) ?_
  refine lv_aload_n hx hb dJ0_init_81219_1 rfl (lv_at hl 1 rfl) ?_
  refine lv_null hx hb dJ0_init_81219_2 ?_
  obtain ⟨⟨⟩, n2, s3, E4, e1, hF⟩ := mb_o hF
  have hm := mle e1
  have hM1 := mle1 hF
  have hM2 := mle2 hF
  have hm1 := hm.1
  have hm2 := hm.2.1
  have hFc := my_free hD hS hA
  refine va_callv (va_runI (As := [.ref Aa1, .null]) (rest := []) ⟨hx, hb, hml, hown, hts⟩ (h_J0_init_db425 l dC dI cy nb ad0 n0 s0 E0 hC (a0) Aa0 ha0 (a1) Aa1 ha1 .null (Or.inl rfl) H.size n2 s3 E4 e1) (cwI 2 hts (gI mw_791) rfl rfl rfl (hts _ mw_277) (hts _ mw_789) (hts _ mw_790) rfl (by decide +kernel) ⟨Nat.le_of_ble_eq_true rfl, Nat.le_of_ble_eq_true rfl⟩) (hl_preS hP hK hD hE hS hFc) rfl rfl hl.1 rfl (lv_room (Nat.le_of_ble_eq_true rfl)) dJ0_init_81219_3 ⟨show n0 - n0 + (n2 - n0) ≤ nz - n0 by omega, show s0 - s0 + (s3 - s0) ≤ sz9 - s0 by omega⟩) hS (fun q _ h => hFc q h) hFc (fun u t H1 locs ht hvm hw hB hz1 hk1 hS => ?_)
  obtain ⟨ad5, hax, hP1, hD1⟩ := hB
  rw [ht] at hP1
  have hP := hP1
  have hD := hD1.weaken (fun k q _ h => hFc q.1 h)
  generalize H1 = H at hP hS ⊢
  have ha0 := ha0.mv hC.1 hax
  have ha1 := ha1.mv hC.1 hax
  have hX := hX.trans hax
  have hC := hm.2.2 hC
  have hN : n0 ≤ n2 := Nat.le_trans hN hm1
  have hT : s0 ≤ s3 := Nat.le_trans hT hm2
  refine W.widen (k := n2 - n0) (n := s3 - s0) (by omega) (by omega) ?_
  clear hP1 hD1 hFc hk1 hz1 hvm ht hax hm hm1 hm2 hM1 hM2
  obtain ⟨ht9, hn9, hs9, hE9⟩ := mr_o hF
  subst hn9 hs9 hE9
  have hX9 := hX
  rw [hQ]
  exact W.vret hx hb hr (fun t ht hW => ⟨⟨(), rfl, trivial, _, hX, by rw [ht]; exact hP, hD⟩, hS.F ht⟩) hS.2.2 dJ0_init_81219_6
noncomputable def H_J4_toString_0e30d (a0 : Nat) : MH Nat := mb (mn 4 (.inr (0, [.null, .int 0, .int 0, .int 0])) nok_J0) fun x4 => mb (H_J0_init_81219 (x4) (a0)) fun _ => mr x4
set_option maxHeartbeats 4000000 in
set_option maxRecDepth 100000 in
theorem h_J4_toString_0e30d (l : Launch) (dC : Nat → ClassId) (dI : Nat → Nat → Nat) (cy : Nat → ClassId) (nb : Nat → Nat) (ad0 : Nat → Nat) (n0 s0 : Nat) (E0 : HE) (hC : clo n0 E0) (a0 Aa0 : Nat) (ha0 : rf nb ad0 n0 a0 Aa0) (sz : Nat) (ro : Nat) (nz sz9 : Nat) (Ez : HE) (hF : (H_J4_toString_0e30d a0).1 (n0, s0, E0) = some (ro, nz, sz9, Ez)) : Met l yJ4_toString_0e30d (wsg yJ4_toString_0e30d cJ4_toString_0e30d 1 (some (.object "java/lang/String"))) ({ frames := 13, cells := nz - n0, slots := sz9 - s0, locals := 800 }) (va_Pc [.ref Aa0] (fun U => U.heap.size = sz ∧ va_P (dC, dI) vwCl (CH cy nb ad0 n0 E0) U.heap ∧ va_K (dC, dI) vwCl (tyL cy) U ∧ va_D (fun _ => True) (CH cy nb ad0 n0 E0) ∧ GL nb (va_A (CH cy nb ad0 n0 E0) sz) U)) (va_Qr (fun (_ : Unit) => True) (fun _ ra t => ∃ ad2 : Nat → Nat, axh n0 ad0 nz ad2 ∧ rf nb ad2 nz ro ra ∧ va_P (dC, dI) vwCl (CH cy nb ad2 nz Ez) t.heap ∧ va_D (va_A (CH cy nb ad0 n0 E0) sz) (CH cy nb ad2 nz Ez)) (va_A (CH cy nb ad0 n0 E0) sz)) (nz - n0) (sz9 - s0) (va_A (CH cy nb ad0 n0 E0) sz) := by
  refine Met.ofW (cc := cJ4_toString_0e30d) (maxL := 1) (ret := (some (.object "java/lang/String"))) (by decide) rfl ?_
  intro p e s m args below meth c s₁ B hml hv
  obtain ⟨rfl, hsz, hP, hK, hD0, hE⟩ := hv
  have hx := B.exec
  have hb := B.bytes
  have hr := B.returns
  have hts0 := atoms_spec (ws := (wsg yJ4_toString_0e30d cJ4_toString_0e30d 1 (some (.object "java/lang/String")))) B.pre
  have hts : ∀ w ∈ wsL_law, w.before _ s = true := fun w h => hts0 w (List.mem_cons_of_mem _ h)
  have hown : s.vm.findClass RJ4 = some m.cls := by have h9 := findClass_of_methodNamed B.named; exact h9
  subst hsz
  have hD := hD0.self (sz := s.heap.size)
  generalize hAe : va_A (CH cy nb ad0 n0 E0) s.heap.size = A at hD hE ⊢
  have hA : ∀ q : Nat, s.heap.size ≤ q → A q := fun q h => by rw [← hAe]; exact Or.inr h
  have hS : va_S A s.heap s.heap [] := va_S.rf
  have hl := lv_entry ([.ref Aa0]) (n := 1) (Nat.le_of_ble_eq_true rfl)
  rw [lg_entry_eq]
  generalize (lg_sl ([.ref Aa0]) ++ List.replicate (1 - (lg_sl ([.ref Aa0])).length) Slot.unset).toArray = ls at hl ⊢
  have hl : lv_has ls 1 [(0, .ref Aa0)] := hl
  generalize hHe : s.heap = H at hP hS ⊢
  have hS : va_S A s.heap H [] := by rw [hHe]; exact hS
  refine my_Q (fun Qn hQ => ?_)
  simp only [H_J4_toString_0e30d] at hF
  have hX : axh n0 ad0 n0 ad0 := axh_refl
  have hN : n0 ≤ n0 := Nat.le_refl _
  have hT : s0 ≤ s0 := Nat.le_refl _
  refine W.widen (k := n0 - n0) (n := s0 - s0) (by omega) (by omega) ?_
  obtain ⟨x4, n1, s2, E3, hq, hF⟩ := mn_o hF
  have hM1 := mle1 hF
  have hM2 := mle2 hF
  have hq9 := hq.2.1
  have hq8 := hq.2.2.1
  refine va_new (ci := 0) (fs := [.null, .int 0, .int 0, .int 0]) (C := RJ0) (T := TJ0) (N := 4) hx hb hts inlJ0 tyJ0 tyJ0_ok hown (hts _ mw_784) (hts _ mw_785) (hts _ mw_277) hK hP hD hS hA rfl (fun j hj => by match j, hj with | 0, _ => rfl | 1, _ => rfl | 2, _ => rfl | 3, _ => rfl | (n+4), h => omega) (show n0 - n0 + 1 ≤ nz - n0 by omega) (show s0 - s0 + 4 ≤ sz9 - s0 by omega) dJ4_toString_0e30d_0 (fun q5 H hP hD hS => ?_)
  obtain ⟨ad6, hax, hr7, hC9, hw9⟩ := new_w (cy := cy) (nb := nb) (ad := ad0) (e := .inr (0, [.null, .int 0, .int 0, .int 0])) nok_J0 (fun _ => rfl) hC q5 hq
  rw [hw9] at hP hD
  have ha0 := ha0.mv hC.1 hax
  have hX := hX.trans hax
  have hC := hC9
  obtain ⟨-, hq1, hq2, -, -⟩ := hq
  have hN : n0 ≤ n1 := by omega
  have hT : s0 ≤ s2 := by omega
  refine W.widen (k := n1 - n0) (n := s2 - s0) (by omega) (by omega) ?_
  clear hM1 hM2 hax hC9 hw9 hq1 hq2 hq8 hq9
  refine lv_dup hx hb dJ4_toString_0e30d_3 rfl ?_
  refine lv_aload_n hx hb dJ4_toString_0e30d_4 rfl (lv_at hl 0 rfl) ?_
  obtain ⟨⟨⟩, n9, s10, E11, e8, hF⟩ := mb_o hF
  have hm := mle e8
  have hM1 := mle1 hF
  have hM2 := mle2 hF
  have hm1 := hm.1
  have hm2 := hm.2.1
  have hFc := my_free hD hS hA
  refine va_callv (va_runI (As := [.ref Aa0]) (rest := [.ref q5]) ⟨hx, hb, hml, hown, hts⟩ (h_J0_init_81219 l dC dI cy nb ad6 n1 s2 E3 hC (x4) q5 hr7 (a0) Aa0 ha0 H.size n9 s10 E11 e8) (cwI 1 hts (gI mw_788) rfl rfl rfl (hts _ mw_277) (hts _ mw_786) (hts _ mw_787) rfl (by decide +kernel) ⟨Nat.le_of_ble_eq_true rfl, Nat.le_of_ble_eq_true rfl⟩) (hl_preS hP hK hD hE hS hFc) rfl rfl hl.1 rfl (lv_room (Nat.le_of_ble_eq_true rfl)) dJ4_toString_0e30d_5 ⟨show n1 - n0 + (n9 - n1) ≤ nz - n0 by omega, show s2 - s0 + (s10 - s2) ≤ sz9 - s0 by omega⟩) hS (fun q _ h => hFc q h) hFc (fun u t H1 locs ht hvm hw hB hz1 hk1 hS => ?_)
  obtain ⟨ad12, hax, hP1, hD1⟩ := hB
  rw [ht] at hP1
  have hP := hP1
  have hD := hD1.weaken (fun k q _ h => hFc q.1 h)
  generalize H1 = H at hP hS ⊢
  have ha0 := ha0.mv hC.1 hax
  have hr7 := hr7.mv hC.1 hax
  have hX := hX.trans hax
  have hC := hm.2.2 hC
  have hN : n0 ≤ n9 := Nat.le_trans hN hm1
  have hT : s0 ≤ s10 := Nat.le_trans hT hm2
  refine W.widen (k := n9 - n0) (n := s10 - s0) (by omega) (by omega) ?_
  clear hP1 hD1 hFc hk1 hz1 hvm ht hax hm hm1 hm2 hM1 hM2
  obtain ⟨ht9, hn9, hs9, hE9⟩ := mr_o hF
  subst hn9 hs9 hE9
  have hX9 := hX
  rw [hQ]
  exact W.aret (v := .ref q5) hx hb hr (by first | exact Or.inl ⟨_, rfl⟩ | exact Or.inr ⟨_, rfl⟩) (Or.inr ⟨_, rfl⟩) (fun t ht hW => ⟨⟨(), q5, rfl, trivial, _, hX, (by rw [← ht9]; exact hr7), by rw [ht]; exact hP, hD⟩, hS.F ht⟩) hS.2.2 dJ4_toString_0e30d_8
