noncomputable def H_J3_checkIndex_8e157 (a1 : Int32) (a2 : Int32) : MH Int32 := if a1 < 0 then (m0) else (if a1 < a2 then (mr a1) else (m0))
set_option maxHeartbeats 4000000 in
set_option maxRecDepth 100000 in
theorem h_J3_checkIndex_8e157 (l : Launch) (dC : Nat → ClassId) (dI : Nat → Nat → Nat) (cy : Nat → ClassId) (nb : Nat → Nat) (ad0 : Nat → Nat) (n0 s0 : Nat) (E0 : HE) (hC : clo n0 E0) (a1 : Int32) (a2 : Int32) (a3 : Value) (ha3 : a3 = .null ∨ ∃ q, a3 = .ref q) (sz : Nat) (ro : Int32) (nz sz9 : Nat) (Ez : HE) (hF : (H_J3_checkIndex_8e157 a1 a2).1 (n0, s0, E0) = some (ro, nz, sz9, Ez)) : Met l yJ3_checkIndex_8e157 (wsg yJ3_checkIndex_8e157 cJ3_checkIndex_8e157 3 (some .int)) ({ frames := 8, cells := nz - n0, slots := sz9 - s0, locals := 300 }) (va_Pc [.int a1, .int a2, a3] (fun U => U.heap.size = sz ∧ va_P (dC, dI) vwCl (CH cy nb ad0 n0 E0) U.heap ∧ va_K (dC, dI) vwCl (tyL cy) U ∧ va_D (fun _ => True) (CH cy nb ad0 n0 E0) ∧ GL nb (va_A (CH cy nb ad0 n0 E0) sz) U)) (va_Qi (fun (r : Int32) (_ : Unit) => r = ro) (fun _ t => ∃ ad2 : Nat → Nat, axh n0 ad0 nz ad2 ∧ va_P (dC, dI) vwCl (CH cy nb ad2 nz Ez) t.heap ∧ va_D (va_A (CH cy nb ad0 n0 E0) sz) (CH cy nb ad2 nz Ez)) (va_A (CH cy nb ad0 n0 E0) sz)) (nz - n0) (sz9 - s0) (va_A (CH cy nb ad0 n0 E0) sz) := by
  rcases ha3 with rfl | ⟨q8, rfl⟩
  · skip
    refine Met.ofW (cc := cJ3_checkIndex_8e157) (maxL := 3) (ret := (some .int)) (by decide) rfl ?_
    intro p e s m args below meth c s₁ B hml hv
    obtain ⟨rfl, hsz, hP, hK, hD0, hE⟩ := hv
    have hx := B.exec
    have hb := B.bytes
    have hr := B.returns
    have hts0 := atoms_spec (ws := (wsg yJ3_checkIndex_8e157 cJ3_checkIndex_8e157 3 (some .int))) B.pre
    have hts : ∀ w ∈ wsL_law, w.before _ s = true := fun w h => hts0 w (List.mem_cons_of_mem _ h)
    have hown : s.vm.findClass RJ3 = some m.cls := by have h9 := findClass_of_methodNamed B.named; exact h9
    subst hsz
    have hD := hD0.self (sz := s.heap.size)
    generalize hAe : va_A (CH cy nb ad0 n0 E0) s.heap.size = A at hD hE ⊢
    have hA : ∀ q : Nat, s.heap.size ≤ q → A q := fun q h => by rw [← hAe]; exact Or.inr h
    have hS : va_S A s.heap s.heap [] := va_S.rf
    have hl := lv_entry ([.int a1, .int a2, .null]) (n := 3) (Nat.le_of_ble_eq_true rfl)
    rw [lg_entry_eq]
    generalize (lg_sl ([.int a1, .int a2, .null]) ++ List.replicate (3 - (lg_sl ([.int a1, .int a2, .null])).length) Slot.unset).toArray = ls at hl ⊢
    have hl : lv_has ls 3 [(0, .int a1), (1, .int a2), (2, .null)] := hl
    generalize hHe : s.heap = H at hP hS ⊢
    have hS : va_S A s.heap H [] := by rw [hHe]; exact hS
    refine my_Q (fun Qn hQ => ?_)
    simp only [H_J3_checkIndex_8e157] at hF
    have hX : axh n0 ad0 n0 ad0 := axh_refl
    have hN : n0 ≤ n0 := Nat.le_refl _
    have hT : s0 ≤ s0 := Nat.le_refl _
    refine W.widen (k := n0 - n0) (n := s0 - s0) (by omega) (by omega) ?_
    refine lv_iload_n hx hb dJ3_checkIndex_8e157_0 rfl (lv_at hl 0 rfl) ?_
    refine lv_if_lt (tgt := 9) hx hb dJ3_checkIndex_8e157_1 (by decide) (fun c1 => ?_) (fun c1 => ?_)
    · skip
      rw [if_pos c1] at hF
      refine lv_aload_nN hx hb dJ3_checkIndex_8e157_9 rfl (lv_at hl 2 rfl) ?_
      refine lv_iload_n hx hb dJ3_checkIndex_8e157_10 rfl (lv_at hl 0 rfl) ?_
      refine lv_iload_n hx hb dJ3_checkIndex_8e157_11 rfl (lv_at hl 1 rfl) ?_
      exact (m0_o hF).elim
    · skip
      rw [if_neg c1] at hF
      refine lv_iload_n hx hb dJ3_checkIndex_8e157_4 rfl (lv_at hl 0 rfl) ?_
      refine lv_iload_n hx hb dJ3_checkIndex_8e157_5 rfl (lv_at hl 1 rfl) ?_
      refine lv_icmp_lt (tgt := 16) hx hb dJ3_checkIndex_8e157_6 (by decide) (fun c2 => ?_) (fun c2 => ?_)
      · skip
        rw [if_pos c2] at hF
        refine lv_iload_n hx hb dJ3_checkIndex_8e157_16 rfl (lv_at hl 0 rfl) ?_
        obtain ⟨ht9, hn9, hs9, hE9⟩ := mr_o hF
        subst hn9 hs9 hE9
        have hX9 := hX
        rw [hQ]
        exact W.iret (v := a1) hx hb hr (fun t ht hW => ⟨⟨a1, (), rfl, ht9, _, hX, by rw [ht]; exact hP, hD⟩, hS.F ht⟩) hS.2.2 dJ3_checkIndex_8e157_17
      · skip
        rw [if_neg c2] at hF
        refine lv_aload_nN hx hb dJ3_checkIndex_8e157_9 rfl (lv_at hl 2 rfl) ?_
        refine lv_iload_n hx hb dJ3_checkIndex_8e157_10 rfl (lv_at hl 0 rfl) ?_
        refine lv_iload_n hx hb dJ3_checkIndex_8e157_11 rfl (lv_at hl 1 rfl) ?_
        exact (m0_o hF).elim
  · skip
    refine Met.ofW (cc := cJ3_checkIndex_8e157) (maxL := 3) (ret := (some .int)) (by decide) rfl ?_
    intro p e s m args below meth c s₁ B hml hv
    obtain ⟨rfl, hsz, hP, hK, hD0, hE⟩ := hv
    have hx := B.exec
    have hb := B.bytes
    have hr := B.returns
    have hts0 := atoms_spec (ws := (wsg yJ3_checkIndex_8e157 cJ3_checkIndex_8e157 3 (some .int))) B.pre
    have hts : ∀ w ∈ wsL_law, w.before _ s = true := fun w h => hts0 w (List.mem_cons_of_mem _ h)
    have hown : s.vm.findClass RJ3 = some m.cls := by have h9 := findClass_of_methodNamed B.named; exact h9
    subst hsz
    have hD := hD0.self (sz := s.heap.size)
    generalize hAe : va_A (CH cy nb ad0 n0 E0) s.heap.size = A at hD hE ⊢
    have hA : ∀ q : Nat, s.heap.size ≤ q → A q := fun q h => by rw [← hAe]; exact Or.inr h
    have hS : va_S A s.heap s.heap [] := va_S.rf
    have hl := lv_entry ([.int a1, .int a2, .ref q8]) (n := 3) (Nat.le_of_ble_eq_true rfl)
    rw [lg_entry_eq]
    generalize (lg_sl ([.int a1, .int a2, .ref q8]) ++ List.replicate (3 - (lg_sl ([.int a1, .int a2, .ref q8])).length) Slot.unset).toArray = ls at hl ⊢
    have hl : lv_has ls 3 [(0, .int a1), (1, .int a2), (2, .ref q8)] := hl
    generalize hHe : s.heap = H at hP hS ⊢
    have hS : va_S A s.heap H [] := by rw [hHe]; exact hS
    refine my_Q (fun Qn hQ => ?_)
    simp only [H_J3_checkIndex_8e157] at hF
    have hX : axh n0 ad0 n0 ad0 := axh_refl
    have hN : n0 ≤ n0 := Nat.le_refl _
    have hT : s0 ≤ s0 := Nat.le_refl _
    refine W.widen (k := n0 - n0) (n := s0 - s0) (by omega) (by omega) ?_
    refine lv_iload_n hx hb dJ3_checkIndex_8e157_0 rfl (lv_at hl 0 rfl) ?_
    refine lv_if_lt (tgt := 9) hx hb dJ3_checkIndex_8e157_1 (by decide) (fun c1 => ?_) (fun c1 => ?_)
    · skip
      rw [if_pos c1] at hF
      refine lv_aload_n hx hb dJ3_checkIndex_8e157_9 rfl (lv_at hl 2 rfl) ?_
      refine lv_iload_n hx hb dJ3_checkIndex_8e157_10 rfl (lv_at hl 0 rfl) ?_
      refine lv_iload_n hx hb dJ3_checkIndex_8e157_11 rfl (lv_at hl 1 rfl) ?_
      exact (m0_o hF).elim
    · skip
      rw [if_neg c1] at hF
      refine lv_iload_n hx hb dJ3_checkIndex_8e157_4 rfl (lv_at hl 0 rfl) ?_
      refine lv_iload_n hx hb dJ3_checkIndex_8e157_5 rfl (lv_at hl 1 rfl) ?_
      refine lv_icmp_lt (tgt := 16) hx hb dJ3_checkIndex_8e157_6 (by decide) (fun c2 => ?_) (fun c2 => ?_)
      · skip
        rw [if_pos c2] at hF
        refine lv_iload_n hx hb dJ3_checkIndex_8e157_16 rfl (lv_at hl 0 rfl) ?_
        obtain ⟨ht9, hn9, hs9, hE9⟩ := mr_o hF
        subst hn9 hs9 hE9
        have hX9 := hX
        rw [hQ]
        exact W.iret (v := a1) hx hb hr (fun t ht hW => ⟨⟨a1, (), rfl, ht9, _, hX, by rw [ht]; exact hP, hD⟩, hS.F ht⟩) hS.2.2 dJ3_checkIndex_8e157_17
      · skip
        rw [if_neg c2] at hF
        refine lv_aload_n hx hb dJ3_checkIndex_8e157_9 rfl (lv_at hl 2 rfl) ?_
        refine lv_iload_n hx hb dJ3_checkIndex_8e157_10 rfl (lv_at hl 0 rfl) ?_
        refine lv_iload_n hx hb dJ3_checkIndex_8e157_11 rfl (lv_at hl 1 rfl) ?_
        exact (m0_o hF).elim
noncomputable def H_J3_checkFromToIndex_8c36e (a1 : Int32) (a2 : Int32) (a3 : Int32) : MH Int32 := if a1 < 0 then (m0) else (if a2 < a1 then (m0) else (if a2 ≤ a3 then (mr a1) else (m0)))
set_option maxHeartbeats 4000000 in
set_option maxRecDepth 100000 in
theorem h_J3_checkFromToIndex_8c36e (l : Launch) (dC : Nat → ClassId) (dI : Nat → Nat → Nat) (cy : Nat → ClassId) (nb : Nat → Nat) (ad0 : Nat → Nat) (n0 s0 : Nat) (E0 : HE) (hC : clo n0 E0) (a1 : Int32) (a2 : Int32) (a3 : Int32) (a4 : Value) (ha4 : a4 = .null ∨ ∃ q, a4 = .ref q) (sz : Nat) (ro : Int32) (nz sz9 : Nat) (Ez : HE) (hF : (H_J3_checkFromToIndex_8c36e a1 a2 a3).1 (n0, s0, E0) = some (ro, nz, sz9, Ez)) : Met l yJ3_checkFromToIndex_8c36e (wsg yJ3_checkFromToIndex_8c36e cJ3_checkFromToIndex_8c36e 4 (some .int)) ({ frames := 8, cells := nz - n0, slots := sz9 - s0, locals := 300 }) (va_Pc [.int a1, .int a2, .int a3, a4] (fun U => U.heap.size = sz ∧ va_P (dC, dI) vwCl (CH cy nb ad0 n0 E0) U.heap ∧ va_K (dC, dI) vwCl (tyL cy) U ∧ va_D (fun _ => True) (CH cy nb ad0 n0 E0) ∧ GL nb (va_A (CH cy nb ad0 n0 E0) sz) U)) (va_Qi (fun (r : Int32) (_ : Unit) => r = ro) (fun _ t => ∃ ad2 : Nat → Nat, axh n0 ad0 nz ad2 ∧ va_P (dC, dI) vwCl (CH cy nb ad2 nz Ez) t.heap ∧ va_D (va_A (CH cy nb ad0 n0 E0) sz) (CH cy nb ad2 nz Ez)) (va_A (CH cy nb ad0 n0 E0) sz)) (nz - n0) (sz9 - s0) (va_A (CH cy nb ad0 n0 E0) sz) := by
  rcases ha4 with rfl | ⟨q8, rfl⟩
  · skip
    refine Met.ofW (cc := cJ3_checkFromToIndex_8c36e) (maxL := 4) (ret := (some .int)) (by decide) rfl ?_
    intro p e s m args below meth c s₁ B hml hv
    obtain ⟨rfl, hsz, hP, hK, hD0, hE⟩ := hv
    have hx := B.exec
    have hb := B.bytes
    have hr := B.returns
    have hts0 := atoms_spec (ws := (wsg yJ3_checkFromToIndex_8c36e cJ3_checkFromToIndex_8c36e 4 (some .int))) B.pre
    have hts : ∀ w ∈ wsL_law, w.before _ s = true := fun w h => hts0 w (List.mem_cons_of_mem _ h)
    have hown : s.vm.findClass RJ3 = some m.cls := by have h9 := findClass_of_methodNamed B.named; exact h9
    subst hsz
    have hD := hD0.self (sz := s.heap.size)
    generalize hAe : va_A (CH cy nb ad0 n0 E0) s.heap.size = A at hD hE ⊢
    have hA : ∀ q : Nat, s.heap.size ≤ q → A q := fun q h => by rw [← hAe]; exact Or.inr h
    have hS : va_S A s.heap s.heap [] := va_S.rf
    have hl := lv_entry ([.int a1, .int a2, .int a3, .null]) (n := 4) (Nat.le_of_ble_eq_true rfl)
    rw [lg_entry_eq]
    generalize (lg_sl ([.int a1, .int a2, .int a3, .null]) ++ List.replicate (4 - (lg_sl ([.int a1, .int a2, .int a3, .null])).length) Slot.unset).toArray = ls at hl ⊢
    have hl : lv_has ls 4 [(0, .int a1), (1, .int a2), (2, .int a3), (3, .null)] := hl
    generalize hHe : s.heap = H at hP hS ⊢
    have hS : va_S A s.heap H [] := by rw [hHe]; exact hS
    refine my_Q (fun Qn hQ => ?_)
    simp only [H_J3_checkFromToIndex_8c36e] at hF
    have hX : axh n0 ad0 n0 ad0 := axh_refl
    have hN : n0 ≤ n0 := Nat.le_refl _
    have hT : s0 ≤ s0 := Nat.le_refl _
    refine W.widen (k := n0 - n0) (n := s0 - s0) (by omega) (by omega) ?_
    refine lv_iload_n hx hb dJ3_checkFromToIndex_8c36e_0 rfl (lv_at hl 0 rfl) ?_
    refine lv_if_lt (tgt := 14) hx hb dJ3_checkFromToIndex_8c36e_1 (by decide) (fun c1 => ?_) (fun c1 => ?_)
    · skip
      rw [if_pos c1] at hF
      refine lv_aload_nN hx hb dJ3_checkFromToIndex_8c36e_14 rfl (lv_at hl 3 rfl) ?_
      refine lv_iload_n hx hb dJ3_checkFromToIndex_8c36e_15 rfl (lv_at hl 0 rfl) ?_
      refine lv_iload_n hx hb dJ3_checkFromToIndex_8c36e_16 rfl (lv_at hl 1 rfl) ?_
      refine lv_iload_n hx hb dJ3_checkFromToIndex_8c36e_17 rfl (lv_at hl 2 rfl) ?_
      exact (m0_o hF).elim
    · skip
      rw [if_neg c1] at hF
      refine lv_iload_n hx hb dJ3_checkFromToIndex_8c36e_4 rfl (lv_at hl 0 rfl) ?_
      refine lv_iload_n hx hb dJ3_checkFromToIndex_8c36e_5 rfl (lv_at hl 1 rfl) ?_
      refine lv_icmp_gt (tgt := 14) hx hb dJ3_checkFromToIndex_8c36e_6 (by decide) (fun c2 => ?_) (fun c2 => ?_)
      · skip
        rw [if_pos c2] at hF
        refine lv_aload_nN hx hb dJ3_checkFromToIndex_8c36e_14 rfl (lv_at hl 3 rfl) ?_
        refine lv_iload_n hx hb dJ3_checkFromToIndex_8c36e_15 rfl (lv_at hl 0 rfl) ?_
        refine lv_iload_n hx hb dJ3_checkFromToIndex_8c36e_16 rfl (lv_at hl 1 rfl) ?_
        refine lv_iload_n hx hb dJ3_checkFromToIndex_8c36e_17 rfl (lv_at hl 2 rfl) ?_
        exact (m0_o hF).elim
      · skip
        rw [if_neg c2] at hF
        refine lv_iload_n hx hb dJ3_checkFromToIndex_8c36e_9 rfl (lv_at hl 1 rfl) ?_
        refine lv_iload_n hx hb dJ3_checkFromToIndex_8c36e_10 rfl (lv_at hl 2 rfl) ?_
        refine lv_icmp_le (tgt := 22) hx hb dJ3_checkFromToIndex_8c36e_11 (by decide) (fun c3 => ?_) (fun c3 => ?_)
        · skip
          rw [if_pos c3] at hF
          refine lv_iload_n hx hb dJ3_checkFromToIndex_8c36e_22 rfl (lv_at hl 0 rfl) ?_
          obtain ⟨ht9, hn9, hs9, hE9⟩ := mr_o hF
          subst hn9 hs9 hE9
          have hX9 := hX
          rw [hQ]
          exact W.iret (v := a1) hx hb hr (fun t ht hW => ⟨⟨a1, (), rfl, ht9, _, hX, by rw [ht]; exact hP, hD⟩, hS.F ht⟩) hS.2.2 dJ3_checkFromToIndex_8c36e_23
        · skip
          rw [if_neg c3] at hF
          refine lv_aload_nN hx hb dJ3_checkFromToIndex_8c36e_14 rfl (lv_at hl 3 rfl) ?_
          refine lv_iload_n hx hb dJ3_checkFromToIndex_8c36e_15 rfl (lv_at hl 0 rfl) ?_
          refine lv_iload_n hx hb dJ3_checkFromToIndex_8c36e_16 rfl (lv_at hl 1 rfl) ?_
          refine lv_iload_n hx hb dJ3_checkFromToIndex_8c36e_17 rfl (lv_at hl 2 rfl) ?_
          exact (m0_o hF).elim
  · skip
    refine Met.ofW (cc := cJ3_checkFromToIndex_8c36e) (maxL := 4) (ret := (some .int)) (by decide) rfl ?_
    intro p e s m args below meth c s₁ B hml hv
    obtain ⟨rfl, hsz, hP, hK, hD0, hE⟩ := hv
    have hx := B.exec
    have hb := B.bytes
    have hr := B.returns
    have hts0 := atoms_spec (ws := (wsg yJ3_checkFromToIndex_8c36e cJ3_checkFromToIndex_8c36e 4 (some .int))) B.pre
    have hts : ∀ w ∈ wsL_law, w.before _ s = true := fun w h => hts0 w (List.mem_cons_of_mem _ h)
    have hown : s.vm.findClass RJ3 = some m.cls := by have h9 := findClass_of_methodNamed B.named; exact h9
    subst hsz
    have hD := hD0.self (sz := s.heap.size)
    generalize hAe : va_A (CH cy nb ad0 n0 E0) s.heap.size = A at hD hE ⊢
    have hA : ∀ q : Nat, s.heap.size ≤ q → A q := fun q h => by rw [← hAe]; exact Or.inr h
    have hS : va_S A s.heap s.heap [] := va_S.rf
    have hl := lv_entry ([.int a1, .int a2, .int a3, .ref q8]) (n := 4) (Nat.le_of_ble_eq_true rfl)
    rw [lg_entry_eq]
    generalize (lg_sl ([.int a1, .int a2, .int a3, .ref q8]) ++ List.replicate (4 - (lg_sl ([.int a1, .int a2, .int a3, .ref q8])).length) Slot.unset).toArray = ls at hl ⊢
    have hl : lv_has ls 4 [(0, .int a1), (1, .int a2), (2, .int a3), (3, .ref q8)] := hl
    generalize hHe : s.heap = H at hP hS ⊢
    have hS : va_S A s.heap H [] := by rw [hHe]; exact hS
    refine my_Q (fun Qn hQ => ?_)
    simp only [H_J3_checkFromToIndex_8c36e] at hF
    have hX : axh n0 ad0 n0 ad0 := axh_refl
    have hN : n0 ≤ n0 := Nat.le_refl _
    have hT : s0 ≤ s0 := Nat.le_refl _
    refine W.widen (k := n0 - n0) (n := s0 - s0) (by omega) (by omega) ?_
    refine lv_iload_n hx hb dJ3_checkFromToIndex_8c36e_0 rfl (lv_at hl 0 rfl) ?_
    refine lv_if_lt (tgt := 14) hx hb dJ3_checkFromToIndex_8c36e_1 (by decide) (fun c1 => ?_) (fun c1 => ?_)
    · skip
      rw [if_pos c1] at hF
      refine lv_aload_n hx hb dJ3_checkFromToIndex_8c36e_14 rfl (lv_at hl 3 rfl) ?_
      refine lv_iload_n hx hb dJ3_checkFromToIndex_8c36e_15 rfl (lv_at hl 0 rfl) ?_
      refine lv_iload_n hx hb dJ3_checkFromToIndex_8c36e_16 rfl (lv_at hl 1 rfl) ?_
      refine lv_iload_n hx hb dJ3_checkFromToIndex_8c36e_17 rfl (lv_at hl 2 rfl) ?_
      exact (m0_o hF).elim
    · skip
      rw [if_neg c1] at hF
      refine lv_iload_n hx hb dJ3_checkFromToIndex_8c36e_4 rfl (lv_at hl 0 rfl) ?_
      refine lv_iload_n hx hb dJ3_checkFromToIndex_8c36e_5 rfl (lv_at hl 1 rfl) ?_
      refine lv_icmp_gt (tgt := 14) hx hb dJ3_checkFromToIndex_8c36e_6 (by decide) (fun c2 => ?_) (fun c2 => ?_)
      · skip
        rw [if_pos c2] at hF
        refine lv_aload_n hx hb dJ3_checkFromToIndex_8c36e_14 rfl (lv_at hl 3 rfl) ?_
        refine lv_iload_n hx hb dJ3_checkFromToIndex_8c36e_15 rfl (lv_at hl 0 rfl) ?_
        refine lv_iload_n hx hb dJ3_checkFromToIndex_8c36e_16 rfl (lv_at hl 1 rfl) ?_
        refine lv_iload_n hx hb dJ3_checkFromToIndex_8c36e_17 rfl (lv_at hl 2 rfl) ?_
        exact (m0_o hF).elim
      · skip
        rw [if_neg c2] at hF
        refine lv_iload_n hx hb dJ3_checkFromToIndex_8c36e_9 rfl (lv_at hl 1 rfl) ?_
        refine lv_iload_n hx hb dJ3_checkFromToIndex_8c36e_10 rfl (lv_at hl 2 rfl) ?_
        refine lv_icmp_le (tgt := 22) hx hb dJ3_checkFromToIndex_8c36e_11 (by decide) (fun c3 => ?_) (fun c3 => ?_)
        · skip
          rw [if_pos c3] at hF
          refine lv_iload_n hx hb dJ3_checkFromToIndex_8c36e_22 rfl (lv_at hl 0 rfl) ?_
          obtain ⟨ht9, hn9, hs9, hE9⟩ := mr_o hF
          subst hn9 hs9 hE9
          have hX9 := hX
          rw [hQ]
          exact W.iret (v := a1) hx hb hr (fun t ht hW => ⟨⟨a1, (), rfl, ht9, _, hX, by rw [ht]; exact hP, hD⟩, hS.F ht⟩) hS.2.2 dJ3_checkFromToIndex_8c36e_23
        · skip
          rw [if_neg c3] at hF
          refine lv_aload_n hx hb dJ3_checkFromToIndex_8c36e_14 rfl (lv_at hl 3 rfl) ?_
          refine lv_iload_n hx hb dJ3_checkFromToIndex_8c36e_15 rfl (lv_at hl 0 rfl) ?_
          refine lv_iload_n hx hb dJ3_checkFromToIndex_8c36e_16 rfl (lv_at hl 1 rfl) ?_
          refine lv_iload_n hx hb dJ3_checkFromToIndex_8c36e_17 rfl (lv_at hl 2 rfl) ?_
          exact (m0_o hF).elim
noncomputable def H_J15_checkIndex_7cf53 (a1 : Int32) (a2 : Int32) : MH Int32 := mb (H_J3_checkIndex_8e157 (a1) (a2)) fun x1 => mr x1
set_option maxHeartbeats 4000000 in
set_option maxRecDepth 100000 in
theorem h_J15_checkIndex_7cf53 (l : Launch) (dC : Nat → ClassId) (dI : Nat → Nat → Nat) (cy : Nat → ClassId) (nb : Nat → Nat) (ad0 : Nat → Nat) (n0 s0 : Nat) (E0 : HE) (hC : clo n0 E0) (a1 : Int32) (a2 : Int32) (sz : Nat) (ro : Int32) (nz sz9 : Nat) (Ez : HE) (hF : (H_J15_checkIndex_7cf53 a1 a2).1 (n0, s0, E0) = some (ro, nz, sz9, Ez)) : Met l yJ15_checkIndex_7cf53 (wsg yJ15_checkIndex_7cf53 cJ15_checkIndex_7cf53 2 (some .int)) ({ frames := 9, cells := nz - n0, slots := sz9 - s0, locals := 400 }) (va_Pc [.int a1, .int a2] (fun U => U.heap.size = sz ∧ va_P (dC, dI) vwCl (CH cy nb ad0 n0 E0) U.heap ∧ va_K (dC, dI) vwCl (tyL cy) U ∧ va_D (fun _ => True) (CH cy nb ad0 n0 E0) ∧ GL nb (va_A (CH cy nb ad0 n0 E0) sz) U)) (va_Qi (fun (r : Int32) (_ : Unit) => r = ro) (fun _ t => ∃ ad2 : Nat → Nat, axh n0 ad0 nz ad2 ∧ va_P (dC, dI) vwCl (CH cy nb ad2 nz Ez) t.heap ∧ va_D (va_A (CH cy nb ad0 n0 E0) sz) (CH cy nb ad2 nz Ez)) (va_A (CH cy nb ad0 n0 E0) sz)) (nz - n0) (sz9 - s0) (va_A (CH cy nb ad0 n0 E0) sz) := by
  refine Met.ofW (cc := cJ15_checkIndex_7cf53) (maxL := 2) (ret := (some .int)) (by decide) rfl ?_
  intro p e s m args below meth c s₁ B hml hv
  obtain ⟨rfl, hsz, hP, hK, hD0, hE⟩ := hv
  have hx := B.exec
  have hb := B.bytes
  have hr := B.returns
  have hts0 := atoms_spec (ws := (wsg yJ15_checkIndex_7cf53 cJ15_checkIndex_7cf53 2 (some .int))) B.pre
  have hts : ∀ w ∈ wsL_law, w.before _ s = true := fun w h => hts0 w (List.mem_cons_of_mem _ h)
  have hown : s.vm.findClass RJ15 = some m.cls := by have h9 := findClass_of_methodNamed B.named; exact h9
  subst hsz
  have hD := hD0.self (sz := s.heap.size)
  generalize hAe : va_A (CH cy nb ad0 n0 E0) s.heap.size = A at hD hE ⊢
  have hA : ∀ q : Nat, s.heap.size ≤ q → A q := fun q h => by rw [← hAe]; exact Or.inr h
  have hS : va_S A s.heap s.heap [] := va_S.rf
  have hl := lv_entry ([.int a1, .int a2]) (n := 2) (Nat.le_of_ble_eq_true rfl)
  rw [lg_entry_eq]
  generalize (lg_sl ([.int a1, .int a2]) ++ List.replicate (2 - (lg_sl ([.int a1, .int a2])).length) Slot.unset).toArray = ls at hl ⊢
  have hl : lv_has ls 2 [(0, .int a1), (1, .int a2)] := hl
  generalize hHe : s.heap = H at hP hS ⊢
  have hS : va_S A s.heap H [] := by rw [hHe]; exact hS
  refine my_Q (fun Qn hQ => ?_)
  simp only [H_J15_checkIndex_7cf53] at hF
  have hX : axh n0 ad0 n0 ad0 := axh_refl
  have hN : n0 ≤ n0 := Nat.le_refl _
  have hT : s0 ≤ s0 := Nat.le_refl _
  refine W.widen (k := n0 - n0) (n := s0 - s0) (by omega) (by omega) ?_
  refine lv_iload_n hx hb dJ15_checkIndex_7cf53_0 rfl (lv_at hl 0 rfl) ?_
  refine lv_iload_n hx hb dJ15_checkIndex_7cf53_1 rfl (lv_at hl 1 rfl) ?_
  refine lv_null hx hb dJ15_checkIndex_7cf53_2 ?_
  obtain ⟨x1, n3, s4, E5, e2, hF⟩ := mb_o hF
  have hm := mle e2
  have hM1 := mle1 hF
  have hM2 := mle2 hF
  have hm1 := hm.1
  have hm2 := hm.2.1
  have hFc := my_free hD hS hA
  refine va_calli (va_runS (As := [.int a1, .int a2, .null]) (rest := []) ⟨hx, hb, hml, hown, hts⟩ (h_J3_checkIndex_8e157 l dC dI cy nb ad0 n0 s0 E0 hC (a1) (a2) .null (Or.inl rfl) H.size x1 n3 s4 E5 e2) (va_cwS 3 hts (gS mw_242 mw_243 mw_244 mw_245) rfl rfl rfl (by decide +kernel) ⟨Nat.le_of_ble_eq_true rfl, Nat.le_of_ble_eq_true rfl⟩) (hl_preS hP hK hD hE hS hFc) rfl rfl hl.1 rfl (lv_room (Nat.le_of_ble_eq_true rfl)) dJ15_checkIndex_7cf53_3 ⟨show n0 - n0 + (n3 - n0) ≤ nz - n0 by omega, show s0 - s0 + (s4 - s0) ≤ sz9 - s0 by omega⟩) hS (fun q _ h => hFc q h) hFc (fun r9 u t H1 locs ht hvm hw hB hz1 hk1 hS => ?_)
  obtain ⟨ad6, hax, hP1, hD1⟩ := hB
  rw [ht] at hP1
  have hP := hP1
  have hD := hD1.weaken (fun k q _ h => hFc q.1 h)
  generalize H1 = H at hP hS ⊢
  have hX := hX.trans hax
  have hC := hm.2.2 hC
  have hN : n0 ≤ n3 := Nat.le_trans hN hm1
  have hT : s0 ≤ s4 := Nat.le_trans hT hm2
  refine W.widen (k := n3 - n0) (n := s4 - s0) (by omega) (by omega) ?_
  clear hP1 hD1 hFc hk1 hz1 hvm ht hax hm hm1 hm2 hM1 hM2
  obtain rfl := hw.symm
  obtain ⟨ht9, hn9, hs9, hE9⟩ := mr_o hF
  subst hn9 hs9 hE9
  have hX9 := hX
  rw [hQ]
  exact W.iret (v := x1) hx hb hr (fun t ht hW => ⟨⟨x1, (), rfl, ht9, _, hX, by rw [ht]; exact hP, hD⟩, hS.F ht⟩) hS.2.2 dJ15_checkIndex_7cf53_6
noncomputable def H_J8_newLength_cabcc (a1 : Int32) (a2 : Int32) (a3 : Int32) : MH Int32 := if (a1 + (if a2 < a3 then a3 else a2)) ≤ (0 : Int32) then (m0) else (if 2147483639 < (a1 + (if a2 < a3 then a3 else a2)) then (m0) else (mr (a1 + (if a2 < a3 then a3 else a2))))
set_option maxHeartbeats 4000000 in
set_option maxRecDepth 100000 in
theorem h_J8_newLength_cabcc (l : Launch) (dC : Nat → ClassId) (dI : Nat → Nat → Nat) (cy : Nat → ClassId) (nb : Nat → Nat) (ad0 : Nat → Nat) (n0 s0 : Nat) (E0 : HE) (hC : clo n0 E0) (a1 : Int32) (a2 : Int32) (a3 : Int32) (sz : Nat) (ro : Int32) (nz sz9 : Nat) (Ez : HE) (hF : (H_J8_newLength_cabcc a1 a2 a3).1 (n0, s0, E0) = some (ro, nz, sz9, Ez)) : Met l yJ8_newLength_cabcc (wsg yJ8_newLength_cabcc cJ8_newLength_cabcc 4 (some .int)) ({ frames := 8, cells := nz - n0, slots := sz9 - s0, locals := 300 }) (va_Pc [.int a1, .int a2, .int a3] (fun U => U.heap.size = sz ∧ va_P (dC, dI) vwCl (CH cy nb ad0 n0 E0) U.heap ∧ va_K (dC, dI) vwCl (tyL cy) U ∧ va_D (fun _ => True) (CH cy nb ad0 n0 E0) ∧ GL nb (va_A (CH cy nb ad0 n0 E0) sz) U)) (va_Qi (fun (r : Int32) (_ : Unit) => r = ro) (fun _ t => ∃ ad2 : Nat → Nat, axh n0 ad0 nz ad2 ∧ va_P (dC, dI) vwCl (CH cy nb ad2 nz Ez) t.heap ∧ va_D (va_A (CH cy nb ad0 n0 E0) sz) (CH cy nb ad2 nz Ez)) (va_A (CH cy nb ad0 n0 E0) sz)) (nz - n0) (sz9 - s0) (va_A (CH cy nb ad0 n0 E0) sz) := by
  refine Met.ofW (cc := cJ8_newLength_cabcc) (maxL := 4) (ret := (some .int)) (by decide) rfl ?_
  intro p e s m args below meth c s₁ B hml hv
  obtain ⟨rfl, hsz, hP, hK, hD0, hE⟩ := hv
  have hx := B.exec
  have hb := B.bytes
  have hr := B.returns
  have hts0 := atoms_spec (ws := (wsg yJ8_newLength_cabcc cJ8_newLength_cabcc 4 (some .int))) B.pre
  have hts : ∀ w ∈ wsL_law, w.before _ s = true := fun w h => hts0 w (List.mem_cons_of_mem _ h)
  have hown : s.vm.findClass RJ8 = some m.cls := by have h9 := findClass_of_methodNamed B.named; exact h9
  subst hsz
  have hD := hD0.self (sz := s.heap.size)
  generalize hAe : va_A (CH cy nb ad0 n0 E0) s.heap.size = A at hD hE ⊢
  have hA : ∀ q : Nat, s.heap.size ≤ q → A q := fun q h => by rw [← hAe]; exact Or.inr h
  have hS : va_S A s.heap s.heap [] := va_S.rf
  have hl := lv_entry ([.int a1, .int a2, .int a3]) (n := 4) (Nat.le_of_ble_eq_true rfl)
  rw [lg_entry_eq]
  generalize (lg_sl ([.int a1, .int a2, .int a3]) ++ List.replicate (4 - (lg_sl ([.int a1, .int a2, .int a3])).length) Slot.unset).toArray = ls at hl ⊢
  have hl : lv_has ls 4 [(0, .int a1), (1, .int a2), (2, .int a3)] := hl
  generalize hHe : s.heap = H at hP hS ⊢
  have hS : va_S A s.heap H [] := by rw [hHe]; exact hS
  refine my_Q (fun Qn hQ => ?_)
  simp only [H_J8_newLength_cabcc] at hF
  have hX : axh n0 ad0 n0 ad0 := axh_refl
  have hN : n0 ≤ n0 := Nat.le_refl _
  have hT : s0 ≤ s0 := Nat.le_refl _
  refine W.widen (k := n0 - n0) (n := s0 - s0) (by omega) (by omega) ?_
  refine lv_iload_n hx hb dJ8_newLength_cabcc_0 rfl (lv_at hl 0 rfl) ?_
  refine lv_iload_n hx hb dJ8_newLength_cabcc_1 rfl (lv_at hl 1 rfl) ?_
  refine lv_iload_n hx hb dJ8_newLength_cabcc_2 rfl (lv_at hl 2 rfl) ?_
  refine va_mmax hx hb (hml.trans hl.1.symm) hown (hts _ mw_648) (hts _ mw_649) (hts _ mw_650) (hts _ mw_651) (Nat.le_of_ble_eq_true rfl) (Nat.le_of_ble_eq_true rfl) (Nat.le_of_ble_eq_true rfl) (Nat.le_of_ble_eq_true rfl) dJ8_newLength_cabcc_3 ?_
  refine lv_iadd hx hb dJ8_newLength_cabcc_6 ?_
  refine lv_istore_n (lv' := [(3, .int (a1 + (if a2 < a3 then a3 else a2))), (0, .int a1), (1, .int a2), (2, .int a3)]) hx hb dJ8_newLength_cabcc_7 rfl hl (by decide) rfl (fun ls hl => ?_)
  refine lv_iconst (v := 0) hx hb dJ8_newLength_cabcc_8 (by decide) ?_
  refine lv_iload_n hx hb dJ8_newLength_cabcc_9 rfl (lv_at hl 0 rfl) ?_
  refine lv_icmp_ge (tgt := 21) hx hb dJ8_newLength_cabcc_10 (by decide) (fun c1 => ?_) (fun c1 => ?_)
  · skip
    rw [if_pos c1] at hF
    refine lv_iload_n hx hb dJ8_newLength_cabcc_21 rfl (lv_at hl 1 rfl) ?_
    refine lv_iload_n hx hb dJ8_newLength_cabcc_22 rfl (lv_at hl 2 rfl) ?_
    exact (m0_o hF).elim
  · skip
    rw [if_neg c1] at hF
    refine lv_iload_n hx hb dJ8_newLength_cabcc_13 rfl (lv_at hl 0 rfl) ?_
    refine lv_ldc (v := 2147483639) hx hb hown (hts _ mw_652) dJ8_newLength_cabcc_14 ?_
    refine lv_icmp_gt (tgt := 21) hx hb dJ8_newLength_cabcc_16 (by decide) (fun c2 => ?_) (fun c2 => ?_)
    · skip
      rw [if_pos c2] at hF
      refine lv_iload_n hx hb dJ8_newLength_cabcc_21 rfl (lv_at hl 1 rfl) ?_
      refine lv_iload_n hx hb dJ8_newLength_cabcc_22 rfl (lv_at hl 2 rfl) ?_
      exact (m0_o hF).elim
    · skip
      rw [if_neg c2] at hF
      refine lv_iload_n hx hb dJ8_newLength_cabcc_19 rfl (lv_at hl 0 rfl) ?_
      obtain ⟨ht9, hn9, hs9, hE9⟩ := mr_o hF
      subst hn9 hs9 hE9
      have hX9 := hX
      rw [hQ]
      exact W.iret (v := (a1 + (if a2 < a3 then a3 else a2))) hx hb hr (fun t ht hW => ⟨⟨(a1 + (if a2 < a3 then a3 else a2)), (), rfl, ht9, _, hX, by rw [ht]; exact hP, hD⟩, hS.F ht⟩) hS.2.2 dJ8_newLength_cabcc_20
noncomputable def H_J7_copyOf_6403c (a1 : Nat) (a2 : Int32) (a3 : Nat) : MH Nat := mb (mp (deq (a3) 1001993)) fun _ => mb (mp (ln a2)) fun k2 => mb (nQ 9 k2) fun x7 => mb (mg fun n E => lO n E (a1)) fun x11 => mb (mcO (a1) (0) (x7) (0) ((if a2 < x11 then a2 else x11))) fun _ => mr x7
set_option maxHeartbeats 4000000 in
set_option maxRecDepth 100000 in
theorem h_J7_copyOf_6403c (l : Launch) (dC : Nat → ClassId) (dI : Nat → Nat → Nat) (cy : Nat → ClassId) (nb : Nat → Nat) (ad0 : Nat → Nat) (n0 s0 : Nat) (E0 : HE) (hC : clo n0 E0) (a1 Aa1 : Nat) (ha1 : rf nb ad0 n0 a1 Aa1) (a2 : Int32) (a3 Aa3 : Nat) (ha3 : rf nb ad0 n0 a3 Aa3) (sz : Nat) (ro : Nat) (nz sz9 : Nat) (Ez : HE) (hF : (H_J7_copyOf_6403c a1 a2 a3).1 (n0, s0, E0) = some (ro, nz, sz9, Ez)) : Met l yJ7_copyOf_6403c (wsg yJ7_copyOf_6403c cJ7_copyOf_6403c 4 (some (.array (.object "java/lang/Object")))) ({ frames := 8, cells := nz - n0, slots := sz9 - s0, locals := 300 }) (va_Pc [.ref Aa1, .int a2, .ref Aa3] (fun U => U.heap.size = sz ∧ va_P (dC, dI) vwCl (CH cy nb ad0 n0 E0) U.heap ∧ va_K (dC, dI) vwCl (tyL cy) U ∧ va_D (fun _ => True) (CH cy nb ad0 n0 E0) ∧ GL nb (va_A (CH cy nb ad0 n0 E0) sz) U)) (va_Qr (fun (_ : Unit) => True) (fun _ ra t => ∃ ad2 : Nat → Nat, axh n0 ad0 nz ad2 ∧ rf nb ad2 nz ro ra ∧ va_P (dC, dI) vwCl (CH cy nb ad2 nz Ez) t.heap ∧ va_D (va_A (CH cy nb ad0 n0 E0) sz) (CH cy nb ad2 nz Ez)) (va_A (CH cy nb ad0 n0 E0) sz)) (nz - n0) (sz9 - s0) (va_A (CH cy nb ad0 n0 E0) sz) := by
  refine Met.ofW (cc := cJ7_copyOf_6403c) (maxL := 4) (ret := (some (.array (.object "java/lang/Object")))) (by decide) rfl ?_
  intro p e s m args below meth c s₁ B hml hv
  obtain ⟨rfl, hsz, hP, hK, hD0, hE⟩ := hv
  have hx := B.exec
  have hb := B.bytes
  have hr := B.returns
  have hts0 := atoms_spec (ws := (wsg yJ7_copyOf_6403c cJ7_copyOf_6403c 4 (some (.array (.object "java/lang/Object"))))) B.pre
  have hts : ∀ w ∈ wsL_law, w.before _ s = true := fun w h => hts0 w (List.mem_cons_of_mem _ h)
  have hown : s.vm.findClass RJ7 = some m.cls := by have h9 := findClass_of_methodNamed B.named; exact h9
  subst hsz
  have hD := hD0.self (sz := s.heap.size)
  generalize hAe : va_A (CH cy nb ad0 n0 E0) s.heap.size = A at hD hE ⊢
  have hA : ∀ q : Nat, s.heap.size ≤ q → A q := fun q h => by rw [← hAe]; exact Or.inr h
  have hS : va_S A s.heap s.heap [] := va_S.rf
  have hl := lv_entry ([.ref Aa1, .int a2, .ref Aa3]) (n := 4) (Nat.le_of_ble_eq_true rfl)
  rw [lg_entry_eq]
  generalize (lg_sl ([.ref Aa1, .int a2, .ref Aa3]) ++ List.replicate (4 - (lg_sl ([.ref Aa1, .int a2, .ref Aa3])).length) Slot.unset).toArray = ls at hl ⊢
  have hl : lv_has ls 4 [(0, .ref Aa1), (1, .int a2), (2, .ref Aa3)] := hl
  generalize hHe : s.heap = H at hP hS ⊢
  have hS : va_S A s.heap H [] := by rw [hHe]; exact hS
  refine my_Q (fun Qn hQ => ?_)
  simp only [H_J7_copyOf_6403c] at hF
  have hX : axh n0 ad0 n0 ad0 := axh_refl
  have hN : n0 ≤ n0 := Nat.le_refl _
  have hT : s0 ≤ s0 := Nat.le_refl _
  refine W.widen (k := n0 - n0) (n := s0 - s0) (by omega) (by omega) ?_
  refine lv_aload_n hx hb dJ7_copyOf_6403c_0 rfl (lv_at hl 2 rfl) ?_
  refine va_ldcM (C := "[Ljava/lang/Object;") hx hb hown (hts _ mw_870) hE.mi.1 dJ7_copyOf_6403c_1 ?_
  obtain ⟨_, e1, hF⟩ := mp_o hF
  have hz9 := deq_a ha3 e1
  refine lv_acmp_ne (rx := some (Aa3)) (ry := some (nb 1993)) (tgt := 13) hx hb dJ7_copyOf_6403c_3 (by decide) (fun h => absurd (congrArg some hz9) h) (fun _ => ?_)
  clear hz9
  refine lv_iload_n hx hb dJ7_copyOf_6403c_6 rfl (lv_at hl 1 rfl) ?_
  obtain ⟨k2, e3, hF⟩ := mp_o hF
  obtain ⟨x7, n4, s5, E6, hq, hF⟩ := mn_o hF
  have hM1 := mle1 hF
  have hM2 := mle2 hF
  have hq9 := hq.2.1
  have hq8 := hq.2.2.1
  obtain ⟨l1, l2, l3⟩ := ln_s e3
  refine va_newq (C := "java/lang/Object") hx hb hown (hts _ mw_871) hE.ao0 hK hP hD hS hA l1 l2 (show k2 * 4 ≤ 536870912 by omega) (show n0 - n0 + 1 ≤ nz - n0 by omega) (show s0 - s0 + k2 ≤ sz9 - s0 by omega) dJ7_copyOf_6403c_7 (fun q8 cA H hK9 hP hD hS => ?_)
  have hcA := my_cA hK9 hK 9 rfl
  subst hcA
  clear hK9 l1 l2 l3
  obtain ⟨ad9, hax, hr10, hC9, hw9⟩ := new_w (cy := cy) (nb := nb) (ad := ad0) (e := .inl (9, k2, .inr (.inr (.inr (.inr fun _ => none))))) (fun _ _ h => by cases h) (fun _ => rfl) hC q8 hq
  rw [hw9] at hP hD
  have ha1 := ha1.mv hC.1 hax
  have ha3 := ha3.mv hC.1 hax
  have hX := hX.trans hax
  have hC := hC9
  obtain ⟨-, hq1, hq2, -, -⟩ := hq
  have hN : n0 ≤ n4 := by omega
  have hT : s0 ≤ s5 := by omega
  refine W.widen (k := n4 - n0) (n := s5 - s0) (by omega) (by omega) ?_
  clear hM1 hM2 hax hC9 hw9 hq1 hq2 hq8 hq9
  refine lv_goto (tgt := 24) hx hb dJ7_copyOf_6403c_10 (by decide) ?_
  refine lv_astore_n (lv' := [(3, .ref q8), (0, .ref Aa1), (1, .int a2), (2, .ref Aa3)]) hx hb dJ7_copyOf_6403c_24 rfl hl (by decide) rfl (fun ls hl => ?_)
  refine lv_aload_n hx hb dJ7_copyOf_6403c_25 rfl (lv_at hl 1 rfl) ?_
  refine lv_iconst (v := 0) hx hb dJ7_copyOf_6403c_26 (by decide) ?_
  refine lv_aload_n hx hb dJ7_copyOf_6403c_27 rfl (lv_at hl 0 rfl) ?_
  refine lv_iconst (v := 0) hx hb dJ7_copyOf_6403c_28 (by decide) ?_
  refine lv_aload_n hx hb dJ7_copyOf_6403c_29 rfl (lv_at hl 1 rfl) ?_
  obtain ⟨x11, e12, hF⟩ := mg_o hF
  refine hs_lO hx hb hK hP hC hE hS ha1 e12 dJ7_copyOf_6403c_30 ?_
  refine lv_iload_n hx hb dJ7_copyOf_6403c_31 rfl (lv_at hl 2 rfl) ?_
  refine va_mmin hx hb (hml.trans hl.1.symm) hown (hts _ mw_665) (hts _ mw_666) (hts _ mw_650) (hts _ mw_667) (Nat.le_of_ble_eq_true rfl) (Nat.le_of_ble_eq_true rfl) (Nat.le_of_ble_eq_true rfl) (Nat.le_of_ble_eq_true rfl) dJ7_copyOf_6403c_32 ?_
  obtain ⟨E13, e14, hF⟩ := mw_o hF
  refine hs_copyQ hx hb (hml.trans hl.1.symm) hown (hts _ mw_668) (hts _ mw_358) (hts _ mw_359) (hts _ mw_360) hK hP hD hC hE hS ha1 hr10 e14 (Nat.le_of_ble_eq_true rfl) (Nat.le_of_ble_eq_true rfl) dJ7_copyOf_6403c_35 (fun H locs hP hD hS => ?_)
  have hC := cpO_clo e14 hC
  refine lv_aload_n hx hb dJ7_copyOf_6403c_38 rfl (lv_at hl 0 rfl) ?_
  obtain ⟨ht9, hn9, hs9, hE9⟩ := mr_o hF
  subst hn9 hs9 hE9
  have hX9 := hX
  rw [hQ]
  exact W.aret (v := .ref q8) hx hb hr (by first | exact Or.inl ⟨_, rfl⟩ | exact Or.inr ⟨_, rfl⟩) (Or.inr ⟨_, rfl⟩) (fun t ht hW => ⟨⟨(), q8, rfl, trivial, _, hX, (by rw [← ht9]; exact hr10), by rw [ht]; exact hP, hD⟩, hS.F ht⟩) hS.2.2 dJ7_copyOf_6403c_39
noncomputable def H_J7_copyOf_1904c (a1 : Nat) (a2 : Int32) : MH Nat := mb (mg fun n E => isOA n E (a1)) fun _ => mb (H_J7_copyOf_6403c (a1) (a2) (1001993)) fun x2 => mr x2
set_option maxHeartbeats 4000000 in
set_option maxRecDepth 100000 in
theorem h_J7_copyOf_1904c (l : Launch) (dC : Nat → ClassId) (dI : Nat → Nat → Nat) (cy : Nat → ClassId) (nb : Nat → Nat) (ad0 : Nat → Nat) (n0 s0 : Nat) (E0 : HE) (hC : clo n0 E0) (a1 Aa1 : Nat) (ha1 : rf nb ad0 n0 a1 Aa1) (a2 : Int32) (sz : Nat) (ro : Nat) (nz sz9 : Nat) (Ez : HE) (hF : (H_J7_copyOf_1904c a1 a2).1 (n0, s0, E0) = some (ro, nz, sz9, Ez)) : Met l yJ7_copyOf_1904c (wsg yJ7_copyOf_1904c cJ7_copyOf_1904c 2 (some (.array (.object "java/lang/Object")))) ({ frames := 9, cells := nz - n0, slots := sz9 - s0, locals := 400 }) (va_Pc [.ref Aa1, .int a2] (fun U => U.heap.size = sz ∧ va_P (dC, dI) vwCl (CH cy nb ad0 n0 E0) U.heap ∧ va_K (dC, dI) vwCl (tyL cy) U ∧ va_D (fun _ => True) (CH cy nb ad0 n0 E0) ∧ GL nb (va_A (CH cy nb ad0 n0 E0) sz) U)) (va_Qr (fun (_ : Unit) => True) (fun _ ra t => ∃ ad2 : Nat → Nat, axh n0 ad0 nz ad2 ∧ rf nb ad2 nz ro ra ∧ va_P (dC, dI) vwCl (CH cy nb ad2 nz Ez) t.heap ∧ va_D (va_A (CH cy nb ad0 n0 E0) sz) (CH cy nb ad2 nz Ez)) (va_A (CH cy nb ad0 n0 E0) sz)) (nz - n0) (sz9 - s0) (va_A (CH cy nb ad0 n0 E0) sz) := by
  refine Met.ofW (cc := cJ7_copyOf_1904c) (maxL := 2) (ret := (some (.array (.object "java/lang/Object")))) (by decide) rfl ?_
  intro p e s m args below meth c s₁ B hml hv
  obtain ⟨rfl, hsz, hP, hK, hD0, hE⟩ := hv
  have hx := B.exec
  have hb := B.bytes
  have hr := B.returns
  have hts0 := atoms_spec (ws := (wsg yJ7_copyOf_1904c cJ7_copyOf_1904c 2 (some (.array (.object "java/lang/Object"))))) B.pre
  have hts : ∀ w ∈ wsL_law, w.before _ s = true := fun w h => hts0 w (List.mem_cons_of_mem _ h)
  have hown : s.vm.findClass RJ7 = some m.cls := by have h9 := findClass_of_methodNamed B.named; exact h9
  subst hsz
  have hD := hD0.self (sz := s.heap.size)
  generalize hAe : va_A (CH cy nb ad0 n0 E0) s.heap.size = A at hD hE ⊢
  have hA : ∀ q : Nat, s.heap.size ≤ q → A q := fun q h => by rw [← hAe]; exact Or.inr h
  have hS : va_S A s.heap s.heap [] := va_S.rf
  have hl := lv_entry ([.ref Aa1, .int a2]) (n := 2) (Nat.le_of_ble_eq_true rfl)
  rw [lg_entry_eq]
  generalize (lg_sl ([.ref Aa1, .int a2]) ++ List.replicate (2 - (lg_sl ([.ref Aa1, .int a2])).length) Slot.unset).toArray = ls at hl ⊢
  have hl : lv_has ls 2 [(0, .ref Aa1), (1, .int a2)] := hl
  generalize hHe : s.heap = H at hP hS ⊢
  have hS : va_S A s.heap H [] := by rw [hHe]; exact hS
  refine my_Q (fun Qn hQ => ?_)
  simp only [H_J7_copyOf_1904c] at hF
  have hX : axh n0 ad0 n0 ad0 := axh_refl
  have hN : n0 ≤ n0 := Nat.le_refl _
  have hT : s0 ≤ s0 := Nat.le_refl _
  refine W.widen (k := n0 - n0) (n := s0 - s0) (by omega) (by omega) ?_
  refine lv_aload_n hx hb dJ7_copyOf_1904c_0 rfl (lv_at hl 0 rfl) ?_
  refine lv_iload_n hx hb dJ7_copyOf_1904c_1 rfl (lv_at hl 1 rfl) ?_
  refine lv_aload_n hx hb dJ7_copyOf_1904c_2 rfl (lv_at hl 0 rfl) ?_
  obtain ⟨_, e1, hF⟩ := mg_o hF
  refine hs_getc hx hb (hml.trans hl.1.symm) hown (hts _ mw_863) hts ⟨mw_864, mw_865, mw_866⟩ hK hP hC hE hS ha1 e1 (Nat.le_of_ble_eq_true rfl) (Nat.le_of_ble_eq_true rfl) dJ7_copyOf_1904c_3 ?_
  obtain ⟨x2, n4, s5, E6, e3, hF⟩ := mb_o hF
  have hm := mle e3
  have hM1 := mle1 hF
  have hM2 := mle2 hF
  have hm1 := hm.1
  have hm2 := hm.2.1
  have hFc := my_free hD hS hA
  refine va_callr (va_runS (As := [.ref Aa1, .int a2, .ref (nb 1993)]) (rest := []) ⟨hx, hb, hml, hown, hts⟩ (h_J7_copyOf_6403c l dC dI cy nb ad0 n0 s0 E0 hC (a1) Aa1 ha1 (a2) (1001993) (nb 1993) rf_c H.size x2 n4 s5 E6 e3) (va_cwS 3 hts (gS mw_867 mw_868 mw_96 mw_869) rfl rfl rfl (by decide +kernel) ⟨Nat.le_of_ble_eq_true rfl, Nat.le_of_ble_eq_true rfl⟩) (hl_preS hP hK hD hE hS hFc) rfl rfl hl.1 rfl (lv_room (Nat.le_of_ble_eq_true rfl)) dJ7_copyOf_1904c_6 ⟨show n0 - n0 + (n4 - n0) ≤ nz - n0 by omega, show s0 - s0 + (s5 - s0) ≤ sz9 - s0 by omega⟩) hS (fun q _ h => hFc q h) hFc (fun u ra t H1 locs ht hvm hw hB hz1 hk1 hS => ?_)
  obtain ⟨ad7, hax, hr8, hP1, hD1⟩ := hB
  rw [ht] at hP1
  have hP := hP1
  have hD := hD1.weaken (fun k q _ h => hFc q.1 h)
  generalize H1 = H at hP hS ⊢
  have ha1 := ha1.mv hC.1 hax
  have hX := hX.trans hax
  have hC := hm.2.2 hC
  have hN : n0 ≤ n4 := Nat.le_trans hN hm1
  have hT : s0 ≤ s5 := Nat.le_trans hT hm2
  refine W.widen (k := n4 - n0) (n := s5 - s0) (by omega) (by omega) ?_
  clear hP1 hD1 hFc hk1 hz1 hvm ht hax hm hm1 hm2 hM1 hM2
  refine my_top (y := .ref (AD nb ad7 x2)) (congrArg Value.ref hr8.2.symm) ?_
  have hr8 := rf_self hr8
  obtain ⟨ht9, hn9, hs9, hE9⟩ := mr_o hF
  subst hn9 hs9 hE9
  have hX9 := hX
  rw [hQ]
  exact W.aret (v := .ref (AD nb ad7 x2)) hx hb hr (by first | exact Or.inl ⟨_, rfl⟩ | exact Or.inr ⟨_, rfl⟩) (Or.inr ⟨_, rfl⟩) (fun t ht hW => ⟨⟨(), (AD nb ad7 x2), rfl, trivial, _, hX, (by rw [← ht9]; exact hr8), by rw [ht]; exact hP, hD⟩, hS.F ht⟩) hS.2.2 dJ7_copyOf_1904c_9
