set_option maxHeartbeats 4000000 in
set_option maxRecDepth 100000 in
/-- coder() of the constant 0 -/
theorem c_coder_0 (l : Launch) (dC : Nat → ClassId) (dI : Nat → Nat → Nat) (cy : Nat → ClassId) (nb : Nat → Nat)  (sz : Nat) : Met l yJ0_coder_7d493 (wsg yJ0_coder_7d493 cJ0_coder_7d493 1 (some .byte)) ({ frames := 7, cells := 0, slots := 0, locals := 200 }) (va_Pc [.ref (nb (3 + 2 * 0))] (fun U => U.heap.size = sz ∧ va_P (dC, dI) vwCl [] U.heap ∧ va_K (dC, dI) vwCl (tyL cy) U ∧ va_D (fun _ => True) [] ∧ GE nb (va_A [] sz) U)) (va_Qi (fun (r : Int32) (_ : Unit) => r = 0) (fun _ t => va_P (dC, dI) vwCl [] t.heap ∧ va_D (va_A [] sz) []) (va_A [] sz)) 0 0 (va_A [] sz) := by
  refine Met.ofW (cc := cJ0_coder_7d493) (maxL := 1) (ret := (some .byte)) (by decide) rfl ?_
  intro p e s m args below meth c s₁ B hml hv
  obtain ⟨rfl, hsz, hP, hK, hD0, hE⟩ := hv
  have hx := B.exec
  have hb := B.bytes
  have hr := B.returns
  have hts0 := atoms_spec (ws := (wsg yJ0_coder_7d493 cJ0_coder_7d493 1 (some .byte))) B.pre
  have hts : ∀ w ∈ wsL_law, w.before _ s = true := fun w h => hts0 w (List.mem_cons_of_mem _ h)
  have hown : s.vm.findClass RJ0 = some m.cls := findClass_of_methodNamed B.named
  have hlocks := B.notSynchronized
  subst hsz
  have hD := hD0.self (sz := s.heap.size)
  generalize hAe : va_A [] s.heap.size = A at hD hE ⊢
  have hA : ∀ q : Nat, s.heap.size ≤ q → A q := fun q h => by rw [← hAe]; exact Or.inr h
  have hS : va_S A s.heap s.heap [] := va_S.rf
  have hP : va_P (dC, dI) vwCl [] s.heap := hP
  have hl := lv_entry ([.ref (nb (3 + 2 * 0))]) (n := 1) (Nat.le_of_ble_eq_true rfl)
  rw [lg_entry_eq]
  generalize (lg_sl ([.ref (nb (3 + 2 * 0))]) ++ List.replicate (1 - (lg_sl ([.ref (nb (3 + 2 * 0))])).length) Slot.unset).toArray = ls at hl ⊢
  have hl : lv_has ls 1 [(0, .ref (nb (3 + 2 * 0)))] := hl
  generalize hHe : s.heap = H at hP hS ⊢
  have hS : va_S A s.heap H [] := by rw [hHe]; exact hS
  refine va_gets (C := RJ0) (n := "COMPACT_STRINGS") (d := "Z") (ref := "java/lang/String") (v := .int 1) hx hb hE.cs hS hown (hts _ mw_180) (fun _ h9 => h9) dJ0_coder_7d493_0 ?_
  refine lv_if_eq (tgt := 13) hx hb dJ0_coder_7d493_3 (by decide) (fun h => absurd h (by decide)) (fun _ => ?_)
  refine lv_aload_n hx hb dJ0_coder_7d493_6 rfl (lv_at hl 0 rfl) ?_
  refine vk_getf (o := RJ0) (n := "coder") (d := "B") (ref := "java/lang/String") (v := .int 0) hx hb (hE.wh 0 rfl).2.1 hS hown (hts _ mw_181) (fun _ h9 => h9) dJ0_coder_7d493_7 ?_
  refine lv_goto (tgt := 14) hx hb dJ0_coder_7d493_10 (by decide) ?_
  have hP9 := hP.sub (ws' := []) [] rfl
  have hD9 := hD.sub (ws' := []) [] (by decide) rfl
  refine W.widen (k := 0) (n := 0) (by omega) (by omega) ?_
  exact W.zret (v := 0) hx hb hr (by rfl) (fun t ht hW => ⟨⟨0, (), rfl, rfl, by rw [ht]; exact hP9, hD9⟩, hS.F ht⟩) hS.2.2 dJ0_coder_7d493_14
set_option maxHeartbeats 4000000 in
set_option maxRecDepth 100000 in
/-- coder() of the constant 1 -/
theorem c_coder_1 (l : Launch) (dC : Nat → ClassId) (dI : Nat → Nat → Nat) (cy : Nat → ClassId) (nb : Nat → Nat)  (sz : Nat) : Met l yJ0_coder_7d493 (wsg yJ0_coder_7d493 cJ0_coder_7d493 1 (some .byte)) ({ frames := 7, cells := 0, slots := 0, locals := 200 }) (va_Pc [.ref (nb (3 + 2 * 1))] (fun U => U.heap.size = sz ∧ va_P (dC, dI) vwCl [] U.heap ∧ va_K (dC, dI) vwCl (tyL cy) U ∧ va_D (fun _ => True) [] ∧ GE nb (va_A [] sz) U)) (va_Qi (fun (r : Int32) (_ : Unit) => r = 0) (fun _ t => va_P (dC, dI) vwCl [] t.heap ∧ va_D (va_A [] sz) []) (va_A [] sz)) 0 0 (va_A [] sz) := by
  refine Met.ofW (cc := cJ0_coder_7d493) (maxL := 1) (ret := (some .byte)) (by decide) rfl ?_
  intro p e s m args below meth c s₁ B hml hv
  obtain ⟨rfl, hsz, hP, hK, hD0, hE⟩ := hv
  have hx := B.exec
  have hb := B.bytes
  have hr := B.returns
  have hts0 := atoms_spec (ws := (wsg yJ0_coder_7d493 cJ0_coder_7d493 1 (some .byte))) B.pre
  have hts : ∀ w ∈ wsL_law, w.before _ s = true := fun w h => hts0 w (List.mem_cons_of_mem _ h)
  have hown : s.vm.findClass RJ0 = some m.cls := findClass_of_methodNamed B.named
  have hlocks := B.notSynchronized
  subst hsz
  have hD := hD0.self (sz := s.heap.size)
  generalize hAe : va_A [] s.heap.size = A at hD hE ⊢
  have hA : ∀ q : Nat, s.heap.size ≤ q → A q := fun q h => by rw [← hAe]; exact Or.inr h
  have hS : va_S A s.heap s.heap [] := va_S.rf
  have hP : va_P (dC, dI) vwCl [] s.heap := hP
  have hl := lv_entry ([.ref (nb (3 + 2 * 1))]) (n := 1) (Nat.le_of_ble_eq_true rfl)
  rw [lg_entry_eq]
  generalize (lg_sl ([.ref (nb (3 + 2 * 1))]) ++ List.replicate (1 - (lg_sl ([.ref (nb (3 + 2 * 1))])).length) Slot.unset).toArray = ls at hl ⊢
  have hl : lv_has ls 1 [(0, .ref (nb (3 + 2 * 1)))] := hl
  generalize hHe : s.heap = H at hP hS ⊢
  have hS : va_S A s.heap H [] := by rw [hHe]; exact hS
  refine va_gets (C := RJ0) (n := "COMPACT_STRINGS") (d := "Z") (ref := "java/lang/String") (v := .int 1) hx hb hE.cs hS hown (hts _ mw_180) (fun _ h9 => h9) dJ0_coder_7d493_0 ?_
  refine lv_if_eq (tgt := 13) hx hb dJ0_coder_7d493_3 (by decide) (fun h => absurd h (by decide)) (fun _ => ?_)
  refine lv_aload_n hx hb dJ0_coder_7d493_6 rfl (lv_at hl 0 rfl) ?_
  refine vk_getf (o := RJ0) (n := "coder") (d := "B") (ref := "java/lang/String") (v := .int 0) hx hb (hE.wh 1 rfl).2.1 hS hown (hts _ mw_181) (fun _ h9 => h9) dJ0_coder_7d493_7 ?_
  refine lv_goto (tgt := 14) hx hb dJ0_coder_7d493_10 (by decide) ?_
  have hP9 := hP.sub (ws' := []) [] rfl
  have hD9 := hD.sub (ws' := []) [] (by decide) rfl
  refine W.widen (k := 0) (n := 0) (by omega) (by omega) ?_
  exact W.zret (v := 0) hx hb hr (by rfl) (fun t ht hW => ⟨⟨0, (), rfl, rfl, by rw [ht]; exact hP9, hD9⟩, hS.F ht⟩) hS.2.2 dJ0_coder_7d493_14
set_option maxHeartbeats 4000000 in
set_option maxRecDepth 100000 in
/-- coder() of the constant 2 -/
theorem c_coder_2 (l : Launch) (dC : Nat → ClassId) (dI : Nat → Nat → Nat) (cy : Nat → ClassId) (nb : Nat → Nat)  (sz : Nat) : Met l yJ0_coder_7d493 (wsg yJ0_coder_7d493 cJ0_coder_7d493 1 (some .byte)) ({ frames := 7, cells := 0, slots := 0, locals := 200 }) (va_Pc [.ref (nb (3 + 2 * 2))] (fun U => U.heap.size = sz ∧ va_P (dC, dI) vwCl [] U.heap ∧ va_K (dC, dI) vwCl (tyL cy) U ∧ va_D (fun _ => True) [] ∧ GE nb (va_A [] sz) U)) (va_Qi (fun (r : Int32) (_ : Unit) => r = 0) (fun _ t => va_P (dC, dI) vwCl [] t.heap ∧ va_D (va_A [] sz) []) (va_A [] sz)) 0 0 (va_A [] sz) := by
  refine Met.ofW (cc := cJ0_coder_7d493) (maxL := 1) (ret := (some .byte)) (by decide) rfl ?_
  intro p e s m args below meth c s₁ B hml hv
  obtain ⟨rfl, hsz, hP, hK, hD0, hE⟩ := hv
  have hx := B.exec
  have hb := B.bytes
  have hr := B.returns
  have hts0 := atoms_spec (ws := (wsg yJ0_coder_7d493 cJ0_coder_7d493 1 (some .byte))) B.pre
  have hts : ∀ w ∈ wsL_law, w.before _ s = true := fun w h => hts0 w (List.mem_cons_of_mem _ h)
  have hown : s.vm.findClass RJ0 = some m.cls := findClass_of_methodNamed B.named
  have hlocks := B.notSynchronized
  subst hsz
  have hD := hD0.self (sz := s.heap.size)
  generalize hAe : va_A [] s.heap.size = A at hD hE ⊢
  have hA : ∀ q : Nat, s.heap.size ≤ q → A q := fun q h => by rw [← hAe]; exact Or.inr h
  have hS : va_S A s.heap s.heap [] := va_S.rf
  have hP : va_P (dC, dI) vwCl [] s.heap := hP
  have hl := lv_entry ([.ref (nb (3 + 2 * 2))]) (n := 1) (Nat.le_of_ble_eq_true rfl)
  rw [lg_entry_eq]
  generalize (lg_sl ([.ref (nb (3 + 2 * 2))]) ++ List.replicate (1 - (lg_sl ([.ref (nb (3 + 2 * 2))])).length) Slot.unset).toArray = ls at hl ⊢
  have hl : lv_has ls 1 [(0, .ref (nb (3 + 2 * 2)))] := hl
  generalize hHe : s.heap = H at hP hS ⊢
  have hS : va_S A s.heap H [] := by rw [hHe]; exact hS
  refine va_gets (C := RJ0) (n := "COMPACT_STRINGS") (d := "Z") (ref := "java/lang/String") (v := .int 1) hx hb hE.cs hS hown (hts _ mw_180) (fun _ h9 => h9) dJ0_coder_7d493_0 ?_
  refine lv_if_eq (tgt := 13) hx hb dJ0_coder_7d493_3 (by decide) (fun h => absurd h (by decide)) (fun _ => ?_)
  refine lv_aload_n hx hb dJ0_coder_7d493_6 rfl (lv_at hl 0 rfl) ?_
  refine vk_getf (o := RJ0) (n := "coder") (d := "B") (ref := "java/lang/String") (v := .int 0) hx hb (hE.wh 2 rfl).2.1 hS hown (hts _ mw_181) (fun _ h9 => h9) dJ0_coder_7d493_7 ?_
  refine lv_goto (tgt := 14) hx hb dJ0_coder_7d493_10 (by decide) ?_
  have hP9 := hP.sub (ws' := []) [] rfl
  have hD9 := hD.sub (ws' := []) [] (by decide) rfl
  refine W.widen (k := 0) (n := 0) (by omega) (by omega) ?_
  exact W.zret (v := 0) hx hb hr (by rfl) (fun t ht hW => ⟨⟨0, (), rfl, rfl, by rw [ht]; exact hP9, hD9⟩, hS.F ht⟩) hS.2.2 dJ0_coder_7d493_14
set_option maxHeartbeats 4000000 in
set_option maxRecDepth 100000 in
/-- coder() of the constant 3 -/
theorem c_coder_3 (l : Launch) (dC : Nat → ClassId) (dI : Nat → Nat → Nat) (cy : Nat → ClassId) (nb : Nat → Nat)  (sz : Nat) : Met l yJ0_coder_7d493 (wsg yJ0_coder_7d493 cJ0_coder_7d493 1 (some .byte)) ({ frames := 7, cells := 0, slots := 0, locals := 200 }) (va_Pc [.ref (nb (3 + 2 * 3))] (fun U => U.heap.size = sz ∧ va_P (dC, dI) vwCl [] U.heap ∧ va_K (dC, dI) vwCl (tyL cy) U ∧ va_D (fun _ => True) [] ∧ GE nb (va_A [] sz) U)) (va_Qi (fun (r : Int32) (_ : Unit) => r = 0) (fun _ t => va_P (dC, dI) vwCl [] t.heap ∧ va_D (va_A [] sz) []) (va_A [] sz)) 0 0 (va_A [] sz) := by
  refine Met.ofW (cc := cJ0_coder_7d493) (maxL := 1) (ret := (some .byte)) (by decide) rfl ?_
  intro p e s m args below meth c s₁ B hml hv
  obtain ⟨rfl, hsz, hP, hK, hD0, hE⟩ := hv
  have hx := B.exec
  have hb := B.bytes
  have hr := B.returns
  have hts0 := atoms_spec (ws := (wsg yJ0_coder_7d493 cJ0_coder_7d493 1 (some .byte))) B.pre
  have hts : ∀ w ∈ wsL_law, w.before _ s = true := fun w h => hts0 w (List.mem_cons_of_mem _ h)
  have hown : s.vm.findClass RJ0 = some m.cls := findClass_of_methodNamed B.named
  have hlocks := B.notSynchronized
  subst hsz
  have hD := hD0.self (sz := s.heap.size)
  generalize hAe : va_A [] s.heap.size = A at hD hE ⊢
  have hA : ∀ q : Nat, s.heap.size ≤ q → A q := fun q h => by rw [← hAe]; exact Or.inr h
  have hS : va_S A s.heap s.heap [] := va_S.rf
  have hP : va_P (dC, dI) vwCl [] s.heap := hP
  have hl := lv_entry ([.ref (nb (3 + 2 * 3))]) (n := 1) (Nat.le_of_ble_eq_true rfl)
  rw [lg_entry_eq]
  generalize (lg_sl ([.ref (nb (3 + 2 * 3))]) ++ List.replicate (1 - (lg_sl ([.ref (nb (3 + 2 * 3))])).length) Slot.unset).toArray = ls at hl ⊢
  have hl : lv_has ls 1 [(0, .ref (nb (3 + 2 * 3)))] := hl
  generalize hHe : s.heap = H at hP hS ⊢
  have hS : va_S A s.heap H [] := by rw [hHe]; exact hS
  refine va_gets (C := RJ0) (n := "COMPACT_STRINGS") (d := "Z") (ref := "java/lang/String") (v := .int 1) hx hb hE.cs hS hown (hts _ mw_180) (fun _ h9 => h9) dJ0_coder_7d493_0 ?_
  refine lv_if_eq (tgt := 13) hx hb dJ0_coder_7d493_3 (by decide) (fun h => absurd h (by decide)) (fun _ => ?_)
  refine lv_aload_n hx hb dJ0_coder_7d493_6 rfl (lv_at hl 0 rfl) ?_
  refine vk_getf (o := RJ0) (n := "coder") (d := "B") (ref := "java/lang/String") (v := .int 0) hx hb (hE.wh 3 rfl).2.1 hS hown (hts _ mw_181) (fun _ h9 => h9) dJ0_coder_7d493_7 ?_
  refine lv_goto (tgt := 14) hx hb dJ0_coder_7d493_10 (by decide) ?_
  have hP9 := hP.sub (ws' := []) [] rfl
  have hD9 := hD.sub (ws' := []) [] (by decide) rfl
  refine W.widen (k := 0) (n := 0) (by omega) (by omega) ?_
  exact W.zret (v := 0) hx hb hr (by rfl) (fun t ht hW => ⟨⟨0, (), rfl, rfl, by rw [ht]; exact hP9, hD9⟩, hS.F ht⟩) hS.2.2 dJ0_coder_7d493_14
set_option maxHeartbeats 4000000 in
set_option maxRecDepth 100000 in
/-- coder() of the constant 4 -/
theorem c_coder_4 (l : Launch) (dC : Nat → ClassId) (dI : Nat → Nat → Nat) (cy : Nat → ClassId) (nb : Nat → Nat)  (sz : Nat) : Met l yJ0_coder_7d493 (wsg yJ0_coder_7d493 cJ0_coder_7d493 1 (some .byte)) ({ frames := 7, cells := 0, slots := 0, locals := 200 }) (va_Pc [.ref (nb (3 + 2 * 4))] (fun U => U.heap.size = sz ∧ va_P (dC, dI) vwCl [] U.heap ∧ va_K (dC, dI) vwCl (tyL cy) U ∧ va_D (fun _ => True) [] ∧ GE nb (va_A [] sz) U)) (va_Qi (fun (r : Int32) (_ : Unit) => r = 0) (fun _ t => va_P (dC, dI) vwCl [] t.heap ∧ va_D (va_A [] sz) []) (va_A [] sz)) 0 0 (va_A [] sz) := by
  refine Met.ofW (cc := cJ0_coder_7d493) (maxL := 1) (ret := (some .byte)) (by decide) rfl ?_
  intro p e s m args below meth c s₁ B hml hv
  obtain ⟨rfl, hsz, hP, hK, hD0, hE⟩ := hv
  have hx := B.exec
  have hb := B.bytes
  have hr := B.returns
  have hts0 := atoms_spec (ws := (wsg yJ0_coder_7d493 cJ0_coder_7d493 1 (some .byte))) B.pre
  have hts : ∀ w ∈ wsL_law, w.before _ s = true := fun w h => hts0 w (List.mem_cons_of_mem _ h)
  have hown : s.vm.findClass RJ0 = some m.cls := findClass_of_methodNamed B.named
  have hlocks := B.notSynchronized
  subst hsz
  have hD := hD0.self (sz := s.heap.size)
  generalize hAe : va_A [] s.heap.size = A at hD hE ⊢
  have hA : ∀ q : Nat, s.heap.size ≤ q → A q := fun q h => by rw [← hAe]; exact Or.inr h
  have hS : va_S A s.heap s.heap [] := va_S.rf
  have hP : va_P (dC, dI) vwCl [] s.heap := hP
  have hl := lv_entry ([.ref (nb (3 + 2 * 4))]) (n := 1) (Nat.le_of_ble_eq_true rfl)
  rw [lg_entry_eq]
  generalize (lg_sl ([.ref (nb (3 + 2 * 4))]) ++ List.replicate (1 - (lg_sl ([.ref (nb (3 + 2 * 4))])).length) Slot.unset).toArray = ls at hl ⊢
  have hl : lv_has ls 1 [(0, .ref (nb (3 + 2 * 4)))] := hl
  generalize hHe : s.heap = H at hP hS ⊢
  have hS : va_S A s.heap H [] := by rw [hHe]; exact hS
  refine va_gets (C := RJ0) (n := "COMPACT_STRINGS") (d := "Z") (ref := "java/lang/String") (v := .int 1) hx hb hE.cs hS hown (hts _ mw_180) (fun _ h9 => h9) dJ0_coder_7d493_0 ?_
  refine lv_if_eq (tgt := 13) hx hb dJ0_coder_7d493_3 (by decide) (fun h => absurd h (by decide)) (fun _ => ?_)
  refine lv_aload_n hx hb dJ0_coder_7d493_6 rfl (lv_at hl 0 rfl) ?_
  refine vk_getf (o := RJ0) (n := "coder") (d := "B") (ref := "java/lang/String") (v := .int 0) hx hb (hE.wh 4 rfl).2.1 hS hown (hts _ mw_181) (fun _ h9 => h9) dJ0_coder_7d493_7 ?_
  refine lv_goto (tgt := 14) hx hb dJ0_coder_7d493_10 (by decide) ?_
  have hP9 := hP.sub (ws' := []) [] rfl
  have hD9 := hD.sub (ws' := []) [] (by decide) rfl
  refine W.widen (k := 0) (n := 0) (by omega) (by omega) ?_
  exact W.zret (v := 0) hx hb hr (by rfl) (fun t ht hW => ⟨⟨0, (), rfl, rfl, by rw [ht]; exact hP9, hD9⟩, hS.F ht⟩) hS.2.2 dJ0_coder_7d493_14
set_option maxHeartbeats 4000000 in
set_option maxRecDepth 100000 in
/-- coder() of the constant 5 -/
theorem c_coder_5 (l : Launch) (dC : Nat → ClassId) (dI : Nat → Nat → Nat) (cy : Nat → ClassId) (nb : Nat → Nat)  (sz : Nat) : Met l yJ0_coder_7d493 (wsg yJ0_coder_7d493 cJ0_coder_7d493 1 (some .byte)) ({ frames := 7, cells := 0, slots := 0, locals := 200 }) (va_Pc [.ref (nb (3 + 2 * 5))] (fun U => U.heap.size = sz ∧ va_P (dC, dI) vwCl [] U.heap ∧ va_K (dC, dI) vwCl (tyL cy) U ∧ va_D (fun _ => True) [] ∧ GE nb (va_A [] sz) U)) (va_Qi (fun (r : Int32) (_ : Unit) => r = 0) (fun _ t => va_P (dC, dI) vwCl [] t.heap ∧ va_D (va_A [] sz) []) (va_A [] sz)) 0 0 (va_A [] sz) := by
  refine Met.ofW (cc := cJ0_coder_7d493) (maxL := 1) (ret := (some .byte)) (by decide) rfl ?_
  intro p e s m args below meth c s₁ B hml hv
  obtain ⟨rfl, hsz, hP, hK, hD0, hE⟩ := hv
  have hx := B.exec
  have hb := B.bytes
  have hr := B.returns
  have hts0 := atoms_spec (ws := (wsg yJ0_coder_7d493 cJ0_coder_7d493 1 (some .byte))) B.pre
  have hts : ∀ w ∈ wsL_law, w.before _ s = true := fun w h => hts0 w (List.mem_cons_of_mem _ h)
  have hown : s.vm.findClass RJ0 = some m.cls := findClass_of_methodNamed B.named
  have hlocks := B.notSynchronized
  subst hsz
  have hD := hD0.self (sz := s.heap.size)
  generalize hAe : va_A [] s.heap.size = A at hD hE ⊢
  have hA : ∀ q : Nat, s.heap.size ≤ q → A q := fun q h => by rw [← hAe]; exact Or.inr h
  have hS : va_S A s.heap s.heap [] := va_S.rf
  have hP : va_P (dC, dI) vwCl [] s.heap := hP
  have hl := lv_entry ([.ref (nb (3 + 2 * 5))]) (n := 1) (Nat.le_of_ble_eq_true rfl)
  rw [lg_entry_eq]
  generalize (lg_sl ([.ref (nb (3 + 2 * 5))]) ++ List.replicate (1 - (lg_sl ([.ref (nb (3 + 2 * 5))])).length) Slot.unset).toArray = ls at hl ⊢
  have hl : lv_has ls 1 [(0, .ref (nb (3 + 2 * 5)))] := hl
  generalize hHe : s.heap = H at hP hS ⊢
  have hS : va_S A s.heap H [] := by rw [hHe]; exact hS
  refine va_gets (C := RJ0) (n := "COMPACT_STRINGS") (d := "Z") (ref := "java/lang/String") (v := .int 1) hx hb hE.cs hS hown (hts _ mw_180) (fun _ h9 => h9) dJ0_coder_7d493_0 ?_
  refine lv_if_eq (tgt := 13) hx hb dJ0_coder_7d493_3 (by decide) (fun h => absurd h (by decide)) (fun _ => ?_)
  refine lv_aload_n hx hb dJ0_coder_7d493_6 rfl (lv_at hl 0 rfl) ?_
  refine vk_getf (o := RJ0) (n := "coder") (d := "B") (ref := "java/lang/String") (v := .int 0) hx hb (hE.wh 5 rfl).2.1 hS hown (hts _ mw_181) (fun _ h9 => h9) dJ0_coder_7d493_7 ?_
  refine lv_goto (tgt := 14) hx hb dJ0_coder_7d493_10 (by decide) ?_
  have hP9 := hP.sub (ws' := []) [] rfl
  have hD9 := hD.sub (ws' := []) [] (by decide) rfl
  refine W.widen (k := 0) (n := 0) (by omega) (by omega) ?_
  exact W.zret (v := 0) hx hb hr (by rfl) (fun t ht hW => ⟨⟨0, (), rfl, rfl, by rw [ht]; exact hP9, hD9⟩, hS.F ht⟩) hS.2.2 dJ0_coder_7d493_14
set_option maxHeartbeats 4000000 in
set_option maxRecDepth 100000 in
/-- coder() of the constant 6 -/
theorem c_coder_6 (l : Launch) (dC : Nat → ClassId) (dI : Nat → Nat → Nat) (cy : Nat → ClassId) (nb : Nat → Nat)  (sz : Nat) : Met l yJ0_coder_7d493 (wsg yJ0_coder_7d493 cJ0_coder_7d493 1 (some .byte)) ({ frames := 7, cells := 0, slots := 0, locals := 200 }) (va_Pc [.ref (nb (3 + 2 * 6))] (fun U => U.heap.size = sz ∧ va_P (dC, dI) vwCl [] U.heap ∧ va_K (dC, dI) vwCl (tyL cy) U ∧ va_D (fun _ => True) [] ∧ GE nb (va_A [] sz) U)) (va_Qi (fun (r : Int32) (_ : Unit) => r = 0) (fun _ t => va_P (dC, dI) vwCl [] t.heap ∧ va_D (va_A [] sz) []) (va_A [] sz)) 0 0 (va_A [] sz) := by
  refine Met.ofW (cc := cJ0_coder_7d493) (maxL := 1) (ret := (some .byte)) (by decide) rfl ?_
  intro p e s m args below meth c s₁ B hml hv
  obtain ⟨rfl, hsz, hP, hK, hD0, hE⟩ := hv
  have hx := B.exec
  have hb := B.bytes
  have hr := B.returns
  have hts0 := atoms_spec (ws := (wsg yJ0_coder_7d493 cJ0_coder_7d493 1 (some .byte))) B.pre
  have hts : ∀ w ∈ wsL_law, w.before _ s = true := fun w h => hts0 w (List.mem_cons_of_mem _ h)
  have hown : s.vm.findClass RJ0 = some m.cls := findClass_of_methodNamed B.named
  have hlocks := B.notSynchronized
  subst hsz
  have hD := hD0.self (sz := s.heap.size)
  generalize hAe : va_A [] s.heap.size = A at hD hE ⊢
  have hA : ∀ q : Nat, s.heap.size ≤ q → A q := fun q h => by rw [← hAe]; exact Or.inr h
  have hS : va_S A s.heap s.heap [] := va_S.rf
  have hP : va_P (dC, dI) vwCl [] s.heap := hP
  have hl := lv_entry ([.ref (nb (3 + 2 * 6))]) (n := 1) (Nat.le_of_ble_eq_true rfl)
  rw [lg_entry_eq]
  generalize (lg_sl ([.ref (nb (3 + 2 * 6))]) ++ List.replicate (1 - (lg_sl ([.ref (nb (3 + 2 * 6))])).length) Slot.unset).toArray = ls at hl ⊢
  have hl : lv_has ls 1 [(0, .ref (nb (3 + 2 * 6)))] := hl
  generalize hHe : s.heap = H at hP hS ⊢
  have hS : va_S A s.heap H [] := by rw [hHe]; exact hS
  refine va_gets (C := RJ0) (n := "COMPACT_STRINGS") (d := "Z") (ref := "java/lang/String") (v := .int 1) hx hb hE.cs hS hown (hts _ mw_180) (fun _ h9 => h9) dJ0_coder_7d493_0 ?_
  refine lv_if_eq (tgt := 13) hx hb dJ0_coder_7d493_3 (by decide) (fun h => absurd h (by decide)) (fun _ => ?_)
  refine lv_aload_n hx hb dJ0_coder_7d493_6 rfl (lv_at hl 0 rfl) ?_
  refine vk_getf (o := RJ0) (n := "coder") (d := "B") (ref := "java/lang/String") (v := .int 0) hx hb (hE.wh 6 rfl).2.1 hS hown (hts _ mw_181) (fun _ h9 => h9) dJ0_coder_7d493_7 ?_
  refine lv_goto (tgt := 14) hx hb dJ0_coder_7d493_10 (by decide) ?_
  have hP9 := hP.sub (ws' := []) [] rfl
  have hD9 := hD.sub (ws' := []) [] (by decide) rfl
  refine W.widen (k := 0) (n := 0) (by omega) (by omega) ?_
  exact W.zret (v := 0) hx hb hr (by rfl) (fun t ht hW => ⟨⟨0, (), rfl, rfl, by rw [ht]; exact hP9, hD9⟩, hS.F ht⟩) hS.2.2 dJ0_coder_7d493_14
set_option maxHeartbeats 4000000 in
set_option maxRecDepth 100000 in
/-- coder() of the constant 7 -/
theorem c_coder_7 (l : Launch) (dC : Nat → ClassId) (dI : Nat → Nat → Nat) (cy : Nat → ClassId) (nb : Nat → Nat)  (sz : Nat) : Met l yJ0_coder_7d493 (wsg yJ0_coder_7d493 cJ0_coder_7d493 1 (some .byte)) ({ frames := 7, cells := 0, slots := 0, locals := 200 }) (va_Pc [.ref (nb (3 + 2 * 7))] (fun U => U.heap.size = sz ∧ va_P (dC, dI) vwCl [] U.heap ∧ va_K (dC, dI) vwCl (tyL cy) U ∧ va_D (fun _ => True) [] ∧ GE nb (va_A [] sz) U)) (va_Qi (fun (r : Int32) (_ : Unit) => r = 0) (fun _ t => va_P (dC, dI) vwCl [] t.heap ∧ va_D (va_A [] sz) []) (va_A [] sz)) 0 0 (va_A [] sz) := by
  refine Met.ofW (cc := cJ0_coder_7d493) (maxL := 1) (ret := (some .byte)) (by decide) rfl ?_
  intro p e s m args below meth c s₁ B hml hv
  obtain ⟨rfl, hsz, hP, hK, hD0, hE⟩ := hv
  have hx := B.exec
  have hb := B.bytes
  have hr := B.returns
  have hts0 := atoms_spec (ws := (wsg yJ0_coder_7d493 cJ0_coder_7d493 1 (some .byte))) B.pre
  have hts : ∀ w ∈ wsL_law, w.before _ s = true := fun w h => hts0 w (List.mem_cons_of_mem _ h)
  have hown : s.vm.findClass RJ0 = some m.cls := findClass_of_methodNamed B.named
  have hlocks := B.notSynchronized
  subst hsz
  have hD := hD0.self (sz := s.heap.size)
  generalize hAe : va_A [] s.heap.size = A at hD hE ⊢
  have hA : ∀ q : Nat, s.heap.size ≤ q → A q := fun q h => by rw [← hAe]; exact Or.inr h
  have hS : va_S A s.heap s.heap [] := va_S.rf
  have hP : va_P (dC, dI) vwCl [] s.heap := hP
  have hl := lv_entry ([.ref (nb (3 + 2 * 7))]) (n := 1) (Nat.le_of_ble_eq_true rfl)
  rw [lg_entry_eq]
  generalize (lg_sl ([.ref (nb (3 + 2 * 7))]) ++ List.replicate (1 - (lg_sl ([.ref (nb (3 + 2 * 7))])).length) Slot.unset).toArray = ls at hl ⊢
  have hl : lv_has ls 1 [(0, .ref (nb (3 + 2 * 7)))] := hl
  generalize hHe : s.heap = H at hP hS ⊢
  have hS : va_S A s.heap H [] := by rw [hHe]; exact hS
  refine va_gets (C := RJ0) (n := "COMPACT_STRINGS") (d := "Z") (ref := "java/lang/String") (v := .int 1) hx hb hE.cs hS hown (hts _ mw_180) (fun _ h9 => h9) dJ0_coder_7d493_0 ?_
  refine lv_if_eq (tgt := 13) hx hb dJ0_coder_7d493_3 (by decide) (fun h => absurd h (by decide)) (fun _ => ?_)
  refine lv_aload_n hx hb dJ0_coder_7d493_6 rfl (lv_at hl 0 rfl) ?_
  refine vk_getf (o := RJ0) (n := "coder") (d := "B") (ref := "java/lang/String") (v := .int 0) hx hb (hE.wh 7 rfl).2.1 hS hown (hts _ mw_181) (fun _ h9 => h9) dJ0_coder_7d493_7 ?_
  refine lv_goto (tgt := 14) hx hb dJ0_coder_7d493_10 (by decide) ?_
  have hP9 := hP.sub (ws' := []) [] rfl
  have hD9 := hD.sub (ws' := []) [] (by decide) rfl
  refine W.widen (k := 0) (n := 0) (by omega) (by omega) ?_
  exact W.zret (v := 0) hx hb hr (by rfl) (fun t ht hW => ⟨⟨0, (), rfl, rfl, by rw [ht]; exact hP9, hD9⟩, hS.F ht⟩) hS.2.2 dJ0_coder_7d493_14
set_option maxHeartbeats 4000000 in
set_option maxRecDepth 100000 in
/-- coder() of the constant 8 -/
theorem c_coder_8 (l : Launch) (dC : Nat → ClassId) (dI : Nat → Nat → Nat) (cy : Nat → ClassId) (nb : Nat → Nat)  (sz : Nat) : Met l yJ0_coder_7d493 (wsg yJ0_coder_7d493 cJ0_coder_7d493 1 (some .byte)) ({ frames := 7, cells := 0, slots := 0, locals := 200 }) (va_Pc [.ref (nb (3 + 2 * 8))] (fun U => U.heap.size = sz ∧ va_P (dC, dI) vwCl [] U.heap ∧ va_K (dC, dI) vwCl (tyL cy) U ∧ va_D (fun _ => True) [] ∧ GE nb (va_A [] sz) U)) (va_Qi (fun (r : Int32) (_ : Unit) => r = 0) (fun _ t => va_P (dC, dI) vwCl [] t.heap ∧ va_D (va_A [] sz) []) (va_A [] sz)) 0 0 (va_A [] sz) := by
  refine Met.ofW (cc := cJ0_coder_7d493) (maxL := 1) (ret := (some .byte)) (by decide) rfl ?_
  intro p e s m args below meth c s₁ B hml hv
  obtain ⟨rfl, hsz, hP, hK, hD0, hE⟩ := hv
  have hx := B.exec
  have hb := B.bytes
  have hr := B.returns
  have hts0 := atoms_spec (ws := (wsg yJ0_coder_7d493 cJ0_coder_7d493 1 (some .byte))) B.pre
  have hts : ∀ w ∈ wsL_law, w.before _ s = true := fun w h => hts0 w (List.mem_cons_of_mem _ h)
  have hown : s.vm.findClass RJ0 = some m.cls := findClass_of_methodNamed B.named
  have hlocks := B.notSynchronized
  subst hsz
  have hD := hD0.self (sz := s.heap.size)
  generalize hAe : va_A [] s.heap.size = A at hD hE ⊢
  have hA : ∀ q : Nat, s.heap.size ≤ q → A q := fun q h => by rw [← hAe]; exact Or.inr h
  have hS : va_S A s.heap s.heap [] := va_S.rf
  have hP : va_P (dC, dI) vwCl [] s.heap := hP
  have hl := lv_entry ([.ref (nb (3 + 2 * 8))]) (n := 1) (Nat.le_of_ble_eq_true rfl)
  rw [lg_entry_eq]
  generalize (lg_sl ([.ref (nb (3 + 2 * 8))]) ++ List.replicate (1 - (lg_sl ([.ref (nb (3 + 2 * 8))])).length) Slot.unset).toArray = ls at hl ⊢
  have hl : lv_has ls 1 [(0, .ref (nb (3 + 2 * 8)))] := hl
  generalize hHe : s.heap = H at hP hS ⊢
  have hS : va_S A s.heap H [] := by rw [hHe]; exact hS
  refine va_gets (C := RJ0) (n := "COMPACT_STRINGS") (d := "Z") (ref := "java/lang/String") (v := .int 1) hx hb hE.cs hS hown (hts _ mw_180) (fun _ h9 => h9) dJ0_coder_7d493_0 ?_
  refine lv_if_eq (tgt := 13) hx hb dJ0_coder_7d493_3 (by decide) (fun h => absurd h (by decide)) (fun _ => ?_)
  refine lv_aload_n hx hb dJ0_coder_7d493_6 rfl (lv_at hl 0 rfl) ?_
  refine vk_getf (o := RJ0) (n := "coder") (d := "B") (ref := "java/lang/String") (v := .int 0) hx hb (hE.wh 8 rfl).2.1 hS hown (hts _ mw_181) (fun _ h9 => h9) dJ0_coder_7d493_7 ?_
  refine lv_goto (tgt := 14) hx hb dJ0_coder_7d493_10 (by decide) ?_
  have hP9 := hP.sub (ws' := []) [] rfl
  have hD9 := hD.sub (ws' := []) [] (by decide) rfl
  refine W.widen (k := 0) (n := 0) (by omega) (by omega) ?_
  exact W.zret (v := 0) hx hb hr (by rfl) (fun t ht hW => ⟨⟨0, (), rfl, rfl, by rw [ht]; exact hP9, hD9⟩, hS.F ht⟩) hS.2.2 dJ0_coder_7d493_14
set_option maxHeartbeats 4000000 in
set_option maxRecDepth 100000 in
/-- length() of the constant 0 -/
theorem c_strlen_0 (l : Launch) (dC : Nat → ClassId) (dI : Nat → Nat → Nat) (cy : Nat → ClassId) (nb : Nat → Nat)  (sz : Nat) : Met l yJ0_length_8abf5 (wsg yJ0_length_8abf5 cJ0_length_8abf5 1 (some .int)) ({ frames := 8, cells := 0, slots := 0, locals := 300 }) (va_Pc [.ref (nb (3 + 2 * 0))] (fun U => U.heap.size = sz ∧ va_P (dC, dI) vwCl [] U.heap ∧ va_K (dC, dI) vwCl (tyL cy) U ∧ va_D (fun _ => True) [] ∧ GE nb (va_A [] sz) U)) (va_Qi (fun (r : Int32) (_ : Unit) => r = 4) (fun _ t => va_P (dC, dI) vwCl [] t.heap ∧ va_D (va_A [] sz) []) (va_A [] sz)) 0 0 (va_A [] sz) := by
  refine Met.ofW (cc := cJ0_length_8abf5) (maxL := 1) (ret := (some .int)) (by decide) rfl ?_
  intro p e s m args below meth c s₁ B hml hv
  obtain ⟨rfl, hsz, hP, hK, hD0, hE⟩ := hv
  have hx := B.exec
  have hb := B.bytes
  have hr := B.returns
  have hts0 := atoms_spec (ws := (wsg yJ0_length_8abf5 cJ0_length_8abf5 1 (some .int))) B.pre
  have hts : ∀ w ∈ wsL_law, w.before _ s = true := fun w h => hts0 w (List.mem_cons_of_mem _ h)
  have hown : s.vm.findClass RJ0 = some m.cls := findClass_of_methodNamed B.named
  have hlocks := B.notSynchronized
  subst hsz
  have hD := hD0.self (sz := s.heap.size)
  generalize hAe : va_A [] s.heap.size = A at hD hE ⊢
  have hA : ∀ q : Nat, s.heap.size ≤ q → A q := fun q h => by rw [← hAe]; exact Or.inr h
  have hS : va_S A s.heap s.heap [] := va_S.rf
  have hP : va_P (dC, dI) vwCl [] s.heap := hP
  have hl := lv_entry ([.ref (nb (3 + 2 * 0))]) (n := 1) (Nat.le_of_ble_eq_true rfl)
  rw [lg_entry_eq]
  generalize (lg_sl ([.ref (nb (3 + 2 * 0))]) ++ List.replicate (1 - (lg_sl ([.ref (nb (3 + 2 * 0))])).length) Slot.unset).toArray = ls at hl ⊢
  have hl : lv_has ls 1 [(0, .ref (nb (3 + 2 * 0)))] := hl
  generalize hHe : s.heap = H at hP hS ⊢
  have hS : va_S A s.heap H [] := by rw [hHe]; exact hS
  refine lv_aload_n hx hb dJ0_length_8abf5_0 rfl (lv_at hl 0 rfl) ?_
  refine vk_getf (o := RJ0) (n := "value") (d := "[B") (ref := "java/lang/String") (v := .ref (nb (4 + 2 * 0))) hx hb (hE.wh 0 rfl).2.2.1 hS hown (hts _ mw_175) (fun _ h9 => h9) dJ0_length_8abf5_1 ?_
  obtain ⟨fT, hT⟩ := (hE.wh 0 rfl).2.2.2
  refine va_tlen (v := 4) hx hb hT hS (by decide) dJ0_length_8abf5_4 ?_
  refine lv_aload_n hx hb dJ0_length_8abf5_5 rfl (lv_at hl 0 rfl) ?_
  have hPc := hP.sub (ws' := []) [] rfl
  have hDc := hD.sub (ws' := []) [] (by decide) rfl
  have hFc := va_free (wc := []) hD hS hA [] rfl
  refine va_calli (va_runV (As := []) (rest := [.int 4]) ⟨hx, hb, hml, hown, hts⟩ (c_coder_0 l dC dI cy nb  H.size) (cwV 0 hts (gV mw_176 mw_177 mw_178 mw_173 mw_179) rfl rfl rfl (by decide +kernel) ⟨Nat.le_of_ble_eq_true rfl, Nat.le_of_ble_eq_true rfl⟩) ⟨fun a U g mk q => by obtain ⟨q0, q1, qP, qK, qD, qE⟩ := q; exact ⟨q0, q1, qP, va_K.moved (u := U) (U := U.calling g mk a) (Vm.Alike.refl U.vm) qK, qD, GE.calling qE⟩, my_recvO (hE.wh 0 rfl).1 hS, fun U hU hW => ⟨rfl, by rw [hU], by rw [hU]; exact hPc, va_K.moved hW.alike hK, hDc.weaken (fun _ _ _ _ => trivial), GE.call hE hS hFc hU hW⟩⟩ rfl rfl hl.1 rfl (lv_room (Nat.le_of_ble_eq_true rfl)) dJ0_length_8abf5_6 ⟨Nat.le_of_ble_eq_true rfl, Nat.le_of_ble_eq_true rfl⟩) hS (fun q _ h => hFc q h) hFc (fun r u t H1 locs ht hvm hw1 hB hz1 hk1 hS => ?_)
  obtain ⟨hP1, hD1⟩ := hB
  rw [ht] at hP1
  obtain ⟨hP, hD⟩ := va_join (wr := []) (w1 := []) hP hD [] [] rfl rfl (by decide) (by decide) hk1 hFc hP1 hD1
  generalize H1 = H at hP hS ⊢
  have hP : va_P (dC, dI) vwCl [] H := hP
  have hD : va_D A [] := hD
  obtain rfl := hw1
  refine W.widen (k := 0) (n := 0) (by omega) (by omega) ?_
  refine lv_ishr hx hb dJ0_length_8abf5_9 ?_
  refine my_topi (y := 4) (by decide) ?_
  have hP9 := hP.sub (ws' := []) [] rfl
  have hD9 := hD.sub (ws' := []) [] (by decide) rfl
  refine W.widen (k := 0) (n := 0) (by omega) (by omega) ?_
  exact W.iret (v := 4) hx hb hr (fun t ht hW => ⟨⟨4, (), rfl, rfl, by rw [ht]; exact hP9, hD9⟩, hS.F ht⟩) hS.2.2 dJ0_length_8abf5_10
set_option maxHeartbeats 4000000 in
set_option maxRecDepth 100000 in
/-- length() of the constant 1 -/
theorem c_strlen_1 (l : Launch) (dC : Nat → ClassId) (dI : Nat → Nat → Nat) (cy : Nat → ClassId) (nb : Nat → Nat)  (sz : Nat) : Met l yJ0_length_8abf5 (wsg yJ0_length_8abf5 cJ0_length_8abf5 1 (some .int)) ({ frames := 8, cells := 0, slots := 0, locals := 300 }) (va_Pc [.ref (nb (3 + 2 * 1))] (fun U => U.heap.size = sz ∧ va_P (dC, dI) vwCl [] U.heap ∧ va_K (dC, dI) vwCl (tyL cy) U ∧ va_D (fun _ => True) [] ∧ GE nb (va_A [] sz) U)) (va_Qi (fun (r : Int32) (_ : Unit) => r = 6) (fun _ t => va_P (dC, dI) vwCl [] t.heap ∧ va_D (va_A [] sz) []) (va_A [] sz)) 0 0 (va_A [] sz) := by
  refine Met.ofW (cc := cJ0_length_8abf5) (maxL := 1) (ret := (some .int)) (by decide) rfl ?_
  intro p e s m args below meth c s₁ B hml hv
  obtain ⟨rfl, hsz, hP, hK, hD0, hE⟩ := hv
  have hx := B.exec
  have hb := B.bytes
  have hr := B.returns
  have hts0 := atoms_spec (ws := (wsg yJ0_length_8abf5 cJ0_length_8abf5 1 (some .int))) B.pre
  have hts : ∀ w ∈ wsL_law, w.before _ s = true := fun w h => hts0 w (List.mem_cons_of_mem _ h)
  have hown : s.vm.findClass RJ0 = some m.cls := findClass_of_methodNamed B.named
  have hlocks := B.notSynchronized
  subst hsz
  have hD := hD0.self (sz := s.heap.size)
  generalize hAe : va_A [] s.heap.size = A at hD hE ⊢
  have hA : ∀ q : Nat, s.heap.size ≤ q → A q := fun q h => by rw [← hAe]; exact Or.inr h
  have hS : va_S A s.heap s.heap [] := va_S.rf
  have hP : va_P (dC, dI) vwCl [] s.heap := hP
  have hl := lv_entry ([.ref (nb (3 + 2 * 1))]) (n := 1) (Nat.le_of_ble_eq_true rfl)
  rw [lg_entry_eq]
  generalize (lg_sl ([.ref (nb (3 + 2 * 1))]) ++ List.replicate (1 - (lg_sl ([.ref (nb (3 + 2 * 1))])).length) Slot.unset).toArray = ls at hl ⊢
  have hl : lv_has ls 1 [(0, .ref (nb (3 + 2 * 1)))] := hl
  generalize hHe : s.heap = H at hP hS ⊢
  have hS : va_S A s.heap H [] := by rw [hHe]; exact hS
  refine lv_aload_n hx hb dJ0_length_8abf5_0 rfl (lv_at hl 0 rfl) ?_
  refine vk_getf (o := RJ0) (n := "value") (d := "[B") (ref := "java/lang/String") (v := .ref (nb (4 + 2 * 1))) hx hb (hE.wh 1 rfl).2.2.1 hS hown (hts _ mw_175) (fun _ h9 => h9) dJ0_length_8abf5_1 ?_
  obtain ⟨fT, hT⟩ := (hE.wh 1 rfl).2.2.2
  refine va_tlen (v := 6) hx hb hT hS (by decide) dJ0_length_8abf5_4 ?_
  refine lv_aload_n hx hb dJ0_length_8abf5_5 rfl (lv_at hl 0 rfl) ?_
  have hPc := hP.sub (ws' := []) [] rfl
  have hDc := hD.sub (ws' := []) [] (by decide) rfl
  have hFc := va_free (wc := []) hD hS hA [] rfl
  refine va_calli (va_runV (As := []) (rest := [.int 6]) ⟨hx, hb, hml, hown, hts⟩ (c_coder_1 l dC dI cy nb  H.size) (cwV 0 hts (gV mw_176 mw_177 mw_178 mw_173 mw_179) rfl rfl rfl (by decide +kernel) ⟨Nat.le_of_ble_eq_true rfl, Nat.le_of_ble_eq_true rfl⟩) ⟨fun a U g mk q => by obtain ⟨q0, q1, qP, qK, qD, qE⟩ := q; exact ⟨q0, q1, qP, va_K.moved (u := U) (U := U.calling g mk a) (Vm.Alike.refl U.vm) qK, qD, GE.calling qE⟩, my_recvO (hE.wh 1 rfl).1 hS, fun U hU hW => ⟨rfl, by rw [hU], by rw [hU]; exact hPc, va_K.moved hW.alike hK, hDc.weaken (fun _ _ _ _ => trivial), GE.call hE hS hFc hU hW⟩⟩ rfl rfl hl.1 rfl (lv_room (Nat.le_of_ble_eq_true rfl)) dJ0_length_8abf5_6 ⟨Nat.le_of_ble_eq_true rfl, Nat.le_of_ble_eq_true rfl⟩) hS (fun q _ h => hFc q h) hFc (fun r u t H1 locs ht hvm hw1 hB hz1 hk1 hS => ?_)
  obtain ⟨hP1, hD1⟩ := hB
  rw [ht] at hP1
  obtain ⟨hP, hD⟩ := va_join (wr := []) (w1 := []) hP hD [] [] rfl rfl (by decide) (by decide) hk1 hFc hP1 hD1
  generalize H1 = H at hP hS ⊢
  have hP : va_P (dC, dI) vwCl [] H := hP
  have hD : va_D A [] := hD
  obtain rfl := hw1
  refine W.widen (k := 0) (n := 0) (by omega) (by omega) ?_
  refine lv_ishr hx hb dJ0_length_8abf5_9 ?_
  refine my_topi (y := 6) (by decide) ?_
  have hP9 := hP.sub (ws' := []) [] rfl
  have hD9 := hD.sub (ws' := []) [] (by decide) rfl
  refine W.widen (k := 0) (n := 0) (by omega) (by omega) ?_
  exact W.iret (v := 6) hx hb hr (fun t ht hW => ⟨⟨6, (), rfl, rfl, by rw [ht]; exact hP9, hD9⟩, hS.F ht⟩) hS.2.2 dJ0_length_8abf5_10
set_option maxHeartbeats 4000000 in
set_option maxRecDepth 100000 in
/-- length() of the constant 2 -/
theorem c_strlen_2 (l : Launch) (dC : Nat → ClassId) (dI : Nat → Nat → Nat) (cy : Nat → ClassId) (nb : Nat → Nat)  (sz : Nat) : Met l yJ0_length_8abf5 (wsg yJ0_length_8abf5 cJ0_length_8abf5 1 (some .int)) ({ frames := 8, cells := 0, slots := 0, locals := 300 }) (va_Pc [.ref (nb (3 + 2 * 2))] (fun U => U.heap.size = sz ∧ va_P (dC, dI) vwCl [] U.heap ∧ va_K (dC, dI) vwCl (tyL cy) U ∧ va_D (fun _ => True) [] ∧ GE nb (va_A [] sz) U)) (va_Qi (fun (r : Int32) (_ : Unit) => r = 5) (fun _ t => va_P (dC, dI) vwCl [] t.heap ∧ va_D (va_A [] sz) []) (va_A [] sz)) 0 0 (va_A [] sz) := by
  refine Met.ofW (cc := cJ0_length_8abf5) (maxL := 1) (ret := (some .int)) (by decide) rfl ?_
  intro p e s m args below meth c s₁ B hml hv
  obtain ⟨rfl, hsz, hP, hK, hD0, hE⟩ := hv
  have hx := B.exec
  have hb := B.bytes
  have hr := B.returns
  have hts0 := atoms_spec (ws := (wsg yJ0_length_8abf5 cJ0_length_8abf5 1 (some .int))) B.pre
  have hts : ∀ w ∈ wsL_law, w.before _ s = true := fun w h => hts0 w (List.mem_cons_of_mem _ h)
  have hown : s.vm.findClass RJ0 = some m.cls := findClass_of_methodNamed B.named
  have hlocks := B.notSynchronized
  subst hsz
  have hD := hD0.self (sz := s.heap.size)
  generalize hAe : va_A [] s.heap.size = A at hD hE ⊢
  have hA : ∀ q : Nat, s.heap.size ≤ q → A q := fun q h => by rw [← hAe]; exact Or.inr h
  have hS : va_S A s.heap s.heap [] := va_S.rf
  have hP : va_P (dC, dI) vwCl [] s.heap := hP
  have hl := lv_entry ([.ref (nb (3 + 2 * 2))]) (n := 1) (Nat.le_of_ble_eq_true rfl)
  rw [lg_entry_eq]
  generalize (lg_sl ([.ref (nb (3 + 2 * 2))]) ++ List.replicate (1 - (lg_sl ([.ref (nb (3 + 2 * 2))])).length) Slot.unset).toArray = ls at hl ⊢
  have hl : lv_has ls 1 [(0, .ref (nb (3 + 2 * 2)))] := hl
  generalize hHe : s.heap = H at hP hS ⊢
  have hS : va_S A s.heap H [] := by rw [hHe]; exact hS
  refine lv_aload_n hx hb dJ0_length_8abf5_0 rfl (lv_at hl 0 rfl) ?_
  refine vk_getf (o := RJ0) (n := "value") (d := "[B") (ref := "java/lang/String") (v := .ref (nb (4 + 2 * 2))) hx hb (hE.wh 2 rfl).2.2.1 hS hown (hts _ mw_175) (fun _ h9 => h9) dJ0_length_8abf5_1 ?_
  obtain ⟨fT, hT⟩ := (hE.wh 2 rfl).2.2.2
  refine va_tlen (v := 5) hx hb hT hS (by decide) dJ0_length_8abf5_4 ?_
  refine lv_aload_n hx hb dJ0_length_8abf5_5 rfl (lv_at hl 0 rfl) ?_
  have hPc := hP.sub (ws' := []) [] rfl
  have hDc := hD.sub (ws' := []) [] (by decide) rfl
  have hFc := va_free (wc := []) hD hS hA [] rfl
  refine va_calli (va_runV (As := []) (rest := [.int 5]) ⟨hx, hb, hml, hown, hts⟩ (c_coder_2 l dC dI cy nb  H.size) (cwV 0 hts (gV mw_176 mw_177 mw_178 mw_173 mw_179) rfl rfl rfl (by decide +kernel) ⟨Nat.le_of_ble_eq_true rfl, Nat.le_of_ble_eq_true rfl⟩) ⟨fun a U g mk q => by obtain ⟨q0, q1, qP, qK, qD, qE⟩ := q; exact ⟨q0, q1, qP, va_K.moved (u := U) (U := U.calling g mk a) (Vm.Alike.refl U.vm) qK, qD, GE.calling qE⟩, my_recvO (hE.wh 2 rfl).1 hS, fun U hU hW => ⟨rfl, by rw [hU], by rw [hU]; exact hPc, va_K.moved hW.alike hK, hDc.weaken (fun _ _ _ _ => trivial), GE.call hE hS hFc hU hW⟩⟩ rfl rfl hl.1 rfl (lv_room (Nat.le_of_ble_eq_true rfl)) dJ0_length_8abf5_6 ⟨Nat.le_of_ble_eq_true rfl, Nat.le_of_ble_eq_true rfl⟩) hS (fun q _ h => hFc q h) hFc (fun r u t H1 locs ht hvm hw1 hB hz1 hk1 hS => ?_)
  obtain ⟨hP1, hD1⟩ := hB
  rw [ht] at hP1
  obtain ⟨hP, hD⟩ := va_join (wr := []) (w1 := []) hP hD [] [] rfl rfl (by decide) (by decide) hk1 hFc hP1 hD1
  generalize H1 = H at hP hS ⊢
  have hP : va_P (dC, dI) vwCl [] H := hP
  have hD : va_D A [] := hD
  obtain rfl := hw1
  refine W.widen (k := 0) (n := 0) (by omega) (by omega) ?_
  refine lv_ishr hx hb dJ0_length_8abf5_9 ?_
  refine my_topi (y := 5) (by decide) ?_
  have hP9 := hP.sub (ws' := []) [] rfl
  have hD9 := hD.sub (ws' := []) [] (by decide) rfl
  refine W.widen (k := 0) (n := 0) (by omega) (by omega) ?_
  exact W.iret (v := 5) hx hb hr (fun t ht hW => ⟨⟨5, (), rfl, rfl, by rw [ht]; exact hP9, hD9⟩, hS.F ht⟩) hS.2.2 dJ0_length_8abf5_10
set_option maxHeartbeats 4000000 in
set_option maxRecDepth 100000 in
/-- length() of the constant 3 -/
theorem c_strlen_3 (l : Launch) (dC : Nat → ClassId) (dI : Nat → Nat → Nat) (cy : Nat → ClassId) (nb : Nat → Nat)  (sz : Nat) : Met l yJ0_length_8abf5 (wsg yJ0_length_8abf5 cJ0_length_8abf5 1 (some .int)) ({ frames := 8, cells := 0, slots := 0, locals := 300 }) (va_Pc [.ref (nb (3 + 2 * 3))] (fun U => U.heap.size = sz ∧ va_P (dC, dI) vwCl [] U.heap ∧ va_K (dC, dI) vwCl (tyL cy) U ∧ va_D (fun _ => True) [] ∧ GE nb (va_A [] sz) U)) (va_Qi (fun (r : Int32) (_ : Unit) => r = 5) (fun _ t => va_P (dC, dI) vwCl [] t.heap ∧ va_D (va_A [] sz) []) (va_A [] sz)) 0 0 (va_A [] sz) := by
  refine Met.ofW (cc := cJ0_length_8abf5) (maxL := 1) (ret := (some .int)) (by decide) rfl ?_
  intro p e s m args below meth c s₁ B hml hv
  obtain ⟨rfl, hsz, hP, hK, hD0, hE⟩ := hv
  have hx := B.exec
  have hb := B.bytes
  have hr := B.returns
  have hts0 := atoms_spec (ws := (wsg yJ0_length_8abf5 cJ0_length_8abf5 1 (some .int))) B.pre
  have hts : ∀ w ∈ wsL_law, w.before _ s = true := fun w h => hts0 w (List.mem_cons_of_mem _ h)
  have hown : s.vm.findClass RJ0 = some m.cls := findClass_of_methodNamed B.named
  have hlocks := B.notSynchronized
  subst hsz
  have hD := hD0.self (sz := s.heap.size)
  generalize hAe : va_A [] s.heap.size = A at hD hE ⊢
  have hA : ∀ q : Nat, s.heap.size ≤ q → A q := fun q h => by rw [← hAe]; exact Or.inr h
  have hS : va_S A s.heap s.heap [] := va_S.rf
  have hP : va_P (dC, dI) vwCl [] s.heap := hP
  have hl := lv_entry ([.ref (nb (3 + 2 * 3))]) (n := 1) (Nat.le_of_ble_eq_true rfl)
  rw [lg_entry_eq]
  generalize (lg_sl ([.ref (nb (3 + 2 * 3))]) ++ List.replicate (1 - (lg_sl ([.ref (nb (3 + 2 * 3))])).length) Slot.unset).toArray = ls at hl ⊢
  have hl : lv_has ls 1 [(0, .ref (nb (3 + 2 * 3)))] := hl
  generalize hHe : s.heap = H at hP hS ⊢
  have hS : va_S A s.heap H [] := by rw [hHe]; exact hS
  refine lv_aload_n hx hb dJ0_length_8abf5_0 rfl (lv_at hl 0 rfl) ?_
  refine vk_getf (o := RJ0) (n := "value") (d := "[B") (ref := "java/lang/String") (v := .ref (nb (4 + 2 * 3))) hx hb (hE.wh 3 rfl).2.2.1 hS hown (hts _ mw_175) (fun _ h9 => h9) dJ0_length_8abf5_1 ?_
  obtain ⟨fT, hT⟩ := (hE.wh 3 rfl).2.2.2
  refine va_tlen (v := 5) hx hb hT hS (by decide) dJ0_length_8abf5_4 ?_
  refine lv_aload_n hx hb dJ0_length_8abf5_5 rfl (lv_at hl 0 rfl) ?_
  have hPc := hP.sub (ws' := []) [] rfl
  have hDc := hD.sub (ws' := []) [] (by decide) rfl
  have hFc := va_free (wc := []) hD hS hA [] rfl
  refine va_calli (va_runV (As := []) (rest := [.int 5]) ⟨hx, hb, hml, hown, hts⟩ (c_coder_3 l dC dI cy nb  H.size) (cwV 0 hts (gV mw_176 mw_177 mw_178 mw_173 mw_179) rfl rfl rfl (by decide +kernel) ⟨Nat.le_of_ble_eq_true rfl, Nat.le_of_ble_eq_true rfl⟩) ⟨fun a U g mk q => by obtain ⟨q0, q1, qP, qK, qD, qE⟩ := q; exact ⟨q0, q1, qP, va_K.moved (u := U) (U := U.calling g mk a) (Vm.Alike.refl U.vm) qK, qD, GE.calling qE⟩, my_recvO (hE.wh 3 rfl).1 hS, fun U hU hW => ⟨rfl, by rw [hU], by rw [hU]; exact hPc, va_K.moved hW.alike hK, hDc.weaken (fun _ _ _ _ => trivial), GE.call hE hS hFc hU hW⟩⟩ rfl rfl hl.1 rfl (lv_room (Nat.le_of_ble_eq_true rfl)) dJ0_length_8abf5_6 ⟨Nat.le_of_ble_eq_true rfl, Nat.le_of_ble_eq_true rfl⟩) hS (fun q _ h => hFc q h) hFc (fun r u t H1 locs ht hvm hw1 hB hz1 hk1 hS => ?_)
  obtain ⟨hP1, hD1⟩ := hB
  rw [ht] at hP1
  obtain ⟨hP, hD⟩ := va_join (wr := []) (w1 := []) hP hD [] [] rfl rfl (by decide) (by decide) hk1 hFc hP1 hD1
  generalize H1 = H at hP hS ⊢
  have hP : va_P (dC, dI) vwCl [] H := hP
  have hD : va_D A [] := hD
  obtain rfl := hw1
  refine W.widen (k := 0) (n := 0) (by omega) (by omega) ?_
  refine lv_ishr hx hb dJ0_length_8abf5_9 ?_
  refine my_topi (y := 5) (by decide) ?_
  have hP9 := hP.sub (ws' := []) [] rfl
  have hD9 := hD.sub (ws' := []) [] (by decide) rfl
  refine W.widen (k := 0) (n := 0) (by omega) (by omega) ?_
  exact W.iret (v := 5) hx hb hr (fun t ht hW => ⟨⟨5, (), rfl, rfl, by rw [ht]; exact hP9, hD9⟩, hS.F ht⟩) hS.2.2 dJ0_length_8abf5_10
set_option maxHeartbeats 4000000 in
set_option maxRecDepth 100000 in
/-- length() of the constant 4 -/
theorem c_strlen_4 (l : Launch) (dC : Nat → ClassId) (dI : Nat → Nat → Nat) (cy : Nat → ClassId) (nb : Nat → Nat)  (sz : Nat) : Met l yJ0_length_8abf5 (wsg yJ0_length_8abf5 cJ0_length_8abf5 1 (some .int)) ({ frames := 8, cells := 0, slots := 0, locals := 300 }) (va_Pc [.ref (nb (3 + 2 * 4))] (fun U => U.heap.size = sz ∧ va_P (dC, dI) vwCl [] U.heap ∧ va_K (dC, dI) vwCl (tyL cy) U ∧ va_D (fun _ => True) [] ∧ GE nb (va_A [] sz) U)) (va_Qi (fun (r : Int32) (_ : Unit) => r = 4) (fun _ t => va_P (dC, dI) vwCl [] t.heap ∧ va_D (va_A [] sz) []) (va_A [] sz)) 0 0 (va_A [] sz) := by
  refine Met.ofW (cc := cJ0_length_8abf5) (maxL := 1) (ret := (some .int)) (by decide) rfl ?_
  intro p e s m args below meth c s₁ B hml hv
  obtain ⟨rfl, hsz, hP, hK, hD0, hE⟩ := hv
  have hx := B.exec
  have hb := B.bytes
  have hr := B.returns
  have hts0 := atoms_spec (ws := (wsg yJ0_length_8abf5 cJ0_length_8abf5 1 (some .int))) B.pre
  have hts : ∀ w ∈ wsL_law, w.before _ s = true := fun w h => hts0 w (List.mem_cons_of_mem _ h)
  have hown : s.vm.findClass RJ0 = some m.cls := findClass_of_methodNamed B.named
  have hlocks := B.notSynchronized
  subst hsz
  have hD := hD0.self (sz := s.heap.size)
  generalize hAe : va_A [] s.heap.size = A at hD hE ⊢
  have hA : ∀ q : Nat, s.heap.size ≤ q → A q := fun q h => by rw [← hAe]; exact Or.inr h
  have hS : va_S A s.heap s.heap [] := va_S.rf
  have hP : va_P (dC, dI) vwCl [] s.heap := hP
  have hl := lv_entry ([.ref (nb (3 + 2 * 4))]) (n := 1) (Nat.le_of_ble_eq_true rfl)
  rw [lg_entry_eq]
  generalize (lg_sl ([.ref (nb (3 + 2 * 4))]) ++ List.replicate (1 - (lg_sl ([.ref (nb (3 + 2 * 4))])).length) Slot.unset).toArray = ls at hl ⊢
  have hl : lv_has ls 1 [(0, .ref (nb (3 + 2 * 4)))] := hl
  generalize hHe : s.heap = H at hP hS ⊢
  have hS : va_S A s.heap H [] := by rw [hHe]; exact hS
  refine lv_aload_n hx hb dJ0_length_8abf5_0 rfl (lv_at hl 0 rfl) ?_
  refine vk_getf (o := RJ0) (n := "value") (d := "[B") (ref := "java/lang/String") (v := .ref (nb (4 + 2 * 4))) hx hb (hE.wh 4 rfl).2.2.1 hS hown (hts _ mw_175) (fun _ h9 => h9) dJ0_length_8abf5_1 ?_
  obtain ⟨fT, hT⟩ := (hE.wh 4 rfl).2.2.2
  refine va_tlen (v := 4) hx hb hT hS (by decide) dJ0_length_8abf5_4 ?_
  refine lv_aload_n hx hb dJ0_length_8abf5_5 rfl (lv_at hl 0 rfl) ?_
  have hPc := hP.sub (ws' := []) [] rfl
  have hDc := hD.sub (ws' := []) [] (by decide) rfl
  have hFc := va_free (wc := []) hD hS hA [] rfl
  refine va_calli (va_runV (As := []) (rest := [.int 4]) ⟨hx, hb, hml, hown, hts⟩ (c_coder_4 l dC dI cy nb  H.size) (cwV 0 hts (gV mw_176 mw_177 mw_178 mw_173 mw_179) rfl rfl rfl (by decide +kernel) ⟨Nat.le_of_ble_eq_true rfl, Nat.le_of_ble_eq_true rfl⟩) ⟨fun a U g mk q => by obtain ⟨q0, q1, qP, qK, qD, qE⟩ := q; exact ⟨q0, q1, qP, va_K.moved (u := U) (U := U.calling g mk a) (Vm.Alike.refl U.vm) qK, qD, GE.calling qE⟩, my_recvO (hE.wh 4 rfl).1 hS, fun U hU hW => ⟨rfl, by rw [hU], by rw [hU]; exact hPc, va_K.moved hW.alike hK, hDc.weaken (fun _ _ _ _ => trivial), GE.call hE hS hFc hU hW⟩⟩ rfl rfl hl.1 rfl (lv_room (Nat.le_of_ble_eq_true rfl)) dJ0_length_8abf5_6 ⟨Nat.le_of_ble_eq_true rfl, Nat.le_of_ble_eq_true rfl⟩) hS (fun q _ h => hFc q h) hFc (fun r u t H1 locs ht hvm hw1 hB hz1 hk1 hS => ?_)
  obtain ⟨hP1, hD1⟩ := hB
  rw [ht] at hP1
  obtain ⟨hP, hD⟩ := va_join (wr := []) (w1 := []) hP hD [] [] rfl rfl (by decide) (by decide) hk1 hFc hP1 hD1
  generalize H1 = H at hP hS ⊢
  have hP : va_P (dC, dI) vwCl [] H := hP
  have hD : va_D A [] := hD
  obtain rfl := hw1
  refine W.widen (k := 0) (n := 0) (by omega) (by omega) ?_
  refine lv_ishr hx hb dJ0_length_8abf5_9 ?_
  refine my_topi (y := 4) (by decide) ?_
  have hP9 := hP.sub (ws' := []) [] rfl
  have hD9 := hD.sub (ws' := []) [] (by decide) rfl
  refine W.widen (k := 0) (n := 0) (by omega) (by omega) ?_
  exact W.iret (v := 4) hx hb hr (fun t ht hW => ⟨⟨4, (), rfl, rfl, by rw [ht]; exact hP9, hD9⟩, hS.F ht⟩) hS.2.2 dJ0_length_8abf5_10
set_option maxHeartbeats 4000000 in
set_option maxRecDepth 100000 in
/-- length() of the constant 5 -/
theorem c_strlen_5 (l : Launch) (dC : Nat → ClassId) (dI : Nat → Nat → Nat) (cy : Nat → ClassId) (nb : Nat → Nat)  (sz : Nat) : Met l yJ0_length_8abf5 (wsg yJ0_length_8abf5 cJ0_length_8abf5 1 (some .int)) ({ frames := 8, cells := 0, slots := 0, locals := 300 }) (va_Pc [.ref (nb (3 + 2 * 5))] (fun U => U.heap.size = sz ∧ va_P (dC, dI) vwCl [] U.heap ∧ va_K (dC, dI) vwCl (tyL cy) U ∧ va_D (fun _ => True) [] ∧ GE nb (va_A [] sz) U)) (va_Qi (fun (r : Int32) (_ : Unit) => r = 3) (fun _ t => va_P (dC, dI) vwCl [] t.heap ∧ va_D (va_A [] sz) []) (va_A [] sz)) 0 0 (va_A [] sz) := by
  refine Met.ofW (cc := cJ0_length_8abf5) (maxL := 1) (ret := (some .int)) (by decide) rfl ?_
  intro p e s m args below meth c s₁ B hml hv
  obtain ⟨rfl, hsz, hP, hK, hD0, hE⟩ := hv
  have hx := B.exec
  have hb := B.bytes
  have hr := B.returns
  have hts0 := atoms_spec (ws := (wsg yJ0_length_8abf5 cJ0_length_8abf5 1 (some .int))) B.pre
  have hts : ∀ w ∈ wsL_law, w.before _ s = true := fun w h => hts0 w (List.mem_cons_of_mem _ h)
  have hown : s.vm.findClass RJ0 = some m.cls := findClass_of_methodNamed B.named
  have hlocks := B.notSynchronized
  subst hsz
  have hD := hD0.self (sz := s.heap.size)
  generalize hAe : va_A [] s.heap.size = A at hD hE ⊢
  have hA : ∀ q : Nat, s.heap.size ≤ q → A q := fun q h => by rw [← hAe]; exact Or.inr h
  have hS : va_S A s.heap s.heap [] := va_S.rf
  have hP : va_P (dC, dI) vwCl [] s.heap := hP
  have hl := lv_entry ([.ref (nb (3 + 2 * 5))]) (n := 1) (Nat.le_of_ble_eq_true rfl)
  rw [lg_entry_eq]
  generalize (lg_sl ([.ref (nb (3 + 2 * 5))]) ++ List.replicate (1 - (lg_sl ([.ref (nb (3 + 2 * 5))])).length) Slot.unset).toArray = ls at hl ⊢
  have hl : lv_has ls 1 [(0, .ref (nb (3 + 2 * 5)))] := hl
  generalize hHe : s.heap = H at hP hS ⊢
  have hS : va_S A s.heap H [] := by rw [hHe]; exact hS
  refine lv_aload_n hx hb dJ0_length_8abf5_0 rfl (lv_at hl 0 rfl) ?_
  refine vk_getf (o := RJ0) (n := "value") (d := "[B") (ref := "java/lang/String") (v := .ref (nb (4 + 2 * 5))) hx hb (hE.wh 5 rfl).2.2.1 hS hown (hts _ mw_175) (fun _ h9 => h9) dJ0_length_8abf5_1 ?_
  obtain ⟨fT, hT⟩ := (hE.wh 5 rfl).2.2.2
  refine va_tlen (v := 3) hx hb hT hS (by decide) dJ0_length_8abf5_4 ?_
  refine lv_aload_n hx hb dJ0_length_8abf5_5 rfl (lv_at hl 0 rfl) ?_
  have hPc := hP.sub (ws' := []) [] rfl
  have hDc := hD.sub (ws' := []) [] (by decide) rfl
  have hFc := va_free (wc := []) hD hS hA [] rfl
  refine va_calli (va_runV (As := []) (rest := [.int 3]) ⟨hx, hb, hml, hown, hts⟩ (c_coder_5 l dC dI cy nb  H.size) (cwV 0 hts (gV mw_176 mw_177 mw_178 mw_173 mw_179) rfl rfl rfl (by decide +kernel) ⟨Nat.le_of_ble_eq_true rfl, Nat.le_of_ble_eq_true rfl⟩) ⟨fun a U g mk q => by obtain ⟨q0, q1, qP, qK, qD, qE⟩ := q; exact ⟨q0, q1, qP, va_K.moved (u := U) (U := U.calling g mk a) (Vm.Alike.refl U.vm) qK, qD, GE.calling qE⟩, my_recvO (hE.wh 5 rfl).1 hS, fun U hU hW => ⟨rfl, by rw [hU], by rw [hU]; exact hPc, va_K.moved hW.alike hK, hDc.weaken (fun _ _ _ _ => trivial), GE.call hE hS hFc hU hW⟩⟩ rfl rfl hl.1 rfl (lv_room (Nat.le_of_ble_eq_true rfl)) dJ0_length_8abf5_6 ⟨Nat.le_of_ble_eq_true rfl, Nat.le_of_ble_eq_true rfl⟩) hS (fun q _ h => hFc q h) hFc (fun r u t H1 locs ht hvm hw1 hB hz1 hk1 hS => ?_)
  obtain ⟨hP1, hD1⟩ := hB
  rw [ht] at hP1
  obtain ⟨hP, hD⟩ := va_join (wr := []) (w1 := []) hP hD [] [] rfl rfl (by decide) (by decide) hk1 hFc hP1 hD1
  generalize H1 = H at hP hS ⊢
  have hP : va_P (dC, dI) vwCl [] H := hP
  have hD : va_D A [] := hD
  obtain rfl := hw1
  refine W.widen (k := 0) (n := 0) (by omega) (by omega) ?_
  refine lv_ishr hx hb dJ0_length_8abf5_9 ?_
  refine my_topi (y := 3) (by decide) ?_
  have hP9 := hP.sub (ws' := []) [] rfl
  have hD9 := hD.sub (ws' := []) [] (by decide) rfl
  refine W.widen (k := 0) (n := 0) (by omega) (by omega) ?_
  exact W.iret (v := 3) hx hb hr (fun t ht hW => ⟨⟨3, (), rfl, rfl, by rw [ht]; exact hP9, hD9⟩, hS.F ht⟩) hS.2.2 dJ0_length_8abf5_10
set_option maxHeartbeats 4000000 in
set_option maxRecDepth 100000 in
/-- length() of the constant 6 -/
theorem c_strlen_6 (l : Launch) (dC : Nat → ClassId) (dI : Nat → Nat → Nat) (cy : Nat → ClassId) (nb : Nat → Nat)  (sz : Nat) : Met l yJ0_length_8abf5 (wsg yJ0_length_8abf5 cJ0_length_8abf5 1 (some .int)) ({ frames := 8, cells := 0, slots := 0, locals := 300 }) (va_Pc [.ref (nb (3 + 2 * 6))] (fun U => U.heap.size = sz ∧ va_P (dC, dI) vwCl [] U.heap ∧ va_K (dC, dI) vwCl (tyL cy) U ∧ va_D (fun _ => True) [] ∧ GE nb (va_A [] sz) U)) (va_Qi (fun (r : Int32) (_ : Unit) => r = 4) (fun _ t => va_P (dC, dI) vwCl [] t.heap ∧ va_D (va_A [] sz) []) (va_A [] sz)) 0 0 (va_A [] sz) := by
  refine Met.ofW (cc := cJ0_length_8abf5) (maxL := 1) (ret := (some .int)) (by decide) rfl ?_
  intro p e s m args below meth c s₁ B hml hv
  obtain ⟨rfl, hsz, hP, hK, hD0, hE⟩ := hv
  have hx := B.exec
  have hb := B.bytes
  have hr := B.returns
  have hts0 := atoms_spec (ws := (wsg yJ0_length_8abf5 cJ0_length_8abf5 1 (some .int))) B.pre
  have hts : ∀ w ∈ wsL_law, w.before _ s = true := fun w h => hts0 w (List.mem_cons_of_mem _ h)
  have hown : s.vm.findClass RJ0 = some m.cls := findClass_of_methodNamed B.named
  have hlocks := B.notSynchronized
  subst hsz
  have hD := hD0.self (sz := s.heap.size)
  generalize hAe : va_A [] s.heap.size = A at hD hE ⊢
  have hA : ∀ q : Nat, s.heap.size ≤ q → A q := fun q h => by rw [← hAe]; exact Or.inr h
  have hS : va_S A s.heap s.heap [] := va_S.rf
  have hP : va_P (dC, dI) vwCl [] s.heap := hP
  have hl := lv_entry ([.ref (nb (3 + 2 * 6))]) (n := 1) (Nat.le_of_ble_eq_true rfl)
  rw [lg_entry_eq]
  generalize (lg_sl ([.ref (nb (3 + 2 * 6))]) ++ List.replicate (1 - (lg_sl ([.ref (nb (3 + 2 * 6))])).length) Slot.unset).toArray = ls at hl ⊢
  have hl : lv_has ls 1 [(0, .ref (nb (3 + 2 * 6)))] := hl
  generalize hHe : s.heap = H at hP hS ⊢
  have hS : va_S A s.heap H [] := by rw [hHe]; exact hS
  refine lv_aload_n hx hb dJ0_length_8abf5_0 rfl (lv_at hl 0 rfl) ?_
  refine vk_getf (o := RJ0) (n := "value") (d := "[B") (ref := "java/lang/String") (v := .ref (nb (4 + 2 * 6))) hx hb (hE.wh 6 rfl).2.2.1 hS hown (hts _ mw_175) (fun _ h9 => h9) dJ0_length_8abf5_1 ?_
  obtain ⟨fT, hT⟩ := (hE.wh 6 rfl).2.2.2
  refine va_tlen (v := 4) hx hb hT hS (by decide) dJ0_length_8abf5_4 ?_
  refine lv_aload_n hx hb dJ0_length_8abf5_5 rfl (lv_at hl 0 rfl) ?_
  have hPc := hP.sub (ws' := []) [] rfl
  have hDc := hD.sub (ws' := []) [] (by decide) rfl
  have hFc := va_free (wc := []) hD hS hA [] rfl
  refine va_calli (va_runV (As := []) (rest := [.int 4]) ⟨hx, hb, hml, hown, hts⟩ (c_coder_6 l dC dI cy nb  H.size) (cwV 0 hts (gV mw_176 mw_177 mw_178 mw_173 mw_179) rfl rfl rfl (by decide +kernel) ⟨Nat.le_of_ble_eq_true rfl, Nat.le_of_ble_eq_true rfl⟩) ⟨fun a U g mk q => by obtain ⟨q0, q1, qP, qK, qD, qE⟩ := q; exact ⟨q0, q1, qP, va_K.moved (u := U) (U := U.calling g mk a) (Vm.Alike.refl U.vm) qK, qD, GE.calling qE⟩, my_recvO (hE.wh 6 rfl).1 hS, fun U hU hW => ⟨rfl, by rw [hU], by rw [hU]; exact hPc, va_K.moved hW.alike hK, hDc.weaken (fun _ _ _ _ => trivial), GE.call hE hS hFc hU hW⟩⟩ rfl rfl hl.1 rfl (lv_room (Nat.le_of_ble_eq_true rfl)) dJ0_length_8abf5_6 ⟨Nat.le_of_ble_eq_true rfl, Nat.le_of_ble_eq_true rfl⟩) hS (fun q _ h => hFc q h) hFc (fun r u t H1 locs ht hvm hw1 hB hz1 hk1 hS => ?_)
  obtain ⟨hP1, hD1⟩ := hB
  rw [ht] at hP1
  obtain ⟨hP, hD⟩ := va_join (wr := []) (w1 := []) hP hD [] [] rfl rfl (by decide) (by decide) hk1 hFc hP1 hD1
  generalize H1 = H at hP hS ⊢
  have hP : va_P (dC, dI) vwCl [] H := hP
  have hD : va_D A [] := hD
  obtain rfl := hw1
  refine W.widen (k := 0) (n := 0) (by omega) (by omega) ?_
  refine lv_ishr hx hb dJ0_length_8abf5_9 ?_
  refine my_topi (y := 4) (by decide) ?_
  have hP9 := hP.sub (ws' := []) [] rfl
  have hD9 := hD.sub (ws' := []) [] (by decide) rfl
  refine W.widen (k := 0) (n := 0) (by omega) (by omega) ?_
  exact W.iret (v := 4) hx hb hr (fun t ht hW => ⟨⟨4, (), rfl, rfl, by rw [ht]; exact hP9, hD9⟩, hS.F ht⟩) hS.2.2 dJ0_length_8abf5_10
set_option maxHeartbeats 4000000 in
set_option maxRecDepth 100000 in
/-- length() of the constant 7 -/
theorem c_strlen_7 (l : Launch) (dC : Nat → ClassId) (dI : Nat → Nat → Nat) (cy : Nat → ClassId) (nb : Nat → Nat)  (sz : Nat) : Met l yJ0_length_8abf5 (wsg yJ0_length_8abf5 cJ0_length_8abf5 1 (some .int)) ({ frames := 8, cells := 0, slots := 0, locals := 300 }) (va_Pc [.ref (nb (3 + 2 * 7))] (fun U => U.heap.size = sz ∧ va_P (dC, dI) vwCl [] U.heap ∧ va_K (dC, dI) vwCl (tyL cy) U ∧ va_D (fun _ => True) [] ∧ GE nb (va_A [] sz) U)) (va_Qi (fun (r : Int32) (_ : Unit) => r = 4) (fun _ t => va_P (dC, dI) vwCl [] t.heap ∧ va_D (va_A [] sz) []) (va_A [] sz)) 0 0 (va_A [] sz) := by
  refine Met.ofW (cc := cJ0_length_8abf5) (maxL := 1) (ret := (some .int)) (by decide) rfl ?_
  intro p e s m args below meth c s₁ B hml hv
  obtain ⟨rfl, hsz, hP, hK, hD0, hE⟩ := hv
  have hx := B.exec
  have hb := B.bytes
  have hr := B.returns
  have hts0 := atoms_spec (ws := (wsg yJ0_length_8abf5 cJ0_length_8abf5 1 (some .int))) B.pre
  have hts : ∀ w ∈ wsL_law, w.before _ s = true := fun w h => hts0 w (List.mem_cons_of_mem _ h)
  have hown : s.vm.findClass RJ0 = some m.cls := findClass_of_methodNamed B.named
  have hlocks := B.notSynchronized
  subst hsz
  have hD := hD0.self (sz := s.heap.size)
  generalize hAe : va_A [] s.heap.size = A at hD hE ⊢
  have hA : ∀ q : Nat, s.heap.size ≤ q → A q := fun q h => by rw [← hAe]; exact Or.inr h
  have hS : va_S A s.heap s.heap [] := va_S.rf
  have hP : va_P (dC, dI) vwCl [] s.heap := hP
  have hl := lv_entry ([.ref (nb (3 + 2 * 7))]) (n := 1) (Nat.le_of_ble_eq_true rfl)
  rw [lg_entry_eq]
  generalize (lg_sl ([.ref (nb (3 + 2 * 7))]) ++ List.replicate (1 - (lg_sl ([.ref (nb (3 + 2 * 7))])).length) Slot.unset).toArray = ls at hl ⊢
  have hl : lv_has ls 1 [(0, .ref (nb (3 + 2 * 7)))] := hl
  generalize hHe : s.heap = H at hP hS ⊢
  have hS : va_S A s.heap H [] := by rw [hHe]; exact hS
  refine lv_aload_n hx hb dJ0_length_8abf5_0 rfl (lv_at hl 0 rfl) ?_
  refine vk_getf (o := RJ0) (n := "value") (d := "[B") (ref := "java/lang/String") (v := .ref (nb (4 + 2 * 7))) hx hb (hE.wh 7 rfl).2.2.1 hS hown (hts _ mw_175) (fun _ h9 => h9) dJ0_length_8abf5_1 ?_
  obtain ⟨fT, hT⟩ := (hE.wh 7 rfl).2.2.2
  refine va_tlen (v := 4) hx hb hT hS (by decide) dJ0_length_8abf5_4 ?_
  refine lv_aload_n hx hb dJ0_length_8abf5_5 rfl (lv_at hl 0 rfl) ?_
  have hPc := hP.sub (ws' := []) [] rfl
  have hDc := hD.sub (ws' := []) [] (by decide) rfl
  have hFc := va_free (wc := []) hD hS hA [] rfl
  refine va_calli (va_runV (As := []) (rest := [.int 4]) ⟨hx, hb, hml, hown, hts⟩ (c_coder_7 l dC dI cy nb  H.size) (cwV 0 hts (gV mw_176 mw_177 mw_178 mw_173 mw_179) rfl rfl rfl (by decide +kernel) ⟨Nat.le_of_ble_eq_true rfl, Nat.le_of_ble_eq_true rfl⟩) ⟨fun a U g mk q => by obtain ⟨q0, q1, qP, qK, qD, qE⟩ := q; exact ⟨q0, q1, qP, va_K.moved (u := U) (U := U.calling g mk a) (Vm.Alike.refl U.vm) qK, qD, GE.calling qE⟩, my_recvO (hE.wh 7 rfl).1 hS, fun U hU hW => ⟨rfl, by rw [hU], by rw [hU]; exact hPc, va_K.moved hW.alike hK, hDc.weaken (fun _ _ _ _ => trivial), GE.call hE hS hFc hU hW⟩⟩ rfl rfl hl.1 rfl (lv_room (Nat.le_of_ble_eq_true rfl)) dJ0_length_8abf5_6 ⟨Nat.le_of_ble_eq_true rfl, Nat.le_of_ble_eq_true rfl⟩) hS (fun q _ h => hFc q h) hFc (fun r u t H1 locs ht hvm hw1 hB hz1 hk1 hS => ?_)
  obtain ⟨hP1, hD1⟩ := hB
  rw [ht] at hP1
  obtain ⟨hP, hD⟩ := va_join (wr := []) (w1 := []) hP hD [] [] rfl rfl (by decide) (by decide) hk1 hFc hP1 hD1
  generalize H1 = H at hP hS ⊢
  have hP : va_P (dC, dI) vwCl [] H := hP
  have hD : va_D A [] := hD
  obtain rfl := hw1
  refine W.widen (k := 0) (n := 0) (by omega) (by omega) ?_
  refine lv_ishr hx hb dJ0_length_8abf5_9 ?_
  refine my_topi (y := 4) (by decide) ?_
  have hP9 := hP.sub (ws' := []) [] rfl
  have hD9 := hD.sub (ws' := []) [] (by decide) rfl
  refine W.widen (k := 0) (n := 0) (by omega) (by omega) ?_
  exact W.iret (v := 4) hx hb hr (fun t ht hW => ⟨⟨4, (), rfl, rfl, by rw [ht]; exact hP9, hD9⟩, hS.F ht⟩) hS.2.2 dJ0_length_8abf5_10
set_option maxHeartbeats 4000000 in
set_option maxRecDepth 100000 in
/-- length() of the constant 8 -/
theorem c_strlen_8 (l : Launch) (dC : Nat → ClassId) (dI : Nat → Nat → Nat) (cy : Nat → ClassId) (nb : Nat → Nat)  (sz : Nat) : Met l yJ0_length_8abf5 (wsg yJ0_length_8abf5 cJ0_length_8abf5 1 (some .int)) ({ frames := 8, cells := 0, slots := 0, locals := 300 }) (va_Pc [.ref (nb (3 + 2 * 8))] (fun U => U.heap.size = sz ∧ va_P (dC, dI) vwCl [] U.heap ∧ va_K (dC, dI) vwCl (tyL cy) U ∧ va_D (fun _ => True) [] ∧ GE nb (va_A [] sz) U)) (va_Qi (fun (r : Int32) (_ : Unit) => r = 4) (fun _ t => va_P (dC, dI) vwCl [] t.heap ∧ va_D (va_A [] sz) []) (va_A [] sz)) 0 0 (va_A [] sz) := by
  refine Met.ofW (cc := cJ0_length_8abf5) (maxL := 1) (ret := (some .int)) (by decide) rfl ?_
  intro p e s m args below meth c s₁ B hml hv
  obtain ⟨rfl, hsz, hP, hK, hD0, hE⟩ := hv
  have hx := B.exec
  have hb := B.bytes
  have hr := B.returns
  have hts0 := atoms_spec (ws := (wsg yJ0_length_8abf5 cJ0_length_8abf5 1 (some .int))) B.pre
  have hts : ∀ w ∈ wsL_law, w.before _ s = true := fun w h => hts0 w (List.mem_cons_of_mem _ h)
  have hown : s.vm.findClass RJ0 = some m.cls := findClass_of_methodNamed B.named
  have hlocks := B.notSynchronized
  subst hsz
  have hD := hD0.self (sz := s.heap.size)
  generalize hAe : va_A [] s.heap.size = A at hD hE ⊢
  have hA : ∀ q : Nat, s.heap.size ≤ q → A q := fun q h => by rw [← hAe]; exact Or.inr h
  have hS : va_S A s.heap s.heap [] := va_S.rf
  have hP : va_P (dC, dI) vwCl [] s.heap := hP
  have hl := lv_entry ([.ref (nb (3 + 2 * 8))]) (n := 1) (Nat.le_of_ble_eq_true rfl)
  rw [lg_entry_eq]
  generalize (lg_sl ([.ref (nb (3 + 2 * 8))]) ++ List.replicate (1 - (lg_sl ([.ref (nb (3 + 2 * 8))])).length) Slot.unset).toArray = ls at hl ⊢
  have hl : lv_has ls 1 [(0, .ref (nb (3 + 2 * 8)))] := hl
  generalize hHe : s.heap = H at hP hS ⊢
  have hS : va_S A s.heap H [] := by rw [hHe]; exact hS
  refine lv_aload_n hx hb dJ0_length_8abf5_0 rfl (lv_at hl 0 rfl) ?_
  refine vk_getf (o := RJ0) (n := "value") (d := "[B") (ref := "java/lang/String") (v := .ref (nb (4 + 2 * 8))) hx hb (hE.wh 8 rfl).2.2.1 hS hown (hts _ mw_175) (fun _ h9 => h9) dJ0_length_8abf5_1 ?_
  obtain ⟨fT, hT⟩ := (hE.wh 8 rfl).2.2.2
  refine va_tlen (v := 4) hx hb hT hS (by decide) dJ0_length_8abf5_4 ?_
  refine lv_aload_n hx hb dJ0_length_8abf5_5 rfl (lv_at hl 0 rfl) ?_
  have hPc := hP.sub (ws' := []) [] rfl
  have hDc := hD.sub (ws' := []) [] (by decide) rfl
  have hFc := va_free (wc := []) hD hS hA [] rfl
  refine va_calli (va_runV (As := []) (rest := [.int 4]) ⟨hx, hb, hml, hown, hts⟩ (c_coder_8 l dC dI cy nb  H.size) (cwV 0 hts (gV mw_176 mw_177 mw_178 mw_173 mw_179) rfl rfl rfl (by decide +kernel) ⟨Nat.le_of_ble_eq_true rfl, Nat.le_of_ble_eq_true rfl⟩) ⟨fun a U g mk q => by obtain ⟨q0, q1, qP, qK, qD, qE⟩ := q; exact ⟨q0, q1, qP, va_K.moved (u := U) (U := U.calling g mk a) (Vm.Alike.refl U.vm) qK, qD, GE.calling qE⟩, my_recvO (hE.wh 8 rfl).1 hS, fun U hU hW => ⟨rfl, by rw [hU], by rw [hU]; exact hPc, va_K.moved hW.alike hK, hDc.weaken (fun _ _ _ _ => trivial), GE.call hE hS hFc hU hW⟩⟩ rfl rfl hl.1 rfl (lv_room (Nat.le_of_ble_eq_true rfl)) dJ0_length_8abf5_6 ⟨Nat.le_of_ble_eq_true rfl, Nat.le_of_ble_eq_true rfl⟩) hS (fun q _ h => hFc q h) hFc (fun r u t H1 locs ht hvm hw1 hB hz1 hk1 hS => ?_)
  obtain ⟨hP1, hD1⟩ := hB
  rw [ht] at hP1
  obtain ⟨hP, hD⟩ := va_join (wr := []) (w1 := []) hP hD [] [] rfl rfl (by decide) (by decide) hk1 hFc hP1 hD1
  generalize H1 = H at hP hS ⊢
  have hP : va_P (dC, dI) vwCl [] H := hP
  have hD : va_D A [] := hD
  obtain rfl := hw1
  refine W.widen (k := 0) (n := 0) (by omega) (by omega) ?_
  refine lv_ishr hx hb dJ0_length_8abf5_9 ?_
  refine my_topi (y := 4) (by decide) ?_
  have hP9 := hP.sub (ws' := []) [] rfl
  have hD9 := hD.sub (ws' := []) [] (by decide) rfl
  refine W.widen (k := 0) (n := 0) (by omega) (by omega) ?_
  exact W.iret (v := 4) hx hb hr (fun t ht hW => ⟨⟨4, (), rfl, rfl, by rw [ht]; exact hP9, hD9⟩, hS.F ht⟩) hS.2.2 dJ0_length_8abf5_10
set_option maxHeartbeats 4000000 in
set_option maxRecDepth 100000 in
/-- X5_start -/
theorem c_X5_start (l : Launch) (dC : Nat → ClassId) (dI : Nat → Nat → Nat) (cy : Nat → ClassId) (nb : Nat → Nat) (h0 : Nat) (w1 : Nat) (w2 : Nat) (w3 : Nat) (w4 : Nat) (sz : Nat) : Met l yX5_start (wsg yX5_start cX5_start 1 none) ({ frames := 9, cells := 0, slots := 0, locals := 400 }) (va_Pc [.ref h0] (fun U => U.heap.size = sz ∧ va_P (dC, dI) vwCl [(h0, .inr (5, [.ref w1, .int 0, .int 0, .int 0, .int 0, .int 0, .ref w2, .ref w3, .ref w4, .int 0, .int 0]))] U.heap ∧ va_K (dC, dI) vwCl (tyL cy) U ∧ va_D (fun _ => True) [(h0, .inr (5, [.ref w1, .int 0, .int 0, .int 0, .int 0, .int 0, .ref w2, .ref w3, .ref w4, .int 0, .int 0]))] ∧ GE nb (va_A [(h0, .inr (5, [.ref w1, .int 0, .int 0, .int 0, .int 0, .int 0, .ref w2, .ref w3, .ref w4, .int 0, .int 0]))] sz) U)) (va_Qv (fun (_ : Unit) => True) (fun _ t => va_P (dC, dI) vwCl [(h0, .inr (5, [.ref w1, .int 0, .int 0, .int 0, .int 0, .int 0, .ref w2, .ref w3, .ref w4, .int 0, .int 0]))] t.heap ∧ va_D (va_A [(h0, .inr (5, [.ref w1, .int 0, .int 0, .int 0, .int 0, .int 0, .ref w2, .ref w3, .ref w4, .int 0, .int 0]))] sz) [(h0, .inr (5, [.ref w1, .int 0, .int 0, .int 0, .int 0, .int 0, .ref w2, .ref w3, .ref w4, .int 0, .int 0]))]) (va_A [(h0, .inr (5, [.ref w1, .int 0, .int 0, .int 0, .int 0, .int 0, .ref w2, .ref w3, .ref w4, .int 0, .int 0]))] sz)) 0 0 (va_A [(h0, .inr (5, [.ref w1, .int 0, .int 0, .int 0, .int 0, .int 0, .ref w2, .ref w3, .ref w4, .int 0, .int 0]))] sz) := by
  refine Met.ofW (cc := cX5_start) (maxL := 1) (ret := none) (by decide) rfl ?_
  intro p e s m args below meth c s₁ B hml hv
  obtain ⟨rfl, hsz, hP, hK, hD0, hE⟩ := hv
  have hx := B.exec
  have hb := B.bytes
  have hr := B.returns
  have hts0 := atoms_spec (ws := (wsg yX5_start cX5_start 1 none)) B.pre
  have hts : ∀ w ∈ wsL_law, w.before _ s = true := fun w h => hts0 w (List.mem_cons_of_mem _ h)
  have hown : s.vm.findClass RX5 = some m.cls := findClass_of_methodNamed B.named
  have hlocks := B.notSynchronized
  subst hsz
  have hD := hD0.self (sz := s.heap.size)
  generalize hAe : va_A [(h0, .inr (5, [.ref w1, .int 0, .int 0, .int 0, .int 0, .int 0, .ref w2, .ref w3, .ref w4, .int 0, .int 0]))] s.heap.size = A at hD hE ⊢
  have hA : ∀ q : Nat, s.heap.size ≤ q → A q := fun q h => by rw [← hAe]; exact Or.inr h
  have hS : va_S A s.heap s.heap [] := va_S.rf
  have hP : va_P (dC, dI) vwCl [(h0, .inr (5, [.ref w1, .int 0, .int 0, .int 0, .int 0, .int 0, .ref w2, .ref w3, .ref w4, .int 0, .int 0]))] s.heap := hP
  have hl := lv_entry ([.ref h0]) (n := 1) (Nat.le_of_ble_eq_true rfl)
  rw [lg_entry_eq]
  generalize (lg_sl ([.ref h0]) ++ List.replicate (1 - (lg_sl ([.ref h0])).length) Slot.unset).toArray = ls at hl ⊢
  have hl : lv_has ls 1 [(0, .ref h0)] := hl
  generalize hHe : s.heap = H at hP hS ⊢
  have hS : va_S A s.heap H [] := by rw [hHe]; exact hS
  refine lv_aload_n hx hb dX5_start_0 rfl (lv_at hl 0 rfl) ?_
  refine lv_iconst (v := 0) hx hb dX5_start_1 (by decide) ?_
  refine va_put (D := (dC, dI)) (ci := 5) (v := .int 0) (ty := .int) (C := RX5) (T := TX5) (N := 11) hx hb hts inlX5 tyX5 tyX5_ok nmX5 hown hK hP hD hS 0 rfl rfl 2 (by decide) (hts _ mw_148) (fun _ h9 => h9) rfl (by decide +kernel) rfl rfl (Nat.le_of_ble_eq_true rfl) dX5_start_2 (fun H locs hP hD hS => ?_)
  have hP : va_P (dC, dI) vwCl [(h0, .inr (5, [.ref w1, .int 0, .int 0, .int 0, .int 0, .int 0, .ref w2, .ref w3, .ref w4, .int 0, .int 0]))] H := hP
  have hD : va_D A [(h0, .inr (5, [.ref w1, .int 0, .int 0, .int 0, .int 0, .int 0, .ref w2, .ref w3, .ref w4, .int 0, .int 0]))] := hD
  refine lv_aload_n hx hb dX5_start_5 rfl (lv_at hl 0 rfl) ?_
  refine lv_iconst (v := 0) hx hb dX5_start_6 (by decide) ?_
  refine va_put (D := (dC, dI)) (ci := 5) (v := .int 0) (ty := .int) (C := RX5) (T := TX5) (N := 11) hx hb hts inlX5 tyX5 tyX5_ok nmX5 hown hK hP hD hS 0 rfl rfl 3 (by decide) (hts _ mw_149) (fun _ h9 => h9) rfl (by decide +kernel) rfl rfl (Nat.le_of_ble_eq_true rfl) dX5_start_7 (fun H locs hP hD hS => ?_)
  have hP : va_P (dC, dI) vwCl [(h0, .inr (5, [.ref w1, .int 0, .int 0, .int 0, .int 0, .int 0, .ref w2, .ref w3, .ref w4, .int 0, .int 0]))] H := hP
  have hD : va_D A [(h0, .inr (5, [.ref w1, .int 0, .int 0, .int 0, .int 0, .int 0, .ref w2, .ref w3, .ref w4, .int 0, .int 0]))] := hD
  refine lv_aload_n hx hb dX5_start_10 rfl (lv_at hl 0 rfl) ?_
  refine lv_iconst (v := 0) hx hb dX5_start_11 (by decide) ?_
  refine va_put (D := (dC, dI)) (ci := 5) (v := .int 0) (ty := .int) (C := RX5) (T := TX5) (N := 11) hx hb hts inlX5 tyX5 tyX5_ok nmX5 hown hK hP hD hS 0 rfl rfl 4 (by decide) (hts _ mw_150) (fun _ h9 => h9) rfl (by decide +kernel) rfl rfl (Nat.le_of_ble_eq_true rfl) dX5_start_12 (fun H locs hP hD hS => ?_)
  have hP : va_P (dC, dI) vwCl [(h0, .inr (5, [.ref w1, .int 0, .int 0, .int 0, .int 0, .int 0, .ref w2, .ref w3, .ref w4, .int 0, .int 0]))] H := hP
  have hD : va_D A [(h0, .inr (5, [.ref w1, .int 0, .int 0, .int 0, .int 0, .int 0, .ref w2, .ref w3, .ref w4, .int 0, .int 0]))] := hD
  refine lv_aload_n hx hb dX5_start_15 rfl (lv_at hl 0 rfl) ?_
  refine lv_iconst (v := 0) hx hb dX5_start_16 (by decide) ?_
  refine va_put (D := (dC, dI)) (ci := 5) (v := .int 0) (ty := .int) (C := RX5) (T := TX5) (N := 11) hx hb hts inlX5 tyX5 tyX5_ok nmX5 hown hK hP hD hS 0 rfl rfl 5 (by decide) (hts _ mw_143) (fun _ h9 => h9) rfl (by decide +kernel) rfl rfl (Nat.le_of_ble_eq_true rfl) dX5_start_17 (fun H locs hP hD hS => ?_)
  have hP : va_P (dC, dI) vwCl [(h0, .inr (5, [.ref w1, .int 0, .int 0, .int 0, .int 0, .int 0, .ref w2, .ref w3, .ref w4, .int 0, .int 0]))] H := hP
  have hD : va_D A [(h0, .inr (5, [.ref w1, .int 0, .int 0, .int 0, .int 0, .int 0, .ref w2, .ref w3, .ref w4, .int 0, .int 0]))] := hD
  have hP9 := hP.sub (ws' := [(h0, .inr (5, [.ref w1, .int 0, .int 0, .int 0, .int 0, .int 0, .ref w2, .ref w3, .ref w4, .int 0, .int 0]))]) [0] rfl
  have hD9 := hD.sub (ws' := [(h0, .inr (5, [.ref w1, .int 0, .int 0, .int 0, .int 0, .int 0, .ref w2, .ref w3, .ref w4, .int 0, .int 0]))]) [0] (by decide) rfl
  refine W.widen (k := 0) (n := 0) (by omega) (by omega) ?_
  exact W.vret hx hb hr (fun t ht hW => ⟨⟨(), rfl, trivial, by rw [ht]; exact hP9, hD9⟩, hS.F ht⟩) hS.2.2 dX5_start_20
set_option maxHeartbeats 4000000 in
set_option maxRecDepth 100000 in
/-- X5_skipSpaces -/
theorem c_X5_skipSpaces (l : Launch) (dC : Nat → ClassId) (dI : Nat → Nat → Nat) (cy : Nat → ClassId) (nb : Nat → Nat) (h0 : Nat) (w1 : Nat) (w2 : Nat) (w3 : Nat) (w4 : Nat) (sz : Nat) : Met l yX5_skipSpaces (wsg yX5_skipSpaces cX5_skipSpaces 1 (some .int)) ({ frames := 9, cells := 0, slots := 0, locals := 400 }) (va_Pc [.ref h0] (fun U => U.heap.size = sz ∧ va_P (dC, dI) vwCl [(h0, .inr (5, [.ref w1, .int 0, .int 0, .int 0, .int 0, .int 0, .ref w2, .ref w3, .ref w4, .int 0, .int 0]))] U.heap ∧ va_K (dC, dI) vwCl (tyL cy) U ∧ va_D (fun _ => True) [(h0, .inr (5, [.ref w1, .int 0, .int 0, .int 0, .int 0, .int 0, .ref w2, .ref w3, .ref w4, .int 0, .int 0]))] ∧ GE nb (va_A [(h0, .inr (5, [.ref w1, .int 0, .int 0, .int 0, .int 0, .int 0, .ref w2, .ref w3, .ref w4, .int 0, .int 0]))] sz) U)) (va_Qi (fun (r : Int32) (_ : Unit) => r = 0) (fun _ t => va_P (dC, dI) vwCl [(h0, .inr (5, [.ref w1, .int 0, .int 0, .int 0, .int 0, .int 0, .ref w2, .ref w3, .ref w4, .int 0, .int 0]))] t.heap ∧ va_D (va_A [(h0, .inr (5, [.ref w1, .int 0, .int 0, .int 0, .int 0, .int 0, .ref w2, .ref w3, .ref w4, .int 0, .int 0]))] sz) [(h0, .inr (5, [.ref w1, .int 0, .int 0, .int 0, .int 0, .int 0, .ref w2, .ref w3, .ref w4, .int 0, .int 0]))]) (va_A [(h0, .inr (5, [.ref w1, .int 0, .int 0, .int 0, .int 0, .int 0, .ref w2, .ref w3, .ref w4, .int 0, .int 0]))] sz)) 0 0 (va_A [(h0, .inr (5, [.ref w1, .int 0, .int 0, .int 0, .int 0, .int 0, .ref w2, .ref w3, .ref w4, .int 0, .int 0]))] sz) := by
  refine Met.ofW (cc := cX5_skipSpaces) (maxL := 1) (ret := (some .int)) (by decide) rfl ?_
  intro p e s m args below meth c s₁ B hml hv
  obtain ⟨rfl, hsz, hP, hK, hD0, hE⟩ := hv
  have hx := B.exec
  have hb := B.bytes
  have hr := B.returns
  have hts0 := atoms_spec (ws := (wsg yX5_skipSpaces cX5_skipSpaces 1 (some .int))) B.pre
  have hts : ∀ w ∈ wsL_law, w.before _ s = true := fun w h => hts0 w (List.mem_cons_of_mem _ h)
  have hown : s.vm.findClass RX5 = some m.cls := findClass_of_methodNamed B.named
  have hlocks := B.notSynchronized
  subst hsz
  have hD := hD0.self (sz := s.heap.size)
  generalize hAe : va_A [(h0, .inr (5, [.ref w1, .int 0, .int 0, .int 0, .int 0, .int 0, .ref w2, .ref w3, .ref w4, .int 0, .int 0]))] s.heap.size = A at hD hE ⊢
  have hA : ∀ q : Nat, s.heap.size ≤ q → A q := fun q h => by rw [← hAe]; exact Or.inr h
  have hS : va_S A s.heap s.heap [] := va_S.rf
  have hP : va_P (dC, dI) vwCl [(h0, .inr (5, [.ref w1, .int 0, .int 0, .int 0, .int 0, .int 0, .ref w2, .ref w3, .ref w4, .int 0, .int 0]))] s.heap := hP
  have hl := lv_entry ([.ref h0]) (n := 1) (Nat.le_of_ble_eq_true rfl)
  rw [lg_entry_eq]
  generalize (lg_sl ([.ref h0]) ++ List.replicate (1 - (lg_sl ([.ref h0])).length) Slot.unset).toArray = ls at hl ⊢
  have hl : lv_has ls 1 [(0, .ref h0)] := hl
  generalize hHe : s.heap = H at hP hS ⊢
  have hS : va_S A s.heap H [] := by rw [hHe]; exact hS
  refine lv_aload_n hx hb dX5_skipSpaces_0 rfl (lv_at hl 0 rfl) ?_
  refine va_get (D := (dC, dI)) (ci := 5) (v := .int 0) (C := RX5) (T := TX5) (N := 11) hx hb hts inlX5 hown hK hP 0 rfl rfl 2 (by decide) (hts _ mw_148) (fun _ h9 => h9) rfl dX5_skipSpaces_1 ?_
  refine lv_aload_n hx hb dX5_skipSpaces_4 rfl (lv_at hl 0 rfl) ?_
  refine va_get (D := (dC, dI)) (ci := 5) (v := .int 0) (C := RX5) (T := TX5) (N := 11) hx hb hts inlX5 hown hK hP 0 rfl rfl 1 (by decide) (hts _ mw_122) (fun _ h9 => h9) rfl dX5_skipSpaces_5 ?_
  refine lv_icmp_ge (tgt := 38) hx hb dX5_skipSpaces_8 (by decide) (fun _ => ?_) (fun h => absurd (by decide) h)
  refine lv_aload_n hx hb dX5_skipSpaces_38 rfl (lv_at hl 0 rfl) ?_
  refine va_get (D := (dC, dI)) (ci := 5) (v := .int 0) (C := RX5) (T := TX5) (N := 11) hx hb hts inlX5 hown hK hP 0 rfl rfl 2 (by decide) (hts _ mw_148) (fun _ h9 => h9) rfl dX5_skipSpaces_39 ?_
  have hP9 := hP.sub (ws' := [(h0, .inr (5, [.ref w1, .int 0, .int 0, .int 0, .int 0, .int 0, .ref w2, .ref w3, .ref w4, .int 0, .int 0]))]) [0] rfl
  have hD9 := hD.sub (ws' := [(h0, .inr (5, [.ref w1, .int 0, .int 0, .int 0, .int 0, .int 0, .ref w2, .ref w3, .ref w4, .int 0, .int 0]))]) [0] (by decide) rfl
  refine W.widen (k := 0) (n := 0) (by omega) (by omega) ?_
  exact W.iret (v := 0) hx hb hr (fun t ht hW => ⟨⟨0, (), rfl, rfl, by rw [ht]; exact hP9, hD9⟩, hS.F ht⟩) hS.2.2 dX5_skipSpaces_42
set_option maxHeartbeats 4000000 in
set_option maxRecDepth 100000 in
/-- X5_skipSpaces -/
theorem c_X5_skipSpaces_e (l : Launch) (dC : Nat → ClassId) (dI : Nat → Nat → Nat) (cy : Nat → ClassId) (nb : Nat → Nat) (h0 : Nat) (w1 : Nat) (w2 : Nat) (w3 : Nat) (w4 : Nat) (sz : Nat) : Met l yX5_skipSpaces (wsg yX5_skipSpaces cX5_skipSpaces 1 (some .int)) ({ frames := 9, cells := 0, slots := 0, locals := 400 }) (va_Pc [.ref h0] (fun U => U.heap.size = sz ∧ va_P (dC, dI) vwCl [(h0, .inr (5, [.ref w1, .int 0, .int 0, .int 1, .int 0, .int 0, .ref w2, .ref w3, .ref w4, .int 0, .int 0]))] U.heap ∧ va_K (dC, dI) vwCl (tyL cy) U ∧ va_D (fun _ => True) [(h0, .inr (5, [.ref w1, .int 0, .int 0, .int 1, .int 0, .int 0, .ref w2, .ref w3, .ref w4, .int 0, .int 0]))] ∧ GE nb (va_A [(h0, .inr (5, [.ref w1, .int 0, .int 0, .int 1, .int 0, .int 0, .ref w2, .ref w3, .ref w4, .int 0, .int 0]))] sz) U)) (va_Qi (fun (r : Int32) (_ : Unit) => r = 0) (fun _ t => va_P (dC, dI) vwCl [(h0, .inr (5, [.ref w1, .int 0, .int 0, .int 1, .int 0, .int 0, .ref w2, .ref w3, .ref w4, .int 0, .int 0]))] t.heap ∧ va_D (va_A [(h0, .inr (5, [.ref w1, .int 0, .int 0, .int 1, .int 0, .int 0, .ref w2, .ref w3, .ref w4, .int 0, .int 0]))] sz) [(h0, .inr (5, [.ref w1, .int 0, .int 0, .int 1, .int 0, .int 0, .ref w2, .ref w3, .ref w4, .int 0, .int 0]))]) (va_A [(h0, .inr (5, [.ref w1, .int 0, .int 0, .int 1, .int 0, .int 0, .ref w2, .ref w3, .ref w4, .int 0, .int 0]))] sz)) 0 0 (va_A [(h0, .inr (5, [.ref w1, .int 0, .int 0, .int 1, .int 0, .int 0, .ref w2, .ref w3, .ref w4, .int 0, .int 0]))] sz) := by
  refine Met.ofW (cc := cX5_skipSpaces) (maxL := 1) (ret := (some .int)) (by decide) rfl ?_
  intro p e s m args below meth c s₁ B hml hv
  obtain ⟨rfl, hsz, hP, hK, hD0, hE⟩ := hv
  have hx := B.exec
  have hb := B.bytes
  have hr := B.returns
  have hts0 := atoms_spec (ws := (wsg yX5_skipSpaces cX5_skipSpaces 1 (some .int))) B.pre
  have hts : ∀ w ∈ wsL_law, w.before _ s = true := fun w h => hts0 w (List.mem_cons_of_mem _ h)
  have hown : s.vm.findClass RX5 = some m.cls := findClass_of_methodNamed B.named
  have hlocks := B.notSynchronized
  subst hsz
  have hD := hD0.self (sz := s.heap.size)
  generalize hAe : va_A [(h0, .inr (5, [.ref w1, .int 0, .int 0, .int 1, .int 0, .int 0, .ref w2, .ref w3, .ref w4, .int 0, .int 0]))] s.heap.size = A at hD hE ⊢
  have hA : ∀ q : Nat, s.heap.size ≤ q → A q := fun q h => by rw [← hAe]; exact Or.inr h
  have hS : va_S A s.heap s.heap [] := va_S.rf
  have hP : va_P (dC, dI) vwCl [(h0, .inr (5, [.ref w1, .int 0, .int 0, .int 1, .int 0, .int 0, .ref w2, .ref w3, .ref w4, .int 0, .int 0]))] s.heap := hP
  have hl := lv_entry ([.ref h0]) (n := 1) (Nat.le_of_ble_eq_true rfl)
  rw [lg_entry_eq]
  generalize (lg_sl ([.ref h0]) ++ List.replicate (1 - (lg_sl ([.ref h0])).length) Slot.unset).toArray = ls at hl ⊢
  have hl : lv_has ls 1 [(0, .ref h0)] := hl
  generalize hHe : s.heap = H at hP hS ⊢
  have hS : va_S A s.heap H [] := by rw [hHe]; exact hS
  refine lv_aload_n hx hb dX5_skipSpaces_0 rfl (lv_at hl 0 rfl) ?_
  refine va_get (D := (dC, dI)) (ci := 5) (v := .int 0) (C := RX5) (T := TX5) (N := 11) hx hb hts inlX5 hown hK hP 0 rfl rfl 2 (by decide) (hts _ mw_148) (fun _ h9 => h9) rfl dX5_skipSpaces_1 ?_
  refine lv_aload_n hx hb dX5_skipSpaces_4 rfl (lv_at hl 0 rfl) ?_
  refine va_get (D := (dC, dI)) (ci := 5) (v := .int 0) (C := RX5) (T := TX5) (N := 11) hx hb hts inlX5 hown hK hP 0 rfl rfl 1 (by decide) (hts _ mw_122) (fun _ h9 => h9) rfl dX5_skipSpaces_5 ?_
  refine lv_icmp_ge (tgt := 38) hx hb dX5_skipSpaces_8 (by decide) (fun _ => ?_) (fun h => absurd (by decide) h)
  refine lv_aload_n hx hb dX5_skipSpaces_38 rfl (lv_at hl 0 rfl) ?_
  refine va_get (D := (dC, dI)) (ci := 5) (v := .int 0) (C := RX5) (T := TX5) (N := 11) hx hb hts inlX5 hown hK hP 0 rfl rfl 2 (by decide) (hts _ mw_148) (fun _ h9 => h9) rfl dX5_skipSpaces_39 ?_
  have hP9 := hP.sub (ws' := [(h0, .inr (5, [.ref w1, .int 0, .int 0, .int 1, .int 0, .int 0, .ref w2, .ref w3, .ref w4, .int 0, .int 0]))]) [0] rfl
  have hD9 := hD.sub (ws' := [(h0, .inr (5, [.ref w1, .int 0, .int 0, .int 1, .int 0, .int 0, .ref w2, .ref w3, .ref w4, .int 0, .int 0]))]) [0] (by decide) rfl
  refine W.widen (k := 0) (n := 0) (by omega) (by omega) ?_
  exact W.iret (v := 0) hx hb hr (fun t ht hW => ⟨⟨0, (), rfl, rfl, by rw [ht]; exact hP9, hD9⟩, hS.F ht⟩) hS.2.2 dX5_skipSpaces_42
set_option maxHeartbeats 4000000 in
set_option maxRecDepth 100000 in
/-- X5_stands -/
theorem c_X5_stands_0 (l : Launch) (dC : Nat → ClassId) (dI : Nat → Nat → Nat) (cy : Nat → ClassId) (nb : Nat → Nat) (h0 : Nat) (w1 : Nat) (w2 : Nat) (w3 : Nat) (w4 : Nat) (sz : Nat) : Met l yX5_stands (wsg yX5_stands cX5_stands 4 (some .boolean)) ({ frames := 10, cells := 0, slots := 0, locals := 500 }) (va_Pc [.ref h0, .ref (nb (3 + 2 * 0)), .int 0] (fun U => U.heap.size = sz ∧ va_P (dC, dI) vwCl [(h0, .inr (5, [.ref w1, .int 0, .int 0, .int 0, .int 0, .int 0, .ref w2, .ref w3, .ref w4, .int 0, .int 0]))] U.heap ∧ va_K (dC, dI) vwCl (tyL cy) U ∧ va_D (fun _ => True) [(h0, .inr (5, [.ref w1, .int 0, .int 0, .int 0, .int 0, .int 0, .ref w2, .ref w3, .ref w4, .int 0, .int 0]))] ∧ GE nb (va_A [(h0, .inr (5, [.ref w1, .int 0, .int 0, .int 0, .int 0, .int 0, .ref w2, .ref w3, .ref w4, .int 0, .int 0]))] sz) U)) (va_Qi (fun (r : Int32) (_ : Unit) => r = 0) (fun _ t => va_P (dC, dI) vwCl [(h0, .inr (5, [.ref w1, .int 0, .int 0, .int 0, .int 0, .int 0, .ref w2, .ref w3, .ref w4, .int 0, .int 0]))] t.heap ∧ va_D (va_A [(h0, .inr (5, [.ref w1, .int 0, .int 0, .int 0, .int 0, .int 0, .ref w2, .ref w3, .ref w4, .int 0, .int 0]))] sz) [(h0, .inr (5, [.ref w1, .int 0, .int 0, .int 0, .int 0, .int 0, .ref w2, .ref w3, .ref w4, .int 0, .int 0]))]) (va_A [(h0, .inr (5, [.ref w1, .int 0, .int 0, .int 0, .int 0, .int 0, .ref w2, .ref w3, .ref w4, .int 0, .int 0]))] sz)) 0 0 (va_A [(h0, .inr (5, [.ref w1, .int 0, .int 0, .int 0, .int 0, .int 0, .ref w2, .ref w3, .ref w4, .int 0, .int 0]))] sz) := by
  refine Met.ofW (cc := cX5_stands) (maxL := 4) (ret := (some .boolean)) (by decide) rfl ?_
  intro p e s m args below meth c s₁ B hml hv
  obtain ⟨rfl, hsz, hP, hK, hD0, hE⟩ := hv
  have hx := B.exec
  have hb := B.bytes
  have hr := B.returns
  have hts0 := atoms_spec (ws := (wsg yX5_stands cX5_stands 4 (some .boolean))) B.pre
  have hts : ∀ w ∈ wsL_law, w.before _ s = true := fun w h => hts0 w (List.mem_cons_of_mem _ h)
  have hown : s.vm.findClass RX5 = some m.cls := findClass_of_methodNamed B.named
  have hlocks := B.notSynchronized
  subst hsz
  have hD := hD0.self (sz := s.heap.size)
  generalize hAe : va_A [(h0, .inr (5, [.ref w1, .int 0, .int 0, .int 0, .int 0, .int 0, .ref w2, .ref w3, .ref w4, .int 0, .int 0]))] s.heap.size = A at hD hE ⊢
  have hA : ∀ q : Nat, s.heap.size ≤ q → A q := fun q h => by rw [← hAe]; exact Or.inr h
  have hS : va_S A s.heap s.heap [] := va_S.rf
  have hP : va_P (dC, dI) vwCl [(h0, .inr (5, [.ref w1, .int 0, .int 0, .int 0, .int 0, .int 0, .ref w2, .ref w3, .ref w4, .int 0, .int 0]))] s.heap := hP
  have hl := lv_entry ([.ref h0, .ref (nb (3 + 2 * 0)), .int 0]) (n := 4) (Nat.le_of_ble_eq_true rfl)
  rw [lg_entry_eq]
  generalize (lg_sl ([.ref h0, .ref (nb (3 + 2 * 0)), .int 0]) ++ List.replicate (4 - (lg_sl ([.ref h0, .ref (nb (3 + 2 * 0)), .int 0])).length) Slot.unset).toArray = ls at hl ⊢
  have hl : lv_has ls 4 [(0, .ref h0), (1, .ref (nb (3 + 2 * 0))), (2, .int 0)] := hl
  generalize hHe : s.heap = H at hP hS ⊢
  have hS : va_S A s.heap H [] := by rw [hHe]; exact hS
  refine lv_aload_n hx hb dX5_stands_0 rfl (lv_at hl 0 rfl) ?_
  refine va_get (D := (dC, dI)) (ci := 5) (v := .int 0) (C := RX5) (T := TX5) (N := 11) hx hb hts inlX5 hown hK hP 0 rfl rfl 2 (by decide) (hts _ mw_148) (fun _ h9 => h9) rfl dX5_stands_1 ?_
  refine lv_iload_n hx hb dX5_stands_4 rfl (lv_at hl 2 rfl) ?_
  refine lv_isub hx hb dX5_stands_5 ?_
  refine my_topi (y := 0) (by decide) ?_
  refine lv_aload_n hx hb dX5_stands_6 rfl (lv_at hl 1 rfl) ?_
  have hPc := hP.sub (ws' := []) [] rfl
  have hDc := hD.sub (ws' := []) [] (by decide) rfl
  have hFc := va_free (wc := []) hD hS hA [] rfl
  refine va_calli (va_runV (As := []) (rest := [.int 0]) ⟨hx, hb, hml, hown, hts⟩ (c_strlen_0 l dC dI cy nb  H.size) (cwV 0 hts (gV mw_170 mw_171 mw_172 mw_173 mw_174) rfl rfl rfl (by decide +kernel) ⟨Nat.le_of_ble_eq_true rfl, Nat.le_of_ble_eq_true rfl⟩) ⟨fun a U g mk q => by obtain ⟨q0, q1, qP, qK, qD, qE⟩ := q; exact ⟨q0, q1, qP, va_K.moved (u := U) (U := U.calling g mk a) (Vm.Alike.refl U.vm) qK, qD, GE.calling qE⟩, my_recvO (hE.wh 0 rfl).1 hS, fun U hU hW => ⟨rfl, by rw [hU], by rw [hU]; exact hPc, va_K.moved hW.alike hK, hDc.weaken (fun _ _ _ _ => trivial), GE.call hE hS hFc hU hW⟩⟩ rfl rfl hl.1 rfl (lv_room (Nat.le_of_ble_eq_true rfl)) dX5_stands_7 ⟨Nat.le_of_ble_eq_true rfl, Nat.le_of_ble_eq_true rfl⟩) hS (fun q _ h => hFc q h) hFc (fun r u t H1 locs ht hvm hw1 hB hz1 hk1 hS => ?_)
  obtain ⟨hP1, hD1⟩ := hB
  rw [ht] at hP1
  obtain ⟨hP, hD⟩ := va_join (wr := [(h0, .inr (5, [.ref w1, .int 0, .int 0, .int 0, .int 0, .int 0, .ref w2, .ref w3, .ref w4, .int 0, .int 0]))]) (w1 := []) hP hD [] [0] rfl rfl (by decide) (by decide) hk1 hFc hP1 hD1
  generalize H1 = H at hP hS ⊢
  have hP : va_P (dC, dI) vwCl [(h0, .inr (5, [.ref w1, .int 0, .int 0, .int 0, .int 0, .int 0, .ref w2, .ref w3, .ref w4, .int 0, .int 0]))] H := hP
  have hD : va_D A [(h0, .inr (5, [.ref w1, .int 0, .int 0, .int 0, .int 0, .int 0, .ref w2, .ref w3, .ref w4, .int 0, .int 0]))] := hD
  obtain rfl := hw1
  refine W.widen (k := 0) (n := 0) (by omega) (by omega) ?_
  refine lv_icmp_eq (tgt := 15) hx hb dX5_stands_10 (by decide) (fun h => absurd h (by decide)) (fun _ => ?_)
  refine lv_iconst (v := 0) hx hb dX5_stands_13 (by decide) ?_
  have hP9 := hP.sub (ws' := [(h0, .inr (5, [.ref w1, .int 0, .int 0, .int 0, .int 0, .int 0, .ref w2, .ref w3, .ref w4, .int 0, .int 0]))]) [0] rfl
  have hD9 := hD.sub (ws' := [(h0, .inr (5, [.ref w1, .int 0, .int 0, .int 0, .int 0, .int 0, .ref w2, .ref w3, .ref w4, .int 0, .int 0]))]) [0] (by decide) rfl
  refine W.widen (k := 0) (n := 0) (by omega) (by omega) ?_
  exact W.zret (v := 0) hx hb hr (by rfl) (fun t ht hW => ⟨⟨0, (), rfl, rfl, by rw [ht]; exact hP9, hD9⟩, hS.F ht⟩) hS.2.2 dX5_stands_14
set_option maxHeartbeats 4000000 in
set_option maxRecDepth 100000 in
/-- X5_stands -/
theorem c_X5_stands_1 (l : Launch) (dC : Nat → ClassId) (dI : Nat → Nat → Nat) (cy : Nat → ClassId) (nb : Nat → Nat) (h0 : Nat) (w1 : Nat) (w2 : Nat) (w3 : Nat) (w4 : Nat) (sz : Nat) : Met l yX5_stands (wsg yX5_stands cX5_stands 4 (some .boolean)) ({ frames := 10, cells := 0, slots := 0, locals := 500 }) (va_Pc [.ref h0, .ref (nb (3 + 2 * 1)), .int 0] (fun U => U.heap.size = sz ∧ va_P (dC, dI) vwCl [(h0, .inr (5, [.ref w1, .int 0, .int 0, .int 0, .int 0, .int 0, .ref w2, .ref w3, .ref w4, .int 0, .int 0]))] U.heap ∧ va_K (dC, dI) vwCl (tyL cy) U ∧ va_D (fun _ => True) [(h0, .inr (5, [.ref w1, .int 0, .int 0, .int 0, .int 0, .int 0, .ref w2, .ref w3, .ref w4, .int 0, .int 0]))] ∧ GE nb (va_A [(h0, .inr (5, [.ref w1, .int 0, .int 0, .int 0, .int 0, .int 0, .ref w2, .ref w3, .ref w4, .int 0, .int 0]))] sz) U)) (va_Qi (fun (r : Int32) (_ : Unit) => r = 0) (fun _ t => va_P (dC, dI) vwCl [(h0, .inr (5, [.ref w1, .int 0, .int 0, .int 0, .int 0, .int 0, .ref w2, .ref w3, .ref w4, .int 0, .int 0]))] t.heap ∧ va_D (va_A [(h0, .inr (5, [.ref w1, .int 0, .int 0, .int 0, .int 0, .int 0, .ref w2, .ref w3, .ref w4, .int 0, .int 0]))] sz) [(h0, .inr (5, [.ref w1, .int 0, .int 0, .int 0, .int 0, .int 0, .ref w2, .ref w3, .ref w4, .int 0, .int 0]))]) (va_A [(h0, .inr (5, [.ref w1, .int 0, .int 0, .int 0, .int 0, .int 0, .ref w2, .ref w3, .ref w4, .int 0, .int 0]))] sz)) 0 0 (va_A [(h0, .inr (5, [.ref w1, .int 0, .int 0, .int 0, .int 0, .int 0, .ref w2, .ref w3, .ref w4, .int 0, .int 0]))] sz) := by
  refine Met.ofW (cc := cX5_stands) (maxL := 4) (ret := (some .boolean)) (by decide) rfl ?_
  intro p e s m args below meth c s₁ B hml hv
  obtain ⟨rfl, hsz, hP, hK, hD0, hE⟩ := hv
  have hx := B.exec
  have hb := B.bytes
  have hr := B.returns
  have hts0 := atoms_spec (ws := (wsg yX5_stands cX5_stands 4 (some .boolean))) B.pre
  have hts : ∀ w ∈ wsL_law, w.before _ s = true := fun w h => hts0 w (List.mem_cons_of_mem _ h)
  have hown : s.vm.findClass RX5 = some m.cls := findClass_of_methodNamed B.named
  have hlocks := B.notSynchronized
  subst hsz
  have hD := hD0.self (sz := s.heap.size)
  generalize hAe : va_A [(h0, .inr (5, [.ref w1, .int 0, .int 0, .int 0, .int 0, .int 0, .ref w2, .ref w3, .ref w4, .int 0, .int 0]))] s.heap.size = A at hD hE ⊢
  have hA : ∀ q : Nat, s.heap.size ≤ q → A q := fun q h => by rw [← hAe]; exact Or.inr h
  have hS : va_S A s.heap s.heap [] := va_S.rf
  have hP : va_P (dC, dI) vwCl [(h0, .inr (5, [.ref w1, .int 0, .int 0, .int 0, .int 0, .int 0, .ref w2, .ref w3, .ref w4, .int 0, .int 0]))] s.heap := hP
  have hl := lv_entry ([.ref h0, .ref (nb (3 + 2 * 1)), .int 0]) (n := 4) (Nat.le_of_ble_eq_true rfl)
  rw [lg_entry_eq]
  generalize (lg_sl ([.ref h0, .ref (nb (3 + 2 * 1)), .int 0]) ++ List.replicate (4 - (lg_sl ([.ref h0, .ref (nb (3 + 2 * 1)), .int 0])).length) Slot.unset).toArray = ls at hl ⊢
  have hl : lv_has ls 4 [(0, .ref h0), (1, .ref (nb (3 + 2 * 1))), (2, .int 0)] := hl
  generalize hHe : s.heap = H at hP hS ⊢
  have hS : va_S A s.heap H [] := by rw [hHe]; exact hS
  refine lv_aload_n hx hb dX5_stands_0 rfl (lv_at hl 0 rfl) ?_
  refine va_get (D := (dC, dI)) (ci := 5) (v := .int 0) (C := RX5) (T := TX5) (N := 11) hx hb hts inlX5 hown hK hP 0 rfl rfl 2 (by decide) (hts _ mw_148) (fun _ h9 => h9) rfl dX5_stands_1 ?_
  refine lv_iload_n hx hb dX5_stands_4 rfl (lv_at hl 2 rfl) ?_
  refine lv_isub hx hb dX5_stands_5 ?_
  refine my_topi (y := 0) (by decide) ?_
  refine lv_aload_n hx hb dX5_stands_6 rfl (lv_at hl 1 rfl) ?_
  have hPc := hP.sub (ws' := []) [] rfl
  have hDc := hD.sub (ws' := []) [] (by decide) rfl
  have hFc := va_free (wc := []) hD hS hA [] rfl
  refine va_calli (va_runV (As := []) (rest := [.int 0]) ⟨hx, hb, hml, hown, hts⟩ (c_strlen_1 l dC dI cy nb  H.size) (cwV 0 hts (gV mw_170 mw_171 mw_172 mw_173 mw_174) rfl rfl rfl (by decide +kernel) ⟨Nat.le_of_ble_eq_true rfl, Nat.le_of_ble_eq_true rfl⟩) ⟨fun a U g mk q => by obtain ⟨q0, q1, qP, qK, qD, qE⟩ := q; exact ⟨q0, q1, qP, va_K.moved (u := U) (U := U.calling g mk a) (Vm.Alike.refl U.vm) qK, qD, GE.calling qE⟩, my_recvO (hE.wh 1 rfl).1 hS, fun U hU hW => ⟨rfl, by rw [hU], by rw [hU]; exact hPc, va_K.moved hW.alike hK, hDc.weaken (fun _ _ _ _ => trivial), GE.call hE hS hFc hU hW⟩⟩ rfl rfl hl.1 rfl (lv_room (Nat.le_of_ble_eq_true rfl)) dX5_stands_7 ⟨Nat.le_of_ble_eq_true rfl, Nat.le_of_ble_eq_true rfl⟩) hS (fun q _ h => hFc q h) hFc (fun r u t H1 locs ht hvm hw1 hB hz1 hk1 hS => ?_)
  obtain ⟨hP1, hD1⟩ := hB
  rw [ht] at hP1
  obtain ⟨hP, hD⟩ := va_join (wr := [(h0, .inr (5, [.ref w1, .int 0, .int 0, .int 0, .int 0, .int 0, .ref w2, .ref w3, .ref w4, .int 0, .int 0]))]) (w1 := []) hP hD [] [0] rfl rfl (by decide) (by decide) hk1 hFc hP1 hD1
  generalize H1 = H at hP hS ⊢
  have hP : va_P (dC, dI) vwCl [(h0, .inr (5, [.ref w1, .int 0, .int 0, .int 0, .int 0, .int 0, .ref w2, .ref w3, .ref w4, .int 0, .int 0]))] H := hP
  have hD : va_D A [(h0, .inr (5, [.ref w1, .int 0, .int 0, .int 0, .int 0, .int 0, .ref w2, .ref w3, .ref w4, .int 0, .int 0]))] := hD
  obtain rfl := hw1
  refine W.widen (k := 0) (n := 0) (by omega) (by omega) ?_
  refine lv_icmp_eq (tgt := 15) hx hb dX5_stands_10 (by decide) (fun h => absurd h (by decide)) (fun _ => ?_)
  refine lv_iconst (v := 0) hx hb dX5_stands_13 (by decide) ?_
  have hP9 := hP.sub (ws' := [(h0, .inr (5, [.ref w1, .int 0, .int 0, .int 0, .int 0, .int 0, .ref w2, .ref w3, .ref w4, .int 0, .int 0]))]) [0] rfl
  have hD9 := hD.sub (ws' := [(h0, .inr (5, [.ref w1, .int 0, .int 0, .int 0, .int 0, .int 0, .ref w2, .ref w3, .ref w4, .int 0, .int 0]))]) [0] (by decide) rfl
  refine W.widen (k := 0) (n := 0) (by omega) (by omega) ?_
  exact W.zret (v := 0) hx hb hr (by rfl) (fun t ht hW => ⟨⟨0, (), rfl, rfl, by rw [ht]; exact hP9, hD9⟩, hS.F ht⟩) hS.2.2 dX5_stands_14
set_option maxHeartbeats 4000000 in
set_option maxRecDepth 100000 in
/-- X5_stands -/
theorem c_X5_stands_2 (l : Launch) (dC : Nat → ClassId) (dI : Nat → Nat → Nat) (cy : Nat → ClassId) (nb : Nat → Nat) (h0 : Nat) (w1 : Nat) (w2 : Nat) (w3 : Nat) (w4 : Nat) (sz : Nat) : Met l yX5_stands (wsg yX5_stands cX5_stands 4 (some .boolean)) ({ frames := 10, cells := 0, slots := 0, locals := 500 }) (va_Pc [.ref h0, .ref (nb (3 + 2 * 2)), .int 0] (fun U => U.heap.size = sz ∧ va_P (dC, dI) vwCl [(h0, .inr (5, [.ref w1, .int 0, .int 0, .int 0, .int 0, .int 0, .ref w2, .ref w3, .ref w4, .int 0, .int 0]))] U.heap ∧ va_K (dC, dI) vwCl (tyL cy) U ∧ va_D (fun _ => True) [(h0, .inr (5, [.ref w1, .int 0, .int 0, .int 0, .int 0, .int 0, .ref w2, .ref w3, .ref w4, .int 0, .int 0]))] ∧ GE nb (va_A [(h0, .inr (5, [.ref w1, .int 0, .int 0, .int 0, .int 0, .int 0, .ref w2, .ref w3, .ref w4, .int 0, .int 0]))] sz) U)) (va_Qi (fun (r : Int32) (_ : Unit) => r = 0) (fun _ t => va_P (dC, dI) vwCl [(h0, .inr (5, [.ref w1, .int 0, .int 0, .int 0, .int 0, .int 0, .ref w2, .ref w3, .ref w4, .int 0, .int 0]))] t.heap ∧ va_D (va_A [(h0, .inr (5, [.ref w1, .int 0, .int 0, .int 0, .int 0, .int 0, .ref w2, .ref w3, .ref w4, .int 0, .int 0]))] sz) [(h0, .inr (5, [.ref w1, .int 0, .int 0, .int 0, .int 0, .int 0, .ref w2, .ref w3, .ref w4, .int 0, .int 0]))]) (va_A [(h0, .inr (5, [.ref w1, .int 0, .int 0, .int 0, .int 0, .int 0, .ref w2, .ref w3, .ref w4, .int 0, .int 0]))] sz)) 0 0 (va_A [(h0, .inr (5, [.ref w1, .int 0, .int 0, .int 0, .int 0, .int 0, .ref w2, .ref w3, .ref w4, .int 0, .int 0]))] sz) := by
  refine Met.ofW (cc := cX5_stands) (maxL := 4) (ret := (some .boolean)) (by decide) rfl ?_
  intro p e s m args below meth c s₁ B hml hv
  obtain ⟨rfl, hsz, hP, hK, hD0, hE⟩ := hv
  have hx := B.exec
  have hb := B.bytes
  have hr := B.returns
  have hts0 := atoms_spec (ws := (wsg yX5_stands cX5_stands 4 (some .boolean))) B.pre
  have hts : ∀ w ∈ wsL_law, w.before _ s = true := fun w h => hts0 w (List.mem_cons_of_mem _ h)
  have hown : s.vm.findClass RX5 = some m.cls := findClass_of_methodNamed B.named
  have hlocks := B.notSynchronized
  subst hsz
  have hD := hD0.self (sz := s.heap.size)
  generalize hAe : va_A [(h0, .inr (5, [.ref w1, .int 0, .int 0, .int 0, .int 0, .int 0, .ref w2, .ref w3, .ref w4, .int 0, .int 0]))] s.heap.size = A at hD hE ⊢
  have hA : ∀ q : Nat, s.heap.size ≤ q → A q := fun q h => by rw [← hAe]; exact Or.inr h
  have hS : va_S A s.heap s.heap [] := va_S.rf
  have hP : va_P (dC, dI) vwCl [(h0, .inr (5, [.ref w1, .int 0, .int 0, .int 0, .int 0, .int 0, .ref w2, .ref w3, .ref w4, .int 0, .int 0]))] s.heap := hP
  have hl := lv_entry ([.ref h0, .ref (nb (3 + 2 * 2)), .int 0]) (n := 4) (Nat.le_of_ble_eq_true rfl)
  rw [lg_entry_eq]
  generalize (lg_sl ([.ref h0, .ref (nb (3 + 2 * 2)), .int 0]) ++ List.replicate (4 - (lg_sl ([.ref h0, .ref (nb (3 + 2 * 2)), .int 0])).length) Slot.unset).toArray = ls at hl ⊢
  have hl : lv_has ls 4 [(0, .ref h0), (1, .ref (nb (3 + 2 * 2))), (2, .int 0)] := hl
  generalize hHe : s.heap = H at hP hS ⊢
  have hS : va_S A s.heap H [] := by rw [hHe]; exact hS
  refine lv_aload_n hx hb dX5_stands_0 rfl (lv_at hl 0 rfl) ?_
  refine va_get (D := (dC, dI)) (ci := 5) (v := .int 0) (C := RX5) (T := TX5) (N := 11) hx hb hts inlX5 hown hK hP 0 rfl rfl 2 (by decide) (hts _ mw_148) (fun _ h9 => h9) rfl dX5_stands_1 ?_
  refine lv_iload_n hx hb dX5_stands_4 rfl (lv_at hl 2 rfl) ?_
  refine lv_isub hx hb dX5_stands_5 ?_
  refine my_topi (y := 0) (by decide) ?_
  refine lv_aload_n hx hb dX5_stands_6 rfl (lv_at hl 1 rfl) ?_
  have hPc := hP.sub (ws' := []) [] rfl
  have hDc := hD.sub (ws' := []) [] (by decide) rfl
  have hFc := va_free (wc := []) hD hS hA [] rfl
  refine va_calli (va_runV (As := []) (rest := [.int 0]) ⟨hx, hb, hml, hown, hts⟩ (c_strlen_2 l dC dI cy nb  H.size) (cwV 0 hts (gV mw_170 mw_171 mw_172 mw_173 mw_174) rfl rfl rfl (by decide +kernel) ⟨Nat.le_of_ble_eq_true rfl, Nat.le_of_ble_eq_true rfl⟩) ⟨fun a U g mk q => by obtain ⟨q0, q1, qP, qK, qD, qE⟩ := q; exact ⟨q0, q1, qP, va_K.moved (u := U) (U := U.calling g mk a) (Vm.Alike.refl U.vm) qK, qD, GE.calling qE⟩, my_recvO (hE.wh 2 rfl).1 hS, fun U hU hW => ⟨rfl, by rw [hU], by rw [hU]; exact hPc, va_K.moved hW.alike hK, hDc.weaken (fun _ _ _ _ => trivial), GE.call hE hS hFc hU hW⟩⟩ rfl rfl hl.1 rfl (lv_room (Nat.le_of_ble_eq_true rfl)) dX5_stands_7 ⟨Nat.le_of_ble_eq_true rfl, Nat.le_of_ble_eq_true rfl⟩) hS (fun q _ h => hFc q h) hFc (fun r u t H1 locs ht hvm hw1 hB hz1 hk1 hS => ?_)
  obtain ⟨hP1, hD1⟩ := hB
  rw [ht] at hP1
  obtain ⟨hP, hD⟩ := va_join (wr := [(h0, .inr (5, [.ref w1, .int 0, .int 0, .int 0, .int 0, .int 0, .ref w2, .ref w3, .ref w4, .int 0, .int 0]))]) (w1 := []) hP hD [] [0] rfl rfl (by decide) (by decide) hk1 hFc hP1 hD1
  generalize H1 = H at hP hS ⊢
  have hP : va_P (dC, dI) vwCl [(h0, .inr (5, [.ref w1, .int 0, .int 0, .int 0, .int 0, .int 0, .ref w2, .ref w3, .ref w4, .int 0, .int 0]))] H := hP
  have hD : va_D A [(h0, .inr (5, [.ref w1, .int 0, .int 0, .int 0, .int 0, .int 0, .ref w2, .ref w3, .ref w4, .int 0, .int 0]))] := hD
  obtain rfl := hw1
  refine W.widen (k := 0) (n := 0) (by omega) (by omega) ?_
  refine lv_icmp_eq (tgt := 15) hx hb dX5_stands_10 (by decide) (fun h => absurd h (by decide)) (fun _ => ?_)
  refine lv_iconst (v := 0) hx hb dX5_stands_13 (by decide) ?_
  have hP9 := hP.sub (ws' := [(h0, .inr (5, [.ref w1, .int 0, .int 0, .int 0, .int 0, .int 0, .ref w2, .ref w3, .ref w4, .int 0, .int 0]))]) [0] rfl
  have hD9 := hD.sub (ws' := [(h0, .inr (5, [.ref w1, .int 0, .int 0, .int 0, .int 0, .int 0, .ref w2, .ref w3, .ref w4, .int 0, .int 0]))]) [0] (by decide) rfl
  refine W.widen (k := 0) (n := 0) (by omega) (by omega) ?_
  exact W.zret (v := 0) hx hb hr (by rfl) (fun t ht hW => ⟨⟨0, (), rfl, rfl, by rw [ht]; exact hP9, hD9⟩, hS.F ht⟩) hS.2.2 dX5_stands_14
set_option maxHeartbeats 4000000 in
set_option maxRecDepth 100000 in
/-- X5_stands -/
theorem c_X5_stands_3 (l : Launch) (dC : Nat → ClassId) (dI : Nat → Nat → Nat) (cy : Nat → ClassId) (nb : Nat → Nat) (h0 : Nat) (w1 : Nat) (w2 : Nat) (w3 : Nat) (w4 : Nat) (sz : Nat) : Met l yX5_stands (wsg yX5_stands cX5_stands 4 (some .boolean)) ({ frames := 10, cells := 0, slots := 0, locals := 500 }) (va_Pc [.ref h0, .ref (nb (3 + 2 * 3)), .int 0] (fun U => U.heap.size = sz ∧ va_P (dC, dI) vwCl [(h0, .inr (5, [.ref w1, .int 0, .int 0, .int 0, .int 0, .int 0, .ref w2, .ref w3, .ref w4, .int 0, .int 0]))] U.heap ∧ va_K (dC, dI) vwCl (tyL cy) U ∧ va_D (fun _ => True) [(h0, .inr (5, [.ref w1, .int 0, .int 0, .int 0, .int 0, .int 0, .ref w2, .ref w3, .ref w4, .int 0, .int 0]))] ∧ GE nb (va_A [(h0, .inr (5, [.ref w1, .int 0, .int 0, .int 0, .int 0, .int 0, .ref w2, .ref w3, .ref w4, .int 0, .int 0]))] sz) U)) (va_Qi (fun (r : Int32) (_ : Unit) => r = 0) (fun _ t => va_P (dC, dI) vwCl [(h0, .inr (5, [.ref w1, .int 0, .int 0, .int 0, .int 0, .int 0, .ref w2, .ref w3, .ref w4, .int 0, .int 0]))] t.heap ∧ va_D (va_A [(h0, .inr (5, [.ref w1, .int 0, .int 0, .int 0, .int 0, .int 0, .ref w2, .ref w3, .ref w4, .int 0, .int 0]))] sz) [(h0, .inr (5, [.ref w1, .int 0, .int 0, .int 0, .int 0, .int 0, .ref w2, .ref w3, .ref w4, .int 0, .int 0]))]) (va_A [(h0, .inr (5, [.ref w1, .int 0, .int 0, .int 0, .int 0, .int 0, .ref w2, .ref w3, .ref w4, .int 0, .int 0]))] sz)) 0 0 (va_A [(h0, .inr (5, [.ref w1, .int 0, .int 0, .int 0, .int 0, .int 0, .ref w2, .ref w3, .ref w4, .int 0, .int 0]))] sz) := by
  refine Met.ofW (cc := cX5_stands) (maxL := 4) (ret := (some .boolean)) (by decide) rfl ?_
  intro p e s m args below meth c s₁ B hml hv
  obtain ⟨rfl, hsz, hP, hK, hD0, hE⟩ := hv
  have hx := B.exec
  have hb := B.bytes
  have hr := B.returns
  have hts0 := atoms_spec (ws := (wsg yX5_stands cX5_stands 4 (some .boolean))) B.pre
  have hts : ∀ w ∈ wsL_law, w.before _ s = true := fun w h => hts0 w (List.mem_cons_of_mem _ h)
  have hown : s.vm.findClass RX5 = some m.cls := findClass_of_methodNamed B.named
  have hlocks := B.notSynchronized
  subst hsz
  have hD := hD0.self (sz := s.heap.size)
  generalize hAe : va_A [(h0, .inr (5, [.ref w1, .int 0, .int 0, .int 0, .int 0, .int 0, .ref w2, .ref w3, .ref w4, .int 0, .int 0]))] s.heap.size = A at hD hE ⊢
  have hA : ∀ q : Nat, s.heap.size ≤ q → A q := fun q h => by rw [← hAe]; exact Or.inr h
  have hS : va_S A s.heap s.heap [] := va_S.rf
  have hP : va_P (dC, dI) vwCl [(h0, .inr (5, [.ref w1, .int 0, .int 0, .int 0, .int 0, .int 0, .ref w2, .ref w3, .ref w4, .int 0, .int 0]))] s.heap := hP
  have hl := lv_entry ([.ref h0, .ref (nb (3 + 2 * 3)), .int 0]) (n := 4) (Nat.le_of_ble_eq_true rfl)
  rw [lg_entry_eq]
  generalize (lg_sl ([.ref h0, .ref (nb (3 + 2 * 3)), .int 0]) ++ List.replicate (4 - (lg_sl ([.ref h0, .ref (nb (3 + 2 * 3)), .int 0])).length) Slot.unset).toArray = ls at hl ⊢
  have hl : lv_has ls 4 [(0, .ref h0), (1, .ref (nb (3 + 2 * 3))), (2, .int 0)] := hl
  generalize hHe : s.heap = H at hP hS ⊢
  have hS : va_S A s.heap H [] := by rw [hHe]; exact hS
  refine lv_aload_n hx hb dX5_stands_0 rfl (lv_at hl 0 rfl) ?_
  refine va_get (D := (dC, dI)) (ci := 5) (v := .int 0) (C := RX5) (T := TX5) (N := 11) hx hb hts inlX5 hown hK hP 0 rfl rfl 2 (by decide) (hts _ mw_148) (fun _ h9 => h9) rfl dX5_stands_1 ?_
  refine lv_iload_n hx hb dX5_stands_4 rfl (lv_at hl 2 rfl) ?_
  refine lv_isub hx hb dX5_stands_5 ?_
  refine my_topi (y := 0) (by decide) ?_
  refine lv_aload_n hx hb dX5_stands_6 rfl (lv_at hl 1 rfl) ?_
  have hPc := hP.sub (ws' := []) [] rfl
  have hDc := hD.sub (ws' := []) [] (by decide) rfl
  have hFc := va_free (wc := []) hD hS hA [] rfl
  refine va_calli (va_runV (As := []) (rest := [.int 0]) ⟨hx, hb, hml, hown, hts⟩ (c_strlen_3 l dC dI cy nb  H.size) (cwV 0 hts (gV mw_170 mw_171 mw_172 mw_173 mw_174) rfl rfl rfl (by decide +kernel) ⟨Nat.le_of_ble_eq_true rfl, Nat.le_of_ble_eq_true rfl⟩) ⟨fun a U g mk q => by obtain ⟨q0, q1, qP, qK, qD, qE⟩ := q; exact ⟨q0, q1, qP, va_K.moved (u := U) (U := U.calling g mk a) (Vm.Alike.refl U.vm) qK, qD, GE.calling qE⟩, my_recvO (hE.wh 3 rfl).1 hS, fun U hU hW => ⟨rfl, by rw [hU], by rw [hU]; exact hPc, va_K.moved hW.alike hK, hDc.weaken (fun _ _ _ _ => trivial), GE.call hE hS hFc hU hW⟩⟩ rfl rfl hl.1 rfl (lv_room (Nat.le_of_ble_eq_true rfl)) dX5_stands_7 ⟨Nat.le_of_ble_eq_true rfl, Nat.le_of_ble_eq_true rfl⟩) hS (fun q _ h => hFc q h) hFc (fun r u t H1 locs ht hvm hw1 hB hz1 hk1 hS => ?_)
  obtain ⟨hP1, hD1⟩ := hB
  rw [ht] at hP1
  obtain ⟨hP, hD⟩ := va_join (wr := [(h0, .inr (5, [.ref w1, .int 0, .int 0, .int 0, .int 0, .int 0, .ref w2, .ref w3, .ref w4, .int 0, .int 0]))]) (w1 := []) hP hD [] [0] rfl rfl (by decide) (by decide) hk1 hFc hP1 hD1
  generalize H1 = H at hP hS ⊢
  have hP : va_P (dC, dI) vwCl [(h0, .inr (5, [.ref w1, .int 0, .int 0, .int 0, .int 0, .int 0, .ref w2, .ref w3, .ref w4, .int 0, .int 0]))] H := hP
  have hD : va_D A [(h0, .inr (5, [.ref w1, .int 0, .int 0, .int 0, .int 0, .int 0, .ref w2, .ref w3, .ref w4, .int 0, .int 0]))] := hD
  obtain rfl := hw1
  refine W.widen (k := 0) (n := 0) (by omega) (by omega) ?_
  refine lv_icmp_eq (tgt := 15) hx hb dX5_stands_10 (by decide) (fun h => absurd h (by decide)) (fun _ => ?_)
  refine lv_iconst (v := 0) hx hb dX5_stands_13 (by decide) ?_
  have hP9 := hP.sub (ws' := [(h0, .inr (5, [.ref w1, .int 0, .int 0, .int 0, .int 0, .int 0, .ref w2, .ref w3, .ref w4, .int 0, .int 0]))]) [0] rfl
  have hD9 := hD.sub (ws' := [(h0, .inr (5, [.ref w1, .int 0, .int 0, .int 0, .int 0, .int 0, .ref w2, .ref w3, .ref w4, .int 0, .int 0]))]) [0] (by decide) rfl
  refine W.widen (k := 0) (n := 0) (by omega) (by omega) ?_
  exact W.zret (v := 0) hx hb hr (by rfl) (fun t ht hW => ⟨⟨0, (), rfl, rfl, by rw [ht]; exact hP9, hD9⟩, hS.F ht⟩) hS.2.2 dX5_stands_14
set_option maxHeartbeats 4000000 in
set_option maxRecDepth 100000 in
/-- X5_stands -/
theorem c_X5_stands_4 (l : Launch) (dC : Nat → ClassId) (dI : Nat → Nat → Nat) (cy : Nat → ClassId) (nb : Nat → Nat) (h0 : Nat) (w1 : Nat) (w2 : Nat) (w3 : Nat) (w4 : Nat) (sz : Nat) : Met l yX5_stands (wsg yX5_stands cX5_stands 4 (some .boolean)) ({ frames := 10, cells := 0, slots := 0, locals := 500 }) (va_Pc [.ref h0, .ref (nb (3 + 2 * 4)), .int 0] (fun U => U.heap.size = sz ∧ va_P (dC, dI) vwCl [(h0, .inr (5, [.ref w1, .int 0, .int 0, .int 0, .int 0, .int 0, .ref w2, .ref w3, .ref w4, .int 0, .int 0]))] U.heap ∧ va_K (dC, dI) vwCl (tyL cy) U ∧ va_D (fun _ => True) [(h0, .inr (5, [.ref w1, .int 0, .int 0, .int 0, .int 0, .int 0, .ref w2, .ref w3, .ref w4, .int 0, .int 0]))] ∧ GE nb (va_A [(h0, .inr (5, [.ref w1, .int 0, .int 0, .int 0, .int 0, .int 0, .ref w2, .ref w3, .ref w4, .int 0, .int 0]))] sz) U)) (va_Qi (fun (r : Int32) (_ : Unit) => r = 0) (fun _ t => va_P (dC, dI) vwCl [(h0, .inr (5, [.ref w1, .int 0, .int 0, .int 0, .int 0, .int 0, .ref w2, .ref w3, .ref w4, .int 0, .int 0]))] t.heap ∧ va_D (va_A [(h0, .inr (5, [.ref w1, .int 0, .int 0, .int 0, .int 0, .int 0, .ref w2, .ref w3, .ref w4, .int 0, .int 0]))] sz) [(h0, .inr (5, [.ref w1, .int 0, .int 0, .int 0, .int 0, .int 0, .ref w2, .ref w3, .ref w4, .int 0, .int 0]))]) (va_A [(h0, .inr (5, [.ref w1, .int 0, .int 0, .int 0, .int 0, .int 0, .ref w2, .ref w3, .ref w4, .int 0, .int 0]))] sz)) 0 0 (va_A [(h0, .inr (5, [.ref w1, .int 0, .int 0, .int 0, .int 0, .int 0, .ref w2, .ref w3, .ref w4, .int 0, .int 0]))] sz) := by
  refine Met.ofW (cc := cX5_stands) (maxL := 4) (ret := (some .boolean)) (by decide) rfl ?_
  intro p e s m args below meth c s₁ B hml hv
  obtain ⟨rfl, hsz, hP, hK, hD0, hE⟩ := hv
  have hx := B.exec
  have hb := B.bytes
  have hr := B.returns
  have hts0 := atoms_spec (ws := (wsg yX5_stands cX5_stands 4 (some .boolean))) B.pre
  have hts : ∀ w ∈ wsL_law, w.before _ s = true := fun w h => hts0 w (List.mem_cons_of_mem _ h)
  have hown : s.vm.findClass RX5 = some m.cls := findClass_of_methodNamed B.named
  have hlocks := B.notSynchronized
  subst hsz
  have hD := hD0.self (sz := s.heap.size)
  generalize hAe : va_A [(h0, .inr (5, [.ref w1, .int 0, .int 0, .int 0, .int 0, .int 0, .ref w2, .ref w3, .ref w4, .int 0, .int 0]))] s.heap.size = A at hD hE ⊢
  have hA : ∀ q : Nat, s.heap.size ≤ q → A q := fun q h => by rw [← hAe]; exact Or.inr h
  have hS : va_S A s.heap s.heap [] := va_S.rf
  have hP : va_P (dC, dI) vwCl [(h0, .inr (5, [.ref w1, .int 0, .int 0, .int 0, .int 0, .int 0, .ref w2, .ref w3, .ref w4, .int 0, .int 0]))] s.heap := hP
  have hl := lv_entry ([.ref h0, .ref (nb (3 + 2 * 4)), .int 0]) (n := 4) (Nat.le_of_ble_eq_true rfl)
  rw [lg_entry_eq]
  generalize (lg_sl ([.ref h0, .ref (nb (3 + 2 * 4)), .int 0]) ++ List.replicate (4 - (lg_sl ([.ref h0, .ref (nb (3 + 2 * 4)), .int 0])).length) Slot.unset).toArray = ls at hl ⊢
  have hl : lv_has ls 4 [(0, .ref h0), (1, .ref (nb (3 + 2 * 4))), (2, .int 0)] := hl
  generalize hHe : s.heap = H at hP hS ⊢
  have hS : va_S A s.heap H [] := by rw [hHe]; exact hS
  refine lv_aload_n hx hb dX5_stands_0 rfl (lv_at hl 0 rfl) ?_
  refine va_get (D := (dC, dI)) (ci := 5) (v := .int 0) (C := RX5) (T := TX5) (N := 11) hx hb hts inlX5 hown hK hP 0 rfl rfl 2 (by decide) (hts _ mw_148) (fun _ h9 => h9) rfl dX5_stands_1 ?_
  refine lv_iload_n hx hb dX5_stands_4 rfl (lv_at hl 2 rfl) ?_
  refine lv_isub hx hb dX5_stands_5 ?_
  refine my_topi (y := 0) (by decide) ?_
  refine lv_aload_n hx hb dX5_stands_6 rfl (lv_at hl 1 rfl) ?_
  have hPc := hP.sub (ws' := []) [] rfl
  have hDc := hD.sub (ws' := []) [] (by decide) rfl
  have hFc := va_free (wc := []) hD hS hA [] rfl
  refine va_calli (va_runV (As := []) (rest := [.int 0]) ⟨hx, hb, hml, hown, hts⟩ (c_strlen_4 l dC dI cy nb  H.size) (cwV 0 hts (gV mw_170 mw_171 mw_172 mw_173 mw_174) rfl rfl rfl (by decide +kernel) ⟨Nat.le_of_ble_eq_true rfl, Nat.le_of_ble_eq_true rfl⟩) ⟨fun a U g mk q => by obtain ⟨q0, q1, qP, qK, qD, qE⟩ := q; exact ⟨q0, q1, qP, va_K.moved (u := U) (U := U.calling g mk a) (Vm.Alike.refl U.vm) qK, qD, GE.calling qE⟩, my_recvO (hE.wh 4 rfl).1 hS, fun U hU hW => ⟨rfl, by rw [hU], by rw [hU]; exact hPc, va_K.moved hW.alike hK, hDc.weaken (fun _ _ _ _ => trivial), GE.call hE hS hFc hU hW⟩⟩ rfl rfl hl.1 rfl (lv_room (Nat.le_of_ble_eq_true rfl)) dX5_stands_7 ⟨Nat.le_of_ble_eq_true rfl, Nat.le_of_ble_eq_true rfl⟩) hS (fun q _ h => hFc q h) hFc (fun r u t H1 locs ht hvm hw1 hB hz1 hk1 hS => ?_)
  obtain ⟨hP1, hD1⟩ := hB
  rw [ht] at hP1
  obtain ⟨hP, hD⟩ := va_join (wr := [(h0, .inr (5, [.ref w1, .int 0, .int 0, .int 0, .int 0, .int 0, .ref w2, .ref w3, .ref w4, .int 0, .int 0]))]) (w1 := []) hP hD [] [0] rfl rfl (by decide) (by decide) hk1 hFc hP1 hD1
  generalize H1 = H at hP hS ⊢
  have hP : va_P (dC, dI) vwCl [(h0, .inr (5, [.ref w1, .int 0, .int 0, .int 0, .int 0, .int 0, .ref w2, .ref w3, .ref w4, .int 0, .int 0]))] H := hP
  have hD : va_D A [(h0, .inr (5, [.ref w1, .int 0, .int 0, .int 0, .int 0, .int 0, .ref w2, .ref w3, .ref w4, .int 0, .int 0]))] := hD
  obtain rfl := hw1
  refine W.widen (k := 0) (n := 0) (by omega) (by omega) ?_
  refine lv_icmp_eq (tgt := 15) hx hb dX5_stands_10 (by decide) (fun h => absurd h (by decide)) (fun _ => ?_)
  refine lv_iconst (v := 0) hx hb dX5_stands_13 (by decide) ?_
  have hP9 := hP.sub (ws' := [(h0, .inr (5, [.ref w1, .int 0, .int 0, .int 0, .int 0, .int 0, .ref w2, .ref w3, .ref w4, .int 0, .int 0]))]) [0] rfl
  have hD9 := hD.sub (ws' := [(h0, .inr (5, [.ref w1, .int 0, .int 0, .int 0, .int 0, .int 0, .ref w2, .ref w3, .ref w4, .int 0, .int 0]))]) [0] (by decide) rfl
  refine W.widen (k := 0) (n := 0) (by omega) (by omega) ?_
  exact W.zret (v := 0) hx hb hr (by rfl) (fun t ht hW => ⟨⟨0, (), rfl, rfl, by rw [ht]; exact hP9, hD9⟩, hS.F ht⟩) hS.2.2 dX5_stands_14
set_option maxHeartbeats 4000000 in
set_option maxRecDepth 100000 in
/-- X5_stands -/
theorem c_X5_stands_5 (l : Launch) (dC : Nat → ClassId) (dI : Nat → Nat → Nat) (cy : Nat → ClassId) (nb : Nat → Nat) (h0 : Nat) (w1 : Nat) (w2 : Nat) (w3 : Nat) (w4 : Nat) (sz : Nat) : Met l yX5_stands (wsg yX5_stands cX5_stands 4 (some .boolean)) ({ frames := 10, cells := 0, slots := 0, locals := 500 }) (va_Pc [.ref h0, .ref (nb (3 + 2 * 5)), .int 0] (fun U => U.heap.size = sz ∧ va_P (dC, dI) vwCl [(h0, .inr (5, [.ref w1, .int 0, .int 0, .int 0, .int 0, .int 0, .ref w2, .ref w3, .ref w4, .int 0, .int 0]))] U.heap ∧ va_K (dC, dI) vwCl (tyL cy) U ∧ va_D (fun _ => True) [(h0, .inr (5, [.ref w1, .int 0, .int 0, .int 0, .int 0, .int 0, .ref w2, .ref w3, .ref w4, .int 0, .int 0]))] ∧ GE nb (va_A [(h0, .inr (5, [.ref w1, .int 0, .int 0, .int 0, .int 0, .int 0, .ref w2, .ref w3, .ref w4, .int 0, .int 0]))] sz) U)) (va_Qi (fun (r : Int32) (_ : Unit) => r = 0) (fun _ t => va_P (dC, dI) vwCl [(h0, .inr (5, [.ref w1, .int 0, .int 0, .int 0, .int 0, .int 0, .ref w2, .ref w3, .ref w4, .int 0, .int 0]))] t.heap ∧ va_D (va_A [(h0, .inr (5, [.ref w1, .int 0, .int 0, .int 0, .int 0, .int 0, .ref w2, .ref w3, .ref w4, .int 0, .int 0]))] sz) [(h0, .inr (5, [.ref w1, .int 0, .int 0, .int 0, .int 0, .int 0, .ref w2, .ref w3, .ref w4, .int 0, .int 0]))]) (va_A [(h0, .inr (5, [.ref w1, .int 0, .int 0, .int 0, .int 0, .int 0, .ref w2, .ref w3, .ref w4, .int 0, .int 0]))] sz)) 0 0 (va_A [(h0, .inr (5, [.ref w1, .int 0, .int 0, .int 0, .int 0, .int 0, .ref w2, .ref w3, .ref w4, .int 0, .int 0]))] sz) := by
  refine Met.ofW (cc := cX5_stands) (maxL := 4) (ret := (some .boolean)) (by decide) rfl ?_
  intro p e s m args below meth c s₁ B hml hv
  obtain ⟨rfl, hsz, hP, hK, hD0, hE⟩ := hv
  have hx := B.exec
  have hb := B.bytes
  have hr := B.returns
  have hts0 := atoms_spec (ws := (wsg yX5_stands cX5_stands 4 (some .boolean))) B.pre
  have hts : ∀ w ∈ wsL_law, w.before _ s = true := fun w h => hts0 w (List.mem_cons_of_mem _ h)
  have hown : s.vm.findClass RX5 = some m.cls := findClass_of_methodNamed B.named
  have hlocks := B.notSynchronized
  subst hsz
  have hD := hD0.self (sz := s.heap.size)
  generalize hAe : va_A [(h0, .inr (5, [.ref w1, .int 0, .int 0, .int 0, .int 0, .int 0, .ref w2, .ref w3, .ref w4, .int 0, .int 0]))] s.heap.size = A at hD hE ⊢
  have hA : ∀ q : Nat, s.heap.size ≤ q → A q := fun q h => by rw [← hAe]; exact Or.inr h
  have hS : va_S A s.heap s.heap [] := va_S.rf
  have hP : va_P (dC, dI) vwCl [(h0, .inr (5, [.ref w1, .int 0, .int 0, .int 0, .int 0, .int 0, .ref w2, .ref w3, .ref w4, .int 0, .int 0]))] s.heap := hP
  have hl := lv_entry ([.ref h0, .ref (nb (3 + 2 * 5)), .int 0]) (n := 4) (Nat.le_of_ble_eq_true rfl)
  rw [lg_entry_eq]
  generalize (lg_sl ([.ref h0, .ref (nb (3 + 2 * 5)), .int 0]) ++ List.replicate (4 - (lg_sl ([.ref h0, .ref (nb (3 + 2 * 5)), .int 0])).length) Slot.unset).toArray = ls at hl ⊢
  have hl : lv_has ls 4 [(0, .ref h0), (1, .ref (nb (3 + 2 * 5))), (2, .int 0)] := hl
  generalize hHe : s.heap = H at hP hS ⊢
  have hS : va_S A s.heap H [] := by rw [hHe]; exact hS
  refine lv_aload_n hx hb dX5_stands_0 rfl (lv_at hl 0 rfl) ?_
  refine va_get (D := (dC, dI)) (ci := 5) (v := .int 0) (C := RX5) (T := TX5) (N := 11) hx hb hts inlX5 hown hK hP 0 rfl rfl 2 (by decide) (hts _ mw_148) (fun _ h9 => h9) rfl dX5_stands_1 ?_
  refine lv_iload_n hx hb dX5_stands_4 rfl (lv_at hl 2 rfl) ?_
  refine lv_isub hx hb dX5_stands_5 ?_
  refine my_topi (y := 0) (by decide) ?_
  refine lv_aload_n hx hb dX5_stands_6 rfl (lv_at hl 1 rfl) ?_
  have hPc := hP.sub (ws' := []) [] rfl
  have hDc := hD.sub (ws' := []) [] (by decide) rfl
  have hFc := va_free (wc := []) hD hS hA [] rfl
  refine va_calli (va_runV (As := []) (rest := [.int 0]) ⟨hx, hb, hml, hown, hts⟩ (c_strlen_5 l dC dI cy nb  H.size) (cwV 0 hts (gV mw_170 mw_171 mw_172 mw_173 mw_174) rfl rfl rfl (by decide +kernel) ⟨Nat.le_of_ble_eq_true rfl, Nat.le_of_ble_eq_true rfl⟩) ⟨fun a U g mk q => by obtain ⟨q0, q1, qP, qK, qD, qE⟩ := q; exact ⟨q0, q1, qP, va_K.moved (u := U) (U := U.calling g mk a) (Vm.Alike.refl U.vm) qK, qD, GE.calling qE⟩, my_recvO (hE.wh 5 rfl).1 hS, fun U hU hW => ⟨rfl, by rw [hU], by rw [hU]; exact hPc, va_K.moved hW.alike hK, hDc.weaken (fun _ _ _ _ => trivial), GE.call hE hS hFc hU hW⟩⟩ rfl rfl hl.1 rfl (lv_room (Nat.le_of_ble_eq_true rfl)) dX5_stands_7 ⟨Nat.le_of_ble_eq_true rfl, Nat.le_of_ble_eq_true rfl⟩) hS (fun q _ h => hFc q h) hFc (fun r u t H1 locs ht hvm hw1 hB hz1 hk1 hS => ?_)
  obtain ⟨hP1, hD1⟩ := hB
  rw [ht] at hP1
  obtain ⟨hP, hD⟩ := va_join (wr := [(h0, .inr (5, [.ref w1, .int 0, .int 0, .int 0, .int 0, .int 0, .ref w2, .ref w3, .ref w4, .int 0, .int 0]))]) (w1 := []) hP hD [] [0] rfl rfl (by decide) (by decide) hk1 hFc hP1 hD1
  generalize H1 = H at hP hS ⊢
  have hP : va_P (dC, dI) vwCl [(h0, .inr (5, [.ref w1, .int 0, .int 0, .int 0, .int 0, .int 0, .ref w2, .ref w3, .ref w4, .int 0, .int 0]))] H := hP
  have hD : va_D A [(h0, .inr (5, [.ref w1, .int 0, .int 0, .int 0, .int 0, .int 0, .ref w2, .ref w3, .ref w4, .int 0, .int 0]))] := hD
  obtain rfl := hw1
  refine W.widen (k := 0) (n := 0) (by omega) (by omega) ?_
  refine lv_icmp_eq (tgt := 15) hx hb dX5_stands_10 (by decide) (fun h => absurd h (by decide)) (fun _ => ?_)
  refine lv_iconst (v := 0) hx hb dX5_stands_13 (by decide) ?_
  have hP9 := hP.sub (ws' := [(h0, .inr (5, [.ref w1, .int 0, .int 0, .int 0, .int 0, .int 0, .ref w2, .ref w3, .ref w4, .int 0, .int 0]))]) [0] rfl
  have hD9 := hD.sub (ws' := [(h0, .inr (5, [.ref w1, .int 0, .int 0, .int 0, .int 0, .int 0, .ref w2, .ref w3, .ref w4, .int 0, .int 0]))]) [0] (by decide) rfl
  refine W.widen (k := 0) (n := 0) (by omega) (by omega) ?_
  exact W.zret (v := 0) hx hb hr (by rfl) (fun t ht hW => ⟨⟨0, (), rfl, rfl, by rw [ht]; exact hP9, hD9⟩, hS.F ht⟩) hS.2.2 dX5_stands_14
set_option maxHeartbeats 4000000 in
set_option maxRecDepth 100000 in
/-- X5_stands -/
theorem c_X5_stands_6 (l : Launch) (dC : Nat → ClassId) (dI : Nat → Nat → Nat) (cy : Nat → ClassId) (nb : Nat → Nat) (h0 : Nat) (w1 : Nat) (w2 : Nat) (w3 : Nat) (w4 : Nat) (sz : Nat) : Met l yX5_stands (wsg yX5_stands cX5_stands 4 (some .boolean)) ({ frames := 10, cells := 0, slots := 0, locals := 500 }) (va_Pc [.ref h0, .ref (nb (3 + 2 * 6)), .int 0] (fun U => U.heap.size = sz ∧ va_P (dC, dI) vwCl [(h0, .inr (5, [.ref w1, .int 0, .int 0, .int 0, .int 0, .int 0, .ref w2, .ref w3, .ref w4, .int 0, .int 0]))] U.heap ∧ va_K (dC, dI) vwCl (tyL cy) U ∧ va_D (fun _ => True) [(h0, .inr (5, [.ref w1, .int 0, .int 0, .int 0, .int 0, .int 0, .ref w2, .ref w3, .ref w4, .int 0, .int 0]))] ∧ GE nb (va_A [(h0, .inr (5, [.ref w1, .int 0, .int 0, .int 0, .int 0, .int 0, .ref w2, .ref w3, .ref w4, .int 0, .int 0]))] sz) U)) (va_Qi (fun (r : Int32) (_ : Unit) => r = 0) (fun _ t => va_P (dC, dI) vwCl [(h0, .inr (5, [.ref w1, .int 0, .int 0, .int 0, .int 0, .int 0, .ref w2, .ref w3, .ref w4, .int 0, .int 0]))] t.heap ∧ va_D (va_A [(h0, .inr (5, [.ref w1, .int 0, .int 0, .int 0, .int 0, .int 0, .ref w2, .ref w3, .ref w4, .int 0, .int 0]))] sz) [(h0, .inr (5, [.ref w1, .int 0, .int 0, .int 0, .int 0, .int 0, .ref w2, .ref w3, .ref w4, .int 0, .int 0]))]) (va_A [(h0, .inr (5, [.ref w1, .int 0, .int 0, .int 0, .int 0, .int 0, .ref w2, .ref w3, .ref w4, .int 0, .int 0]))] sz)) 0 0 (va_A [(h0, .inr (5, [.ref w1, .int 0, .int 0, .int 0, .int 0, .int 0, .ref w2, .ref w3, .ref w4, .int 0, .int 0]))] sz) := by
  refine Met.ofW (cc := cX5_stands) (maxL := 4) (ret := (some .boolean)) (by decide) rfl ?_
  intro p e s m args below meth c s₁ B hml hv
  obtain ⟨rfl, hsz, hP, hK, hD0, hE⟩ := hv
  have hx := B.exec
  have hb := B.bytes
  have hr := B.returns
  have hts0 := atoms_spec (ws := (wsg yX5_stands cX5_stands 4 (some .boolean))) B.pre
  have hts : ∀ w ∈ wsL_law, w.before _ s = true := fun w h => hts0 w (List.mem_cons_of_mem _ h)
  have hown : s.vm.findClass RX5 = some m.cls := findClass_of_methodNamed B.named
  have hlocks := B.notSynchronized
  subst hsz
  have hD := hD0.self (sz := s.heap.size)
  generalize hAe : va_A [(h0, .inr (5, [.ref w1, .int 0, .int 0, .int 0, .int 0, .int 0, .ref w2, .ref w3, .ref w4, .int 0, .int 0]))] s.heap.size = A at hD hE ⊢
  have hA : ∀ q : Nat, s.heap.size ≤ q → A q := fun q h => by rw [← hAe]; exact Or.inr h
  have hS : va_S A s.heap s.heap [] := va_S.rf
  have hP : va_P (dC, dI) vwCl [(h0, .inr (5, [.ref w1, .int 0, .int 0, .int 0, .int 0, .int 0, .ref w2, .ref w3, .ref w4, .int 0, .int 0]))] s.heap := hP
  have hl := lv_entry ([.ref h0, .ref (nb (3 + 2 * 6)), .int 0]) (n := 4) (Nat.le_of_ble_eq_true rfl)
  rw [lg_entry_eq]
  generalize (lg_sl ([.ref h0, .ref (nb (3 + 2 * 6)), .int 0]) ++ List.replicate (4 - (lg_sl ([.ref h0, .ref (nb (3 + 2 * 6)), .int 0])).length) Slot.unset).toArray = ls at hl ⊢
  have hl : lv_has ls 4 [(0, .ref h0), (1, .ref (nb (3 + 2 * 6))), (2, .int 0)] := hl
  generalize hHe : s.heap = H at hP hS ⊢
  have hS : va_S A s.heap H [] := by rw [hHe]; exact hS
  refine lv_aload_n hx hb dX5_stands_0 rfl (lv_at hl 0 rfl) ?_
  refine va_get (D := (dC, dI)) (ci := 5) (v := .int 0) (C := RX5) (T := TX5) (N := 11) hx hb hts inlX5 hown hK hP 0 rfl rfl 2 (by decide) (hts _ mw_148) (fun _ h9 => h9) rfl dX5_stands_1 ?_
  refine lv_iload_n hx hb dX5_stands_4 rfl (lv_at hl 2 rfl) ?_
  refine lv_isub hx hb dX5_stands_5 ?_
  refine my_topi (y := 0) (by decide) ?_
  refine lv_aload_n hx hb dX5_stands_6 rfl (lv_at hl 1 rfl) ?_
  have hPc := hP.sub (ws' := []) [] rfl
  have hDc := hD.sub (ws' := []) [] (by decide) rfl
  have hFc := va_free (wc := []) hD hS hA [] rfl
  refine va_calli (va_runV (As := []) (rest := [.int 0]) ⟨hx, hb, hml, hown, hts⟩ (c_strlen_6 l dC dI cy nb  H.size) (cwV 0 hts (gV mw_170 mw_171 mw_172 mw_173 mw_174) rfl rfl rfl (by decide +kernel) ⟨Nat.le_of_ble_eq_true rfl, Nat.le_of_ble_eq_true rfl⟩) ⟨fun a U g mk q => by obtain ⟨q0, q1, qP, qK, qD, qE⟩ := q; exact ⟨q0, q1, qP, va_K.moved (u := U) (U := U.calling g mk a) (Vm.Alike.refl U.vm) qK, qD, GE.calling qE⟩, my_recvO (hE.wh 6 rfl).1 hS, fun U hU hW => ⟨rfl, by rw [hU], by rw [hU]; exact hPc, va_K.moved hW.alike hK, hDc.weaken (fun _ _ _ _ => trivial), GE.call hE hS hFc hU hW⟩⟩ rfl rfl hl.1 rfl (lv_room (Nat.le_of_ble_eq_true rfl)) dX5_stands_7 ⟨Nat.le_of_ble_eq_true rfl, Nat.le_of_ble_eq_true rfl⟩) hS (fun q _ h => hFc q h) hFc (fun r u t H1 locs ht hvm hw1 hB hz1 hk1 hS => ?_)
  obtain ⟨hP1, hD1⟩ := hB
  rw [ht] at hP1
  obtain ⟨hP, hD⟩ := va_join (wr := [(h0, .inr (5, [.ref w1, .int 0, .int 0, .int 0, .int 0, .int 0, .ref w2, .ref w3, .ref w4, .int 0, .int 0]))]) (w1 := []) hP hD [] [0] rfl rfl (by decide) (by decide) hk1 hFc hP1 hD1
  generalize H1 = H at hP hS ⊢
  have hP : va_P (dC, dI) vwCl [(h0, .inr (5, [.ref w1, .int 0, .int 0, .int 0, .int 0, .int 0, .ref w2, .ref w3, .ref w4, .int 0, .int 0]))] H := hP
  have hD : va_D A [(h0, .inr (5, [.ref w1, .int 0, .int 0, .int 0, .int 0, .int 0, .ref w2, .ref w3, .ref w4, .int 0, .int 0]))] := hD
  obtain rfl := hw1
  refine W.widen (k := 0) (n := 0) (by omega) (by omega) ?_
  refine lv_icmp_eq (tgt := 15) hx hb dX5_stands_10 (by decide) (fun h => absurd h (by decide)) (fun _ => ?_)
  refine lv_iconst (v := 0) hx hb dX5_stands_13 (by decide) ?_
  have hP9 := hP.sub (ws' := [(h0, .inr (5, [.ref w1, .int 0, .int 0, .int 0, .int 0, .int 0, .ref w2, .ref w3, .ref w4, .int 0, .int 0]))]) [0] rfl
  have hD9 := hD.sub (ws' := [(h0, .inr (5, [.ref w1, .int 0, .int 0, .int 0, .int 0, .int 0, .ref w2, .ref w3, .ref w4, .int 0, .int 0]))]) [0] (by decide) rfl
  refine W.widen (k := 0) (n := 0) (by omega) (by omega) ?_
  exact W.zret (v := 0) hx hb hr (by rfl) (fun t ht hW => ⟨⟨0, (), rfl, rfl, by rw [ht]; exact hP9, hD9⟩, hS.F ht⟩) hS.2.2 dX5_stands_14
set_option maxHeartbeats 4000000 in
set_option maxRecDepth 100000 in
/-- X5_stands -/
theorem c_X5_stands_7 (l : Launch) (dC : Nat → ClassId) (dI : Nat → Nat → Nat) (cy : Nat → ClassId) (nb : Nat → Nat) (h0 : Nat) (w1 : Nat) (w2 : Nat) (w3 : Nat) (w4 : Nat) (sz : Nat) : Met l yX5_stands (wsg yX5_stands cX5_stands 4 (some .boolean)) ({ frames := 10, cells := 0, slots := 0, locals := 500 }) (va_Pc [.ref h0, .ref (nb (3 + 2 * 7)), .int 0] (fun U => U.heap.size = sz ∧ va_P (dC, dI) vwCl [(h0, .inr (5, [.ref w1, .int 0, .int 0, .int 0, .int 0, .int 0, .ref w2, .ref w3, .ref w4, .int 0, .int 0]))] U.heap ∧ va_K (dC, dI) vwCl (tyL cy) U ∧ va_D (fun _ => True) [(h0, .inr (5, [.ref w1, .int 0, .int 0, .int 0, .int 0, .int 0, .ref w2, .ref w3, .ref w4, .int 0, .int 0]))] ∧ GE nb (va_A [(h0, .inr (5, [.ref w1, .int 0, .int 0, .int 0, .int 0, .int 0, .ref w2, .ref w3, .ref w4, .int 0, .int 0]))] sz) U)) (va_Qi (fun (r : Int32) (_ : Unit) => r = 0) (fun _ t => va_P (dC, dI) vwCl [(h0, .inr (5, [.ref w1, .int 0, .int 0, .int 0, .int 0, .int 0, .ref w2, .ref w3, .ref w4, .int 0, .int 0]))] t.heap ∧ va_D (va_A [(h0, .inr (5, [.ref w1, .int 0, .int 0, .int 0, .int 0, .int 0, .ref w2, .ref w3, .ref w4, .int 0, .int 0]))] sz) [(h0, .inr (5, [.ref w1, .int 0, .int 0, .int 0, .int 0, .int 0, .ref w2, .ref w3, .ref w4, .int 0, .int 0]))]) (va_A [(h0, .inr (5, [.ref w1, .int 0, .int 0, .int 0, .int 0, .int 0, .ref w2, .ref w3, .ref w4, .int 0, .int 0]))] sz)) 0 0 (va_A [(h0, .inr (5, [.ref w1, .int 0, .int 0, .int 0, .int 0, .int 0, .ref w2, .ref w3, .ref w4, .int 0, .int 0]))] sz) := by
  refine Met.ofW (cc := cX5_stands) (maxL := 4) (ret := (some .boolean)) (by decide) rfl ?_
  intro p e s m args below meth c s₁ B hml hv
  obtain ⟨rfl, hsz, hP, hK, hD0, hE⟩ := hv
  have hx := B.exec
  have hb := B.bytes
  have hr := B.returns
  have hts0 := atoms_spec (ws := (wsg yX5_stands cX5_stands 4 (some .boolean))) B.pre
  have hts : ∀ w ∈ wsL_law, w.before _ s = true := fun w h => hts0 w (List.mem_cons_of_mem _ h)
  have hown : s.vm.findClass RX5 = some m.cls := findClass_of_methodNamed B.named
  have hlocks := B.notSynchronized
  subst hsz
  have hD := hD0.self (sz := s.heap.size)
  generalize hAe : va_A [(h0, .inr (5, [.ref w1, .int 0, .int 0, .int 0, .int 0, .int 0, .ref w2, .ref w3, .ref w4, .int 0, .int 0]))] s.heap.size = A at hD hE ⊢
  have hA : ∀ q : Nat, s.heap.size ≤ q → A q := fun q h => by rw [← hAe]; exact Or.inr h
  have hS : va_S A s.heap s.heap [] := va_S.rf
  have hP : va_P (dC, dI) vwCl [(h0, .inr (5, [.ref w1, .int 0, .int 0, .int 0, .int 0, .int 0, .ref w2, .ref w3, .ref w4, .int 0, .int 0]))] s.heap := hP
  have hl := lv_entry ([.ref h0, .ref (nb (3 + 2 * 7)), .int 0]) (n := 4) (Nat.le_of_ble_eq_true rfl)
  rw [lg_entry_eq]
  generalize (lg_sl ([.ref h0, .ref (nb (3 + 2 * 7)), .int 0]) ++ List.replicate (4 - (lg_sl ([.ref h0, .ref (nb (3 + 2 * 7)), .int 0])).length) Slot.unset).toArray = ls at hl ⊢
  have hl : lv_has ls 4 [(0, .ref h0), (1, .ref (nb (3 + 2 * 7))), (2, .int 0)] := hl
  generalize hHe : s.heap = H at hP hS ⊢
  have hS : va_S A s.heap H [] := by rw [hHe]; exact hS
  refine lv_aload_n hx hb dX5_stands_0 rfl (lv_at hl 0 rfl) ?_
  refine va_get (D := (dC, dI)) (ci := 5) (v := .int 0) (C := RX5) (T := TX5) (N := 11) hx hb hts inlX5 hown hK hP 0 rfl rfl 2 (by decide) (hts _ mw_148) (fun _ h9 => h9) rfl dX5_stands_1 ?_
  refine lv_iload_n hx hb dX5_stands_4 rfl (lv_at hl 2 rfl) ?_
  refine lv_isub hx hb dX5_stands_5 ?_
  refine my_topi (y := 0) (by decide) ?_
  refine lv_aload_n hx hb dX5_stands_6 rfl (lv_at hl 1 rfl) ?_
  have hPc := hP.sub (ws' := []) [] rfl
  have hDc := hD.sub (ws' := []) [] (by decide) rfl
  have hFc := va_free (wc := []) hD hS hA [] rfl
  refine va_calli (va_runV (As := []) (rest := [.int 0]) ⟨hx, hb, hml, hown, hts⟩ (c_strlen_7 l dC dI cy nb  H.size) (cwV 0 hts (gV mw_170 mw_171 mw_172 mw_173 mw_174) rfl rfl rfl (by decide +kernel) ⟨Nat.le_of_ble_eq_true rfl, Nat.le_of_ble_eq_true rfl⟩) ⟨fun a U g mk q => by obtain ⟨q0, q1, qP, qK, qD, qE⟩ := q; exact ⟨q0, q1, qP, va_K.moved (u := U) (U := U.calling g mk a) (Vm.Alike.refl U.vm) qK, qD, GE.calling qE⟩, my_recvO (hE.wh 7 rfl).1 hS, fun U hU hW => ⟨rfl, by rw [hU], by rw [hU]; exact hPc, va_K.moved hW.alike hK, hDc.weaken (fun _ _ _ _ => trivial), GE.call hE hS hFc hU hW⟩⟩ rfl rfl hl.1 rfl (lv_room (Nat.le_of_ble_eq_true rfl)) dX5_stands_7 ⟨Nat.le_of_ble_eq_true rfl, Nat.le_of_ble_eq_true rfl⟩) hS (fun q _ h => hFc q h) hFc (fun r u t H1 locs ht hvm hw1 hB hz1 hk1 hS => ?_)
  obtain ⟨hP1, hD1⟩ := hB
  rw [ht] at hP1
  obtain ⟨hP, hD⟩ := va_join (wr := [(h0, .inr (5, [.ref w1, .int 0, .int 0, .int 0, .int 0, .int 0, .ref w2, .ref w3, .ref w4, .int 0, .int 0]))]) (w1 := []) hP hD [] [0] rfl rfl (by decide) (by decide) hk1 hFc hP1 hD1
  generalize H1 = H at hP hS ⊢
  have hP : va_P (dC, dI) vwCl [(h0, .inr (5, [.ref w1, .int 0, .int 0, .int 0, .int 0, .int 0, .ref w2, .ref w3, .ref w4, .int 0, .int 0]))] H := hP
  have hD : va_D A [(h0, .inr (5, [.ref w1, .int 0, .int 0, .int 0, .int 0, .int 0, .ref w2, .ref w3, .ref w4, .int 0, .int 0]))] := hD
  obtain rfl := hw1
  refine W.widen (k := 0) (n := 0) (by omega) (by omega) ?_
  refine lv_icmp_eq (tgt := 15) hx hb dX5_stands_10 (by decide) (fun h => absurd h (by decide)) (fun _ => ?_)
  refine lv_iconst (v := 0) hx hb dX5_stands_13 (by decide) ?_
  have hP9 := hP.sub (ws' := [(h0, .inr (5, [.ref w1, .int 0, .int 0, .int 0, .int 0, .int 0, .ref w2, .ref w3, .ref w4, .int 0, .int 0]))]) [0] rfl
  have hD9 := hD.sub (ws' := [(h0, .inr (5, [.ref w1, .int 0, .int 0, .int 0, .int 0, .int 0, .ref w2, .ref w3, .ref w4, .int 0, .int 0]))]) [0] (by decide) rfl
  refine W.widen (k := 0) (n := 0) (by omega) (by omega) ?_
  exact W.zret (v := 0) hx hb hr (by rfl) (fun t ht hW => ⟨⟨0, (), rfl, rfl, by rw [ht]; exact hP9, hD9⟩, hS.F ht⟩) hS.2.2 dX5_stands_14
set_option maxHeartbeats 4000000 in
set_option maxRecDepth 100000 in
/-- X5_readWord -/
theorem c_X5_readWord (l : Launch) (dC : Nat → ClassId) (dI : Nat → Nat → Nat) (cy : Nat → ClassId) (nb : Nat → Nat) (h0 : Nat) (w1 : Nat) (w2 : Nat) (w3 : Nat) (w4 : Nat) (sz : Nat) : Met l yX5_readWord (wsg yX5_readWord cX5_readWord 2 (some .int)) ({ frames := 11, cells := 0, slots := 0, locals := 600 }) (va_Pc [.ref h0] (fun U => U.heap.size = sz ∧ va_P (dC, dI) vwCl [(h0, .inr (5, [.ref w1, .int 0, .int 0, .int 0, .int 0, .int 0, .ref w2, .ref w3, .ref w4, .int 0, .int 0]))] U.heap ∧ va_K (dC, dI) vwCl (tyL cy) U ∧ va_D (fun _ => True) [(h0, .inr (5, [.ref w1, .int 0, .int 0, .int 0, .int 0, .int 0, .ref w2, .ref w3, .ref w4, .int 0, .int 0]))] ∧ GE nb (va_A [(h0, .inr (5, [.ref w1, .int 0, .int 0, .int 0, .int 0, .int 0, .ref w2, .ref w3, .ref w4, .int 0, .int 0]))] sz) U)) (va_Qi (fun (r : Int32) (_ : Unit) => r = (-1)) (fun _ t => va_P (dC, dI) vwCl [(h0, .inr (5, [.ref w1, .int 0, .int 0, .int 0, .int 0, .int 0, .ref w2, .ref w3, .ref w4, .int 0, .int 0]))] t.heap ∧ va_D (va_A [(h0, .inr (5, [.ref w1, .int 0, .int 0, .int 0, .int 0, .int 0, .ref w2, .ref w3, .ref w4, .int 0, .int 0]))] sz) [(h0, .inr (5, [.ref w1, .int 0, .int 0, .int 0, .int 0, .int 0, .ref w2, .ref w3, .ref w4, .int 0, .int 0]))]) (va_A [(h0, .inr (5, [.ref w1, .int 0, .int 0, .int 0, .int 0, .int 0, .ref w2, .ref w3, .ref w4, .int 0, .int 0]))] sz)) 0 0 (va_A [(h0, .inr (5, [.ref w1, .int 0, .int 0, .int 0, .int 0, .int 0, .ref w2, .ref w3, .ref w4, .int 0, .int 0]))] sz) := by
  refine Met.ofW (cc := cX5_readWord) (maxL := 2) (ret := (some .int)) (by decide) rfl ?_
  intro p e s m args below meth c s₁ B hml hv
  obtain ⟨rfl, hsz, hP, hK, hD0, hE⟩ := hv
  have hx := B.exec
  have hb := B.bytes
  have hr := B.returns
  have hts0 := atoms_spec (ws := (wsg yX5_readWord cX5_readWord 2 (some .int))) B.pre
  have hts : ∀ w ∈ wsL_law, w.before _ s = true := fun w h => hts0 w (List.mem_cons_of_mem _ h)
  have hown : s.vm.findClass RX5 = some m.cls := findClass_of_methodNamed B.named
  have hlocks := B.notSynchronized
  subst hsz
  have hD := hD0.self (sz := s.heap.size)
  generalize hAe : va_A [(h0, .inr (5, [.ref w1, .int 0, .int 0, .int 0, .int 0, .int 0, .ref w2, .ref w3, .ref w4, .int 0, .int 0]))] s.heap.size = A at hD hE ⊢
  have hA : ∀ q : Nat, s.heap.size ≤ q → A q := fun q h => by rw [← hAe]; exact Or.inr h
  have hS : va_S A s.heap s.heap [] := va_S.rf
  have hP : va_P (dC, dI) vwCl [(h0, .inr (5, [.ref w1, .int 0, .int 0, .int 0, .int 0, .int 0, .ref w2, .ref w3, .ref w4, .int 0, .int 0]))] s.heap := hP
  have hl := lv_entry ([.ref h0]) (n := 2) (Nat.le_of_ble_eq_true rfl)
  rw [lg_entry_eq]
  generalize (lg_sl ([.ref h0]) ++ List.replicate (2 - (lg_sl ([.ref h0])).length) Slot.unset).toArray = ls at hl ⊢
  have hl : lv_has ls 2 [(0, .ref h0)] := hl
  generalize hHe : s.heap = H at hP hS ⊢
  have hS : va_S A s.heap H [] := by rw [hHe]; exact hS
  refine lv_aload_n hx hb dX5_readWord_0 rfl (lv_at hl 0 rfl) ?_
  refine va_get (D := (dC, dI)) (ci := 5) (v := .int 0) (C := RX5) (T := TX5) (N := 11) hx hb hts inlX5 hown hK hP 0 rfl rfl 2 (by decide) (hts _ mw_148) (fun _ h9 => h9) rfl dX5_readWord_1 ?_
  refine lv_istore_n (lv' := [(1, .int 0), (0, .ref h0)]) hx hb dX5_readWord_4 rfl hl (by decide) rfl (fun ls hl => ?_)
  refine lv_aload_n hx hb dX5_readWord_5 rfl (lv_at hl 1 rfl) ?_
  refine va_get (D := (dC, dI)) (ci := 5) (v := .int 0) (C := RX5) (T := TX5) (N := 11) hx hb hts inlX5 hown hK hP 0 rfl rfl 2 (by decide) (hts _ mw_148) (fun _ h9 => h9) rfl dX5_readWord_6 ?_
  refine lv_aload_n hx hb dX5_readWord_9 rfl (lv_at hl 1 rfl) ?_
  refine va_get (D := (dC, dI)) (ci := 5) (v := .int 0) (C := RX5) (T := TX5) (N := 11) hx hb hts inlX5 hown hK hP 0 rfl rfl 1 (by decide) (hts _ mw_122) (fun _ h9 => h9) rfl dX5_readWord_10 ?_
  refine lv_icmp_ge (tgt := 44) hx hb dX5_readWord_13 (by decide) (fun _ => ?_) (fun h => absurd (by decide) h)
  refine lv_aload_n hx hb dX5_readWord_44 rfl (lv_at hl 1 rfl) ?_
  refine va_ldcS hx hb hown (hE.wr 0 rfl) dX5_readWord_45 ?_
  refine lv_iload_n hx hb dX5_readWord_47 rfl (lv_at hl 0 rfl) ?_
  have hPc := hP.sub (ws' := [(h0, .inr (5, [.ref w1, .int 0, .int 0, .int 0, .int 0, .int 0, .ref w2, .ref w3, .ref w4, .int 0, .int 0]))]) [0] rfl
  have hDc := hD.sub (ws' := [(h0, .inr (5, [.ref w1, .int 0, .int 0, .int 0, .int 0, .int 0, .ref w2, .ref w3, .ref w4, .int 0, .int 0]))]) [0] (by decide) rfl
  have hFc := va_free (wc := [(h0, .inr (5, [.ref w1, .int 0, .int 0, .int 0, .int 0, .int 0, .ref w2, .ref w3, .ref w4, .int 0, .int 0]))]) hD hS hA [0] rfl
  refine va_calli (va_runV (As := [.ref (nb (3 + 2 * 0)), .int 0]) (rest := []) ⟨hx, hb, hml, hown, hts⟩ (c_X5_stands_0 l dC dI cy nb h0 w1 w2 w3 w4 H.size) (cwV 2 hts (gV mw_166 mw_167 mw_168 mw_22 mw_169) rfl rfl rfl (by decide +kernel) ⟨Nat.le_of_ble_eq_true rfl, Nat.le_of_ble_eq_true rfl⟩) ⟨fun a U g mk q => by obtain ⟨q0, q1, qP, qK, qD, qE⟩ := q; exact ⟨q0, q1, qP, va_K.moved (u := U) (U := U.calling g mk a) (Vm.Alike.refl U.vm) qK, qD, GE.calling qE⟩, va_recv hK hP (ci := 5) (q0 := 0) rfl rfl, fun U hU hW => ⟨rfl, by rw [hU], by rw [hU]; exact hPc, va_K.moved hW.alike hK, hDc.weaken (fun _ _ _ _ => trivial), GE.call hE hS hFc hU hW⟩⟩ rfl rfl hl.1 rfl (lv_room (Nat.le_of_ble_eq_true rfl)) dX5_readWord_48 ⟨Nat.le_of_ble_eq_true rfl, Nat.le_of_ble_eq_true rfl⟩) hS (fun q _ h => hFc q h) hFc (fun r u t H1 locs ht hvm hw1 hB hz1 hk1 hS => ?_)
  obtain ⟨hP1, hD1⟩ := hB
  rw [ht] at hP1
  obtain ⟨hP, hD⟩ := va_join (wr := []) (w1 := [(h0, .inr (5, [.ref w1, .int 0, .int 0, .int 0, .int 0, .int 0, .ref w2, .ref w3, .ref w4, .int 0, .int 0]))]) hP hD [0] [] rfl rfl (by decide) (by decide) hk1 hFc hP1 hD1
  generalize H1 = H at hP hS ⊢
  have hP : va_P (dC, dI) vwCl [(h0, .inr (5, [.ref w1, .int 0, .int 0, .int 0, .int 0, .int 0, .ref w2, .ref w3, .ref w4, .int 0, .int 0]))] H := hP
  have hD : va_D A [(h0, .inr (5, [.ref w1, .int 0, .int 0, .int 0, .int 0, .int 0, .ref w2, .ref w3, .ref w4, .int 0, .int 0]))] := hD
  obtain rfl := hw1
  refine W.widen (k := 0) (n := 0) (by omega) (by omega) ?_
  refine lv_if_eq (tgt := 56) hx hb dX5_readWord_51 (by decide) (fun _ => ?_) (fun h => absurd (by decide) h)
  refine lv_aload_n hx hb dX5_readWord_56 rfl (lv_at hl 1 rfl) ?_
  refine va_ldcS hx hb hown (hE.wr 1 rfl) dX5_readWord_57 ?_
  refine lv_iload_n hx hb dX5_readWord_59 rfl (lv_at hl 0 rfl) ?_
  have hPc := hP.sub (ws' := [(h0, .inr (5, [.ref w1, .int 0, .int 0, .int 0, .int 0, .int 0, .ref w2, .ref w3, .ref w4, .int 0, .int 0]))]) [0] rfl
  have hDc := hD.sub (ws' := [(h0, .inr (5, [.ref w1, .int 0, .int 0, .int 0, .int 0, .int 0, .ref w2, .ref w3, .ref w4, .int 0, .int 0]))]) [0] (by decide) rfl
  have hFc := va_free (wc := [(h0, .inr (5, [.ref w1, .int 0, .int 0, .int 0, .int 0, .int 0, .ref w2, .ref w3, .ref w4, .int 0, .int 0]))]) hD hS hA [0] rfl
  refine va_calli (va_runV (As := [.ref (nb (3 + 2 * 1)), .int 0]) (rest := []) ⟨hx, hb, hml, hown, hts⟩ (c_X5_stands_1 l dC dI cy nb h0 w1 w2 w3 w4 H.size) (cwV 2 hts (gV mw_166 mw_167 mw_168 mw_22 mw_169) rfl rfl rfl (by decide +kernel) ⟨Nat.le_of_ble_eq_true rfl, Nat.le_of_ble_eq_true rfl⟩) ⟨fun a U g mk q => by obtain ⟨q0, q1, qP, qK, qD, qE⟩ := q; exact ⟨q0, q1, qP, va_K.moved (u := U) (U := U.calling g mk a) (Vm.Alike.refl U.vm) qK, qD, GE.calling qE⟩, va_recv hK hP (ci := 5) (q0 := 0) rfl rfl, fun U hU hW => ⟨rfl, by rw [hU], by rw [hU]; exact hPc, va_K.moved hW.alike hK, hDc.weaken (fun _ _ _ _ => trivial), GE.call hE hS hFc hU hW⟩⟩ rfl rfl hl.1 rfl (lv_room (Nat.le_of_ble_eq_true rfl)) dX5_readWord_60 ⟨Nat.le_of_ble_eq_true rfl, Nat.le_of_ble_eq_true rfl⟩) hS (fun q _ h => hFc q h) hFc (fun r u t H1 locs ht hvm hw2 hB hz1 hk1 hS => ?_)
  obtain ⟨hP1, hD1⟩ := hB
  rw [ht] at hP1
  obtain ⟨hP, hD⟩ := va_join (wr := []) (w1 := [(h0, .inr (5, [.ref w1, .int 0, .int 0, .int 0, .int 0, .int 0, .ref w2, .ref w3, .ref w4, .int 0, .int 0]))]) hP hD [0] [] rfl rfl (by decide) (by decide) hk1 hFc hP1 hD1
  generalize H1 = H at hP hS ⊢
  have hP : va_P (dC, dI) vwCl [(h0, .inr (5, [.ref w1, .int 0, .int 0, .int 0, .int 0, .int 0, .ref w2, .ref w3, .ref w4, .int 0, .int 0]))] H := hP
  have hD : va_D A [(h0, .inr (5, [.ref w1, .int 0, .int 0, .int 0, .int 0, .int 0, .ref w2, .ref w3, .ref w4, .int 0, .int 0]))] := hD
  obtain rfl := hw2
  refine W.widen (k := 0) (n := 0) (by omega) (by omega) ?_
  refine lv_if_eq (tgt := 68) hx hb dX5_readWord_63 (by decide) (fun _ => ?_) (fun h => absurd (by decide) h)
  refine lv_aload_n hx hb dX5_readWord_68 rfl (lv_at hl 1 rfl) ?_
  refine va_ldcS hx hb hown (hE.wr 2 rfl) dX5_readWord_69 ?_
  refine lv_iload_n hx hb dX5_readWord_71 rfl (lv_at hl 0 rfl) ?_
  have hPc := hP.sub (ws' := [(h0, .inr (5, [.ref w1, .int 0, .int 0, .int 0, .int 0, .int 0, .ref w2, .ref w3, .ref w4, .int 0, .int 0]))]) [0] rfl
  have hDc := hD.sub (ws' := [(h0, .inr (5, [.ref w1, .int 0, .int 0, .int 0, .int 0, .int 0, .ref w2, .ref w3, .ref w4, .int 0, .int 0]))]) [0] (by decide) rfl
  have hFc := va_free (wc := [(h0, .inr (5, [.ref w1, .int 0, .int 0, .int 0, .int 0, .int 0, .ref w2, .ref w3, .ref w4, .int 0, .int 0]))]) hD hS hA [0] rfl
  refine va_calli (va_runV (As := [.ref (nb (3 + 2 * 2)), .int 0]) (rest := []) ⟨hx, hb, hml, hown, hts⟩ (c_X5_stands_2 l dC dI cy nb h0 w1 w2 w3 w4 H.size) (cwV 2 hts (gV mw_166 mw_167 mw_168 mw_22 mw_169) rfl rfl rfl (by decide +kernel) ⟨Nat.le_of_ble_eq_true rfl, Nat.le_of_ble_eq_true rfl⟩) ⟨fun a U g mk q => by obtain ⟨q0, q1, qP, qK, qD, qE⟩ := q; exact ⟨q0, q1, qP, va_K.moved (u := U) (U := U.calling g mk a) (Vm.Alike.refl U.vm) qK, qD, GE.calling qE⟩, va_recv hK hP (ci := 5) (q0 := 0) rfl rfl, fun U hU hW => ⟨rfl, by rw [hU], by rw [hU]; exact hPc, va_K.moved hW.alike hK, hDc.weaken (fun _ _ _ _ => trivial), GE.call hE hS hFc hU hW⟩⟩ rfl rfl hl.1 rfl (lv_room (Nat.le_of_ble_eq_true rfl)) dX5_readWord_72 ⟨Nat.le_of_ble_eq_true rfl, Nat.le_of_ble_eq_true rfl⟩) hS (fun q _ h => hFc q h) hFc (fun r u t H1 locs ht hvm hw3 hB hz1 hk1 hS => ?_)
  obtain ⟨hP1, hD1⟩ := hB
  rw [ht] at hP1
  obtain ⟨hP, hD⟩ := va_join (wr := []) (w1 := [(h0, .inr (5, [.ref w1, .int 0, .int 0, .int 0, .int 0, .int 0, .ref w2, .ref w3, .ref w4, .int 0, .int 0]))]) hP hD [0] [] rfl rfl (by decide) (by decide) hk1 hFc hP1 hD1
  generalize H1 = H at hP hS ⊢
  have hP : va_P (dC, dI) vwCl [(h0, .inr (5, [.ref w1, .int 0, .int 0, .int 0, .int 0, .int 0, .ref w2, .ref w3, .ref w4, .int 0, .int 0]))] H := hP
  have hD : va_D A [(h0, .inr (5, [.ref w1, .int 0, .int 0, .int 0, .int 0, .int 0, .ref w2, .ref w3, .ref w4, .int 0, .int 0]))] := hD
  obtain rfl := hw3
  refine W.widen (k := 0) (n := 0) (by omega) (by omega) ?_
  refine lv_if_eq (tgt := 80) hx hb dX5_readWord_75 (by decide) (fun _ => ?_) (fun h => absurd (by decide) h)
  refine lv_aload_n hx hb dX5_readWord_80 rfl (lv_at hl 1 rfl) ?_
  refine va_ldcS hx hb hown (hE.wr 3 rfl) dX5_readWord_81 ?_
  refine lv_iload_n hx hb dX5_readWord_83 rfl (lv_at hl 0 rfl) ?_
  have hPc := hP.sub (ws' := [(h0, .inr (5, [.ref w1, .int 0, .int 0, .int 0, .int 0, .int 0, .ref w2, .ref w3, .ref w4, .int 0, .int 0]))]) [0] rfl
  have hDc := hD.sub (ws' := [(h0, .inr (5, [.ref w1, .int 0, .int 0, .int 0, .int 0, .int 0, .ref w2, .ref w3, .ref w4, .int 0, .int 0]))]) [0] (by decide) rfl
  have hFc := va_free (wc := [(h0, .inr (5, [.ref w1, .int 0, .int 0, .int 0, .int 0, .int 0, .ref w2, .ref w3, .ref w4, .int 0, .int 0]))]) hD hS hA [0] rfl
  refine va_calli (va_runV (As := [.ref (nb (3 + 2 * 3)), .int 0]) (rest := []) ⟨hx, hb, hml, hown, hts⟩ (c_X5_stands_3 l dC dI cy nb h0 w1 w2 w3 w4 H.size) (cwV 2 hts (gV mw_166 mw_167 mw_168 mw_22 mw_169) rfl rfl rfl (by decide +kernel) ⟨Nat.le_of_ble_eq_true rfl, Nat.le_of_ble_eq_true rfl⟩) ⟨fun a U g mk q => by obtain ⟨q0, q1, qP, qK, qD, qE⟩ := q; exact ⟨q0, q1, qP, va_K.moved (u := U) (U := U.calling g mk a) (Vm.Alike.refl U.vm) qK, qD, GE.calling qE⟩, va_recv hK hP (ci := 5) (q0 := 0) rfl rfl, fun U hU hW => ⟨rfl, by rw [hU], by rw [hU]; exact hPc, va_K.moved hW.alike hK, hDc.weaken (fun _ _ _ _ => trivial), GE.call hE hS hFc hU hW⟩⟩ rfl rfl hl.1 rfl (lv_room (Nat.le_of_ble_eq_true rfl)) dX5_readWord_84 ⟨Nat.le_of_ble_eq_true rfl, Nat.le_of_ble_eq_true rfl⟩) hS (fun q _ h => hFc q h) hFc (fun r u t H1 locs ht hvm hw4 hB hz1 hk1 hS => ?_)
  obtain ⟨hP1, hD1⟩ := hB
  rw [ht] at hP1
  obtain ⟨hP, hD⟩ := va_join (wr := []) (w1 := [(h0, .inr (5, [.ref w1, .int 0, .int 0, .int 0, .int 0, .int 0, .ref w2, .ref w3, .ref w4, .int 0, .int 0]))]) hP hD [0] [] rfl rfl (by decide) (by decide) hk1 hFc hP1 hD1
  generalize H1 = H at hP hS ⊢
  have hP : va_P (dC, dI) vwCl [(h0, .inr (5, [.ref w1, .int 0, .int 0, .int 0, .int 0, .int 0, .ref w2, .ref w3, .ref w4, .int 0, .int 0]))] H := hP
  have hD : va_D A [(h0, .inr (5, [.ref w1, .int 0, .int 0, .int 0, .int 0, .int 0, .ref w2, .ref w3, .ref w4, .int 0, .int 0]))] := hD
  obtain rfl := hw4
  refine W.widen (k := 0) (n := 0) (by omega) (by omega) ?_
  refine lv_if_eq (tgt := 92) hx hb dX5_readWord_87 (by decide) (fun _ => ?_) (fun h => absurd (by decide) h)
  refine lv_aload_n hx hb dX5_readWord_92 rfl (lv_at hl 1 rfl) ?_
  refine va_ldcS hx hb hown (hE.wr 4 rfl) dX5_readWord_93 ?_
  refine lv_iload_n hx hb dX5_readWord_95 rfl (lv_at hl 0 rfl) ?_
  have hPc := hP.sub (ws' := [(h0, .inr (5, [.ref w1, .int 0, .int 0, .int 0, .int 0, .int 0, .ref w2, .ref w3, .ref w4, .int 0, .int 0]))]) [0] rfl
  have hDc := hD.sub (ws' := [(h0, .inr (5, [.ref w1, .int 0, .int 0, .int 0, .int 0, .int 0, .ref w2, .ref w3, .ref w4, .int 0, .int 0]))]) [0] (by decide) rfl
  have hFc := va_free (wc := [(h0, .inr (5, [.ref w1, .int 0, .int 0, .int 0, .int 0, .int 0, .ref w2, .ref w3, .ref w4, .int 0, .int 0]))]) hD hS hA [0] rfl
  refine va_calli (va_runV (As := [.ref (nb (3 + 2 * 4)), .int 0]) (rest := []) ⟨hx, hb, hml, hown, hts⟩ (c_X5_stands_4 l dC dI cy nb h0 w1 w2 w3 w4 H.size) (cwV 2 hts (gV mw_166 mw_167 mw_168 mw_22 mw_169) rfl rfl rfl (by decide +kernel) ⟨Nat.le_of_ble_eq_true rfl, Nat.le_of_ble_eq_true rfl⟩) ⟨fun a U g mk q => by obtain ⟨q0, q1, qP, qK, qD, qE⟩ := q; exact ⟨q0, q1, qP, va_K.moved (u := U) (U := U.calling g mk a) (Vm.Alike.refl U.vm) qK, qD, GE.calling qE⟩, va_recv hK hP (ci := 5) (q0 := 0) rfl rfl, fun U hU hW => ⟨rfl, by rw [hU], by rw [hU]; exact hPc, va_K.moved hW.alike hK, hDc.weaken (fun _ _ _ _ => trivial), GE.call hE hS hFc hU hW⟩⟩ rfl rfl hl.1 rfl (lv_room (Nat.le_of_ble_eq_true rfl)) dX5_readWord_96 ⟨Nat.le_of_ble_eq_true rfl, Nat.le_of_ble_eq_true rfl⟩) hS (fun q _ h => hFc q h) hFc (fun r u t H1 locs ht hvm hw5 hB hz1 hk1 hS => ?_)
  obtain ⟨hP1, hD1⟩ := hB
  rw [ht] at hP1
  obtain ⟨hP, hD⟩ := va_join (wr := []) (w1 := [(h0, .inr (5, [.ref w1, .int 0, .int 0, .int 0, .int 0, .int 0, .ref w2, .ref w3, .ref w4, .int 0, .int 0]))]) hP hD [0] [] rfl rfl (by decide) (by decide) hk1 hFc hP1 hD1
  generalize H1 = H at hP hS ⊢
  have hP : va_P (dC, dI) vwCl [(h0, .inr (5, [.ref w1, .int 0, .int 0, .int 0, .int 0, .int 0, .ref w2, .ref w3, .ref w4, .int 0, .int 0]))] H := hP
  have hD : va_D A [(h0, .inr (5, [.ref w1, .int 0, .int 0, .int 0, .int 0, .int 0, .ref w2, .ref w3, .ref w4, .int 0, .int 0]))] := hD
  obtain rfl := hw5
  refine W.widen (k := 0) (n := 0) (by omega) (by omega) ?_
  refine lv_if_eq (tgt := 104) hx hb dX5_readWord_99 (by decide) (fun _ => ?_) (fun h => absurd (by decide) h)
  refine lv_aload_n hx hb dX5_readWord_104 rfl (lv_at hl 1 rfl) ?_
  refine va_ldcS hx hb hown (hE.wr 5 rfl) dX5_readWord_105 ?_
  refine lv_iload_n hx hb dX5_readWord_107 rfl (lv_at hl 0 rfl) ?_
  have hPc := hP.sub (ws' := [(h0, .inr (5, [.ref w1, .int 0, .int 0, .int 0, .int 0, .int 0, .ref w2, .ref w3, .ref w4, .int 0, .int 0]))]) [0] rfl
  have hDc := hD.sub (ws' := [(h0, .inr (5, [.ref w1, .int 0, .int 0, .int 0, .int 0, .int 0, .ref w2, .ref w3, .ref w4, .int 0, .int 0]))]) [0] (by decide) rfl
  have hFc := va_free (wc := [(h0, .inr (5, [.ref w1, .int 0, .int 0, .int 0, .int 0, .int 0, .ref w2, .ref w3, .ref w4, .int 0, .int 0]))]) hD hS hA [0] rfl
  refine va_calli (va_runV (As := [.ref (nb (3 + 2 * 5)), .int 0]) (rest := []) ⟨hx, hb, hml, hown, hts⟩ (c_X5_stands_5 l dC dI cy nb h0 w1 w2 w3 w4 H.size) (cwV 2 hts (gV mw_166 mw_167 mw_168 mw_22 mw_169) rfl rfl rfl (by decide +kernel) ⟨Nat.le_of_ble_eq_true rfl, Nat.le_of_ble_eq_true rfl⟩) ⟨fun a U g mk q => by obtain ⟨q0, q1, qP, qK, qD, qE⟩ := q; exact ⟨q0, q1, qP, va_K.moved (u := U) (U := U.calling g mk a) (Vm.Alike.refl U.vm) qK, qD, GE.calling qE⟩, va_recv hK hP (ci := 5) (q0 := 0) rfl rfl, fun U hU hW => ⟨rfl, by rw [hU], by rw [hU]; exact hPc, va_K.moved hW.alike hK, hDc.weaken (fun _ _ _ _ => trivial), GE.call hE hS hFc hU hW⟩⟩ rfl rfl hl.1 rfl (lv_room (Nat.le_of_ble_eq_true rfl)) dX5_readWord_108 ⟨Nat.le_of_ble_eq_true rfl, Nat.le_of_ble_eq_true rfl⟩) hS (fun q _ h => hFc q h) hFc (fun r u t H1 locs ht hvm hw6 hB hz1 hk1 hS => ?_)
  obtain ⟨hP1, hD1⟩ := hB
  rw [ht] at hP1
  obtain ⟨hP, hD⟩ := va_join (wr := []) (w1 := [(h0, .inr (5, [.ref w1, .int 0, .int 0, .int 0, .int 0, .int 0, .ref w2, .ref w3, .ref w4, .int 0, .int 0]))]) hP hD [0] [] rfl rfl (by decide) (by decide) hk1 hFc hP1 hD1
  generalize H1 = H at hP hS ⊢
  have hP : va_P (dC, dI) vwCl [(h0, .inr (5, [.ref w1, .int 0, .int 0, .int 0, .int 0, .int 0, .ref w2, .ref w3, .ref w4, .int 0, .int 0]))] H := hP
  have hD : va_D A [(h0, .inr (5, [.ref w1, .int 0, .int 0, .int 0, .int 0, .int 0, .ref w2, .ref w3, .ref w4, .int 0, .int 0]))] := hD
  obtain rfl := hw6
  refine W.widen (k := 0) (n := 0) (by omega) (by omega) ?_
  refine lv_if_eq (tgt := 117) hx hb dX5_readWord_111 (by decide) (fun _ => ?_) (fun h => absurd (by decide) h)
  refine lv_aload_n hx hb dX5_readWord_117 rfl (lv_at hl 1 rfl) ?_
  refine va_ldcS hx hb hown (hE.wr 6 rfl) dX5_readWord_118 ?_
  refine lv_iload_n hx hb dX5_readWord_120 rfl (lv_at hl 0 rfl) ?_
  have hPc := hP.sub (ws' := [(h0, .inr (5, [.ref w1, .int 0, .int 0, .int 0, .int 0, .int 0, .ref w2, .ref w3, .ref w4, .int 0, .int 0]))]) [0] rfl
  have hDc := hD.sub (ws' := [(h0, .inr (5, [.ref w1, .int 0, .int 0, .int 0, .int 0, .int 0, .ref w2, .ref w3, .ref w4, .int 0, .int 0]))]) [0] (by decide) rfl
  have hFc := va_free (wc := [(h0, .inr (5, [.ref w1, .int 0, .int 0, .int 0, .int 0, .int 0, .ref w2, .ref w3, .ref w4, .int 0, .int 0]))]) hD hS hA [0] rfl
  refine va_calli (va_runV (As := [.ref (nb (3 + 2 * 6)), .int 0]) (rest := []) ⟨hx, hb, hml, hown, hts⟩ (c_X5_stands_6 l dC dI cy nb h0 w1 w2 w3 w4 H.size) (cwV 2 hts (gV mw_166 mw_167 mw_168 mw_22 mw_169) rfl rfl rfl (by decide +kernel) ⟨Nat.le_of_ble_eq_true rfl, Nat.le_of_ble_eq_true rfl⟩) ⟨fun a U g mk q => by obtain ⟨q0, q1, qP, qK, qD, qE⟩ := q; exact ⟨q0, q1, qP, va_K.moved (u := U) (U := U.calling g mk a) (Vm.Alike.refl U.vm) qK, qD, GE.calling qE⟩, va_recv hK hP (ci := 5) (q0 := 0) rfl rfl, fun U hU hW => ⟨rfl, by rw [hU], by rw [hU]; exact hPc, va_K.moved hW.alike hK, hDc.weaken (fun _ _ _ _ => trivial), GE.call hE hS hFc hU hW⟩⟩ rfl rfl hl.1 rfl (lv_room (Nat.le_of_ble_eq_true rfl)) dX5_readWord_121 ⟨Nat.le_of_ble_eq_true rfl, Nat.le_of_ble_eq_true rfl⟩) hS (fun q _ h => hFc q h) hFc (fun r u t H1 locs ht hvm hw7 hB hz1 hk1 hS => ?_)
  obtain ⟨hP1, hD1⟩ := hB
  rw [ht] at hP1
  obtain ⟨hP, hD⟩ := va_join (wr := []) (w1 := [(h0, .inr (5, [.ref w1, .int 0, .int 0, .int 0, .int 0, .int 0, .ref w2, .ref w3, .ref w4, .int 0, .int 0]))]) hP hD [0] [] rfl rfl (by decide) (by decide) hk1 hFc hP1 hD1
  generalize H1 = H at hP hS ⊢
  have hP : va_P (dC, dI) vwCl [(h0, .inr (5, [.ref w1, .int 0, .int 0, .int 0, .int 0, .int 0, .ref w2, .ref w3, .ref w4, .int 0, .int 0]))] H := hP
  have hD : va_D A [(h0, .inr (5, [.ref w1, .int 0, .int 0, .int 0, .int 0, .int 0, .ref w2, .ref w3, .ref w4, .int 0, .int 0]))] := hD
  obtain rfl := hw7
  refine W.widen (k := 0) (n := 0) (by omega) (by omega) ?_
  refine lv_if_eq (tgt := 130) hx hb dX5_readWord_124 (by decide) (fun _ => ?_) (fun h => absurd (by decide) h)
  refine lv_aload_n hx hb dX5_readWord_130 rfl (lv_at hl 1 rfl) ?_
  refine va_ldcS hx hb hown (hE.wr 7 rfl) dX5_readWord_131 ?_
  refine lv_iload_n hx hb dX5_readWord_133 rfl (lv_at hl 0 rfl) ?_
  have hPc := hP.sub (ws' := [(h0, .inr (5, [.ref w1, .int 0, .int 0, .int 0, .int 0, .int 0, .ref w2, .ref w3, .ref w4, .int 0, .int 0]))]) [0] rfl
  have hDc := hD.sub (ws' := [(h0, .inr (5, [.ref w1, .int 0, .int 0, .int 0, .int 0, .int 0, .ref w2, .ref w3, .ref w4, .int 0, .int 0]))]) [0] (by decide) rfl
  have hFc := va_free (wc := [(h0, .inr (5, [.ref w1, .int 0, .int 0, .int 0, .int 0, .int 0, .ref w2, .ref w3, .ref w4, .int 0, .int 0]))]) hD hS hA [0] rfl
  refine va_calli (va_runV (As := [.ref (nb (3 + 2 * 7)), .int 0]) (rest := []) ⟨hx, hb, hml, hown, hts⟩ (c_X5_stands_7 l dC dI cy nb h0 w1 w2 w3 w4 H.size) (cwV 2 hts (gV mw_166 mw_167 mw_168 mw_22 mw_169) rfl rfl rfl (by decide +kernel) ⟨Nat.le_of_ble_eq_true rfl, Nat.le_of_ble_eq_true rfl⟩) ⟨fun a U g mk q => by obtain ⟨q0, q1, qP, qK, qD, qE⟩ := q; exact ⟨q0, q1, qP, va_K.moved (u := U) (U := U.calling g mk a) (Vm.Alike.refl U.vm) qK, qD, GE.calling qE⟩, va_recv hK hP (ci := 5) (q0 := 0) rfl rfl, fun U hU hW => ⟨rfl, by rw [hU], by rw [hU]; exact hPc, va_K.moved hW.alike hK, hDc.weaken (fun _ _ _ _ => trivial), GE.call hE hS hFc hU hW⟩⟩ rfl rfl hl.1 rfl (lv_room (Nat.le_of_ble_eq_true rfl)) dX5_readWord_134 ⟨Nat.le_of_ble_eq_true rfl, Nat.le_of_ble_eq_true rfl⟩) hS (fun q _ h => hFc q h) hFc (fun r u t H1 locs ht hvm hw8 hB hz1 hk1 hS => ?_)
  obtain ⟨hP1, hD1⟩ := hB
  rw [ht] at hP1
  obtain ⟨hP, hD⟩ := va_join (wr := []) (w1 := [(h0, .inr (5, [.ref w1, .int 0, .int 0, .int 0, .int 0, .int 0, .ref w2, .ref w3, .ref w4, .int 0, .int 0]))]) hP hD [0] [] rfl rfl (by decide) (by decide) hk1 hFc hP1 hD1
  generalize H1 = H at hP hS ⊢
  have hP : va_P (dC, dI) vwCl [(h0, .inr (5, [.ref w1, .int 0, .int 0, .int 0, .int 0, .int 0, .ref w2, .ref w3, .ref w4, .int 0, .int 0]))] H := hP
  have hD : va_D A [(h0, .inr (5, [.ref w1, .int 0, .int 0, .int 0, .int 0, .int 0, .ref w2, .ref w3, .ref w4, .int 0, .int 0]))] := hD
  obtain rfl := hw8
  refine W.widen (k := 0) (n := 0) (by omega) (by omega) ?_
  refine lv_if_eq (tgt := 144) hx hb dX5_readWord_137 (by decide) (fun _ => ?_) (fun h => absurd (by decide) h)
  refine lv_iconst (v := (-1)) hx hb dX5_readWord_144 (by decide) ?_
  have hP9 := hP.sub (ws' := [(h0, .inr (5, [.ref w1, .int 0, .int 0, .int 0, .int 0, .int 0, .ref w2, .ref w3, .ref w4, .int 0, .int 0]))]) [0] rfl
  have hD9 := hD.sub (ws' := [(h0, .inr (5, [.ref w1, .int 0, .int 0, .int 0, .int 0, .int 0, .ref w2, .ref w3, .ref w4, .int 0, .int 0]))]) [0] (by decide) rfl
  refine W.widen (k := 0) (n := 0) (by omega) (by omega) ?_
  exact W.iret (v := (-1)) hx hb hr (fun t ht hW => ⟨⟨(-1), (), rfl, rfl, by rw [ht]; exact hP9, hD9⟩, hS.F ht⟩) hS.2.2 dX5_readWord_145
set_option maxHeartbeats 4000000 in
set_option maxRecDepth 100000 in
/-- X5_error -/
theorem c_X5_error (l : Launch) (dC : Nat → ClassId) (dI : Nat → Nat → Nat) (cy : Nat → ClassId) (nb : Nat → Nat) (h0 : Nat) (w1 : Nat) (w2 : Nat) (w3 : Nat) (w4 : Nat) (sz : Nat) : Met l yX5_error (wsg yX5_error cX5_error 3 none) ({ frames := 9, cells := 0, slots := 0, locals := 400 }) (va_Pc [.ref h0, .int 1, .int 0] (fun U => U.heap.size = sz ∧ va_P (dC, dI) vwCl [(h0, .inr (5, [.ref w1, .int 0, .int 0, .int 0, .int 0, .int 0, .ref w2, .ref w3, .ref w4, .int 0, .int 0]))] U.heap ∧ va_K (dC, dI) vwCl (tyL cy) U ∧ va_D (fun _ => True) [(h0, .inr (5, [.ref w1, .int 0, .int 0, .int 0, .int 0, .int 0, .ref w2, .ref w3, .ref w4, .int 0, .int 0]))] ∧ GE nb (va_A [(h0, .inr (5, [.ref w1, .int 0, .int 0, .int 0, .int 0, .int 0, .ref w2, .ref w3, .ref w4, .int 0, .int 0]))] sz) U)) (va_Qv (fun (_ : Unit) => True) (fun _ t => va_P (dC, dI) vwCl [(h0, .inr (5, [.ref w1, .int 0, .int 0, .int 1, .int 0, .int 0, .ref w2, .ref w3, .ref w4, .int 0, .int 0]))] t.heap ∧ va_D (va_A [(h0, .inr (5, [.ref w1, .int 0, .int 0, .int 0, .int 0, .int 0, .ref w2, .ref w3, .ref w4, .int 0, .int 0]))] sz) [(h0, .inr (5, [.ref w1, .int 0, .int 0, .int 1, .int 0, .int 0, .ref w2, .ref w3, .ref w4, .int 0, .int 0]))]) (va_A [(h0, .inr (5, [.ref w1, .int 0, .int 0, .int 0, .int 0, .int 0, .ref w2, .ref w3, .ref w4, .int 0, .int 0]))] sz)) 0 0 (va_A [(h0, .inr (5, [.ref w1, .int 0, .int 0, .int 0, .int 0, .int 0, .ref w2, .ref w3, .ref w4, .int 0, .int 0]))] sz) := by
  refine Met.ofW (cc := cX5_error) (maxL := 3) (ret := none) (by decide) rfl ?_
  intro p e s m args below meth c s₁ B hml hv
  obtain ⟨rfl, hsz, hP, hK, hD0, hE⟩ := hv
  have hx := B.exec
  have hb := B.bytes
  have hr := B.returns
  have hts0 := atoms_spec (ws := (wsg yX5_error cX5_error 3 none)) B.pre
  have hts : ∀ w ∈ wsL_law, w.before _ s = true := fun w h => hts0 w (List.mem_cons_of_mem _ h)
  have hown : s.vm.findClass RX5 = some m.cls := findClass_of_methodNamed B.named
  have hlocks := B.notSynchronized
  subst hsz
  have hD := hD0.self (sz := s.heap.size)
  generalize hAe : va_A [(h0, .inr (5, [.ref w1, .int 0, .int 0, .int 0, .int 0, .int 0, .ref w2, .ref w3, .ref w4, .int 0, .int 0]))] s.heap.size = A at hD hE ⊢
  have hA : ∀ q : Nat, s.heap.size ≤ q → A q := fun q h => by rw [← hAe]; exact Or.inr h
  have hS : va_S A s.heap s.heap [] := va_S.rf
  have hP : va_P (dC, dI) vwCl [(h0, .inr (5, [.ref w1, .int 0, .int 0, .int 0, .int 0, .int 0, .ref w2, .ref w3, .ref w4, .int 0, .int 0]))] s.heap := hP
  have hl := lv_entry ([.ref h0, .int 1, .int 0]) (n := 3) (Nat.le_of_ble_eq_true rfl)
  rw [lg_entry_eq]
  generalize (lg_sl ([.ref h0, .int 1, .int 0]) ++ List.replicate (3 - (lg_sl ([.ref h0, .int 1, .int 0])).length) Slot.unset).toArray = ls at hl ⊢
  have hl : lv_has ls 3 [(0, .ref h0), (1, .int 1), (2, .int 0)] := hl
  generalize hHe : s.heap = H at hP hS ⊢
  have hS : va_S A s.heap H [] := by rw [hHe]; exact hS
  refine lv_aload_n hx hb dX5_error_0 rfl (lv_at hl 0 rfl) ?_
  refine va_get (D := (dC, dI)) (ci := 5) (v := .int 0) (C := RX5) (T := TX5) (N := 11) hx hb hts inlX5 hown hK hP 0 rfl rfl 3 (by decide) (hts _ mw_149) (fun _ h9 => h9) rfl dX5_error_1 ?_
  refine lv_if_ne (tgt := 17) hx hb dX5_error_4 (by decide) (fun h => absurd h (by decide)) (fun _ => ?_)
  refine lv_aload_n hx hb dX5_error_7 rfl (lv_at hl 0 rfl) ?_
  refine lv_iload_n hx hb dX5_error_8 rfl (lv_at hl 1 rfl) ?_
  refine va_put (D := (dC, dI)) (ci := 5) (v := .int 1) (ty := .int) (C := RX5) (T := TX5) (N := 11) hx hb hts inlX5 tyX5 tyX5_ok nmX5 hown hK hP hD hS 0 rfl rfl 3 (by decide) (hts _ mw_149) (fun _ h9 => h9) rfl (by decide +kernel) rfl rfl (Nat.le_of_ble_eq_true rfl) dX5_error_9 (fun H locs hP hD hS => ?_)
  have hP : va_P (dC, dI) vwCl [(h0, .inr (5, [.ref w1, .int 0, .int 0, .int 1, .int 0, .int 0, .ref w2, .ref w3, .ref w4, .int 0, .int 0]))] H := hP
  have hD : va_D A [(h0, .inr (5, [.ref w1, .int 0, .int 0, .int 1, .int 0, .int 0, .ref w2, .ref w3, .ref w4, .int 0, .int 0]))] := hD
  refine lv_aload_n hx hb dX5_error_12 rfl (lv_at hl 0 rfl) ?_
  refine lv_iload_n hx hb dX5_error_13 rfl (lv_at hl 2 rfl) ?_
  refine va_put (D := (dC, dI)) (ci := 5) (v := .int 0) (ty := .int) (C := RX5) (T := TX5) (N := 11) hx hb hts inlX5 tyX5 tyX5_ok nmX5 hown hK hP hD hS 0 rfl rfl 4 (by decide) (hts _ mw_150) (fun _ h9 => h9) rfl (by decide +kernel) rfl rfl (Nat.le_of_ble_eq_true rfl) dX5_error_14 (fun H locs hP hD hS => ?_)
  have hP : va_P (dC, dI) vwCl [(h0, .inr (5, [.ref w1, .int 0, .int 0, .int 1, .int 0, .int 0, .ref w2, .ref w3, .ref w4, .int 0, .int 0]))] H := hP
  have hD : va_D A [(h0, .inr (5, [.ref w1, .int 0, .int 0, .int 1, .int 0, .int 0, .ref w2, .ref w3, .ref w4, .int 0, .int 0]))] := hD
  have hP9 := hP.sub (ws' := [(h0, .inr (5, [.ref w1, .int 0, .int 0, .int 1, .int 0, .int 0, .ref w2, .ref w3, .ref w4, .int 0, .int 0]))]) [0] rfl
  have hD9 := hD.sub (ws' := [(h0, .inr (5, [.ref w1, .int 0, .int 0, .int 1, .int 0, .int 0, .ref w2, .ref w3, .ref w4, .int 0, .int 0]))]) [0] (by decide) rfl
  refine W.widen (k := 0) (n := 0) (by omega) (by omega) ?_
  exact W.vret hx hb hr (fun t ht hW => ⟨⟨(), rfl, trivial, by rw [ht]; exact hP9, hD9⟩, hS.F ht⟩) hS.2.2 dX5_error_17
set_option maxHeartbeats 4000000 in
set_option maxRecDepth 100000 in
/-- X5_isFine -/
theorem c_X5_isFine (l : Launch) (dC : Nat → ClassId) (dI : Nat → Nat → Nat) (cy : Nat → ClassId) (nb : Nat → Nat) (h0 : Nat) (w1 : Nat) (w2 : Nat) (w3 : Nat) (w4 : Nat) (sz : Nat) : Met l yX5_isFine (wsg yX5_isFine cX5_isFine 1 (some .boolean)) ({ frames := 9, cells := 0, slots := 0, locals := 400 }) (va_Pc [.ref h0] (fun U => U.heap.size = sz ∧ va_P (dC, dI) vwCl [(h0, .inr (5, [.ref w1, .int 0, .int 0, .int 1, .int 0, .int 0, .ref w2, .ref w3, .ref w4, .int 0, .int 0]))] U.heap ∧ va_K (dC, dI) vwCl (tyL cy) U ∧ va_D (fun _ => True) [(h0, .inr (5, [.ref w1, .int 0, .int 0, .int 1, .int 0, .int 0, .ref w2, .ref w3, .ref w4, .int 0, .int 0]))] ∧ GE nb (va_A [(h0, .inr (5, [.ref w1, .int 0, .int 0, .int 1, .int 0, .int 0, .ref w2, .ref w3, .ref w4, .int 0, .int 0]))] sz) U)) (va_Qi (fun (r : Int32) (_ : Unit) => r = 0) (fun _ t => va_P (dC, dI) vwCl [(h0, .inr (5, [.ref w1, .int 0, .int 0, .int 1, .int 0, .int 0, .ref w2, .ref w3, .ref w4, .int 0, .int 0]))] t.heap ∧ va_D (va_A [(h0, .inr (5, [.ref w1, .int 0, .int 0, .int 1, .int 0, .int 0, .ref w2, .ref w3, .ref w4, .int 0, .int 0]))] sz) [(h0, .inr (5, [.ref w1, .int 0, .int 0, .int 1, .int 0, .int 0, .ref w2, .ref w3, .ref w4, .int 0, .int 0]))]) (va_A [(h0, .inr (5, [.ref w1, .int 0, .int 0, .int 1, .int 0, .int 0, .ref w2, .ref w3, .ref w4, .int 0, .int 0]))] sz)) 0 0 (va_A [(h0, .inr (5, [.ref w1, .int 0, .int 0, .int 1, .int 0, .int 0, .ref w2, .ref w3, .ref w4, .int 0, .int 0]))] sz) := by
  refine Met.ofW (cc := cX5_isFine) (maxL := 1) (ret := (some .boolean)) (by decide) rfl ?_
  intro p e s m args below meth c s₁ B hml hv
  obtain ⟨rfl, hsz, hP, hK, hD0, hE⟩ := hv
  have hx := B.exec
  have hb := B.bytes
  have hr := B.returns
  have hts0 := atoms_spec (ws := (wsg yX5_isFine cX5_isFine 1 (some .boolean))) B.pre
  have hts : ∀ w ∈ wsL_law, w.before _ s = true := fun w h => hts0 w (List.mem_cons_of_mem _ h)
  have hown : s.vm.findClass RX5 = some m.cls := findClass_of_methodNamed B.named
  have hlocks := B.notSynchronized
  subst hsz
  have hD := hD0.self (sz := s.heap.size)
  generalize hAe : va_A [(h0, .inr (5, [.ref w1, .int 0, .int 0, .int 1, .int 0, .int 0, .ref w2, .ref w3, .ref w4, .int 0, .int 0]))] s.heap.size = A at hD hE ⊢
  have hA : ∀ q : Nat, s.heap.size ≤ q → A q := fun q h => by rw [← hAe]; exact Or.inr h
  have hS : va_S A s.heap s.heap [] := va_S.rf
  have hP : va_P (dC, dI) vwCl [(h0, .inr (5, [.ref w1, .int 0, .int 0, .int 1, .int 0, .int 0, .ref w2, .ref w3, .ref w4, .int 0, .int 0]))] s.heap := hP
  have hl := lv_entry ([.ref h0]) (n := 1) (Nat.le_of_ble_eq_true rfl)
  rw [lg_entry_eq]
  generalize (lg_sl ([.ref h0]) ++ List.replicate (1 - (lg_sl ([.ref h0])).length) Slot.unset).toArray = ls at hl ⊢
  have hl : lv_has ls 1 [(0, .ref h0)] := hl
  generalize hHe : s.heap = H at hP hS ⊢
  have hS : va_S A s.heap H [] := by rw [hHe]; exact hS
  refine lv_aload_n hx hb dX5_isFine_0 rfl (lv_at hl 0 rfl) ?_
  refine va_get (D := (dC, dI)) (ci := 5) (v := .int 1) (C := RX5) (T := TX5) (N := 11) hx hb hts inlX5 hown hK hP 0 rfl rfl 3 (by decide) (hts _ mw_149) (fun _ h9 => h9) rfl dX5_isFine_1 ?_
  refine lv_if_ne (tgt := 11) hx hb dX5_isFine_4 (by decide) (fun _ => ?_) (fun h => absurd h (by decide))
  refine lv_iconst (v := 0) hx hb dX5_isFine_11 (by decide) ?_
  have hP9 := hP.sub (ws' := [(h0, .inr (5, [.ref w1, .int 0, .int 0, .int 1, .int 0, .int 0, .ref w2, .ref w3, .ref w4, .int 0, .int 0]))]) [0] rfl
  have hD9 := hD.sub (ws' := [(h0, .inr (5, [.ref w1, .int 0, .int 0, .int 1, .int 0, .int 0, .ref w2, .ref w3, .ref w4, .int 0, .int 0]))]) [0] (by decide) rfl
  refine W.widen (k := 0) (n := 0) (by omega) (by omega) ?_
  exact W.zret (v := 0) hx hb hr (by rfl) (fun t ht hW => ⟨⟨0, (), rfl, rfl, by rw [ht]; exact hP9, hD9⟩, hS.F ht⟩) hS.2.2 dX5_isFine_12
set_option maxHeartbeats 4000000 in
set_option maxRecDepth 100000 in
/-- X5_readStatement -/
theorem c_X5_readStatement (l : Launch) (dC : Nat → ClassId) (dI : Nat → Nat → Nat) (cy : Nat → ClassId) (nb : Nat → Nat) (h0 : Nat) (w1 : Nat) (w2 : Nat) (w3 : Nat) (w4 : Nat) (a2 : Nat) (sz : Nat) : Met l yX5_readStatement (wsg yX5_readStatement cX5_readStatement 4 none) ({ frames := 12, cells := 0, slots := 0, locals := 700 }) (va_Pc [.ref h0, .ref a2] (fun U => U.heap.size = sz ∧ va_P (dC, dI) vwCl [(h0, .inr (5, [.ref w1, .int 0, .int 0, .int 0, .int 0, .int 0, .ref w2, .ref w3, .ref w4, .int 0, .int 0]))] U.heap ∧ va_K (dC, dI) vwCl (tyL cy) U ∧ va_D (fun _ => True) [(h0, .inr (5, [.ref w1, .int 0, .int 0, .int 0, .int 0, .int 0, .ref w2, .ref w3, .ref w4, .int 0, .int 0]))] ∧ GE nb (va_A [(h0, .inr (5, [.ref w1, .int 0, .int 0, .int 0, .int 0, .int 0, .ref w2, .ref w3, .ref w4, .int 0, .int 0]))] sz) U)) (va_Qv (fun (_ : Unit) => True) (fun _ t => va_P (dC, dI) vwCl [(h0, .inr (5, [.ref w1, .int 0, .int 0, .int 1, .int 0, .int 0, .ref w2, .ref w3, .ref w4, .int 0, .int 0]))] t.heap ∧ va_D (va_A [(h0, .inr (5, [.ref w1, .int 0, .int 0, .int 0, .int 0, .int 0, .ref w2, .ref w3, .ref w4, .int 0, .int 0]))] sz) [(h0, .inr (5, [.ref w1, .int 0, .int 0, .int 1, .int 0, .int 0, .ref w2, .ref w3, .ref w4, .int 0, .int 0]))]) (va_A [(h0, .inr (5, [.ref w1, .int 0, .int 0, .int 0, .int 0, .int 0, .ref w2, .ref w3, .ref w4, .int 0, .int 0]))] sz)) 0 0 (va_A [(h0, .inr (5, [.ref w1, .int 0, .int 0, .int 0, .int 0, .int 0, .ref w2, .ref w3, .ref w4, .int 0, .int 0]))] sz) := by
  refine Met.ofW (cc := cX5_readStatement) (maxL := 4) (ret := none) (by decide) rfl ?_
  intro p e s m args below meth c s₁ B hml hv
  obtain ⟨rfl, hsz, hP, hK, hD0, hE⟩ := hv
  have hx := B.exec
  have hb := B.bytes
  have hr := B.returns
  have hts0 := atoms_spec (ws := (wsg yX5_readStatement cX5_readStatement 4 none)) B.pre
  have hts : ∀ w ∈ wsL_law, w.before _ s = true := fun w h => hts0 w (List.mem_cons_of_mem _ h)
  have hown : s.vm.findClass RX5 = some m.cls := findClass_of_methodNamed B.named
  have hlocks := B.notSynchronized
  subst hsz
  have hD := hD0.self (sz := s.heap.size)
  generalize hAe : va_A [(h0, .inr (5, [.ref w1, .int 0, .int 0, .int 0, .int 0, .int 0, .ref w2, .ref w3, .ref w4, .int 0, .int 0]))] s.heap.size = A at hD hE ⊢
  have hA : ∀ q : Nat, s.heap.size ≤ q → A q := fun q h => by rw [← hAe]; exact Or.inr h
  have hS : va_S A s.heap s.heap [] := va_S.rf
  have hP : va_P (dC, dI) vwCl [(h0, .inr (5, [.ref w1, .int 0, .int 0, .int 0, .int 0, .int 0, .ref w2, .ref w3, .ref w4, .int 0, .int 0]))] s.heap := hP
  have hl := lv_entry ([.ref h0, .ref a2]) (n := 4) (Nat.le_of_ble_eq_true rfl)
  rw [lg_entry_eq]
  generalize (lg_sl ([.ref h0, .ref a2]) ++ List.replicate (4 - (lg_sl ([.ref h0, .ref a2])).length) Slot.unset).toArray = ls at hl ⊢
  have hl : lv_has ls 4 [(0, .ref h0), (1, .ref a2)] := hl
  generalize hHe : s.heap = H at hP hS ⊢
  have hS : va_S A s.heap H [] := by rw [hHe]; exact hS
  refine lv_aload_n hx hb dX5_readStatement_0 rfl (lv_at hl 0 rfl) ?_
  have hPc := hP.sub (ws' := [(h0, .inr (5, [.ref w1, .int 0, .int 0, .int 0, .int 0, .int 0, .ref w2, .ref w3, .ref w4, .int 0, .int 0]))]) [0] rfl
  have hDc := hD.sub (ws' := [(h0, .inr (5, [.ref w1, .int 0, .int 0, .int 0, .int 0, .int 0, .ref w2, .ref w3, .ref w4, .int 0, .int 0]))]) [0] (by decide) rfl
  have hFc := va_free (wc := [(h0, .inr (5, [.ref w1, .int 0, .int 0, .int 0, .int 0, .int 0, .ref w2, .ref w3, .ref w4, .int 0, .int 0]))]) hD hS hA [0] rfl
  refine va_calli (va_runV (As := []) (rest := []) ⟨hx, hb, hml, hown, hts⟩ (c_X5_skipSpaces l dC dI cy nb h0 w1 w2 w3 w4 H.size) (cwV 0 hts (gV mw_155 mw_156 mw_157 mw_22 mw_158) rfl rfl rfl (by decide +kernel) ⟨Nat.le_of_ble_eq_true rfl, Nat.le_of_ble_eq_true rfl⟩) ⟨fun a U g mk q => by obtain ⟨q0, q1, qP, qK, qD, qE⟩ := q; exact ⟨q0, q1, qP, va_K.moved (u := U) (U := U.calling g mk a) (Vm.Alike.refl U.vm) qK, qD, GE.calling qE⟩, va_recv hK hP (ci := 5) (q0 := 0) rfl rfl, fun U hU hW => ⟨rfl, by rw [hU], by rw [hU]; exact hPc, va_K.moved hW.alike hK, hDc.weaken (fun _ _ _ _ => trivial), GE.call hE hS hFc hU hW⟩⟩ rfl rfl hl.1 rfl (lv_room (Nat.le_of_ble_eq_true rfl)) dX5_readStatement_1 ⟨Nat.le_of_ble_eq_true rfl, Nat.le_of_ble_eq_true rfl⟩) hS (fun q _ h => hFc q h) hFc (fun r u t H1 locs ht hvm hw1 hB hz1 hk1 hS => ?_)
  obtain ⟨hP1, hD1⟩ := hB
  rw [ht] at hP1
  obtain ⟨hP, hD⟩ := va_join (wr := []) (w1 := [(h0, .inr (5, [.ref w1, .int 0, .int 0, .int 0, .int 0, .int 0, .ref w2, .ref w3, .ref w4, .int 0, .int 0]))]) hP hD [0] [] rfl rfl (by decide) (by decide) hk1 hFc hP1 hD1
  generalize H1 = H at hP hS ⊢
  have hP : va_P (dC, dI) vwCl [(h0, .inr (5, [.ref w1, .int 0, .int 0, .int 0, .int 0, .int 0, .ref w2, .ref w3, .ref w4, .int 0, .int 0]))] H := hP
  have hD : va_D A [(h0, .inr (5, [.ref w1, .int 0, .int 0, .int 0, .int 0, .int 0, .ref w2, .ref w3, .ref w4, .int 0, .int 0]))] := hD
  obtain rfl := hw1
  refine W.widen (k := 0) (n := 0) (by omega) (by omega) ?_
  refine lv_istore_n (lv' := [(2, .int 0), (0, .ref h0), (1, .ref a2)]) hx hb dX5_readStatement_4 rfl hl (by decide) rfl (fun ls hl => ?_)
  refine lv_aload_n hx hb dX5_readStatement_5 rfl (lv_at hl 1 rfl) ?_
  have hPc := hP.sub (ws' := [(h0, .inr (5, [.ref w1, .int 0, .int 0, .int 0, .int 0, .int 0, .ref w2, .ref w3, .ref w4, .int 0, .int 0]))]) [0] rfl
  have hDc := hD.sub (ws' := [(h0, .inr (5, [.ref w1, .int 0, .int 0, .int 0, .int 0, .int 0, .ref w2, .ref w3, .ref w4, .int 0, .int 0]))]) [0] (by decide) rfl
  have hFc := va_free (wc := [(h0, .inr (5, [.ref w1, .int 0, .int 0, .int 0, .int 0, .int 0, .ref w2, .ref w3, .ref w4, .int 0, .int 0]))]) hD hS hA [0] rfl
  refine va_calli (va_runV (As := []) (rest := []) ⟨hx, hb, hml, hown, hts⟩ (c_X5_readWord l dC dI cy nb h0 w1 w2 w3 w4 H.size) (cwV 0 hts (gV mw_159 mw_160 mw_161 mw_22 mw_162) rfl rfl rfl (by decide +kernel) ⟨Nat.le_of_ble_eq_true rfl, Nat.le_of_ble_eq_true rfl⟩) ⟨fun a U g mk q => by obtain ⟨q0, q1, qP, qK, qD, qE⟩ := q; exact ⟨q0, q1, qP, va_K.moved (u := U) (U := U.calling g mk a) (Vm.Alike.refl U.vm) qK, qD, GE.calling qE⟩, va_recv hK hP (ci := 5) (q0 := 0) rfl rfl, fun U hU hW => ⟨rfl, by rw [hU], by rw [hU]; exact hPc, va_K.moved hW.alike hK, hDc.weaken (fun _ _ _ _ => trivial), GE.call hE hS hFc hU hW⟩⟩ rfl rfl hl.1 rfl (lv_room (Nat.le_of_ble_eq_true rfl)) dX5_readStatement_6 ⟨Nat.le_of_ble_eq_true rfl, Nat.le_of_ble_eq_true rfl⟩) hS (fun q _ h => hFc q h) hFc (fun r u t H1 locs ht hvm hw2 hB hz1 hk1 hS => ?_)
  obtain ⟨hP1, hD1⟩ := hB
  rw [ht] at hP1
  obtain ⟨hP, hD⟩ := va_join (wr := []) (w1 := [(h0, .inr (5, [.ref w1, .int 0, .int 0, .int 0, .int 0, .int 0, .ref w2, .ref w3, .ref w4, .int 0, .int 0]))]) hP hD [0] [] rfl rfl (by decide) (by decide) hk1 hFc hP1 hD1
  generalize H1 = H at hP hS ⊢
  have hP : va_P (dC, dI) vwCl [(h0, .inr (5, [.ref w1, .int 0, .int 0, .int 0, .int 0, .int 0, .ref w2, .ref w3, .ref w4, .int 0, .int 0]))] H := hP
  have hD : va_D A [(h0, .inr (5, [.ref w1, .int 0, .int 0, .int 0, .int 0, .int 0, .ref w2, .ref w3, .ref w4, .int 0, .int 0]))] := hD
  obtain rfl := hw2
  refine W.widen (k := 0) (n := 0) (by omega) (by omega) ?_
  refine lv_istore_n (lv' := [(3, .int (-1)), (2, .int 0), (0, .ref h0), (1, .ref a2)]) hx hb dX5_readStatement_9 rfl hl (by decide) rfl (fun ls hl => ?_)
  refine lv_iload_n hx hb dX5_readStatement_10 rfl (lv_at hl 0 rfl) ?_
  refine lv_iconst (v := (-1)) hx hb dX5_readStatement_11 (by decide) ?_
  refine lv_icmp_eq (tgt := 40) hx hb dX5_readStatement_12 (by decide) (fun _ => ?_) (fun h => absurd (by decide) h)
  refine lv_aload_n hx hb dX5_readStatement_40 rfl (lv_at hl 2 rfl) ?_
  refine lv_iconst (v := 1) hx hb dX5_readStatement_41 (by decide) ?_
  refine lv_iload_n hx hb dX5_readStatement_42 rfl (lv_at hl 1 rfl) ?_
  have hPc := hP.sub (ws' := [(h0, .inr (5, [.ref w1, .int 0, .int 0, .int 0, .int 0, .int 0, .ref w2, .ref w3, .ref w4, .int 0, .int 0]))]) [0] rfl
  have hDc := hD.sub (ws' := [(h0, .inr (5, [.ref w1, .int 0, .int 0, .int 0, .int 0, .int 0, .ref w2, .ref w3, .ref w4, .int 0, .int 0]))]) [0] (by decide) rfl
  have hFc := va_free (wc := [(h0, .inr (5, [.ref w1, .int 0, .int 0, .int 0, .int 0, .int 0, .ref w2, .ref w3, .ref w4, .int 0, .int 0]))]) hD hS hA [0] rfl
  refine va_callv (va_runV (As := [.int 1, .int 0]) (rest := []) ⟨hx, hb, hml, hown, hts⟩ (c_X5_error l dC dI cy nb h0 w1 w2 w3 w4 H.size) (cwV 2 hts (gV mw_219 mw_220 mw_221 mw_22 mw_222) rfl rfl rfl (by decide +kernel) ⟨Nat.le_of_ble_eq_true rfl, Nat.le_of_ble_eq_true rfl⟩) ⟨fun a U g mk q => by obtain ⟨q0, q1, qP, qK, qD, qE⟩ := q; exact ⟨q0, q1, qP, va_K.moved (u := U) (U := U.calling g mk a) (Vm.Alike.refl U.vm) qK, qD, GE.calling qE⟩, va_recv hK hP (ci := 5) (q0 := 0) rfl rfl, fun U hU hW => ⟨rfl, by rw [hU], by rw [hU]; exact hPc, va_K.moved hW.alike hK, hDc.weaken (fun _ _ _ _ => trivial), GE.call hE hS hFc hU hW⟩⟩ rfl rfl hl.1 rfl (lv_room (Nat.le_of_ble_eq_true rfl)) dX5_readStatement_43 ⟨Nat.le_of_ble_eq_true rfl, Nat.le_of_ble_eq_true rfl⟩) hS (fun q _ h => hFc q h) hFc (fun u t H1 locs ht hvm hw3 hB hz1 hk1 hS => ?_)
  obtain ⟨hP1, hD1⟩ := hB
  rw [ht] at hP1
  obtain ⟨hP, hD⟩ := va_join (wr := []) (w1 := [(h0, .inr (5, [.ref w1, .int 0, .int 0, .int 1, .int 0, .int 0, .ref w2, .ref w3, .ref w4, .int 0, .int 0]))]) hP hD [0] [] rfl rfl (by decide) (by decide) hk1 hFc hP1 hD1
  generalize H1 = H at hP hS ⊢
  have hP : va_P (dC, dI) vwCl [(h0, .inr (5, [.ref w1, .int 0, .int 0, .int 1, .int 0, .int 0, .ref w2, .ref w3, .ref w4, .int 0, .int 0]))] H := hP
  have hD : va_D A [(h0, .inr (5, [.ref w1, .int 0, .int 0, .int 1, .int 0, .int 0, .ref w2, .ref w3, .ref w4, .int 0, .int 0]))] := hD
  refine W.widen (k := 0) (n := 0) (by omega) (by omega) ?_
  have hP9 := hP.sub (ws' := [(h0, .inr (5, [.ref w1, .int 0, .int 0, .int 1, .int 0, .int 0, .ref w2, .ref w3, .ref w4, .int 0, .int 0]))]) [0] rfl
  have hD9 := hD.sub (ws' := [(h0, .inr (5, [.ref w1, .int 0, .int 0, .int 1, .int 0, .int 0, .ref w2, .ref w3, .ref w4, .int 0, .int 0]))]) [0] (by decide) rfl
  refine W.widen (k := 0) (n := 0) (by omega) (by omega) ?_
  exact W.vret hx hb hr (fun t ht hW => ⟨⟨(), rfl, trivial, by rw [ht]; exact hP9, hD9⟩, hS.F ht⟩) hS.2.2 dX5_readStatement_46
set_option maxHeartbeats 4000000 in
set_option maxRecDepth 100000 in
/-- X5_readSemicolon -/
theorem c_X5_readSemicolon (l : Launch) (dC : Nat → ClassId) (dI : Nat → Nat → Nat) (cy : Nat → ClassId) (nb : Nat → Nat) (h0 : Nat) (w1 : Nat) (w2 : Nat) (w3 : Nat) (w4 : Nat) (sz : Nat) : Met l yX5_readSemicolon (wsg yX5_readSemicolon cX5_readSemicolon 1 (some .boolean)) ({ frames := 10, cells := 0, slots := 0, locals := 500 }) (va_Pc [.ref h0] (fun U => U.heap.size = sz ∧ va_P (dC, dI) vwCl [(h0, .inr (5, [.ref w1, .int 0, .int 0, .int 1, .int 0, .int 0, .ref w2, .ref w3, .ref w4, .int 0, .int 0]))] U.heap ∧ va_K (dC, dI) vwCl (tyL cy) U ∧ va_D (fun _ => True) [(h0, .inr (5, [.ref w1, .int 0, .int 0, .int 1, .int 0, .int 0, .ref w2, .ref w3, .ref w4, .int 0, .int 0]))] ∧ GE nb (va_A [(h0, .inr (5, [.ref w1, .int 0, .int 0, .int 1, .int 0, .int 0, .ref w2, .ref w3, .ref w4, .int 0, .int 0]))] sz) U)) (va_Qi (fun (r : Int32) (_ : Unit) => r = 0) (fun _ t => va_P (dC, dI) vwCl [(h0, .inr (5, [.ref w1, .int 0, .int 0, .int 1, .int 0, .int 0, .ref w2, .ref w3, .ref w4, .int 0, .int 0]))] t.heap ∧ va_D (va_A [(h0, .inr (5, [.ref w1, .int 0, .int 0, .int 1, .int 0, .int 0, .ref w2, .ref w3, .ref w4, .int 0, .int 0]))] sz) [(h0, .inr (5, [.ref w1, .int 0, .int 0, .int 1, .int 0, .int 0, .ref w2, .ref w3, .ref w4, .int 0, .int 0]))]) (va_A [(h0, .inr (5, [.ref w1, .int 0, .int 0, .int 1, .int 0, .int 0, .ref w2, .ref w3, .ref w4, .int 0, .int 0]))] sz)) 0 0 (va_A [(h0, .inr (5, [.ref w1, .int 0, .int 0, .int 1, .int 0, .int 0, .ref w2, .ref w3, .ref w4, .int 0, .int 0]))] sz) := by
  refine Met.ofW (cc := cX5_readSemicolon) (maxL := 1) (ret := (some .boolean)) (by decide) rfl ?_
  intro p e s m args below meth c s₁ B hml hv
  obtain ⟨rfl, hsz, hP, hK, hD0, hE⟩ := hv
  have hx := B.exec
  have hb := B.bytes
  have hr := B.returns
  have hts0 := atoms_spec (ws := (wsg yX5_readSemicolon cX5_readSemicolon 1 (some .boolean))) B.pre
  have hts : ∀ w ∈ wsL_law, w.before _ s = true := fun w h => hts0 w (List.mem_cons_of_mem _ h)
  have hown : s.vm.findClass RX5 = some m.cls := findClass_of_methodNamed B.named
  have hlocks := B.notSynchronized
  subst hsz
  have hD := hD0.self (sz := s.heap.size)
  generalize hAe : va_A [(h0, .inr (5, [.ref w1, .int 0, .int 0, .int 1, .int 0, .int 0, .ref w2, .ref w3, .ref w4, .int 0, .int 0]))] s.heap.size = A at hD hE ⊢
  have hA : ∀ q : Nat, s.heap.size ≤ q → A q := fun q h => by rw [← hAe]; exact Or.inr h
  have hS : va_S A s.heap s.heap [] := va_S.rf
  have hP : va_P (dC, dI) vwCl [(h0, .inr (5, [.ref w1, .int 0, .int 0, .int 1, .int 0, .int 0, .ref w2, .ref w3, .ref w4, .int 0, .int 0]))] s.heap := hP
  have hl := lv_entry ([.ref h0]) (n := 1) (Nat.le_of_ble_eq_true rfl)
  rw [lg_entry_eq]
  generalize (lg_sl ([.ref h0]) ++ List.replicate (1 - (lg_sl ([.ref h0])).length) Slot.unset).toArray = ls at hl ⊢
  have hl : lv_has ls 1 [(0, .ref h0)] := hl
  generalize hHe : s.heap = H at hP hS ⊢
  have hS : va_S A s.heap H [] := by rw [hHe]; exact hS
  refine lv_aload_n hx hb dX5_readSemicolon_0 rfl (lv_at hl 0 rfl) ?_
  have hPc := hP.sub (ws' := [(h0, .inr (5, [.ref w1, .int 0, .int 0, .int 1, .int 0, .int 0, .ref w2, .ref w3, .ref w4, .int 0, .int 0]))]) [0] rfl
  have hDc := hD.sub (ws' := [(h0, .inr (5, [.ref w1, .int 0, .int 0, .int 1, .int 0, .int 0, .ref w2, .ref w3, .ref w4, .int 0, .int 0]))]) [0] (by decide) rfl
  have hFc := va_free (wc := [(h0, .inr (5, [.ref w1, .int 0, .int 0, .int 1, .int 0, .int 0, .ref w2, .ref w3, .ref w4, .int 0, .int 0]))]) hD hS hA [0] rfl
  refine va_calli (va_runV (As := []) (rest := []) ⟨hx, hb, hml, hown, hts⟩ (c_X5_skipSpaces_e l dC dI cy nb h0 w1 w2 w3 w4 H.size) (cwV 0 hts (gV mw_155 mw_156 mw_157 mw_22 mw_158) rfl rfl rfl (by decide +kernel) ⟨Nat.le_of_ble_eq_true rfl, Nat.le_of_ble_eq_true rfl⟩) ⟨fun a U g mk q => by obtain ⟨q0, q1, qP, qK, qD, qE⟩ := q; exact ⟨q0, q1, qP, va_K.moved (u := U) (U := U.calling g mk a) (Vm.Alike.refl U.vm) qK, qD, GE.calling qE⟩, va_recv hK hP (ci := 5) (q0 := 0) rfl rfl, fun U hU hW => ⟨rfl, by rw [hU], by rw [hU]; exact hPc, va_K.moved hW.alike hK, hDc.weaken (fun _ _ _ _ => trivial), GE.call hE hS hFc hU hW⟩⟩ rfl rfl hl.1 rfl (lv_room (Nat.le_of_ble_eq_true rfl)) dX5_readSemicolon_1 ⟨Nat.le_of_ble_eq_true rfl, Nat.le_of_ble_eq_true rfl⟩) hS (fun q _ h => hFc q h) hFc (fun r u t H1 locs ht hvm hw1 hB hz1 hk1 hS => ?_)
  obtain ⟨hP1, hD1⟩ := hB
  rw [ht] at hP1
  obtain ⟨hP, hD⟩ := va_join (wr := []) (w1 := [(h0, .inr (5, [.ref w1, .int 0, .int 0, .int 1, .int 0, .int 0, .ref w2, .ref w3, .ref w4, .int 0, .int 0]))]) hP hD [0] [] rfl rfl (by decide) (by decide) hk1 hFc hP1 hD1
  generalize H1 = H at hP hS ⊢
  have hP : va_P (dC, dI) vwCl [(h0, .inr (5, [.ref w1, .int 0, .int 0, .int 1, .int 0, .int 0, .ref w2, .ref w3, .ref w4, .int 0, .int 0]))] H := hP
  have hD : va_D A [(h0, .inr (5, [.ref w1, .int 0, .int 0, .int 1, .int 0, .int 0, .ref w2, .ref w3, .ref w4, .int 0, .int 0]))] := hD
  obtain rfl := hw1
  refine W.widen (k := 0) (n := 0) (by omega) (by omega) ?_
  refine lv_pop hx hb dX5_readSemicolon_4 rfl ?_
  refine lv_aload_n hx hb dX5_readSemicolon_5 rfl (lv_at hl 0 rfl) ?_
  have hPc := hP.sub (ws' := [(h0, .inr (5, [.ref w1, .int 0, .int 0, .int 1, .int 0, .int 0, .ref w2, .ref w3, .ref w4, .int 0, .int 0]))]) [0] rfl
  have hDc := hD.sub (ws' := [(h0, .inr (5, [.ref w1, .int 0, .int 0, .int 1, .int 0, .int 0, .ref w2, .ref w3, .ref w4, .int 0, .int 0]))]) [0] (by decide) rfl
  have hFc := va_free (wc := [(h0, .inr (5, [.ref w1, .int 0, .int 0, .int 1, .int 0, .int 0, .ref w2, .ref w3, .ref w4, .int 0, .int 0]))]) hD hS hA [0] rfl
  refine va_calli (va_runV (As := []) (rest := []) ⟨hx, hb, hml, hown, hts⟩ (c_X5_isFine l dC dI cy nb h0 w1 w2 w3 w4 H.size) (cwV 0 hts (gV mw_239 mw_240 mw_241 mw_22 mw_242) rfl rfl rfl (by decide +kernel) ⟨Nat.le_of_ble_eq_true rfl, Nat.le_of_ble_eq_true rfl⟩) ⟨fun a U g mk q => by obtain ⟨q0, q1, qP, qK, qD, qE⟩ := q; exact ⟨q0, q1, qP, va_K.moved (u := U) (U := U.calling g mk a) (Vm.Alike.refl U.vm) qK, qD, GE.calling qE⟩, va_recv hK hP (ci := 5) (q0 := 0) rfl rfl, fun U hU hW => ⟨rfl, by rw [hU], by rw [hU]; exact hPc, va_K.moved hW.alike hK, hDc.weaken (fun _ _ _ _ => trivial), GE.call hE hS hFc hU hW⟩⟩ rfl rfl hl.1 rfl (lv_room (Nat.le_of_ble_eq_true rfl)) dX5_readSemicolon_6 ⟨Nat.le_of_ble_eq_true rfl, Nat.le_of_ble_eq_true rfl⟩) hS (fun q _ h => hFc q h) hFc (fun r u t H1 locs ht hvm hw2 hB hz1 hk1 hS => ?_)
  obtain ⟨hP1, hD1⟩ := hB
  rw [ht] at hP1
  obtain ⟨hP, hD⟩ := va_join (wr := []) (w1 := [(h0, .inr (5, [.ref w1, .int 0, .int 0, .int 1, .int 0, .int 0, .ref w2, .ref w3, .ref w4, .int 0, .int 0]))]) hP hD [0] [] rfl rfl (by decide) (by decide) hk1 hFc hP1 hD1
  generalize H1 = H at hP hS ⊢
  have hP : va_P (dC, dI) vwCl [(h0, .inr (5, [.ref w1, .int 0, .int 0, .int 1, .int 0, .int 0, .ref w2, .ref w3, .ref w4, .int 0, .int 0]))] H := hP
  have hD : va_D A [(h0, .inr (5, [.ref w1, .int 0, .int 0, .int 1, .int 0, .int 0, .ref w2, .ref w3, .ref w4, .int 0, .int 0]))] := hD
  obtain rfl := hw2
  refine W.widen (k := 0) (n := 0) (by omega) (by omega) ?_
  refine lv_if_eq (tgt := 23) hx hb dX5_readSemicolon_9 (by decide) (fun _ => ?_) (fun h => absurd (by decide) h)
  refine lv_iconst (v := 0) hx hb dX5_readSemicolon_23 (by decide) ?_
  have hP9 := hP.sub (ws' := [(h0, .inr (5, [.ref w1, .int 0, .int 0, .int 1, .int 0, .int 0, .ref w2, .ref w3, .ref w4, .int 0, .int 0]))]) [0] rfl
  have hD9 := hD.sub (ws' := [(h0, .inr (5, [.ref w1, .int 0, .int 0, .int 1, .int 0, .int 0, .ref w2, .ref w3, .ref w4, .int 0, .int 0]))]) [0] (by decide) rfl
  refine W.widen (k := 0) (n := 0) (by omega) (by omega) ?_
  exact W.zret (v := 0) hx hb hr (by rfl) (fun t ht hW => ⟨⟨0, (), rfl, rfl, by rw [ht]; exact hP9, hD9⟩, hS.F ht⟩) hS.2.2 dX5_readSemicolon_24
set_option maxHeartbeats 4000000 in
set_option maxRecDepth 100000 in
/-- X5_readDescription -/
theorem c_X5_readDescription (l : Launch) (dC : Nat → ClassId) (dI : Nat → Nat → Nat) (cy : Nat → ClassId) (nb : Nat → Nat) (h0 : Nat) (w1 : Nat) (w2 : Nat) (w3 : Nat) (w4 : Nat) (a2 : Nat) (sz : Nat) : Met l yX5_readDescription (wsg yX5_readDescription cX5_readDescription 3 none) ({ frames := 13, cells := 0, slots := 0, locals := 800 }) (va_Pc [.ref h0, .ref a2] (fun U => U.heap.size = sz ∧ va_P (dC, dI) vwCl [(h0, .inr (5, [.ref w1, .int 0, .int 0, .int 0, .int 0, .int 0, .ref w2, .ref w3, .ref w4, .int 0, .int 0]))] U.heap ∧ va_K (dC, dI) vwCl (tyL cy) U ∧ va_D (fun _ => True) [(h0, .inr (5, [.ref w1, .int 0, .int 0, .int 0, .int 0, .int 0, .ref w2, .ref w3, .ref w4, .int 0, .int 0]))] ∧ GE nb (va_A [(h0, .inr (5, [.ref w1, .int 0, .int 0, .int 0, .int 0, .int 0, .ref w2, .ref w3, .ref w4, .int 0, .int 0]))] sz) U)) (va_Qv (fun (_ : Unit) => True) (fun _ t => va_P (dC, dI) vwCl [(h0, .inr (5, [.ref w1, .int 0, .int 0, .int 1, .int 0, .int 0, .ref w2, .ref w3, .ref w4, .int 0, .int 0]))] t.heap ∧ va_D (va_A [(h0, .inr (5, [.ref w1, .int 0, .int 0, .int 0, .int 0, .int 0, .ref w2, .ref w3, .ref w4, .int 0, .int 0]))] sz) [(h0, .inr (5, [.ref w1, .int 0, .int 0, .int 1, .int 0, .int 0, .ref w2, .ref w3, .ref w4, .int 0, .int 0]))]) (va_A [(h0, .inr (5, [.ref w1, .int 0, .int 0, .int 0, .int 0, .int 0, .ref w2, .ref w3, .ref w4, .int 0, .int 0]))] sz)) 0 0 (va_A [(h0, .inr (5, [.ref w1, .int 0, .int 0, .int 0, .int 0, .int 0, .ref w2, .ref w3, .ref w4, .int 0, .int 0]))] sz) := by
  refine Met.ofW (cc := cX5_readDescription) (maxL := 3) (ret := none) (by decide) rfl ?_
  intro p e s m args below meth c s₁ B hml hv
  obtain ⟨rfl, hsz, hP, hK, hD0, hE⟩ := hv
  have hx := B.exec
  have hb := B.bytes
  have hr := B.returns
  have hts0 := atoms_spec (ws := (wsg yX5_readDescription cX5_readDescription 3 none)) B.pre
  have hts : ∀ w ∈ wsL_law, w.before _ s = true := fun w h => hts0 w (List.mem_cons_of_mem _ h)
  have hown : s.vm.findClass RX5 = some m.cls := findClass_of_methodNamed B.named
  have hlocks := B.notSynchronized
  subst hsz
  have hD := hD0.self (sz := s.heap.size)
  generalize hAe : va_A [(h0, .inr (5, [.ref w1, .int 0, .int 0, .int 0, .int 0, .int 0, .ref w2, .ref w3, .ref w4, .int 0, .int 0]))] s.heap.size = A at hD hE ⊢
  have hA : ∀ q : Nat, s.heap.size ≤ q → A q := fun q h => by rw [← hAe]; exact Or.inr h
  have hS : va_S A s.heap s.heap [] := va_S.rf
  have hP : va_P (dC, dI) vwCl [(h0, .inr (5, [.ref w1, .int 0, .int 0, .int 0, .int 0, .int 0, .ref w2, .ref w3, .ref w4, .int 0, .int 0]))] s.heap := hP
  have hl := lv_entry ([.ref h0, .ref a2]) (n := 3) (Nat.le_of_ble_eq_true rfl)
  rw [lg_entry_eq]
  generalize (lg_sl ([.ref h0, .ref a2]) ++ List.replicate (3 - (lg_sl ([.ref h0, .ref a2])).length) Slot.unset).toArray = ls at hl ⊢
  have hl : lv_has ls 3 [(0, .ref h0), (1, .ref a2)] := hl
  generalize hHe : s.heap = H at hP hS ⊢
  have hS : va_S A s.heap H [] := by rw [hHe]; exact hS
  refine lv_aload_n hx hb dX5_readDescription_0 rfl (lv_at hl 0 rfl) ?_
  have hPc := hP.sub (ws' := [(h0, .inr (5, [.ref w1, .int 0, .int 0, .int 0, .int 0, .int 0, .ref w2, .ref w3, .ref w4, .int 0, .int 0]))]) [0] rfl
  have hDc := hD.sub (ws' := [(h0, .inr (5, [.ref w1, .int 0, .int 0, .int 0, .int 0, .int 0, .ref w2, .ref w3, .ref w4, .int 0, .int 0]))]) [0] (by decide) rfl
  have hFc := va_free (wc := [(h0, .inr (5, [.ref w1, .int 0, .int 0, .int 0, .int 0, .int 0, .ref w2, .ref w3, .ref w4, .int 0, .int 0]))]) hD hS hA [0] rfl
  refine va_callv (va_runV (As := []) (rest := []) ⟨hx, hb, hml, hown, hts⟩ (c_X5_start l dC dI cy nb h0 w1 w2 w3 w4 H.size) (cwV 0 hts (gV mw_144 mw_145 mw_146 mw_22 mw_147) rfl rfl rfl (by decide +kernel) ⟨Nat.le_of_ble_eq_true rfl, Nat.le_of_ble_eq_true rfl⟩) ⟨fun a U g mk q => by obtain ⟨q0, q1, qP, qK, qD, qE⟩ := q; exact ⟨q0, q1, qP, va_K.moved (u := U) (U := U.calling g mk a) (Vm.Alike.refl U.vm) qK, qD, GE.calling qE⟩, va_recv hK hP (ci := 5) (q0 := 0) rfl rfl, fun U hU hW => ⟨rfl, by rw [hU], by rw [hU]; exact hPc, va_K.moved hW.alike hK, hDc.weaken (fun _ _ _ _ => trivial), GE.call hE hS hFc hU hW⟩⟩ rfl rfl hl.1 rfl (lv_room (Nat.le_of_ble_eq_true rfl)) dX5_readDescription_1 ⟨Nat.le_of_ble_eq_true rfl, Nat.le_of_ble_eq_true rfl⟩) hS (fun q _ h => hFc q h) hFc (fun u t H1 locs ht hvm hw1 hB hz1 hk1 hS => ?_)
  obtain ⟨hP1, hD1⟩ := hB
  rw [ht] at hP1
  obtain ⟨hP, hD⟩ := va_join (wr := []) (w1 := [(h0, .inr (5, [.ref w1, .int 0, .int 0, .int 0, .int 0, .int 0, .ref w2, .ref w3, .ref w4, .int 0, .int 0]))]) hP hD [0] [] rfl rfl (by decide) (by decide) hk1 hFc hP1 hD1
  generalize H1 = H at hP hS ⊢
  have hP : va_P (dC, dI) vwCl [(h0, .inr (5, [.ref w1, .int 0, .int 0, .int 0, .int 0, .int 0, .ref w2, .ref w3, .ref w4, .int 0, .int 0]))] H := hP
  have hD : va_D A [(h0, .inr (5, [.ref w1, .int 0, .int 0, .int 0, .int 0, .int 0, .ref w2, .ref w3, .ref w4, .int 0, .int 0]))] := hD
  refine W.widen (k := 0) (n := 0) (by omega) (by omega) ?_
  refine lv_iconst (v := 1) hx hb dX5_readDescription_4 (by decide) ?_
  refine lv_istore_n (lv' := [(2, .int 1), (0, .ref h0), (1, .ref a2)]) hx hb dX5_readDescription_5 rfl hl (by decide) rfl (fun ls hl => ?_)
  refine lv_iload_n hx hb dX5_readDescription_6 rfl (lv_at hl 0 rfl) ?_
  refine lv_if_eq (tgt := 47) hx hb dX5_readDescription_7 (by decide) (fun h => absurd h (by decide)) (fun _ => ?_)
  refine lv_aload_n hx hb dX5_readDescription_10 rfl (lv_at hl 1 rfl) ?_
  refine va_get (D := (dC, dI)) (ci := 5) (v := .int 0) (C := RX5) (T := TX5) (N := 11) hx hb hts inlX5 hown hK hP 0 rfl rfl 5 (by decide) (hts _ mw_143) (fun _ h9 => h9) rfl dX5_readDescription_11 ?_
  refine lv_sipush (v := 600) hx hb dX5_readDescription_14 (by decide) ?_
  refine lv_icmp_gt (tgt := 47) hx hb dX5_readDescription_17 (by decide) (fun h => absurd h (by decide)) (fun _ => ?_)
  refine lv_aload_n hx hb dX5_readDescription_20 rfl (lv_at hl 1 rfl) ?_
  refine lv_aload_n hx hb dX5_readDescription_21 rfl (lv_at hl 2 rfl) ?_
  have hPc := hP.sub (ws' := [(h0, .inr (5, [.ref w1, .int 0, .int 0, .int 0, .int 0, .int 0, .ref w2, .ref w3, .ref w4, .int 0, .int 0]))]) [0] rfl
  have hDc := hD.sub (ws' := [(h0, .inr (5, [.ref w1, .int 0, .int 0, .int 0, .int 0, .int 0, .ref w2, .ref w3, .ref w4, .int 0, .int 0]))]) [0] (by decide) rfl
  have hFc := va_free (wc := [(h0, .inr (5, [.ref w1, .int 0, .int 0, .int 0, .int 0, .int 0, .ref w2, .ref w3, .ref w4, .int 0, .int 0]))]) hD hS hA [0] rfl
  refine va_callv (va_runV (As := [.ref a2]) (rest := []) ⟨hx, hb, hml, hown, hts⟩ (c_X5_readStatement l dC dI cy nb h0 w1 w2 w3 w4 a2 H.size) (cwV 1 hts (gV mw_151 mw_152 mw_153 mw_22 mw_154) rfl rfl rfl (by decide +kernel) ⟨Nat.le_of_ble_eq_true rfl, Nat.le_of_ble_eq_true rfl⟩) ⟨fun a U g mk q => by obtain ⟨q0, q1, qP, qK, qD, qE⟩ := q; exact ⟨q0, q1, qP, va_K.moved (u := U) (U := U.calling g mk a) (Vm.Alike.refl U.vm) qK, qD, GE.calling qE⟩, va_recv hK hP (ci := 5) (q0 := 0) rfl rfl, fun U hU hW => ⟨rfl, by rw [hU], by rw [hU]; exact hPc, va_K.moved hW.alike hK, hDc.weaken (fun _ _ _ _ => trivial), GE.call hE hS hFc hU hW⟩⟩ rfl rfl hl.1 rfl (lv_room (Nat.le_of_ble_eq_true rfl)) dX5_readDescription_22 ⟨Nat.le_of_ble_eq_true rfl, Nat.le_of_ble_eq_true rfl⟩) hS (fun q _ h => hFc q h) hFc (fun u t H1 locs ht hvm hw2 hB hz1 hk1 hS => ?_)
  obtain ⟨hP1, hD1⟩ := hB
  rw [ht] at hP1
  obtain ⟨hP, hD⟩ := va_join (wr := []) (w1 := [(h0, .inr (5, [.ref w1, .int 0, .int 0, .int 1, .int 0, .int 0, .ref w2, .ref w3, .ref w4, .int 0, .int 0]))]) hP hD [0] [] rfl rfl (by decide) (by decide) hk1 hFc hP1 hD1
  generalize H1 = H at hP hS ⊢
  have hP : va_P (dC, dI) vwCl [(h0, .inr (5, [.ref w1, .int 0, .int 0, .int 1, .int 0, .int 0, .ref w2, .ref w3, .ref w4, .int 0, .int 0]))] H := hP
  have hD : va_D A [(h0, .inr (5, [.ref w1, .int 0, .int 0, .int 1, .int 0, .int 0, .ref w2, .ref w3, .ref w4, .int 0, .int 0]))] := hD
  refine W.widen (k := 0) (n := 0) (by omega) (by omega) ?_
  refine lv_aload_n hx hb dX5_readDescription_25 rfl (lv_at hl 1 rfl) ?_
  have hPc := hP.sub (ws' := [(h0, .inr (5, [.ref w1, .int 0, .int 0, .int 1, .int 0, .int 0, .ref w2, .ref w3, .ref w4, .int 0, .int 0]))]) [0] rfl
  have hDc := hD.sub (ws' := [(h0, .inr (5, [.ref w1, .int 0, .int 0, .int 1, .int 0, .int 0, .ref w2, .ref w3, .ref w4, .int 0, .int 0]))]) [0] (by decide) rfl
  have hFc := va_free (wc := [(h0, .inr (5, [.ref w1, .int 0, .int 0, .int 1, .int 0, .int 0, .ref w2, .ref w3, .ref w4, .int 0, .int 0]))]) hD hS hA [0] rfl
  refine va_calli (va_runV (As := []) (rest := []) ⟨hx, hb, hml, hown, hts⟩ (c_X5_readSemicolon l dC dI cy nb h0 w1 w2 w3 w4 H.size) (cwV 0 hts (gV mw_382 mw_383 mw_384 mw_22 mw_385) rfl rfl rfl (by decide +kernel) ⟨Nat.le_of_ble_eq_true rfl, Nat.le_of_ble_eq_true rfl⟩) ⟨fun a U g mk q => by obtain ⟨q0, q1, qP, qK, qD, qE⟩ := q; exact ⟨q0, q1, qP, va_K.moved (u := U) (U := U.calling g mk a) (Vm.Alike.refl U.vm) qK, qD, GE.calling qE⟩, va_recv hK hP (ci := 5) (q0 := 0) rfl rfl, fun U hU hW => ⟨rfl, by rw [hU], by rw [hU]; exact hPc, va_K.moved hW.alike hK, hDc.weaken (fun _ _ _ _ => trivial), GE.call hE hS hFc hU hW⟩⟩ rfl rfl hl.1 rfl (lv_room (Nat.le_of_ble_eq_true rfl)) dX5_readDescription_26 ⟨Nat.le_of_ble_eq_true rfl, Nat.le_of_ble_eq_true rfl⟩) hS (fun q _ h => hFc q h) hFc (fun r u t H1 locs ht hvm hw3 hB hz1 hk1 hS => ?_)
  obtain ⟨hP1, hD1⟩ := hB
  rw [ht] at hP1
  obtain ⟨hP, hD⟩ := va_join (wr := []) (w1 := [(h0, .inr (5, [.ref w1, .int 0, .int 0, .int 1, .int 0, .int 0, .ref w2, .ref w3, .ref w4, .int 0, .int 0]))]) hP hD [0] [] rfl rfl (by decide) (by decide) hk1 hFc hP1 hD1
  generalize H1 = H at hP hS ⊢
  have hP : va_P (dC, dI) vwCl [(h0, .inr (5, [.ref w1, .int 0, .int 0, .int 1, .int 0, .int 0, .ref w2, .ref w3, .ref w4, .int 0, .int 0]))] H := hP
  have hD : va_D A [(h0, .inr (5, [.ref w1, .int 0, .int 0, .int 1, .int 0, .int 0, .ref w2, .ref w3, .ref w4, .int 0, .int 0]))] := hD
  obtain rfl := hw3
  refine W.widen (k := 0) (n := 0) (by omega) (by omega) ?_
  refine lv_istore_n (lv' := [(2, .int 0), (0, .ref h0), (1, .ref a2)]) hx hb dX5_readDescription_29 rfl hl (by decide) rfl (fun ls hl => ?_)
  refine lv_iload_n hx hb dX5_readDescription_30 rfl (lv_at hl 0 rfl) ?_
  refine lv_if_eq (tgt := 6) hx hb dX5_readDescription_31 (by decide) (fun _ => ?_) (fun h => absurd (by decide) h)
  refine lv_iload_n hx hb dX5_readDescription_6 rfl (lv_at hl 0 rfl) ?_
  refine lv_if_eq (tgt := 47) hx hb dX5_readDescription_7 (by decide) (fun _ => ?_) (fun h => absurd (by decide) h)
  refine lv_aload_n hx hb dX5_readDescription_47 rfl (lv_at hl 1 rfl) ?_
  refine lv_iconst (v := 0) hx hb dX5_readDescription_48 (by decide) ?_
  refine va_put (D := (dC, dI)) (ci := 5) (v := .int 0) (ty := .int) (C := RX5) (T := TX5) (N := 11) hx hb hts inlX5 tyX5 tyX5_ok nmX5 hown hK hP hD hS 0 rfl rfl 1 (by decide) (hts _ mw_122) (fun _ h9 => h9) rfl (by decide +kernel) rfl rfl (Nat.le_of_ble_eq_true rfl) dX5_readDescription_49 (fun H locs hP hD hS => ?_)
  have hP : va_P (dC, dI) vwCl [(h0, .inr (5, [.ref w1, .int 0, .int 0, .int 1, .int 0, .int 0, .ref w2, .ref w3, .ref w4, .int 0, .int 0]))] H := hP
  have hD : va_D A [(h0, .inr (5, [.ref w1, .int 0, .int 0, .int 1, .int 0, .int 0, .ref w2, .ref w3, .ref w4, .int 0, .int 0]))] := hD
  have hP9 := hP.sub (ws' := [(h0, .inr (5, [.ref w1, .int 0, .int 0, .int 1, .int 0, .int 0, .ref w2, .ref w3, .ref w4, .int 0, .int 0]))]) [0] rfl
  have hD9 := hD.sub (ws' := [(h0, .inr (5, [.ref w1, .int 0, .int 0, .int 1, .int 0, .int 0, .ref w2, .ref w3, .ref w4, .int 0, .int 0]))]) [0] (by decide) rfl
  refine W.widen (k := 0) (n := 0) (by omega) (by omega) ?_
  exact W.vret hx hb hr (fun t ht hW => ⟨⟨(), rfl, trivial, by rw [ht]; exact hP9, hD9⟩, hS.F ht⟩) hS.2.2 dX5_readDescription_52
set_option maxHeartbeats 4000000 in
set_option maxRecDepth 100000 in
/-- keepResult() -/
theorem c_X7_keepResult (l : Launch) (dC : Nat → ClassId) (dI : Nat → Nat → Nat) (cy : Nat → ClassId) (nb : Nat → Nat) (h0 : Nat) (a1 : Nat) (a2 : Nat) (a3 : Nat) (a4 : Nat) (a5 : Nat) (a6 : Nat) (a7 : Nat) (w1 : Nat) (w2 : Nat) (w3 : Nat) (w4 : Nat) (sz : Nat) : Met l yX7_keepResult (wsg yX7_keepResult cX7_keepResult 1 none) ({ frames := 8, cells := 0, slots := 0, locals := 300 }) (va_Pc [.ref h0] (fun U => U.heap.size = sz ∧ va_P (dC, dI) vwCl [(h0, .inr (7, [.ref a1, .ref a2, .ref a3, .ref a4, .ref a5, .ref a6, .ref a7, .int 0, .int 0, .int (-1), .int 0, .int 0])), (a3, .inr (5, [.ref w1, .int 0, .int 0, .int 1, .int 0, .int 0, .ref w2, .ref w3, .ref w4, .int 0, .int 0]))] U.heap ∧ va_K (dC, dI) vwCl (tyL cy) U ∧ va_D (fun _ => True) [(h0, .inr (7, [.ref a1, .ref a2, .ref a3, .ref a4, .ref a5, .ref a6, .ref a7, .int 0, .int 0, .int (-1), .int 0, .int 0])), (a3, .inr (5, [.ref w1, .int 0, .int 0, .int 1, .int 0, .int 0, .ref w2, .ref w3, .ref w4, .int 0, .int 0]))] ∧ GE nb (va_A [(h0, .inr (7, [.ref a1, .ref a2, .ref a3, .ref a4, .ref a5, .ref a6, .ref a7, .int 0, .int 0, .int (-1), .int 0, .int 0])), (a3, .inr (5, [.ref w1, .int 0, .int 0, .int 1, .int 0, .int 0, .ref w2, .ref w3, .ref w4, .int 0, .int 0]))] sz) U)) (va_Qv (fun (_ : Unit) => True) (fun _ t => va_P (dC, dI) vwCl [(h0, .inr (7, [.ref a1, .ref a2, .ref a3, .ref a4, .ref a5, .ref a6, .ref a7, .int 0, .int 1, .int 0, .int 0, .int 0])), (a3, .inr (5, [.ref w1, .int 0, .int 0, .int 1, .int 0, .int 0, .ref w2, .ref w3, .ref w4, .int 0, .int 0]))] t.heap ∧ va_D (va_A [(h0, .inr (7, [.ref a1, .ref a2, .ref a3, .ref a4, .ref a5, .ref a6, .ref a7, .int 0, .int 0, .int (-1), .int 0, .int 0])), (a3, .inr (5, [.ref w1, .int 0, .int 0, .int 1, .int 0, .int 0, .ref w2, .ref w3, .ref w4, .int 0, .int 0]))] sz) [(h0, .inr (7, [.ref a1, .ref a2, .ref a3, .ref a4, .ref a5, .ref a6, .ref a7, .int 0, .int 1, .int 0, .int 0, .int 0])), (a3, .inr (5, [.ref w1, .int 0, .int 0, .int 1, .int 0, .int 0, .ref w2, .ref w3, .ref w4, .int 0, .int 0]))]) (va_A [(h0, .inr (7, [.ref a1, .ref a2, .ref a3, .ref a4, .ref a5, .ref a6, .ref a7, .int 0, .int 0, .int (-1), .int 0, .int 0])), (a3, .inr (5, [.ref w1, .int 0, .int 0, .int 1, .int 0, .int 0, .ref w2, .ref w3, .ref w4, .int 0, .int 0]))] sz)) 0 0 (va_A [(h0, .inr (7, [.ref a1, .ref a2, .ref a3, .ref a4, .ref a5, .ref a6, .ref a7, .int 0, .int 0, .int (-1), .int 0, .int 0])), (a3, .inr (5, [.ref w1, .int 0, .int 0, .int 1, .int 0, .int 0, .ref w2, .ref w3, .ref w4, .int 0, .int 0]))] sz) := by
  refine Met.ofW (cc := cX7_keepResult) (maxL := 1) (ret := none) (by decide) rfl ?_
  intro p e s m args below meth c s₁ B hml hv
  obtain ⟨rfl, hsz, hP, hK, hD0, hE⟩ := hv
  have hx := B.exec
  have hb := B.bytes
  have hr := B.returns
  have hts0 := atoms_spec (ws := (wsg yX7_keepResult cX7_keepResult 1 none)) B.pre
  have hts : ∀ w ∈ wsL_law, w.before _ s = true := fun w h => hts0 w (List.mem_cons_of_mem _ h)
  have hown : s.vm.findClass RX7 = some m.cls := findClass_of_methodNamed B.named
  have hlocks := B.notSynchronized
  subst hsz
  have hD := hD0.self (sz := s.heap.size)
  generalize hAe : va_A [(h0, .inr (7, [.ref a1, .ref a2, .ref a3, .ref a4, .ref a5, .ref a6, .ref a7, .int 0, .int 0, .int (-1), .int 0, .int 0])), (a3, .inr (5, [.ref w1, .int 0, .int 0, .int 1, .int 0, .int 0, .ref w2, .ref w3, .ref w4, .int 0, .int 0]))] s.heap.size = A at hD hE ⊢
  have hA : ∀ q : Nat, s.heap.size ≤ q → A q := fun q h => by rw [← hAe]; exact Or.inr h
  have hS : va_S A s.heap s.heap [] := va_S.rf
  have hP : va_P (dC, dI) vwCl [(h0, .inr (7, [.ref a1, .ref a2, .ref a3, .ref a4, .ref a5, .ref a6, .ref a7, .int 0, .int 0, .int (-1), .int 0, .int 0])), (a3, .inr (5, [.ref w1, .int 0, .int 0, .int 1, .int 0, .int 0, .ref w2, .ref w3, .ref w4, .int 0, .int 0]))] s.heap := hP
  have hl := lv_entry ([.ref h0]) (n := 1) (Nat.le_of_ble_eq_true rfl)
  rw [lg_entry_eq]
  generalize (lg_sl ([.ref h0]) ++ List.replicate (1 - (lg_sl ([.ref h0])).length) Slot.unset).toArray = ls at hl ⊢
  have hl : lv_has ls 1 [(0, .ref h0)] := hl
  generalize hHe : s.heap = H at hP hS ⊢
  have hS : va_S A s.heap H [] := by rw [hHe]; exact hS
  refine lv_aload_n hx hb dX7_keepResult_0 rfl (lv_at hl 0 rfl) ?_
  refine lv_aload_n hx hb dX7_keepResult_1 rfl (lv_at hl 0 rfl) ?_
  refine va_get (D := (dC, dI)) (ci := 7) (v := .ref a3) (C := RX7) (T := TX7) (N := 12) hx hb hts inlX7 hown hK hP 0 rfl rfl 2 (by decide) (hts _ mw_23) (fun _ h9 => h9) rfl dX7_keepResult_2 ?_
  refine va_get (D := (dC, dI)) (ci := 5) (v := .int 1) (C := RX5) (T := TX5) (N := 11) hx hb hts inlX5 hown hK hP 1 rfl rfl 3 (by decide) (hts _ mw_390) (fun _ h9 => h9) rfl dX7_keepResult_5 ?_
  refine va_put (D := (dC, dI)) (ci := 7) (v := .int 1) (ty := .int) (C := RX7) (T := TX7) (N := 12) hx hb hts inlX7 tyX7 tyX7_ok nmX7 hown hK hP hD hS 0 rfl rfl 8 (by decide) (hts _ mw_31) (fun _ h9 => h9) rfl (by decide +kernel) rfl rfl (Nat.le_of_ble_eq_true rfl) dX7_keepResult_8 (fun H locs hP hD hS => ?_)
  have hP : va_P (dC, dI) vwCl [(h0, .inr (7, [.ref a1, .ref a2, .ref a3, .ref a4, .ref a5, .ref a6, .ref a7, .int 0, .int 1, .int (-1), .int 0, .int 0])), (a3, .inr (5, [.ref w1, .int 0, .int 0, .int 1, .int 0, .int 0, .ref w2, .ref w3, .ref w4, .int 0, .int 0]))] H := hP
  have hD : va_D A [(h0, .inr (7, [.ref a1, .ref a2, .ref a3, .ref a4, .ref a5, .ref a6, .ref a7, .int 0, .int 1, .int (-1), .int 0, .int 0])), (a3, .inr (5, [.ref w1, .int 0, .int 0, .int 1, .int 0, .int 0, .ref w2, .ref w3, .ref w4, .int 0, .int 0]))] := hD
  refine lv_aload_n hx hb dX7_keepResult_11 rfl (lv_at hl 0 rfl) ?_
  refine lv_aload_n hx hb dX7_keepResult_12 rfl (lv_at hl 0 rfl) ?_
  refine va_get (D := (dC, dI)) (ci := 7) (v := .int 1) (C := RX7) (T := TX7) (N := 12) hx hb hts inlX7 hown hK hP 0 rfl rfl 8 (by decide) (hts _ mw_31) (fun _ h9 => h9) rfl dX7_keepResult_13 ?_
  refine lv_if_ne (tgt := 23) hx hb dX7_keepResult_16 (by decide) (fun _ => ?_) (fun h => absurd h (by decide))
  refine lv_aload_n hx hb dX7_keepResult_23 rfl (lv_at hl 0 rfl) ?_
  refine va_get (D := (dC, dI)) (ci := 7) (v := .ref a3) (C := RX7) (T := TX7) (N := 12) hx hb hts inlX7 hown hK hP 0 rfl rfl 2 (by decide) (hts _ mw_23) (fun _ h9 => h9) rfl dX7_keepResult_24 ?_
  refine va_get (D := (dC, dI)) (ci := 5) (v := .int 0) (C := RX5) (T := TX5) (N := 11) hx hb hts inlX5 hown hK hP 1 rfl rfl 5 (by decide) (hts _ mw_391) (fun _ h9 => h9) rfl dX7_keepResult_27 ?_
  refine va_put (D := (dC, dI)) (ci := 7) (v := .int 0) (ty := .int) (C := RX7) (T := TX7) (N := 12) hx hb hts inlX7 tyX7 tyX7_ok nmX7 hown hK hP hD hS 0 rfl rfl 9 (by decide) (hts _ mw_32) (fun _ h9 => h9) rfl (by decide +kernel) rfl rfl (Nat.le_of_ble_eq_true rfl) dX7_keepResult_30 (fun H locs hP hD hS => ?_)
  have hP : va_P (dC, dI) vwCl [(h0, .inr (7, [.ref a1, .ref a2, .ref a3, .ref a4, .ref a5, .ref a6, .ref a7, .int 0, .int 1, .int 0, .int 0, .int 0])), (a3, .inr (5, [.ref w1, .int 0, .int 0, .int 1, .int 0, .int 0, .ref w2, .ref w3, .ref w4, .int 0, .int 0]))] H := hP
  have hD : va_D A [(h0, .inr (7, [.ref a1, .ref a2, .ref a3, .ref a4, .ref a5, .ref a6, .ref a7, .int 0, .int 1, .int 0, .int 0, .int 0])), (a3, .inr (5, [.ref w1, .int 0, .int 0, .int 1, .int 0, .int 0, .ref w2, .ref w3, .ref w4, .int 0, .int 0]))] := hD
  have hP9 := hP.sub (ws' := [(h0, .inr (7, [.ref a1, .ref a2, .ref a3, .ref a4, .ref a5, .ref a6, .ref a7, .int 0, .int 1, .int 0, .int 0, .int 0])), (a3, .inr (5, [.ref w1, .int 0, .int 0, .int 1, .int 0, .int 0, .ref w2, .ref w3, .ref w4, .int 0, .int 0]))]) [0, 1] rfl
  have hD9 := hD.sub (ws' := [(h0, .inr (7, [.ref a1, .ref a2, .ref a3, .ref a4, .ref a5, .ref a6, .ref a7, .int 0, .int 1, .int 0, .int 0, .int 0])), (a3, .inr (5, [.ref w1, .int 0, .int 0, .int 1, .int 0, .int 0, .ref w2, .ref w3, .ref w4, .int 0, .int 0]))]) [0, 1] (by decide) rfl
  refine W.widen (k := 0) (n := 0) (by omega) (by omega) ?_
  exact W.vret hx hb hr (fun t ht hW => ⟨⟨(), rfl, trivial, by rw [ht]; exact hP9, hD9⟩, hS.F ht⟩) hS.2.2 dX7_keepResult_33
set_option maxHeartbeats 4000000 in
set_option maxRecDepth 100000 in
/-- X7_load -/
theorem c_X7_load (l : Launch) (dC : Nat → ClassId) (dI : Nat → Nat → Nat) (cy : Nat → ClassId) (nb : Nat → Nat) (h0 : Nat) (a1 : Nat) (a2 : Nat) (a3 : Nat) (a4 : Nat) (a5 : Nat) (a6 : Nat) (a7 : Nat) (b1 : Nat) (b2 : Nat) (b3 : Nat) (b4 : Nat) (b5 : Nat) (b6 : Nat) (e1 : Nat) (e2 : Nat) (e3 : Nat) (e4 : Nat) (e5 : Nat) (e6 : Nat) (w1 : Nat) (w2 : Nat) (w3 : Nat) (w4 : Nat) (f : Nat → Int32) (g : Nat → Int32) (sz : Nat) (hf : (∀ k : Nat, k < 5 → f k = 0)) (hg : (∀ k : Nat, k < 5 → g k = 0)) : Met l yX7_load (wsg yX7_load cX7_load 1 (some .int)) ({ frames := 15, cells := 0, slots := 0, locals := 1000 }) (va_Pc [.ref h0] (fun U => U.heap.size = sz ∧ va_P (dC, dI) vwCl [(h0, .inr (7, [.ref a1, .ref a2, .ref a3, .ref a4, .ref a5, .ref a6, .ref a7, .int 0, .int 0, .int (-1), .int 0, .int 0])), (a1, .inr (3, [.int 480, .int 1, .int 1, .int 0, .int 0, .int 0, .int 0, .int 0, .int 0, .int 0, .ref b1, .ref b2, .ref b3, .ref b4, .ref b5, .ref b6, .int 0])), (b4, .inl (cy 1, 5, .inl f)), (b5, .inl (cy 1, 30, .inl (fun _ => 0))), (b6, .inl (cy 1, 5, .inl g)), (a2, .inr (3, [.int 1, .int 0, .int 0, .int 0, .int 0, .int 0, .int 0, .int 0, .int 0, .int 0, .ref e1, .ref e2, .ref e3, .ref e4, .ref e5, .ref e6, .int 0])), (e4, .inl (cy 1, 5, .inl (fun _ => 0))), (e5, .inl (cy 1, 30, .inl (fun _ => 0))), (e6, .inl (cy 1, 5, .inl (fun _ => 0))), (a3, .inr (5, [.ref w1, .int 0, .int 0, .int 0, .int 0, .int 0, .ref w2, .ref w3, .ref w4, .int 0, .int 0])), (w1, .inl (cy 0, 600, .inl (fun _ => 0))), (a5, .inl (cy 5, 8, .inr (.inr (.inr (.inr (fun _ => none)))))), (a6, .inl (cy 5, 2, .inr (.inr (.inr (.inr (fun _ => none))))))] U.heap ∧ va_K (dC, dI) vwCl (tyL cy) U ∧ va_D (fun _ => True) [(h0, .inr (7, [.ref a1, .ref a2, .ref a3, .ref a4, .ref a5, .ref a6, .ref a7, .int 0, .int 0, .int (-1), .int 0, .int 0])), (a1, .inr (3, [.int 480, .int 1, .int 1, .int 0, .int 0, .int 0, .int 0, .int 0, .int 0, .int 0, .ref b1, .ref b2, .ref b3, .ref b4, .ref b5, .ref b6, .int 0])), (b4, .inl (cy 1, 5, .inl f)), (b5, .inl (cy 1, 30, .inl (fun _ => 0))), (b6, .inl (cy 1, 5, .inl g)), (a2, .inr (3, [.int 1, .int 0, .int 0, .int 0, .int 0, .int 0, .int 0, .int 0, .int 0, .int 0, .ref e1, .ref e2, .ref e3, .ref e4, .ref e5, .ref e6, .int 0])), (e4, .inl (cy 1, 5, .inl (fun _ => 0))), (e5, .inl (cy 1, 30, .inl (fun _ => 0))), (e6, .inl (cy 1, 5, .inl (fun _ => 0))), (a3, .inr (5, [.ref w1, .int 0, .int 0, .int 0, .int 0, .int 0, .ref w2, .ref w3, .ref w4, .int 0, .int 0])), (w1, .inl (cy 0, 600, .inl (fun _ => 0))), (a5, .inl (cy 5, 8, .inr (.inr (.inr (.inr (fun _ => none)))))), (a6, .inl (cy 5, 2, .inr (.inr (.inr (.inr (fun _ => none))))))] ∧ GE nb (va_A [(h0, .inr (7, [.ref a1, .ref a2, .ref a3, .ref a4, .ref a5, .ref a6, .ref a7, .int 0, .int 0, .int (-1), .int 0, .int 0])), (a1, .inr (3, [.int 480, .int 1, .int 1, .int 0, .int 0, .int 0, .int 0, .int 0, .int 0, .int 0, .ref b1, .ref b2, .ref b3, .ref b4, .ref b5, .ref b6, .int 0])), (b4, .inl (cy 1, 5, .inl f)), (b5, .inl (cy 1, 30, .inl (fun _ => 0))), (b6, .inl (cy 1, 5, .inl g)), (a2, .inr (3, [.int 1, .int 0, .int 0, .int 0, .int 0, .int 0, .int 0, .int 0, .int 0, .int 0, .ref e1, .ref e2, .ref e3, .ref e4, .ref e5, .ref e6, .int 0])), (e4, .inl (cy 1, 5, .inl (fun _ => 0))), (e5, .inl (cy 1, 30, .inl (fun _ => 0))), (e6, .inl (cy 1, 5, .inl (fun _ => 0))), (a3, .inr (5, [.ref w1, .int 0, .int 0, .int 0, .int 0, .int 0, .ref w2, .ref w3, .ref w4, .int 0, .int 0])), (w1, .inl (cy 0, 600, .inl (fun _ => 0))), (a5, .inl (cy 5, 8, .inr (.inr (.inr (.inr (fun _ => none)))))), (a6, .inl (cy 5, 2, .inr (.inr (.inr (.inr (fun _ => none))))))] sz) U)) (va_Qi (fun (r : Int32) (_ : Unit) => r = (-100)) (fun _ t => va_P (dC, dI) vwCl [] t.heap ∧ va_D (va_A [(h0, .inr (7, [.ref a1, .ref a2, .ref a3, .ref a4, .ref a5, .ref a6, .ref a7, .int 0, .int 0, .int (-1), .int 0, .int 0])), (a1, .inr (3, [.int 480, .int 1, .int 1, .int 0, .int 0, .int 0, .int 0, .int 0, .int 0, .int 0, .ref b1, .ref b2, .ref b3, .ref b4, .ref b5, .ref b6, .int 0])), (b4, .inl (cy 1, 5, .inl f)), (b5, .inl (cy 1, 30, .inl (fun _ => 0))), (b6, .inl (cy 1, 5, .inl g)), (a2, .inr (3, [.int 1, .int 0, .int 0, .int 0, .int 0, .int 0, .int 0, .int 0, .int 0, .int 0, .ref e1, .ref e2, .ref e3, .ref e4, .ref e5, .ref e6, .int 0])), (e4, .inl (cy 1, 5, .inl (fun _ => 0))), (e5, .inl (cy 1, 30, .inl (fun _ => 0))), (e6, .inl (cy 1, 5, .inl (fun _ => 0))), (a3, .inr (5, [.ref w1, .int 0, .int 0, .int 0, .int 0, .int 0, .ref w2, .ref w3, .ref w4, .int 0, .int 0])), (w1, .inl (cy 0, 600, .inl (fun _ => 0))), (a5, .inl (cy 5, 8, .inr (.inr (.inr (.inr (fun _ => none)))))), (a6, .inl (cy 5, 2, .inr (.inr (.inr (.inr (fun _ => none))))))] sz) []) (va_A [(h0, .inr (7, [.ref a1, .ref a2, .ref a3, .ref a4, .ref a5, .ref a6, .ref a7, .int 0, .int 0, .int (-1), .int 0, .int 0])), (a1, .inr (3, [.int 480, .int 1, .int 1, .int 0, .int 0, .int 0, .int 0, .int 0, .int 0, .int 0, .ref b1, .ref b2, .ref b3, .ref b4, .ref b5, .ref b6, .int 0])), (b4, .inl (cy 1, 5, .inl f)), (b5, .inl (cy 1, 30, .inl (fun _ => 0))), (b6, .inl (cy 1, 5, .inl g)), (a2, .inr (3, [.int 1, .int 0, .int 0, .int 0, .int 0, .int 0, .int 0, .int 0, .int 0, .int 0, .ref e1, .ref e2, .ref e3, .ref e4, .ref e5, .ref e6, .int 0])), (e4, .inl (cy 1, 5, .inl (fun _ => 0))), (e5, .inl (cy 1, 30, .inl (fun _ => 0))), (e6, .inl (cy 1, 5, .inl (fun _ => 0))), (a3, .inr (5, [.ref w1, .int 0, .int 0, .int 0, .int 0, .int 0, .ref w2, .ref w3, .ref w4, .int 0, .int 0])), (w1, .inl (cy 0, 600, .inl (fun _ => 0))), (a5, .inl (cy 5, 8, .inr (.inr (.inr (.inr (fun _ => none)))))), (a6, .inl (cy 5, 2, .inr (.inr (.inr (.inr (fun _ => none))))))] sz)) 0 0 (va_A [(h0, .inr (7, [.ref a1, .ref a2, .ref a3, .ref a4, .ref a5, .ref a6, .ref a7, .int 0, .int 0, .int (-1), .int 0, .int 0])), (a1, .inr (3, [.int 480, .int 1, .int 1, .int 0, .int 0, .int 0, .int 0, .int 0, .int 0, .int 0, .ref b1, .ref b2, .ref b3, .ref b4, .ref b5, .ref b6, .int 0])), (b4, .inl (cy 1, 5, .inl f)), (b5, .inl (cy 1, 30, .inl (fun _ => 0))), (b6, .inl (cy 1, 5, .inl g)), (a2, .inr (3, [.int 1, .int 0, .int 0, .int 0, .int 0, .int 0, .int 0, .int 0, .int 0, .int 0, .ref e1, .ref e2, .ref e3, .ref e4, .ref e5, .ref e6, .int 0])), (e4, .inl (cy 1, 5, .inl (fun _ => 0))), (e5, .inl (cy 1, 30, .inl (fun _ => 0))), (e6, .inl (cy 1, 5, .inl (fun _ => 0))), (a3, .inr (5, [.ref w1, .int 0, .int 0, .int 0, .int 0, .int 0, .ref w2, .ref w3, .ref w4, .int 0, .int 0])), (w1, .inl (cy 0, 600, .inl (fun _ => 0))), (a5, .inl (cy 5, 8, .inr (.inr (.inr (.inr (fun _ => none)))))), (a6, .inl (cy 5, 2, .inr (.inr (.inr (.inr (fun _ => none))))))] sz) := by
  refine Met.ofW (cc := cX7_load) (maxL := 1) (ret := (some .int)) (by decide) rfl ?_
  intro p e s m args below meth c s₁ B hml hv
  obtain ⟨rfl, hsz, hP, hK, hD0, hE⟩ := hv
  have hx := B.exec
  have hb := B.bytes
  have hr := B.returns
  have hts0 := atoms_spec (ws := (wsg yX7_load cX7_load 1 (some .int))) B.pre
  have hts : ∀ w ∈ wsL_law, w.before _ s = true := fun w h => hts0 w (List.mem_cons_of_mem _ h)
  have hown : s.vm.findClass RX7 = some m.cls := findClass_of_methodNamed B.named
  have hlocks := B.notSynchronized
  subst hsz
  have hD := hD0.self (sz := s.heap.size)
  generalize hAe : va_A [(h0, .inr (7, [.ref a1, .ref a2, .ref a3, .ref a4, .ref a5, .ref a6, .ref a7, .int 0, .int 0, .int (-1), .int 0, .int 0])), (a1, .inr (3, [.int 480, .int 1, .int 1, .int 0, .int 0, .int 0, .int 0, .int 0, .int 0, .int 0, .ref b1, .ref b2, .ref b3, .ref b4, .ref b5, .ref b6, .int 0])), (b4, .inl (cy 1, 5, .inl f)), (b5, .inl (cy 1, 30, .inl (fun _ => 0))), (b6, .inl (cy 1, 5, .inl g)), (a2, .inr (3, [.int 1, .int 0, .int 0, .int 0, .int 0, .int 0, .int 0, .int 0, .int 0, .int 0, .ref e1, .ref e2, .ref e3, .ref e4, .ref e5, .ref e6, .int 0])), (e4, .inl (cy 1, 5, .inl (fun _ => 0))), (e5, .inl (cy 1, 30, .inl (fun _ => 0))), (e6, .inl (cy 1, 5, .inl (fun _ => 0))), (a3, .inr (5, [.ref w1, .int 0, .int 0, .int 0, .int 0, .int 0, .ref w2, .ref w3, .ref w4, .int 0, .int 0])), (w1, .inl (cy 0, 600, .inl (fun _ => 0))), (a5, .inl (cy 5, 8, .inr (.inr (.inr (.inr (fun _ => none)))))), (a6, .inl (cy 5, 2, .inr (.inr (.inr (.inr (fun _ => none))))))] s.heap.size = A at hD hE ⊢
  have hA : ∀ q : Nat, s.heap.size ≤ q → A q := fun q h => by rw [← hAe]; exact Or.inr h
  have hS : va_S A s.heap s.heap [] := va_S.rf
  have hP : va_P (dC, dI) vwCl [(h0, .inr (7, [.ref a1, .ref a2, .ref a3, .ref a4, .ref a5, .ref a6, .ref a7, .int 0, .int 0, .int (-1), .int 0, .int 0])), (a1, .inr (3, [.int 480, .int 1, .int 1, .int 0, .int 0, .int 0, .int 0, .int 0, .int 0, .int 0, .ref b1, .ref b2, .ref b3, .ref b4, .ref b5, .ref b6, .int 0])), (b4, .inl (cy 1, 5, .inl f)), (b5, .inl (cy 1, 30, .inl (fun _ => 0))), (b6, .inl (cy 1, 5, .inl g)), (a2, .inr (3, [.int 1, .int 0, .int 0, .int 0, .int 0, .int 0, .int 0, .int 0, .int 0, .int 0, .ref e1, .ref e2, .ref e3, .ref e4, .ref e5, .ref e6, .int 0])), (e4, .inl (cy 1, 5, .inl (fun _ => 0))), (e5, .inl (cy 1, 30, .inl (fun _ => 0))), (e6, .inl (cy 1, 5, .inl (fun _ => 0))), (a3, .inr (5, [.ref w1, .int 0, .int 0, .int 0, .int 0, .int 0, .ref w2, .ref w3, .ref w4, .int 0, .int 0])), (w1, .inl (cy 0, 600, .inl (fun _ => 0))), (a5, .inl (cy 5, 8, .inr (.inr (.inr (.inr (fun _ => none)))))), (a6, .inl (cy 5, 2, .inr (.inr (.inr (.inr (fun _ => none))))))] s.heap := hP
  have hl := lv_entry ([.ref h0]) (n := 1) (Nat.le_of_ble_eq_true rfl)
  rw [lg_entry_eq]
  generalize (lg_sl ([.ref h0]) ++ List.replicate (1 - (lg_sl ([.ref h0])).length) Slot.unset).toArray = ls at hl ⊢
  have hl : lv_has ls 1 [(0, .ref h0)] := hl
  generalize hHe : s.heap = H at hP hS ⊢
  have hS : va_S A s.heap H [] := by rw [hHe]; exact hS
  refine lv_aload_n hx hb dX7_load_0 rfl (lv_at hl 0 rfl) ?_
  refine va_get (D := (dC, dI)) (ci := 7) (v := .ref a3) (C := RX7) (T := TX7) (N := 12) hx hb hts inlX7 hown hK hP 0 rfl rfl 2 (by decide) (hts _ mw_23) (fun _ h9 => h9) rfl dX7_load_1 ?_
  refine lv_aload_n hx hb dX7_load_4 rfl (lv_at hl 0 rfl) ?_
  refine va_get (D := (dC, dI)) (ci := 7) (v := .ref a2) (C := RX7) (T := TX7) (N := 12) hx hb hts inlX7 hown hK hP 0 rfl rfl 1 (by decide) (hts _ mw_19) (fun _ h9 => h9) rfl dX7_load_5 ?_
  have hPc := hP.sub (ws' := [(a3, .inr (5, [.ref w1, .int 0, .int 0, .int 0, .int 0, .int 0, .ref w2, .ref w3, .ref w4, .int 0, .int 0]))]) [9] rfl
  have hDc := hD.sub (ws' := [(a3, .inr (5, [.ref w1, .int 0, .int 0, .int 0, .int 0, .int 0, .ref w2, .ref w3, .ref w4, .int 0, .int 0]))]) [9] (by decide) rfl
  have hFc := va_free (wc := [(a3, .inr (5, [.ref w1, .int 0, .int 0, .int 0, .int 0, .int 0, .ref w2, .ref w3, .ref w4, .int 0, .int 0]))]) hD hS hA [9] rfl
  refine va_callv (va_runV (As := [.ref a2]) (rest := []) ⟨hx, hb, hml, hown, hts⟩ (c_X5_readDescription l dC dI cy nb a3 w1 w2 w3 w4 a2 H.size) (cwV 1 hts (gV mw_139 mw_140 mw_141 mw_22 mw_142) rfl rfl rfl (by decide +kernel) ⟨Nat.le_of_ble_eq_true rfl, Nat.le_of_ble_eq_true rfl⟩) ⟨fun a U g mk q => by obtain ⟨q0, q1, qP, qK, qD, qE⟩ := q; exact ⟨q0, q1, qP, va_K.moved (u := U) (U := U.calling g mk a) (Vm.Alike.refl U.vm) qK, qD, GE.calling qE⟩, va_recv hK hP (ci := 5) (q0 := 9) rfl rfl, fun U hU hW => ⟨rfl, by rw [hU], by rw [hU]; exact hPc, va_K.moved hW.alike hK, hDc.weaken (fun _ _ _ _ => trivial), GE.call hE hS hFc hU hW⟩⟩ rfl rfl hl.1 rfl (lv_room (Nat.le_of_ble_eq_true rfl)) dX7_load_8 ⟨Nat.le_of_ble_eq_true rfl, Nat.le_of_ble_eq_true rfl⟩) hS (fun q _ h => hFc q h) hFc (fun u t H1 locs ht hvm hw1 hB hz1 hk1 hS => ?_)
  obtain ⟨hP1, hD1⟩ := hB
  rw [ht] at hP1
  obtain ⟨hP, hD⟩ := va_join (wr := [(h0, .inr (7, [.ref a1, .ref a2, .ref a3, .ref a4, .ref a5, .ref a6, .ref a7, .int 0, .int 0, .int (-1), .int 0, .int 0])), (a1, .inr (3, [.int 480, .int 1, .int 1, .int 0, .int 0, .int 0, .int 0, .int 0, .int 0, .int 0, .ref b1, .ref b2, .ref b3, .ref b4, .ref b5, .ref b6, .int 0])), (b4, .inl (cy 1, 5, .inl f)), (b5, .inl (cy 1, 30, .inl (fun _ => 0))), (b6, .inl (cy 1, 5, .inl g)), (a2, .inr (3, [.int 1, .int 0, .int 0, .int 0, .int 0, .int 0, .int 0, .int 0, .int 0, .int 0, .ref e1, .ref e2, .ref e3, .ref e4, .ref e5, .ref e6, .int 0])), (e4, .inl (cy 1, 5, .inl (fun _ => 0))), (e5, .inl (cy 1, 30, .inl (fun _ => 0))), (e6, .inl (cy 1, 5, .inl (fun _ => 0))), (w1, .inl (cy 0, 600, .inl (fun _ => 0))), (a5, .inl (cy 5, 8, .inr (.inr (.inr (.inr (fun _ => none)))))), (a6, .inl (cy 5, 2, .inr (.inr (.inr (.inr (fun _ => none))))))]) (w1 := [(a3, .inr (5, [.ref w1, .int 0, .int 0, .int 1, .int 0, .int 0, .ref w2, .ref w3, .ref w4, .int 0, .int 0]))]) hP hD [9] [0, 1, 2, 3, 4, 5, 6, 7, 8, 10, 11, 12] rfl rfl (by decide) (by decide) hk1 hFc hP1 hD1
  generalize H1 = H at hP hS ⊢
  have hP : va_P (dC, dI) vwCl [(h0, .inr (7, [.ref a1, .ref a2, .ref a3, .ref a4, .ref a5, .ref a6, .ref a7, .int 0, .int 0, .int (-1), .int 0, .int 0])), (a1, .inr (3, [.int 480, .int 1, .int 1, .int 0, .int 0, .int 0, .int 0, .int 0, .int 0, .int 0, .ref b1, .ref b2, .ref b3, .ref b4, .ref b5, .ref b6, .int 0])), (b4, .inl (cy 1, 5, .inl f)), (b5, .inl (cy 1, 30, .inl (fun _ => 0))), (b6, .inl (cy 1, 5, .inl g)), (a2, .inr (3, [.int 1, .int 0, .int 0, .int 0, .int 0, .int 0, .int 0, .int 0, .int 0, .int 0, .ref e1, .ref e2, .ref e3, .ref e4, .ref e5, .ref e6, .int 0])), (e4, .inl (cy 1, 5, .inl (fun _ => 0))), (e5, .inl (cy 1, 30, .inl (fun _ => 0))), (e6, .inl (cy 1, 5, .inl (fun _ => 0))), (w1, .inl (cy 0, 600, .inl (fun _ => 0))), (a5, .inl (cy 5, 8, .inr (.inr (.inr (.inr (fun _ => none)))))), (a6, .inl (cy 5, 2, .inr (.inr (.inr (.inr (fun _ => none)))))), (a3, .inr (5, [.ref w1, .int 0, .int 0, .int 1, .int 0, .int 0, .ref w2, .ref w3, .ref w4, .int 0, .int 0]))] H := hP
  have hD : va_D A [(h0, .inr (7, [.ref a1, .ref a2, .ref a3, .ref a4, .ref a5, .ref a6, .ref a7, .int 0, .int 0, .int (-1), .int 0, .int 0])), (a1, .inr (3, [.int 480, .int 1, .int 1, .int 0, .int 0, .int 0, .int 0, .int 0, .int 0, .int 0, .ref b1, .ref b2, .ref b3, .ref b4, .ref b5, .ref b6, .int 0])), (b4, .inl (cy 1, 5, .inl f)), (b5, .inl (cy 1, 30, .inl (fun _ => 0))), (b6, .inl (cy 1, 5, .inl g)), (a2, .inr (3, [.int 1, .int 0, .int 0, .int 0, .int 0, .int 0, .int 0, .int 0, .int 0, .int 0, .ref e1, .ref e2, .ref e3, .ref e4, .ref e5, .ref e6, .int 0])), (e4, .inl (cy 1, 5, .inl (fun _ => 0))), (e5, .inl (cy 1, 30, .inl (fun _ => 0))), (e6, .inl (cy 1, 5, .inl (fun _ => 0))), (w1, .inl (cy 0, 600, .inl (fun _ => 0))), (a5, .inl (cy 5, 8, .inr (.inr (.inr (.inr (fun _ => none)))))), (a6, .inl (cy 5, 2, .inr (.inr (.inr (.inr (fun _ => none)))))), (a3, .inr (5, [.ref w1, .int 0, .int 0, .int 1, .int 0, .int 0, .ref w2, .ref w3, .ref w4, .int 0, .int 0]))] := hD
  refine W.widen (k := 0) (n := 0) (by omega) (by omega) ?_
  refine lv_aload_n hx hb dX7_load_11 rfl (lv_at hl 0 rfl) ?_
  have hPc := hP.sub (ws' := [(h0, .inr (7, [.ref a1, .ref a2, .ref a3, .ref a4, .ref a5, .ref a6, .ref a7, .int 0, .int 0, .int (-1), .int 0, .int 0])), (a3, .inr (5, [.ref w1, .int 0, .int 0, .int 1, .int 0, .int 0, .ref w2, .ref w3, .ref w4, .int 0, .int 0]))]) [0, 12] rfl
  have hDc := hD.sub (ws' := [(h0, .inr (7, [.ref a1, .ref a2, .ref a3, .ref a4, .ref a5, .ref a6, .ref a7, .int 0, .int 0, .int (-1), .int 0, .int 0])), (a3, .inr (5, [.ref w1, .int 0, .int 0, .int 1, .int 0, .int 0, .ref w2, .ref w3, .ref w4, .int 0, .int 0]))]) [0, 12] (by decide) rfl
  have hFc := va_free (wc := [(h0, .inr (7, [.ref a1, .ref a2, .ref a3, .ref a4, .ref a5, .ref a6, .ref a7, .int 0, .int 0, .int (-1), .int 0, .int 0])), (a3, .inr (5, [.ref w1, .int 0, .int 0, .int 1, .int 0, .int 0, .ref w2, .ref w3, .ref w4, .int 0, .int 0]))]) hD hS hA [0, 12] rfl
  refine va_callv (va_runV (As := []) (rest := []) ⟨hx, hb, hml, hown, hts⟩ (c_X7_keepResult l dC dI cy nb h0 a1 a2 a3 a4 a5 a6 a7 w1 w2 w3 w4 H.size) (cwV 0 hts (gV mw_386 mw_387 mw_388 mw_2 mw_389) rfl rfl rfl (by decide +kernel) ⟨Nat.le_of_ble_eq_true rfl, Nat.le_of_ble_eq_true rfl⟩) ⟨fun a U g mk q => by obtain ⟨q0, q1, qP, qK, qD, qE⟩ := q; exact ⟨q0, q1, qP, va_K.moved (u := U) (U := U.calling g mk a) (Vm.Alike.refl U.vm) qK, qD, GE.calling qE⟩, va_recv hK hP (ci := 7) (q0 := 0) rfl rfl, fun U hU hW => ⟨rfl, by rw [hU], by rw [hU]; exact hPc, va_K.moved hW.alike hK, hDc.weaken (fun _ _ _ _ => trivial), GE.call hE hS hFc hU hW⟩⟩ rfl rfl hl.1 rfl (lv_room (Nat.le_of_ble_eq_true rfl)) dX7_load_12 ⟨Nat.le_of_ble_eq_true rfl, Nat.le_of_ble_eq_true rfl⟩) hS (fun q _ h => hFc q h) hFc (fun u t H1 locs ht hvm hw2 hB hz1 hk1 hS => ?_)
  obtain ⟨hP1, hD1⟩ := hB
  rw [ht] at hP1
  obtain ⟨hP, hD⟩ := va_join (wr := [(a1, .inr (3, [.int 480, .int 1, .int 1, .int 0, .int 0, .int 0, .int 0, .int 0, .int 0, .int 0, .ref b1, .ref b2, .ref b3, .ref b4, .ref b5, .ref b6, .int 0])), (b4, .inl (cy 1, 5, .inl f)), (b5, .inl (cy 1, 30, .inl (fun _ => 0))), (b6, .inl (cy 1, 5, .inl g)), (a2, .inr (3, [.int 1, .int 0, .int 0, .int 0, .int 0, .int 0, .int 0, .int 0, .int 0, .int 0, .ref e1, .ref e2, .ref e3, .ref e4, .ref e5, .ref e6, .int 0])), (e4, .inl (cy 1, 5, .inl (fun _ => 0))), (e5, .inl (cy 1, 30, .inl (fun _ => 0))), (e6, .inl (cy 1, 5, .inl (fun _ => 0))), (w1, .inl (cy 0, 600, .inl (fun _ => 0))), (a5, .inl (cy 5, 8, .inr (.inr (.inr (.inr (fun _ => none)))))), (a6, .inl (cy 5, 2, .inr (.inr (.inr (.inr (fun _ => none))))))]) (w1 := [(h0, .inr (7, [.ref a1, .ref a2, .ref a3, .ref a4, .ref a5, .ref a6, .ref a7, .int 0, .int 1, .int 0, .int 0, .int 0])), (a3, .inr (5, [.ref w1, .int 0, .int 0, .int 1, .int 0, .int 0, .ref w2, .ref w3, .ref w4, .int 0, .int 0]))]) hP hD [0, 12] [1, 2, 3, 4, 5, 6, 7, 8, 9, 10, 11] rfl rfl (by decide) (by decide) hk1 hFc hP1 hD1
  generalize H1 = H at hP hS ⊢
  have hP : va_P (dC, dI) vwCl [(a1, .inr (3, [.int 480, .int 1, .int 1, .int 0, .int 0, .int 0, .int 0, .int 0, .int 0, .int 0, .ref b1, .ref b2, .ref b3, .ref b4, .ref b5, .ref b6, .int 0])), (b4, .inl (cy 1, 5, .inl f)), (b5, .inl (cy 1, 30, .inl (fun _ => 0))), (b6, .inl (cy 1, 5, .inl g)), (a2, .inr (3, [.int 1, .int 0, .int 0, .int 0, .int 0, .int 0, .int 0, .int 0, .int 0, .int 0, .ref e1, .ref e2, .ref e3, .ref e4, .ref e5, .ref e6, .int 0])), (e4, .inl (cy 1, 5, .inl (fun _ => 0))), (e5, .inl (cy 1, 30, .inl (fun _ => 0))), (e6, .inl (cy 1, 5, .inl (fun _ => 0))), (w1, .inl (cy 0, 600, .inl (fun _ => 0))), (a5, .inl (cy 5, 8, .inr (.inr (.inr (.inr (fun _ => none)))))), (a6, .inl (cy 5, 2, .inr (.inr (.inr (.inr (fun _ => none)))))), (h0, .inr (7, [.ref a1, .ref a2, .ref a3, .ref a4, .ref a5, .ref a6, .ref a7, .int 0, .int 1, .int 0, .int 0, .int 0])), (a3, .inr (5, [.ref w1, .int 0, .int 0, .int 1, .int 0, .int 0, .ref w2, .ref w3, .ref w4, .int 0, .int 0]))] H := hP
  have hD : va_D A [(a1, .inr (3, [.int 480, .int 1, .int 1, .int 0, .int 0, .int 0, .int 0, .int 0, .int 0, .int 0, .ref b1, .ref b2, .ref b3, .ref b4, .ref b5, .ref b6, .int 0])), (b4, .inl (cy 1, 5, .inl f)), (b5, .inl (cy 1, 30, .inl (fun _ => 0))), (b6, .inl (cy 1, 5, .inl g)), (a2, .inr (3, [.int 1, .int 0, .int 0, .int 0, .int 0, .int 0, .int 0, .int 0, .int 0, .int 0, .ref e1, .ref e2, .ref e3, .ref e4, .ref e5, .ref e6, .int 0])), (e4, .inl (cy 1, 5, .inl (fun _ => 0))), (e5, .inl (cy 1, 30, .inl (fun _ => 0))), (e6, .inl (cy 1, 5, .inl (fun _ => 0))), (w1, .inl (cy 0, 600, .inl (fun _ => 0))), (a5, .inl (cy 5, 8, .inr (.inr (.inr (.inr (fun _ => none)))))), (a6, .inl (cy 5, 2, .inr (.inr (.inr (.inr (fun _ => none)))))), (h0, .inr (7, [.ref a1, .ref a2, .ref a3, .ref a4, .ref a5, .ref a6, .ref a7, .int 0, .int 1, .int 0, .int 0, .int 0])), (a3, .inr (5, [.ref w1, .int 0, .int 0, .int 1, .int 0, .int 0, .ref w2, .ref w3, .ref w4, .int 0, .int 0]))] := hD
  refine W.widen (k := 0) (n := 0) (by omega) (by omega) ?_
  refine lv_aload_n hx hb dX7_load_15 rfl (lv_at hl 0 rfl) ?_
  refine va_get (D := (dC, dI)) (ci := 7) (v := .int 1) (C := RX7) (T := TX7) (N := 12) hx hb hts inlX7 hown hK hP 11 rfl rfl 8 (by decide) (hts _ mw_31) (fun _ h9 => h9) rfl dX7_load_16 ?_
  refine lv_if_eq (tgt := 33) hx hb dX7_load_19 (by decide) (fun h => absurd h (by decide)) (fun _ => ?_)
  refine lv_bipush (v := (-100)) hx hb dX7_load_22 (by decide) ?_
  refine lv_aload_n hx hb dX7_load_24 rfl (lv_at hl 0 rfl) ?_
  refine va_get (D := (dC, dI)) (ci := 7) (v := .ref a3) (C := RX7) (T := TX7) (N := 12) hx hb hts inlX7 hown hK hP 11 rfl rfl 2 (by decide) (hts _ mw_23) (fun _ h9 => h9) rfl dX7_load_25 ?_
  refine va_get (D := (dC, dI)) (ci := 5) (v := .int 0) (C := RX5) (T := TX5) (N := 11) hx hb hts inlX5 hown hK hP 12 rfl rfl 4 (by decide) (hts _ mw_137) (fun _ h9 => h9) rfl dX7_load_28 ?_
  refine lv_isub hx hb dX7_load_31 ?_
  refine my_topi (y := (-100)) (by decide) ?_
  have hP9 := hP.sub (ws' := []) [] rfl
  have hD9 := hD.sub (ws' := []) [] (by decide) rfl
  refine W.widen (k := 0) (n := 0) (by omega) (by omega) ?_
  exact W.iret (v := (-100)) hx hb hr (fun t ht hW => ⟨⟨(-100), (), rfl, rfl, by rw [ht]; exact hP9, hD9⟩, hS.F ht⟩) hS.2.2 dX7_load_32
set_option maxHeartbeats 4000000 in
set_option maxRecDepth 100000 in
/-- X8_here -/
theorem c_X8_here (l : Launch) (dC : Nat → ClassId) (dI : Nat → Nat → Nat) (cy : Nat → ClassId) (nb : Nat → Nat) (h0 : Nat) (v0 : Value) (v1 : Value) (v2 : Value) (v3 : Value) (v4 : Value) (v5 : Value) (v6 : Value) (v7 : Value) (v10 : Value) (v11 : Value) (v12 : Value) (v13 : Value) (v14 : Value) (v15 : Value) (v16 : Value) (v17 : Value) (v18 : Value) (v19 : Value) (v20 : Value) (v21 : Value) (v22 : Value) (sz : Nat) : Met l yX8_here (wsg yX8_here cX8_here 1 (some .int)) ({ frames := 9, cells := 0, slots := 0, locals := 400 }) (va_Pc [.ref h0] (fun U => U.heap.size = sz ∧ va_P (dC, dI) vwCl [(h0, .inr (8, [v0, v1, v2, v3, v4, v5, v6, v7, .int 0, .int 0, v10, v11, v12, v13, v14, v15, v16, v17, v18, v19, v20, v21, v22]))] U.heap ∧ va_K (dC, dI) vwCl (tyL cy) U ∧ va_D (fun _ => True) [(h0, .inr (8, [v0, v1, v2, v3, v4, v5, v6, v7, .int 0, .int 0, v10, v11, v12, v13, v14, v15, v16, v17, v18, v19, v20, v21, v22]))] ∧ GE nb (va_A [(h0, .inr (8, [v0, v1, v2, v3, v4, v5, v6, v7, .int 0, .int 0, v10, v11, v12, v13, v14, v15, v16, v17, v18, v19, v20, v21, v22]))] sz) U)) (va_Qi (fun (r : Int32) (_ : Unit) => r = (-1)) (fun _ t => va_P (dC, dI) vwCl [(h0, .inr (8, [v0, v1, v2, v3, v4, v5, v6, v7, .int 0, .int 0, v10, v11, v12, v13, v14, v15, v16, v17, v18, v19, v20, v21, v22]))] t.heap ∧ va_D (va_A [(h0, .inr (8, [v0, v1, v2, v3, v4, v5, v6, v7, .int 0, .int 0, v10, v11, v12, v13, v14, v15, v16, v17, v18, v19, v20, v21, v22]))] sz) [(h0, .inr (8, [v0, v1, v2, v3, v4, v5, v6, v7, .int 0, .int 0, v10, v11, v12, v13, v14, v15, v16, v17, v18, v19, v20, v21, v22]))]) (va_A [(h0, .inr (8, [v0, v1, v2, v3, v4, v5, v6, v7, .int 0, .int 0, v10, v11, v12, v13, v14, v15, v16, v17, v18, v19, v20, v21, v22]))] sz)) 0 0 (va_A [(h0, .inr (8, [v0, v1, v2, v3, v4, v5, v6, v7, .int 0, .int 0, v10, v11, v12, v13, v14, v15, v16, v17, v18, v19, v20, v21, v22]))] sz) := by
  refine Met.ofW (cc := cX8_here) (maxL := 1) (ret := (some .int)) (by decide) rfl ?_
  intro p e s m args below meth c s₁ B hml hv
  obtain ⟨rfl, hsz, hP, hK, hD0, hE⟩ := hv
  have hx := B.exec
  have hb := B.bytes
  have hr := B.returns
  have hts0 := atoms_spec (ws := (wsg yX8_here cX8_here 1 (some .int))) B.pre
  have hts : ∀ w ∈ wsL_law, w.before _ s = true := fun w h => hts0 w (List.mem_cons_of_mem _ h)
  have hown : s.vm.findClass RX8 = some m.cls := findClass_of_methodNamed B.named
  have hlocks := B.notSynchronized
  subst hsz
  have hD := hD0.self (sz := s.heap.size)
  generalize hAe : va_A [(h0, .inr (8, [v0, v1, v2, v3, v4, v5, v6, v7, .int 0, .int 0, v10, v11, v12, v13, v14, v15, v16, v17, v18, v19, v20, v21, v22]))] s.heap.size = A at hD hE ⊢
  have hA : ∀ q : Nat, s.heap.size ≤ q → A q := fun q h => by rw [← hAe]; exact Or.inr h
  have hS : va_S A s.heap s.heap [] := va_S.rf
  have hP : va_P (dC, dI) vwCl [(h0, .inr (8, [v0, v1, v2, v3, v4, v5, v6, v7, .int 0, .int 0, v10, v11, v12, v13, v14, v15, v16, v17, v18, v19, v20, v21, v22]))] s.heap := hP
  have hl := lv_entry ([.ref h0]) (n := 1) (Nat.le_of_ble_eq_true rfl)
  rw [lg_entry_eq]
  generalize (lg_sl ([.ref h0]) ++ List.replicate (1 - (lg_sl ([.ref h0])).length) Slot.unset).toArray = ls at hl ⊢
  have hl : lv_has ls 1 [(0, .ref h0)] := hl
  generalize hHe : s.heap = H at hP hS ⊢
  have hS : va_S A s.heap H [] := by rw [hHe]; exact hS
  refine lv_aload_n hx hb dX8_here_0 rfl (lv_at hl 0 rfl) ?_
  refine va_get (D := (dC, dI)) (ci := 8) (v := .int 0) (C := RX8) (T := TX8) (N := 23) hx hb hts inlX8 hown hK hP 0 rfl rfl 9 (by decide) (hts _ mw_421) (fun _ h9 => h9) rfl dX8_here_1 ?_
  refine lv_aload_n hx hb dX8_here_4 rfl (lv_at hl 0 rfl) ?_
  refine va_get (D := (dC, dI)) (ci := 8) (v := .int 0) (C := RX8) (T := TX8) (N := 23) hx hb hts inlX8 hown hK hP 0 rfl rfl 8 (by decide) (hts _ mw_128) (fun _ h9 => h9) rfl dX8_here_5 ?_
  refine lv_icmp_ge (tgt := 27) hx hb dX8_here_8 (by decide) (fun _ => ?_) (fun h => absurd (by decide) h)
  refine lv_iconst (v := (-1)) hx hb dX8_here_27 (by decide) ?_
  have hP9 := hP.sub (ws' := [(h0, .inr (8, [v0, v1, v2, v3, v4, v5, v6, v7, .int 0, .int 0, v10, v11, v12, v13, v14, v15, v16, v17, v18, v19, v20, v21, v22]))]) [0] rfl
  have hD9 := hD.sub (ws' := [(h0, .inr (8, [v0, v1, v2, v3, v4, v5, v6, v7, .int 0, .int 0, v10, v11, v12, v13, v14, v15, v16, v17, v18, v19, v20, v21, v22]))]) [0] (by decide) rfl
  refine W.widen (k := 0) (n := 0) (by omega) (by omega) ?_
  exact W.iret (v := (-1)) hx hb hr (fun t ht hW => ⟨⟨(-1), (), rfl, rfl, by rw [ht]; exact hP9, hD9⟩, hS.F ht⟩) hS.2.2 dX8_here_28
set_option maxHeartbeats 4000000 in
set_option maxRecDepth 100000 in
/-- X8_next -/
theorem c_X8_next (l : Launch) (dC : Nat → ClassId) (dI : Nat → Nat → Nat) (cy : Nat → ClassId) (nb : Nat → Nat) (h0 : Nat) (v0 : Value) (v1 : Value) (v2 : Value) (v3 : Value) (v4 : Value) (v5 : Value) (v6 : Value) (v7 : Value) (v11 : Value) (v12 : Value) (v13 : Value) (v14 : Value) (v15 : Value) (v16 : Value) (v17 : Value) (v18 : Value) (v19 : Value) (v20 : Value) (v21 : Value) (v22 : Value) (xb : Int32) (sz : Nat) : Met l yX8_next (wsg yX8_next cX8_next 1 (some .int)) ({ frames := 10, cells := 0, slots := 0, locals := 500 }) (va_Pc [.ref h0] (fun U => U.heap.size = sz ∧ va_P (dC, dI) vwCl [(h0, .inr (8, [v0, v1, v2, v3, v4, v5, v6, v7, .int 0, .int 0, .int xb, v11, v12, v13, v14, v15, v16, v17, v18, v19, v20, v21, v22]))] U.heap ∧ va_K (dC, dI) vwCl (tyL cy) U ∧ va_D (fun _ => True) [(h0, .inr (8, [v0, v1, v2, v3, v4, v5, v6, v7, .int 0, .int 0, .int xb, v11, v12, v13, v14, v15, v16, v17, v18, v19, v20, v21, v22]))] ∧ GE nb (va_A [(h0, .inr (8, [v0, v1, v2, v3, v4, v5, v6, v7, .int 0, .int 0, .int xb, v11, v12, v13, v14, v15, v16, v17, v18, v19, v20, v21, v22]))] sz) U)) (va_Qi (fun (r : Int32) (_ : Unit) => r = (-1)) (fun _ t => va_P (dC, dI) vwCl [(h0, .inr (8, [v0, v1, v2, v3, v4, v5, v6, v7, .int 0, .int 0, .int 0, v11, v12, v13, v14, v15, v16, v17, v18, v19, v20, v21, v22]))] t.heap ∧ va_D (va_A [(h0, .inr (8, [v0, v1, v2, v3, v4, v5, v6, v7, .int 0, .int 0, .int xb, v11, v12, v13, v14, v15, v16, v17, v18, v19, v20, v21, v22]))] sz) [(h0, .inr (8, [v0, v1, v2, v3, v4, v5, v6, v7, .int 0, .int 0, .int 0, v11, v12, v13, v14, v15, v16, v17, v18, v19, v20, v21, v22]))]) (va_A [(h0, .inr (8, [v0, v1, v2, v3, v4, v5, v6, v7, .int 0, .int 0, .int xb, v11, v12, v13, v14, v15, v16, v17, v18, v19, v20, v21, v22]))] sz)) 0 0 (va_A [(h0, .inr (8, [v0, v1, v2, v3, v4, v5, v6, v7, .int 0, .int 0, .int xb, v11, v12, v13, v14, v15, v16, v17, v18, v19, v20, v21, v22]))] sz) := by
  refine Met.ofW (cc := cX8_next) (maxL := 1) (ret := (some .int)) (by decide) rfl ?_
  intro p e s m args below meth c s₁ B hml hv
  obtain ⟨rfl, hsz, hP, hK, hD0, hE⟩ := hv
  have hx := B.exec
  have hb := B.bytes
  have hr := B.returns
  have hts0 := atoms_spec (ws := (wsg yX8_next cX8_next 1 (some .int))) B.pre
  have hts : ∀ w ∈ wsL_law, w.before _ s = true := fun w h => hts0 w (List.mem_cons_of_mem _ h)
  have hown : s.vm.findClass RX8 = some m.cls := findClass_of_methodNamed B.named
  have hlocks := B.notSynchronized
  subst hsz
  have hD := hD0.self (sz := s.heap.size)
  generalize hAe : va_A [(h0, .inr (8, [v0, v1, v2, v3, v4, v5, v6, v7, .int 0, .int 0, .int xb, v11, v12, v13, v14, v15, v16, v17, v18, v19, v20, v21, v22]))] s.heap.size = A at hD hE ⊢
  have hA : ∀ q : Nat, s.heap.size ≤ q → A q := fun q h => by rw [← hAe]; exact Or.inr h
  have hS : va_S A s.heap s.heap [] := va_S.rf
  have hP : va_P (dC, dI) vwCl [(h0, .inr (8, [v0, v1, v2, v3, v4, v5, v6, v7, .int 0, .int 0, .int xb, v11, v12, v13, v14, v15, v16, v17, v18, v19, v20, v21, v22]))] s.heap := hP
  have hl := lv_entry ([.ref h0]) (n := 1) (Nat.le_of_ble_eq_true rfl)
  rw [lg_entry_eq]
  generalize (lg_sl ([.ref h0]) ++ List.replicate (1 - (lg_sl ([.ref h0])).length) Slot.unset).toArray = ls at hl ⊢
  have hl : lv_has ls 1 [(0, .ref h0)] := hl
  generalize hHe : s.heap = H at hP hS ⊢
  have hS : va_S A s.heap H [] := by rw [hHe]; exact hS
  refine lv_aload_n hx hb dX8_next_0 rfl (lv_at hl 0 rfl) ?_
  have hPc := hP.sub (ws' := [(h0, .inr (8, [v0, v1, v2, v3, v4, v5, v6, v7, .int 0, .int 0, .int xb, v11, v12, v13, v14, v15, v16, v17, v18, v19, v20, v21, v22]))]) [0] rfl
  have hDc := hD.sub (ws' := [(h0, .inr (8, [v0, v1, v2, v3, v4, v5, v6, v7, .int 0, .int 0, .int xb, v11, v12, v13, v14, v15, v16, v17, v18, v19, v20, v21, v22]))]) [0] (by decide) rfl
  have hFc := va_free (wc := [(h0, .inr (8, [v0, v1, v2, v3, v4, v5, v6, v7, .int 0, .int 0, .int xb, v11, v12, v13, v14, v15, v16, v17, v18, v19, v20, v21, v22]))]) hD hS hA [0] rfl
  refine va_calli (va_runV (As := []) (rest := []) ⟨hx, hb, hml, hown, hts⟩ (c_X8_here l dC dI cy nb h0 (v0) (v1) (v2) (v3) (v4) (v5) (v6) (v7) (.int xb) (v11) (v12) (v13) (v14) (v15) (v16) (v17) (v18) (v19) (v20) (v21) (v22) H.size) (cwV 0 hts (gV mw_441 mw_442 mw_443 mw_5 mw_444) rfl rfl rfl (by decide +kernel) ⟨Nat.le_of_ble_eq_true rfl, Nat.le_of_ble_eq_true rfl⟩) ⟨fun a U g mk q => by obtain ⟨q0, q1, qP, qK, qD, qE⟩ := q; exact ⟨q0, q1, qP, va_K.moved (u := U) (U := U.calling g mk a) (Vm.Alike.refl U.vm) qK, qD, GE.calling qE⟩, va_recv hK hP (ci := 8) (q0 := 0) rfl rfl, fun U hU hW => ⟨rfl, by rw [hU], by rw [hU]; exact hPc, va_K.moved hW.alike hK, hDc.weaken (fun _ _ _ _ => trivial), GE.call hE hS hFc hU hW⟩⟩ rfl rfl hl.1 rfl (lv_room (Nat.le_of_ble_eq_true rfl)) dX8_next_1 ⟨Nat.le_of_ble_eq_true rfl, Nat.le_of_ble_eq_true rfl⟩) hS (fun q _ h => hFc q h) hFc (fun r u t H1 locs ht hvm hw1 hB hz1 hk1 hS => ?_)
  obtain ⟨hP1, hD1⟩ := hB
  rw [ht] at hP1
  obtain ⟨hP, hD⟩ := va_join (wr := []) (w1 := [(h0, .inr (8, [v0, v1, v2, v3, v4, v5, v6, v7, .int 0, .int 0, .int xb, v11, v12, v13, v14, v15, v16, v17, v18, v19, v20, v21, v22]))]) hP hD [0] [] rfl rfl (by decide) (by decide) hk1 hFc hP1 hD1
  generalize H1 = H at hP hS ⊢
  have hP : va_P (dC, dI) vwCl [(h0, .inr (8, [v0, v1, v2, v3, v4, v5, v6, v7, .int 0, .int 0, .int xb, v11, v12, v13, v14, v15, v16, v17, v18, v19, v20, v21, v22]))] H := hP
  have hD : va_D A [(h0, .inr (8, [v0, v1, v2, v3, v4, v5, v6, v7, .int 0, .int 0, .int xb, v11, v12, v13, v14, v15, v16, v17, v18, v19, v20, v21, v22]))] := hD
  obtain rfl := hw1
  refine W.widen (k := 0) (n := 0) (by omega) (by omega) ?_
  refine lv_bipush (v := 32) hx hb dX8_next_4 (by decide) ?_
  refine lv_icmp_ne (tgt := 22) hx hb dX8_next_6 (by decide) (fun _ => ?_) (fun h => absurd h (by decide))
  refine lv_aload_n hx hb dX8_next_22 rfl (lv_at hl 0 rfl) ?_
  refine lv_aload_n hx hb dX8_next_23 rfl (lv_at hl 0 rfl) ?_
  refine va_get (D := (dC, dI)) (ci := 8) (v := .int 0) (C := RX8) (T := TX8) (N := 23) hx hb hts inlX8 hown hK hP 0 rfl rfl 9 (by decide) (hts _ mw_421) (fun _ h9 => h9) rfl dX8_next_24 ?_
  refine va_put (D := (dC, dI)) (ci := 8) (v := .int 0) (ty := .int) (C := RX8) (T := TX8) (N := 23) hx hb hts inlX8 tyX8 tyX8_ok nmX8 hown hK hP hD hS 0 rfl rfl 10 (by decide) (hts _ mw_440) (fun _ h9 => h9) rfl (by decide +kernel) rfl rfl (Nat.le_of_ble_eq_true rfl) dX8_next_27 (fun H locs hP hD hS => ?_)
  have hP : va_P (dC, dI) vwCl [(h0, .inr (8, [v0, v1, v2, v3, v4, v5, v6, v7, .int 0, .int 0, .int 0, v11, v12, v13, v14, v15, v16, v17, v18, v19, v20, v21, v22]))] H := hP
  have hD : va_D A [(h0, .inr (8, [v0, v1, v2, v3, v4, v5, v6, v7, .int 0, .int 0, .int 0, v11, v12, v13, v14, v15, v16, v17, v18, v19, v20, v21, v22]))] := hD
  refine lv_aload_n hx hb dX8_next_30 rfl (lv_at hl 0 rfl) ?_
  have hPc := hP.sub (ws' := [(h0, .inr (8, [v0, v1, v2, v3, v4, v5, v6, v7, .int 0, .int 0, .int 0, v11, v12, v13, v14, v15, v16, v17, v18, v19, v20, v21, v22]))]) [0] rfl
  have hDc := hD.sub (ws' := [(h0, .inr (8, [v0, v1, v2, v3, v4, v5, v6, v7, .int 0, .int 0, .int 0, v11, v12, v13, v14, v15, v16, v17, v18, v19, v20, v21, v22]))]) [0] (by decide) rfl
  have hFc := va_free (wc := [(h0, .inr (8, [v0, v1, v2, v3, v4, v5, v6, v7, .int 0, .int 0, .int 0, v11, v12, v13, v14, v15, v16, v17, v18, v19, v20, v21, v22]))]) hD hS hA [0] rfl
  refine va_calli (va_runV (As := []) (rest := []) ⟨hx, hb, hml, hown, hts⟩ (c_X8_here l dC dI cy nb h0 (v0) (v1) (v2) (v3) (v4) (v5) (v6) (v7) (.int 0) (v11) (v12) (v13) (v14) (v15) (v16) (v17) (v18) (v19) (v20) (v21) (v22) H.size) (cwV 0 hts (gV mw_441 mw_442 mw_443 mw_5 mw_444) rfl rfl rfl (by decide +kernel) ⟨Nat.le_of_ble_eq_true rfl, Nat.le_of_ble_eq_true rfl⟩) ⟨fun a U g mk q => by obtain ⟨q0, q1, qP, qK, qD, qE⟩ := q; exact ⟨q0, q1, qP, va_K.moved (u := U) (U := U.calling g mk a) (Vm.Alike.refl U.vm) qK, qD, GE.calling qE⟩, va_recv hK hP (ci := 8) (q0 := 0) rfl rfl, fun U hU hW => ⟨rfl, by rw [hU], by rw [hU]; exact hPc, va_K.moved hW.alike hK, hDc.weaken (fun _ _ _ _ => trivial), GE.call hE hS hFc hU hW⟩⟩ rfl rfl hl.1 rfl (lv_room (Nat.le_of_ble_eq_true rfl)) dX8_next_31 ⟨Nat.le_of_ble_eq_true rfl, Nat.le_of_ble_eq_true rfl⟩) hS (fun q _ h => hFc q h) hFc (fun r u t H1 locs ht hvm hw2 hB hz1 hk1 hS => ?_)
  obtain ⟨hP1, hD1⟩ := hB
  rw [ht] at hP1
  obtain ⟨hP, hD⟩ := va_join (wr := []) (w1 := [(h0, .inr (8, [v0, v1, v2, v3, v4, v5, v6, v7, .int 0, .int 0, .int 0, v11, v12, v13, v14, v15, v16, v17, v18, v19, v20, v21, v22]))]) hP hD [0] [] rfl rfl (by decide) (by decide) hk1 hFc hP1 hD1
  generalize H1 = H at hP hS ⊢
  have hP : va_P (dC, dI) vwCl [(h0, .inr (8, [v0, v1, v2, v3, v4, v5, v6, v7, .int 0, .int 0, .int 0, v11, v12, v13, v14, v15, v16, v17, v18, v19, v20, v21, v22]))] H := hP
  have hD : va_D A [(h0, .inr (8, [v0, v1, v2, v3, v4, v5, v6, v7, .int 0, .int 0, .int 0, v11, v12, v13, v14, v15, v16, v17, v18, v19, v20, v21, v22]))] := hD
  obtain rfl := hw2
  refine W.widen (k := 0) (n := 0) (by omega) (by omega) ?_
  have hP9 := hP.sub (ws' := [(h0, .inr (8, [v0, v1, v2, v3, v4, v5, v6, v7, .int 0, .int 0, .int 0, v11, v12, v13, v14, v15, v16, v17, v18, v19, v20, v21, v22]))]) [0] rfl
  have hD9 := hD.sub (ws' := [(h0, .inr (8, [v0, v1, v2, v3, v4, v5, v6, v7, .int 0, .int 0, .int 0, v11, v12, v13, v14, v15, v16, v17, v18, v19, v20, v21, v22]))]) [0] (by decide) rfl
  refine W.widen (k := 0) (n := 0) (by omega) (by omega) ?_
  exact W.iret (v := (-1)) hx hb hr (fun t ht hW => ⟨⟨(-1), (), rfl, rfl, by rw [ht]; exact hP9, hD9⟩, hS.F ht⟩) hS.2.2 dX8_next_34
set_option maxHeartbeats 4000000 in
set_option maxRecDepth 100000 in
/-- X8_reads -/
theorem c_X8_reads (l : Launch) (dC : Nat → ClassId) (dI : Nat → Nat → Nat) (cy : Nat → ClassId) (nb : Nat → Nat) (h0 : Nat) (v0 : Value) (v1 : Value) (v2 : Value) (v3 : Value) (v4 : Value) (v5 : Value) (v6 : Value) (v7 : Value) (v11 : Value) (v12 : Value) (v13 : Value) (v14 : Value) (v15 : Value) (v16 : Value) (v17 : Value) (v18 : Value) (v19 : Value) (v20 : Value) (v21 : Value) (v22 : Value) (xb : Int32) (sz : Nat) : Met l yX8_reads (wsg yX8_reads cX8_reads 1 none) ({ frames := 11, cells := 0, slots := 0, locals := 600 }) (va_Pc [.ref h0] (fun U => U.heap.size = sz ∧ va_P (dC, dI) vwCl [(h0, .inr (8, [v0, v1, v2, v3, v4, v5, v6, v7, .int 0, .int 0, .int xb, v11, v12, v13, v14, v15, v16, v17, v18, v19, v20, v21, v22]))] U.heap ∧ va_K (dC, dI) vwCl (tyL cy) U ∧ va_D (fun _ => True) [(h0, .inr (8, [v0, v1, v2, v3, v4, v5, v6, v7, .int 0, .int 0, .int xb, v11, v12, v13, v14, v15, v16, v17, v18, v19, v20, v21, v22]))] ∧ GE nb (va_A [(h0, .inr (8, [v0, v1, v2, v3, v4, v5, v6, v7, .int 0, .int 0, .int xb, v11, v12, v13, v14, v15, v16, v17, v18, v19, v20, v21, v22]))] sz) U)) (va_Qv (fun (_ : Unit) => True) (fun _ t => va_P (dC, dI) vwCl [(h0, .inr (8, [v0, v1, v2, v3, v4, v5, v6, v7, .int 0, .int 0, .int 0, v11, v12, v13, v14, v15, v16, v17, v18, v19, v20, v21, v22]))] t.heap ∧ va_D (va_A [(h0, .inr (8, [v0, v1, v2, v3, v4, v5, v6, v7, .int 0, .int 0, .int xb, v11, v12, v13, v14, v15, v16, v17, v18, v19, v20, v21, v22]))] sz) [(h0, .inr (8, [v0, v1, v2, v3, v4, v5, v6, v7, .int 0, .int 0, .int 0, v11, v12, v13, v14, v15, v16, v17, v18, v19, v20, v21, v22]))]) (va_A [(h0, .inr (8, [v0, v1, v2, v3, v4, v5, v6, v7, .int 0, .int 0, .int xb, v11, v12, v13, v14, v15, v16, v17, v18, v19, v20, v21, v22]))] sz)) 0 0 (va_A [(h0, .inr (8, [v0, v1, v2, v3, v4, v5, v6, v7, .int 0, .int 0, .int xb, v11, v12, v13, v14, v15, v16, v17, v18, v19, v20, v21, v22]))] sz) := by
  refine Met.ofW (cc := cX8_reads) (maxL := 1) (ret := none) (by decide) rfl ?_
  intro p e s m args below meth c s₁ B hml hv
  obtain ⟨rfl, hsz, hP, hK, hD0, hE⟩ := hv
  have hx := B.exec
  have hb := B.bytes
  have hr := B.returns
  have hts0 := atoms_spec (ws := (wsg yX8_reads cX8_reads 1 none)) B.pre
  have hts : ∀ w ∈ wsL_law, w.before _ s = true := fun w h => hts0 w (List.mem_cons_of_mem _ h)
  have hown : s.vm.findClass RX8 = some m.cls := findClass_of_methodNamed B.named
  have hlocks := B.notSynchronized
  subst hsz
  have hD := hD0.self (sz := s.heap.size)
  generalize hAe : va_A [(h0, .inr (8, [v0, v1, v2, v3, v4, v5, v6, v7, .int 0, .int 0, .int xb, v11, v12, v13, v14, v15, v16, v17, v18, v19, v20, v21, v22]))] s.heap.size = A at hD hE ⊢
  have hA : ∀ q : Nat, s.heap.size ≤ q → A q := fun q h => by rw [← hAe]; exact Or.inr h
  have hS : va_S A s.heap s.heap [] := va_S.rf
  have hP : va_P (dC, dI) vwCl [(h0, .inr (8, [v0, v1, v2, v3, v4, v5, v6, v7, .int 0, .int 0, .int xb, v11, v12, v13, v14, v15, v16, v17, v18, v19, v20, v21, v22]))] s.heap := hP
  have hl := lv_entry ([.ref h0]) (n := 1) (Nat.le_of_ble_eq_true rfl)
  rw [lg_entry_eq]
  generalize (lg_sl ([.ref h0]) ++ List.replicate (1 - (lg_sl ([.ref h0])).length) Slot.unset).toArray = ls at hl ⊢
  have hl : lv_has ls 1 [(0, .ref h0)] := hl
  generalize hHe : s.heap = H at hP hS ⊢
  have hS : va_S A s.heap H [] := by rw [hHe]; exact hS
  refine lv_aload_n hx hb dX8_reads_0 rfl (lv_at hl 0 rfl) ?_
  have hPc := hP.sub (ws' := [(h0, .inr (8, [v0, v1, v2, v3, v4, v5, v6, v7, .int 0, .int 0, .int xb, v11, v12, v13, v14, v15, v16, v17, v18, v19, v20, v21, v22]))]) [0] rfl
  have hDc := hD.sub (ws' := [(h0, .inr (8, [v0, v1, v2, v3, v4, v5, v6, v7, .int 0, .int 0, .int xb, v11, v12, v13, v14, v15, v16, v17, v18, v19, v20, v21, v22]))]) [0] (by decide) rfl
  have hFc := va_free (wc := [(h0, .inr (8, [v0, v1, v2, v3, v4, v5, v6, v7, .int 0, .int 0, .int xb, v11, v12, v13, v14, v15, v16, v17, v18, v19, v20, v21, v22]))]) hD hS hA [0] rfl
  refine va_calli (va_runV (As := []) (rest := []) ⟨hx, hb, hml, hown, hts⟩ (c_X8_next l dC dI cy nb h0 (v0) (v1) (v2) (v3) (v4) (v5) (v6) (v7) (v11) (v12) (v13) (v14) (v15) (v16) (v17) (v18) (v19) (v20) (v21) (v22) xb H.size) (cwV 0 hts (gV mw_436 mw_437 mw_438 mw_5 mw_439) rfl rfl rfl (by decide +kernel) ⟨Nat.le_of_ble_eq_true rfl, Nat.le_of_ble_eq_true rfl⟩) ⟨fun a U g mk q => by obtain ⟨q0, q1, qP, qK, qD, qE⟩ := q; exact ⟨q0, q1, qP, va_K.moved (u := U) (U := U.calling g mk a) (Vm.Alike.refl U.vm) qK, qD, GE.calling qE⟩, va_recv hK hP (ci := 8) (q0 := 0) rfl rfl, fun U hU hW => ⟨rfl, by rw [hU], by rw [hU]; exact hPc, va_K.moved hW.alike hK, hDc.weaken (fun _ _ _ _ => trivial), GE.call hE hS hFc hU hW⟩⟩ rfl rfl hl.1 rfl (lv_room (Nat.le_of_ble_eq_true rfl)) dX8_reads_1 ⟨Nat.le_of_ble_eq_true rfl, Nat.le_of_ble_eq_true rfl⟩) hS (fun q _ h => hFc q h) hFc (fun r u t H1 locs ht hvm hw1 hB hz1 hk1 hS => ?_)
  obtain ⟨hP1, hD1⟩ := hB
  rw [ht] at hP1
  obtain ⟨hP, hD⟩ := va_join (wr := []) (w1 := [(h0, .inr (8, [v0, v1, v2, v3, v4, v5, v6, v7, .int 0, .int 0, .int 0, v11, v12, v13, v14, v15, v16, v17, v18, v19, v20, v21, v22]))]) hP hD [0] [] rfl rfl (by decide) (by decide) hk1 hFc hP1 hD1
  generalize H1 = H at hP hS ⊢
  have hP : va_P (dC, dI) vwCl [(h0, .inr (8, [v0, v1, v2, v3, v4, v5, v6, v7, .int 0, .int 0, .int 0, v11, v12, v13, v14, v15, v16, v17, v18, v19, v20, v21, v22]))] H := hP
  have hD : va_D A [(h0, .inr (8, [v0, v1, v2, v3, v4, v5, v6, v7, .int 0, .int 0, .int 0, v11, v12, v13, v14, v15, v16, v17, v18, v19, v20, v21, v22]))] := hD
  obtain rfl := hw1
  refine W.widen (k := 0) (n := 0) (by omega) (by omega) ?_
  refine lv_pop hx hb dX8_reads_4 rfl ?_
  refine lv_aload_n hx hb dX8_reads_5 rfl (lv_at hl 0 rfl) ?_
  have hPc := hP.sub (ws' := [(h0, .inr (8, [v0, v1, v2, v3, v4, v5, v6, v7, .int 0, .int 0, .int 0, v11, v12, v13, v14, v15, v16, v17, v18, v19, v20, v21, v22]))]) [0] rfl
  have hDc := hD.sub (ws' := [(h0, .inr (8, [v0, v1, v2, v3, v4, v5, v6, v7, .int 0, .int 0, .int 0, v11, v12, v13, v14, v15, v16, v17, v18, v19, v20, v21, v22]))]) [0] (by decide) rfl
  have hFc := va_free (wc := [(h0, .inr (8, [v0, v1, v2, v3, v4, v5, v6, v7, .int 0, .int 0, .int 0, v11, v12, v13, v14, v15, v16, v17, v18, v19, v20, v21, v22]))]) hD hS hA [0] rfl
  refine va_calli (va_runV (As := []) (rest := []) ⟨hx, hb, hml, hown, hts⟩ (c_X8_here l dC dI cy nb h0 (v0) (v1) (v2) (v3) (v4) (v5) (v6) (v7) (.int 0) (v11) (v12) (v13) (v14) (v15) (v16) (v17) (v18) (v19) (v20) (v21) (v22) H.size) (cwV 0 hts (gV mw_441 mw_442 mw_443 mw_5 mw_444) rfl rfl rfl (by decide +kernel) ⟨Nat.le_of_ble_eq_true rfl, Nat.le_of_ble_eq_true rfl⟩) ⟨fun a U g mk q => by obtain ⟨q0, q1, qP, qK, qD, qE⟩ := q; exact ⟨q0, q1, qP, va_K.moved (u := U) (U := U.calling g mk a) (Vm.Alike.refl U.vm) qK, qD, GE.calling qE⟩, va_recv hK hP (ci := 8) (q0 := 0) rfl rfl, fun U hU hW => ⟨rfl, by rw [hU], by rw [hU]; exact hPc, va_K.moved hW.alike hK, hDc.weaken (fun _ _ _ _ => trivial), GE.call hE hS hFc hU hW⟩⟩ rfl rfl hl.1 rfl (lv_room (Nat.le_of_ble_eq_true rfl)) dX8_reads_6 ⟨Nat.le_of_ble_eq_true rfl, Nat.le_of_ble_eq_true rfl⟩) hS (fun q _ h => hFc q h) hFc (fun r u t H1 locs ht hvm hw2 hB hz1 hk1 hS => ?_)
  obtain ⟨hP1, hD1⟩ := hB
  rw [ht] at hP1
  obtain ⟨hP, hD⟩ := va_join (wr := []) (w1 := [(h0, .inr (8, [v0, v1, v2, v3, v4, v5, v6, v7, .int 0, .int 0, .int 0, v11, v12, v13, v14, v15, v16, v17, v18, v19, v20, v21, v22]))]) hP hD [0] [] rfl rfl (by decide) (by decide) hk1 hFc hP1 hD1
  generalize H1 = H at hP hS ⊢
  have hP : va_P (dC, dI) vwCl [(h0, .inr (8, [v0, v1, v2, v3, v4, v5, v6, v7, .int 0, .int 0, .int 0, v11, v12, v13, v14, v15, v16, v17, v18, v19, v20, v21, v22]))] H := hP
  have hD : va_D A [(h0, .inr (8, [v0, v1, v2, v3, v4, v5, v6, v7, .int 0, .int 0, .int 0, v11, v12, v13, v14, v15, v16, v17, v18, v19, v20, v21, v22]))] := hD
  obtain rfl := hw2
  refine W.widen (k := 0) (n := 0) (by omega) (by omega) ?_
  refine lv_i2l (v := (-1)) hx hb dX8_reads_9 (by decide) ?_
  refine lv_ldc2 hx hb hown (hts _ mw_434) dX8_reads_10 ?_
  refine lv_ldc2 hx hb hown (hts _ mw_435) dX8_reads_13 ?_
  have hPc := hP.sub (ws' := []) [] rfl
  have hDc := hD.sub (ws' := []) [] (by decide) rfl
  have hFc := va_free (wc := []) hD hS hA [] rfl
  refine va_calli (va_runS (As := [.long (-1), .long 97, .long 122]) (rest := []) ⟨hx, hb, hml, hown, hts⟩ (c_X8_in l dC dI cy nb (-1) 97 122 H.size) (va_cwS 3 hts (gS mw_445 mw_446 mw_5 mw_447) rfl rfl rfl (by decide +kernel) ⟨Nat.le_of_ble_eq_true rfl, Nat.le_of_ble_eq_true rfl⟩) ⟨fun a U g mk q => by obtain ⟨q0, q1, qP, qK, qD, qE⟩ := q; exact ⟨q0, q1, qP, va_K.moved (u := U) (U := U.calling g mk a) (Vm.Alike.refl U.vm) qK, qD, GE.calling qE⟩, fun U hU hW => ⟨rfl, by rw [hU], by rw [hU]; exact hPc, va_K.moved hW.alike hK, hDc.weaken (fun _ _ _ _ => trivial), GE.call hE hS hFc hU hW⟩⟩ rfl rfl hl.1 rfl (lv_room (Nat.le_of_ble_eq_true rfl)) dX8_reads_16 ⟨Nat.le_of_ble_eq_true rfl, Nat.le_of_ble_eq_true rfl⟩) hS (fun q _ h => hFc q h) hFc (fun r u t H1 locs ht hvm hw3 hB hz1 hk1 hS => ?_)
  obtain ⟨hP1, hD1⟩ := hB
  rw [ht] at hP1
  obtain ⟨hP, hD⟩ := va_join (wr := [(h0, .inr (8, [v0, v1, v2, v3, v4, v5, v6, v7, .int 0, .int 0, .int 0, v11, v12, v13, v14, v15, v16, v17, v18, v19, v20, v21, v22]))]) (w1 := []) hP hD [] [0] rfl rfl (by decide) (by decide) hk1 hFc hP1 hD1
  generalize H1 = H at hP hS ⊢
  have hP : va_P (dC, dI) vwCl [(h0, .inr (8, [v0, v1, v2, v3, v4, v5, v6, v7, .int 0, .int 0, .int 0, v11, v12, v13, v14, v15, v16, v17, v18, v19, v20, v21, v22]))] H := hP
  have hD : va_D A [(h0, .inr (8, [v0, v1, v2, v3, v4, v5, v6, v7, .int 0, .int 0, .int 0, v11, v12, v13, v14, v15, v16, v17, v18, v19, v20, v21, v22]))] := hD
  obtain rfl := hw3
  refine my_topi (y := 0) (by decide) ?_
  refine W.widen (k := 0) (n := 0) (by omega) (by omega) ?_
  refine lv_if_eq (tgt := 35) hx hb dX8_reads_19 (by decide) (fun _ => ?_) (fun h => absurd (by decide) h)
  have hP9 := hP.sub (ws' := [(h0, .inr (8, [v0, v1, v2, v3, v4, v5, v6, v7, .int 0, .int 0, .int 0, v11, v12, v13, v14, v15, v16, v17, v18, v19, v20, v21, v22]))]) [0] rfl
  have hD9 := hD.sub (ws' := [(h0, .inr (8, [v0, v1, v2, v3, v4, v5, v6, v7, .int 0, .int 0, .int 0, v11, v12, v13, v14, v15, v16, v17, v18, v19, v20, v21, v22]))]) [0] (by decide) rfl
  refine W.widen (k := 0) (n := 0) (by omega) (by omega) ?_
  exact W.vret hx hb hr (fun t ht hW => ⟨⟨(), rfl, trivial, by rw [ht]; exact hP9, hD9⟩, hS.F ht⟩) hS.2.2 dX8_reads_35
set_option maxHeartbeats 4000000 in
set_option maxRecDepth 100000 in
/-- X8_fails -/
theorem c_X8_fails (l : Launch) (dC : Nat → ClassId) (dI : Nat → Nat → Nat) (cy : Nat → ClassId) (nb : Nat → Nat) (h0 : Nat) (v0 : Value) (v1 : Value) (v2 : Value) (v3 : Value) (v4 : Value) (v5 : Value) (v6 : Value) (v7 : Value) (v8 : Value) (v9 : Value) (v13 : Value) (v14 : Value) (v15 : Value) (v16 : Value) (v17 : Value) (v18 : Value) (v19 : Value) (v20 : Value) (v21 : Value) (v22 : Value) (xe : Int32) (sz : Nat) : Met l yX8_fails (wsg yX8_fails cX8_fails 2 none) ({ frames := 9, cells := 0, slots := 0, locals := 400 }) (va_Pc [.ref h0, .int 1] (fun U => U.heap.size = sz ∧ va_P (dC, dI) vwCl [(h0, .inr (8, [v0, v1, v2, v3, v4, v5, v6, v7, v8, v9, .int 0, .int 0, .int xe, v13, v14, v15, v16, v17, v18, v19, v20, v21, v22]))] U.heap ∧ va_K (dC, dI) vwCl (tyL cy) U ∧ va_D (fun _ => True) [(h0, .inr (8, [v0, v1, v2, v3, v4, v5, v6, v7, v8, v9, .int 0, .int 0, .int xe, v13, v14, v15, v16, v17, v18, v19, v20, v21, v22]))] ∧ GE nb (va_A [(h0, .inr (8, [v0, v1, v2, v3, v4, v5, v6, v7, v8, v9, .int 0, .int 0, .int xe, v13, v14, v15, v16, v17, v18, v19, v20, v21, v22]))] sz) U)) (va_Qv (fun (_ : Unit) => True) (fun _ t => va_P (dC, dI) vwCl [(h0, .inr (8, [v0, v1, v2, v3, v4, v5, v6, v7, v8, v9, .int 0, .int 1, .int 0, v13, v14, v15, v16, v17, v18, v19, v20, v21, v22]))] t.heap ∧ va_D (va_A [(h0, .inr (8, [v0, v1, v2, v3, v4, v5, v6, v7, v8, v9, .int 0, .int 0, .int xe, v13, v14, v15, v16, v17, v18, v19, v20, v21, v22]))] sz) [(h0, .inr (8, [v0, v1, v2, v3, v4, v5, v6, v7, v8, v9, .int 0, .int 1, .int 0, v13, v14, v15, v16, v17, v18, v19, v20, v21, v22]))]) (va_A [(h0, .inr (8, [v0, v1, v2, v3, v4, v5, v6, v7, v8, v9, .int 0, .int 0, .int xe, v13, v14, v15, v16, v17, v18, v19, v20, v21, v22]))] sz)) 0 0 (va_A [(h0, .inr (8, [v0, v1, v2, v3, v4, v5, v6, v7, v8, v9, .int 0, .int 0, .int xe, v13, v14, v15, v16, v17, v18, v19, v20, v21, v22]))] sz) := by
  refine Met.ofW (cc := cX8_fails) (maxL := 2) (ret := none) (by decide) rfl ?_
  intro p e s m args below meth c s₁ B hml hv
  obtain ⟨rfl, hsz, hP, hK, hD0, hE⟩ := hv
  have hx := B.exec
  have hb := B.bytes
  have hr := B.returns
  have hts0 := atoms_spec (ws := (wsg yX8_fails cX8_fails 2 none)) B.pre
  have hts : ∀ w ∈ wsL_law, w.before _ s = true := fun w h => hts0 w (List.mem_cons_of_mem _ h)
  have hown : s.vm.findClass RX8 = some m.cls := findClass_of_methodNamed B.named
  have hlocks := B.notSynchronized
  subst hsz
  have hD := hD0.self (sz := s.heap.size)
  generalize hAe : va_A [(h0, .inr (8, [v0, v1, v2, v3, v4, v5, v6, v7, v8, v9, .int 0, .int 0, .int xe, v13, v14, v15, v16, v17, v18, v19, v20, v21, v22]))] s.heap.size = A at hD hE ⊢
  have hA : ∀ q : Nat, s.heap.size ≤ q → A q := fun q h => by rw [← hAe]; exact Or.inr h
  have hS : va_S A s.heap s.heap [] := va_S.rf
  have hP : va_P (dC, dI) vwCl [(h0, .inr (8, [v0, v1, v2, v3, v4, v5, v6, v7, v8, v9, .int 0, .int 0, .int xe, v13, v14, v15, v16, v17, v18, v19, v20, v21, v22]))] s.heap := hP
  have hl := lv_entry ([.ref h0, .int 1]) (n := 2) (Nat.le_of_ble_eq_true rfl)
  rw [lg_entry_eq]
  generalize (lg_sl ([.ref h0, .int 1]) ++ List.replicate (2 - (lg_sl ([.ref h0, .int 1])).length) Slot.unset).toArray = ls at hl ⊢
  have hl : lv_has ls 2 [(0, .ref h0), (1, .int 1)] := hl
  generalize hHe : s.heap = H at hP hS ⊢
  have hS : va_S A s.heap H [] := by rw [hHe]; exact hS
  refine lv_aload_n hx hb dX8_fails_0 rfl (lv_at hl 0 rfl) ?_
  refine va_get (D := (dC, dI)) (ci := 8) (v := .int 0) (C := RX8) (T := TX8) (N := 23) hx hb hts inlX8 hown hK hP 0 rfl rfl 11 (by decide) (hts _ mw_414) (fun _ h9 => h9) rfl dX8_fails_1 ?_
  refine lv_if_ne (tgt := 20) hx hb dX8_fails_4 (by decide) (fun h => absurd h (by decide)) (fun _ => ?_)
  refine lv_aload_n hx hb dX8_fails_7 rfl (lv_at hl 0 rfl) ?_
  refine lv_iload_n hx hb dX8_fails_8 rfl (lv_at hl 1 rfl) ?_
  refine va_put (D := (dC, dI)) (ci := 8) (v := .int 1) (ty := .int) (C := RX8) (T := TX8) (N := 23) hx hb hts inlX8 tyX8 tyX8_ok nmX8 hown hK hP hD hS 0 rfl rfl 11 (by decide) (hts _ mw_414) (fun _ h9 => h9) rfl (by decide +kernel) rfl rfl (Nat.le_of_ble_eq_true rfl) dX8_fails_9 (fun H locs hP hD hS => ?_)
  have hP : va_P (dC, dI) vwCl [(h0, .inr (8, [v0, v1, v2, v3, v4, v5, v6, v7, v8, v9, .int 0, .int 1, .int xe, v13, v14, v15, v16, v17, v18, v19, v20, v21, v22]))] H := hP
  have hD : va_D A [(h0, .inr (8, [v0, v1, v2, v3, v4, v5, v6, v7, v8, v9, .int 0, .int 1, .int xe, v13, v14, v15, v16, v17, v18, v19, v20, v21, v22]))] := hD
  refine lv_aload_n hx hb dX8_fails_12 rfl (lv_at hl 0 rfl) ?_
  refine lv_aload_n hx hb dX8_fails_13 rfl (lv_at hl 0 rfl) ?_
  refine va_get (D := (dC, dI)) (ci := 8) (v := .int 0) (C := RX8) (T := TX8) (N := 23) hx hb hts inlX8 hown hK hP 0 rfl rfl 10 (by decide) (hts _ mw_440) (fun _ h9 => h9) rfl dX8_fails_14 ?_
  refine va_put (D := (dC, dI)) (ci := 8) (v := .int 0) (ty := .int) (C := RX8) (T := TX8) (N := 23) hx hb hts inlX8 tyX8 tyX8_ok nmX8 hown hK hP hD hS 0 rfl rfl 12 (by decide) (hts _ mw_415) (fun _ h9 => h9) rfl (by decide +kernel) rfl rfl (Nat.le_of_ble_eq_true rfl) dX8_fails_17 (fun H locs hP hD hS => ?_)
  have hP : va_P (dC, dI) vwCl [(h0, .inr (8, [v0, v1, v2, v3, v4, v5, v6, v7, v8, v9, .int 0, .int 1, .int 0, v13, v14, v15, v16, v17, v18, v19, v20, v21, v22]))] H := hP
  have hD : va_D A [(h0, .inr (8, [v0, v1, v2, v3, v4, v5, v6, v7, v8, v9, .int 0, .int 1, .int 0, v13, v14, v15, v16, v17, v18, v19, v20, v21, v22]))] := hD
  have hP9 := hP.sub (ws' := [(h0, .inr (8, [v0, v1, v2, v3, v4, v5, v6, v7, v8, v9, .int 0, .int 1, .int 0, v13, v14, v15, v16, v17, v18, v19, v20, v21, v22]))]) [0] rfl
  have hD9 := hD.sub (ws' := [(h0, .inr (8, [v0, v1, v2, v3, v4, v5, v6, v7, v8, v9, .int 0, .int 1, .int 0, v13, v14, v15, v16, v17, v18, v19, v20, v21, v22]))]) [0] (by decide) rfl
  refine W.widen (k := 0) (n := 0) (by omega) (by omega) ?_
  exact W.vret hx hb hr (fun t ht hW => ⟨⟨(), rfl, trivial, by rw [ht]; exact hP9, hD9⟩, hS.F ht⟩) hS.2.2 dX8_fails_20
set_option maxHeartbeats 4000000 in
set_option maxRecDepth 100000 in
/-- X8_isWord -/
theorem c_X8_isWord (l : Launch) (dC : Nat → ClassId) (dI : Nat → Nat → Nat) (cy : Nat → ClassId) (nb : Nat → Nat) (h0 : Nat) (v0 : Value) (v1 : Value) (v2 : Value) (v3 : Value) (v4 : Value) (v5 : Value) (v6 : Value) (v7 : Value) (v8 : Value) (v11 : Value) (v12 : Value) (v13 : Value) (v14 : Value) (v15 : Value) (v16 : Value) (v17 : Value) (v18 : Value) (v19 : Value) (v20 : Value) (v21 : Value) (v22 : Value) (sz : Nat) : Met l yX8_isWord (wsg yX8_isWord cX8_isWord 4 (some .boolean)) ({ frames := 10, cells := 0, slots := 0, locals := 500 }) (va_Pc [.ref h0, .ref (nb (3 + 2 * 8))] (fun U => U.heap.size = sz ∧ va_P (dC, dI) vwCl [(h0, .inr (8, [v0, v1, v2, v3, v4, v5, v6, v7, v8, .int 0, .int 0, v11, v12, v13, v14, v15, v16, v17, v18, v19, v20, v21, v22]))] U.heap ∧ va_K (dC, dI) vwCl (tyL cy) U ∧ va_D (fun _ => True) [(h0, .inr (8, [v0, v1, v2, v3, v4, v5, v6, v7, v8, .int 0, .int 0, v11, v12, v13, v14, v15, v16, v17, v18, v19, v20, v21, v22]))] ∧ GE nb (va_A [(h0, .inr (8, [v0, v1, v2, v3, v4, v5, v6, v7, v8, .int 0, .int 0, v11, v12, v13, v14, v15, v16, v17, v18, v19, v20, v21, v22]))] sz) U)) (va_Qi (fun (r : Int32) (_ : Unit) => r = 0) (fun _ t => va_P (dC, dI) vwCl [(h0, .inr (8, [v0, v1, v2, v3, v4, v5, v6, v7, v8, .int 0, .int 0, v11, v12, v13, v14, v15, v16, v17, v18, v19, v20, v21, v22]))] t.heap ∧ va_D (va_A [(h0, .inr (8, [v0, v1, v2, v3, v4, v5, v6, v7, v8, .int 0, .int 0, v11, v12, v13, v14, v15, v16, v17, v18, v19, v20, v21, v22]))] sz) [(h0, .inr (8, [v0, v1, v2, v3, v4, v5, v6, v7, v8, .int 0, .int 0, v11, v12, v13, v14, v15, v16, v17, v18, v19, v20, v21, v22]))]) (va_A [(h0, .inr (8, [v0, v1, v2, v3, v4, v5, v6, v7, v8, .int 0, .int 0, v11, v12, v13, v14, v15, v16, v17, v18, v19, v20, v21, v22]))] sz)) 0 0 (va_A [(h0, .inr (8, [v0, v1, v2, v3, v4, v5, v6, v7, v8, .int 0, .int 0, v11, v12, v13, v14, v15, v16, v17, v18, v19, v20, v21, v22]))] sz) := by
  refine Met.ofW (cc := cX8_isWord) (maxL := 4) (ret := (some .boolean)) (by decide) rfl ?_
  intro p e s m args below meth c s₁ B hml hv
  obtain ⟨rfl, hsz, hP, hK, hD0, hE⟩ := hv
  have hx := B.exec
  have hb := B.bytes
  have hr := B.returns
  have hts0 := atoms_spec (ws := (wsg yX8_isWord cX8_isWord 4 (some .boolean))) B.pre
  have hts : ∀ w ∈ wsL_law, w.before _ s = true := fun w h => hts0 w (List.mem_cons_of_mem _ h)
  have hown : s.vm.findClass RX8 = some m.cls := findClass_of_methodNamed B.named
  have hlocks := B.notSynchronized
  subst hsz
  have hD := hD0.self (sz := s.heap.size)
  generalize hAe : va_A [(h0, .inr (8, [v0, v1, v2, v3, v4, v5, v6, v7, v8, .int 0, .int 0, v11, v12, v13, v14, v15, v16, v17, v18, v19, v20, v21, v22]))] s.heap.size = A at hD hE ⊢
  have hA : ∀ q : Nat, s.heap.size ≤ q → A q := fun q h => by rw [← hAe]; exact Or.inr h
  have hS : va_S A s.heap s.heap [] := va_S.rf
  have hP : va_P (dC, dI) vwCl [(h0, .inr (8, [v0, v1, v2, v3, v4, v5, v6, v7, v8, .int 0, .int 0, v11, v12, v13, v14, v15, v16, v17, v18, v19, v20, v21, v22]))] s.heap := hP
  have hl := lv_entry ([.ref h0, .ref (nb (3 + 2 * 8))]) (n := 4) (Nat.le_of_ble_eq_true rfl)
  rw [lg_entry_eq]
  generalize (lg_sl ([.ref h0, .ref (nb (3 + 2 * 8))]) ++ List.replicate (4 - (lg_sl ([.ref h0, .ref (nb (3 + 2 * 8))])).length) Slot.unset).toArray = ls at hl ⊢
  have hl : lv_has ls 4 [(0, .ref h0), (1, .ref (nb (3 + 2 * 8)))] := hl
  generalize hHe : s.heap = H at hP hS ⊢
  have hS : va_S A s.heap H [] := by rw [hHe]; exact hS
  refine lv_aload_n hx hb dX8_isWord_0 rfl (lv_at hl 0 rfl) ?_
  refine va_get (D := (dC, dI)) (ci := 8) (v := .int 0) (C := RX8) (T := TX8) (N := 23) hx hb hts inlX8 hown hK hP 0 rfl rfl 9 (by decide) (hts _ mw_421) (fun _ h9 => h9) rfl dX8_isWord_1 ?_
  refine lv_aload_n hx hb dX8_isWord_4 rfl (lv_at hl 0 rfl) ?_
  refine va_get (D := (dC, dI)) (ci := 8) (v := .int 0) (C := RX8) (T := TX8) (N := 23) hx hb hts inlX8 hown hK hP 0 rfl rfl 10 (by decide) (hts _ mw_440) (fun _ h9 => h9) rfl dX8_isWord_5 ?_
  refine lv_isub hx hb dX8_isWord_8 ?_
  refine my_topi (y := 0) (by decide) ?_
  refine lv_aload_n hx hb dX8_isWord_9 rfl (lv_at hl 1 rfl) ?_
  have hPc := hP.sub (ws' := []) [] rfl
  have hDc := hD.sub (ws' := []) [] (by decide) rfl
  have hFc := va_free (wc := []) hD hS hA [] rfl
  refine va_calli (va_runV (As := []) (rest := [.int 0]) ⟨hx, hb, hml, hown, hts⟩ (c_strlen_8 l dC dI cy nb  H.size) (cwV 0 hts (gV mw_452 mw_171 mw_172 mw_173 mw_174) rfl rfl rfl (by decide +kernel) ⟨Nat.le_of_ble_eq_true rfl, Nat.le_of_ble_eq_true rfl⟩) ⟨fun a U g mk q => by obtain ⟨q0, q1, qP, qK, qD, qE⟩ := q; exact ⟨q0, q1, qP, va_K.moved (u := U) (U := U.calling g mk a) (Vm.Alike.refl U.vm) qK, qD, GE.calling qE⟩, my_recvO (hE.wh 8 rfl).1 hS, fun U hU hW => ⟨rfl, by rw [hU], by rw [hU]; exact hPc, va_K.moved hW.alike hK, hDc.weaken (fun _ _ _ _ => trivial), GE.call hE hS hFc hU hW⟩⟩ rfl rfl hl.1 rfl (lv_room (Nat.le_of_ble_eq_true rfl)) dX8_isWord_10 ⟨Nat.le_of_ble_eq_true rfl, Nat.le_of_ble_eq_true rfl⟩) hS (fun q _ h => hFc q h) hFc (fun r u t H1 locs ht hvm hw1 hB hz1 hk1 hS => ?_)
  obtain ⟨hP1, hD1⟩ := hB
  rw [ht] at hP1
  obtain ⟨hP, hD⟩ := va_join (wr := [(h0, .inr (8, [v0, v1, v2, v3, v4, v5, v6, v7, v8, .int 0, .int 0, v11, v12, v13, v14, v15, v16, v17, v18, v19, v20, v21, v22]))]) (w1 := []) hP hD [] [0] rfl rfl (by decide) (by decide) hk1 hFc hP1 hD1
  generalize H1 = H at hP hS ⊢
  have hP : va_P (dC, dI) vwCl [(h0, .inr (8, [v0, v1, v2, v3, v4, v5, v6, v7, v8, .int 0, .int 0, v11, v12, v13, v14, v15, v16, v17, v18, v19, v20, v21, v22]))] H := hP
  have hD : va_D A [(h0, .inr (8, [v0, v1, v2, v3, v4, v5, v6, v7, v8, .int 0, .int 0, v11, v12, v13, v14, v15, v16, v17, v18, v19, v20, v21, v22]))] := hD
  obtain rfl := hw1
  refine W.widen (k := 0) (n := 0) (by omega) (by omega) ?_
  refine lv_icmp_ne (tgt := 20) hx hb dX8_isWord_13 (by decide) (fun _ => ?_) (fun h => absurd h (by decide))
  refine lv_iconst (v := 0) hx hb dX8_isWord_20 (by decide) ?_
  refine lv_istore_n (lv' := [(2, .int 0), (0, .ref h0), (1, .ref (nb (3 + 2 * 8)))]) hx hb dX8_isWord_21 rfl hl (by decide) rfl (fun ls hl => ?_)
  refine lv_iconst (v := 0) hx hb dX8_isWord_22 (by decide) ?_
  refine lv_istore_n (lv' := [(3, .int 0), (2, .int 0), (0, .ref h0), (1, .ref (nb (3 + 2 * 8)))]) hx hb dX8_isWord_23 rfl hl (by decide) rfl (fun ls hl => ?_)
  refine lv_iload_n hx hb dX8_isWord_24 rfl (lv_at hl 1 rfl) ?_
  refine lv_if_eq (tgt := 67) hx hb dX8_isWord_25 (by decide) (fun _ => ?_) (fun h => absurd (by decide) h)
  refine lv_iload_n hx hb dX8_isWord_67 rfl (lv_at hl 1 rfl) ?_
  have hP9 := hP.sub (ws' := [(h0, .inr (8, [v0, v1, v2, v3, v4, v5, v6, v7, v8, .int 0, .int 0, v11, v12, v13, v14, v15, v16, v17, v18, v19, v20, v21, v22]))]) [0] rfl
  have hD9 := hD.sub (ws' := [(h0, .inr (8, [v0, v1, v2, v3, v4, v5, v6, v7, v8, .int 0, .int 0, v11, v12, v13, v14, v15, v16, v17, v18, v19, v20, v21, v22]))]) [0] (by decide) rfl
  refine W.widen (k := 0) (n := 0) (by omega) (by omega) ?_
  exact W.zret (v := 0) hx hb hr (by rfl) (fun t ht hW => ⟨⟨0, (), rfl, rfl, by rw [ht]; exact hP9, hD9⟩, hS.F ht⟩) hS.2.2 dX8_isWord_68
set_option maxHeartbeats 4000000 in
set_option maxRecDepth 100000 in
/-- X8_number -/
theorem c_X8_number_1_2000 (l : Launch) (dC : Nat → ClassId) (dI : Nat → Nat → Nat) (cy : Nat → ClassId) (nb : Nat → Nat) (h0 : Nat) (v0 : Value) (v1 : Value) (v2 : Value) (v3 : Value) (v4 : Value) (v5 : Value) (v6 : Value) (v7 : Value) (v8 : Value) (v9 : Value) (v10 : Value) (v12 : Value) (v13 : Value) (v14 : Value) (v15 : Value) (v16 : Value) (v17 : Value) (v18 : Value) (v19 : Value) (v20 : Value) (v21 : Value) (v22 : Value) (sz : Nat) : Met l yX8_number (wsg yX8_number cX8_number 4 (some .int)) ({ frames := 9, cells := 0, slots := 0, locals := 400 }) (va_Pc [.ref h0, .int 1, .int 2000] (fun U => U.heap.size = sz ∧ va_P (dC, dI) vwCl [(h0, .inr (8, [v0, v1, v2, v3, v4, v5, v6, v7, v8, v9, v10, .int 1, v12, v13, v14, v15, v16, v17, v18, v19, v20, v21, v22]))] U.heap ∧ va_K (dC, dI) vwCl (tyL cy) U ∧ va_D (fun _ => True) [(h0, .inr (8, [v0, v1, v2, v3, v4, v5, v6, v7, v8, v9, v10, .int 1, v12, v13, v14, v15, v16, v17, v18, v19, v20, v21, v22]))] ∧ GE nb (va_A [(h0, .inr (8, [v0, v1, v2, v3, v4, v5, v6, v7, v8, v9, v10, .int 1, v12, v13, v14, v15, v16, v17, v18, v19, v20, v21, v22]))] sz) U)) (va_Qi (fun (r : Int32) (_ : Unit) => r = 1) (fun _ t => va_P (dC, dI) vwCl [(h0, .inr (8, [v0, v1, v2, v3, v4, v5, v6, v7, v8, v9, v10, .int 1, v12, v13, v14, v15, v16, v17, v18, v19, v20, v21, v22]))] t.heap ∧ va_D (va_A [(h0, .inr (8, [v0, v1, v2, v3, v4, v5, v6, v7, v8, v9, v10, .int 1, v12, v13, v14, v15, v16, v17, v18, v19, v20, v21, v22]))] sz) [(h0, .inr (8, [v0, v1, v2, v3, v4, v5, v6, v7, v8, v9, v10, .int 1, v12, v13, v14, v15, v16, v17, v18, v19, v20, v21, v22]))]) (va_A [(h0, .inr (8, [v0, v1, v2, v3, v4, v5, v6, v7, v8, v9, v10, .int 1, v12, v13, v14, v15, v16, v17, v18, v19, v20, v21, v22]))] sz)) 0 0 (va_A [(h0, .inr (8, [v0, v1, v2, v3, v4, v5, v6, v7, v8, v9, v10, .int 1, v12, v13, v14, v15, v16, v17, v18, v19, v20, v21, v22]))] sz) := by
  refine Met.ofW (cc := cX8_number) (maxL := 4) (ret := (some .int)) (by decide) rfl ?_
  intro p e s m args below meth c s₁ B hml hv
  obtain ⟨rfl, hsz, hP, hK, hD0, hE⟩ := hv
  have hx := B.exec
  have hb := B.bytes
  have hr := B.returns
  have hts0 := atoms_spec (ws := (wsg yX8_number cX8_number 4 (some .int))) B.pre
  have hts : ∀ w ∈ wsL_law, w.before _ s = true := fun w h => hts0 w (List.mem_cons_of_mem _ h)
  have hown : s.vm.findClass RX8 = some m.cls := findClass_of_methodNamed B.named
  have hlocks := B.notSynchronized
  subst hsz
  have hD := hD0.self (sz := s.heap.size)
  generalize hAe : va_A [(h0, .inr (8, [v0, v1, v2, v3, v4, v5, v6, v7, v8, v9, v10, .int 1, v12, v13, v14, v15, v16, v17, v18, v19, v20, v21, v22]))] s.heap.size = A at hD hE ⊢
  have hA : ∀ q : Nat, s.heap.size ≤ q → A q := fun q h => by rw [← hAe]; exact Or.inr h
  have hS : va_S A s.heap s.heap [] := va_S.rf
  have hP : va_P (dC, dI) vwCl [(h0, .inr (8, [v0, v1, v2, v3, v4, v5, v6, v7, v8, v9, v10, .int 1, v12, v13, v14, v15, v16, v17, v18, v19, v20, v21, v22]))] s.heap := hP
  have hl := lv_entry ([.ref h0, .int 1, .int 2000]) (n := 4) (Nat.le_of_ble_eq_true rfl)
  rw [lg_entry_eq]
  generalize (lg_sl ([.ref h0, .int 1, .int 2000]) ++ List.replicate (4 - (lg_sl ([.ref h0, .int 1, .int 2000])).length) Slot.unset).toArray = ls at hl ⊢
  have hl : lv_has ls 4 [(0, .ref h0), (1, .int 1), (2, .int 2000)] := hl
  generalize hHe : s.heap = H at hP hS ⊢
  have hS : va_S A s.heap H [] := by rw [hHe]; exact hS
  refine lv_aload_n hx hb dX8_number_0 rfl (lv_at hl 0 rfl) ?_
  refine va_get (D := (dC, dI)) (ci := 8) (v := .int 1) (C := RX8) (T := TX8) (N := 23) hx hb hts inlX8 hown hK hP 0 rfl rfl 11 (by decide) (hts _ mw_414) (fun _ h9 => h9) rfl dX8_number_1 ?_
  refine lv_if_eq (tgt := 9) hx hb dX8_number_4 (by decide) (fun h => absurd h (by decide)) (fun _ => ?_)
  refine lv_iload_n hx hb dX8_number_7 rfl (lv_at hl 1 rfl) ?_
  have hP9 := hP.sub (ws' := [(h0, .inr (8, [v0, v1, v2, v3, v4, v5, v6, v7, v8, v9, v10, .int 1, v12, v13, v14, v15, v16, v17, v18, v19, v20, v21, v22]))]) [0] rfl
  have hD9 := hD.sub (ws' := [(h0, .inr (8, [v0, v1, v2, v3, v4, v5, v6, v7, v8, v9, v10, .int 1, v12, v13, v14, v15, v16, v17, v18, v19, v20, v21, v22]))]) [0] (by decide) rfl
  refine W.widen (k := 0) (n := 0) (by omega) (by omega) ?_
  exact W.iret (v := 1) hx hb hr (fun t ht hW => ⟨⟨1, (), rfl, rfl, by rw [ht]; exact hP9, hD9⟩, hS.F ht⟩) hS.2.2 dX8_number_8
set_option maxHeartbeats 4000000 in
set_option maxRecDepth 100000 in
/-- X8_number -/
theorem c_X8_number_0_999 (l : Launch) (dC : Nat → ClassId) (dI : Nat → Nat → Nat) (cy : Nat → ClassId) (nb : Nat → Nat) (h0 : Nat) (v0 : Value) (v1 : Value) (v2 : Value) (v3 : Value) (v4 : Value) (v5 : Value) (v6 : Value) (v7 : Value) (v8 : Value) (v9 : Value) (v10 : Value) (v12 : Value) (v13 : Value) (v14 : Value) (v15 : Value) (v16 : Value) (v17 : Value) (v18 : Value) (v19 : Value) (v20 : Value) (v21 : Value) (v22 : Value) (sz : Nat) : Met l yX8_number (wsg yX8_number cX8_number 4 (some .int)) ({ frames := 9, cells := 0, slots := 0, locals := 400 }) (va_Pc [.ref h0, .int 0, .int 999] (fun U => U.heap.size = sz ∧ va_P (dC, dI) vwCl [(h0, .inr (8, [v0, v1, v2, v3, v4, v5, v6, v7, v8, v9, v10, .int 1, v12, v13, v14, v15, v16, v17, v18, v19, v20, v21, v22]))] U.heap ∧ va_K (dC, dI) vwCl (tyL cy) U ∧ va_D (fun _ => True) [(h0, .inr (8, [v0, v1, v2, v3, v4, v5, v6, v7, v8, v9, v10, .int 1, v12, v13, v14, v15, v16, v17, v18, v19, v20, v21, v22]))] ∧ GE nb (va_A [(h0, .inr (8, [v0, v1, v2, v3, v4, v5, v6, v7, v8, v9, v10, .int 1, v12, v13, v14, v15, v16, v17, v18, v19, v20, v21, v22]))] sz) U)) (va_Qi (fun (r : Int32) (_ : Unit) => r = 0) (fun _ t => va_P (dC, dI) vwCl [(h0, .inr (8, [v0, v1, v2, v3, v4, v5, v6, v7, v8, v9, v10, .int 1, v12, v13, v14, v15, v16, v17, v18, v19, v20, v21, v22]))] t.heap ∧ va_D (va_A [(h0, .inr (8, [v0, v1, v2, v3, v4, v5, v6, v7, v8, v9, v10, .int 1, v12, v13, v14, v15, v16, v17, v18, v19, v20, v21, v22]))] sz) [(h0, .inr (8, [v0, v1, v2, v3, v4, v5, v6, v7, v8, v9, v10, .int 1, v12, v13, v14, v15, v16, v17, v18, v19, v20, v21, v22]))]) (va_A [(h0, .inr (8, [v0, v1, v2, v3, v4, v5, v6, v7, v8, v9, v10, .int 1, v12, v13, v14, v15, v16, v17, v18, v19, v20, v21, v22]))] sz)) 0 0 (va_A [(h0, .inr (8, [v0, v1, v2, v3, v4, v5, v6, v7, v8, v9, v10, .int 1, v12, v13, v14, v15, v16, v17, v18, v19, v20, v21, v22]))] sz) := by
  refine Met.ofW (cc := cX8_number) (maxL := 4) (ret := (some .int)) (by decide) rfl ?_
  intro p e s m args below meth c s₁ B hml hv
  obtain ⟨rfl, hsz, hP, hK, hD0, hE⟩ := hv
  have hx := B.exec
  have hb := B.bytes
  have hr := B.returns
  have hts0 := atoms_spec (ws := (wsg yX8_number cX8_number 4 (some .int))) B.pre
  have hts : ∀ w ∈ wsL_law, w.before _ s = true := fun w h => hts0 w (List.mem_cons_of_mem _ h)
  have hown : s.vm.findClass RX8 = some m.cls := findClass_of_methodNamed B.named
  have hlocks := B.notSynchronized
  subst hsz
  have hD := hD0.self (sz := s.heap.size)
  generalize hAe : va_A [(h0, .inr (8, [v0, v1, v2, v3, v4, v5, v6, v7, v8, v9, v10, .int 1, v12, v13, v14, v15, v16, v17, v18, v19, v20, v21, v22]))] s.heap.size = A at hD hE ⊢
  have hA : ∀ q : Nat, s.heap.size ≤ q → A q := fun q h => by rw [← hAe]; exact Or.inr h
  have hS : va_S A s.heap s.heap [] := va_S.rf
  have hP : va_P (dC, dI) vwCl [(h0, .inr (8, [v0, v1, v2, v3, v4, v5, v6, v7, v8, v9, v10, .int 1, v12, v13, v14, v15, v16, v17, v18, v19, v20, v21, v22]))] s.heap := hP
  have hl := lv_entry ([.ref h0, .int 0, .int 999]) (n := 4) (Nat.le_of_ble_eq_true rfl)
  rw [lg_entry_eq]
  generalize (lg_sl ([.ref h0, .int 0, .int 999]) ++ List.replicate (4 - (lg_sl ([.ref h0, .int 0, .int 999])).length) Slot.unset).toArray = ls at hl ⊢
  have hl : lv_has ls 4 [(0, .ref h0), (1, .int 0), (2, .int 999)] := hl
  generalize hHe : s.heap = H at hP hS ⊢
  have hS : va_S A s.heap H [] := by rw [hHe]; exact hS
  refine lv_aload_n hx hb dX8_number_0 rfl (lv_at hl 0 rfl) ?_
  refine va_get (D := (dC, dI)) (ci := 8) (v := .int 1) (C := RX8) (T := TX8) (N := 23) hx hb hts inlX8 hown hK hP 0 rfl rfl 11 (by decide) (hts _ mw_414) (fun _ h9 => h9) rfl dX8_number_1 ?_
  refine lv_if_eq (tgt := 9) hx hb dX8_number_4 (by decide) (fun h => absurd h (by decide)) (fun _ => ?_)
  refine lv_iload_n hx hb dX8_number_7 rfl (lv_at hl 1 rfl) ?_
  have hP9 := hP.sub (ws' := [(h0, .inr (8, [v0, v1, v2, v3, v4, v5, v6, v7, v8, v9, v10, .int 1, v12, v13, v14, v15, v16, v17, v18, v19, v20, v21, v22]))]) [0] rfl
  have hD9 := hD.sub (ws' := [(h0, .inr (8, [v0, v1, v2, v3, v4, v5, v6, v7, v8, v9, v10, .int 1, v12, v13, v14, v15, v16, v17, v18, v19, v20, v21, v22]))]) [0] (by decide) rfl
  refine W.widen (k := 0) (n := 0) (by omega) (by omega) ?_
  exact W.iret (v := 0) hx hb hr (fun t ht hW => ⟨⟨0, (), rfl, rfl, by rw [ht]; exact hP9, hD9⟩, hS.F ht⟩) hS.2.2 dX8_number_8
set_option maxHeartbeats 4000000 in
set_option maxRecDepth 100000 in
/-- X8_number -/
theorem c_X8_number_1_20 (l : Launch) (dC : Nat → ClassId) (dI : Nat → Nat → Nat) (cy : Nat → ClassId) (nb : Nat → Nat) (h0 : Nat) (v0 : Value) (v1 : Value) (v2 : Value) (v3 : Value) (v4 : Value) (v5 : Value) (v6 : Value) (v7 : Value) (v8 : Value) (v9 : Value) (v10 : Value) (v12 : Value) (v13 : Value) (v14 : Value) (v15 : Value) (v16 : Value) (v17 : Value) (v18 : Value) (v19 : Value) (v20 : Value) (v21 : Value) (v22 : Value) (sz : Nat) : Met l yX8_number (wsg yX8_number cX8_number 4 (some .int)) ({ frames := 9, cells := 0, slots := 0, locals := 400 }) (va_Pc [.ref h0, .int 1, .int 20] (fun U => U.heap.size = sz ∧ va_P (dC, dI) vwCl [(h0, .inr (8, [v0, v1, v2, v3, v4, v5, v6, v7, v8, v9, v10, .int 1, v12, v13, v14, v15, v16, v17, v18, v19, v20, v21, v22]))] U.heap ∧ va_K (dC, dI) vwCl (tyL cy) U ∧ va_D (fun _ => True) [(h0, .inr (8, [v0, v1, v2, v3, v4, v5, v6, v7, v8, v9, v10, .int 1, v12, v13, v14, v15, v16, v17, v18, v19, v20, v21, v22]))] ∧ GE nb (va_A [(h0, .inr (8, [v0, v1, v2, v3, v4, v5, v6, v7, v8, v9, v10, .int 1, v12, v13, v14, v15, v16, v17, v18, v19, v20, v21, v22]))] sz) U)) (va_Qi (fun (r : Int32) (_ : Unit) => r = 1) (fun _ t => va_P (dC, dI) vwCl [(h0, .inr (8, [v0, v1, v2, v3, v4, v5, v6, v7, v8, v9, v10, .int 1, v12, v13, v14, v15, v16, v17, v18, v19, v20, v21, v22]))] t.heap ∧ va_D (va_A [(h0, .inr (8, [v0, v1, v2, v3, v4, v5, v6, v7, v8, v9, v10, .int 1, v12, v13, v14, v15, v16, v17, v18, v19, v20, v21, v22]))] sz) [(h0, .inr (8, [v0, v1, v2, v3, v4, v5, v6, v7, v8, v9, v10, .int 1, v12, v13, v14, v15, v16, v17, v18, v19, v20, v21, v22]))]) (va_A [(h0, .inr (8, [v0, v1, v2, v3, v4, v5, v6, v7, v8, v9, v10, .int 1, v12, v13, v14, v15, v16, v17, v18, v19, v20, v21, v22]))] sz)) 0 0 (va_A [(h0, .inr (8, [v0, v1, v2, v3, v4, v5, v6, v7, v8, v9, v10, .int 1, v12, v13, v14, v15, v16, v17, v18, v19, v20, v21, v22]))] sz) := by
  refine Met.ofW (cc := cX8_number) (maxL := 4) (ret := (some .int)) (by decide) rfl ?_
  intro p e s m args below meth c s₁ B hml hv
  obtain ⟨rfl, hsz, hP, hK, hD0, hE⟩ := hv
  have hx := B.exec
  have hb := B.bytes
  have hr := B.returns
  have hts0 := atoms_spec (ws := (wsg yX8_number cX8_number 4 (some .int))) B.pre
  have hts : ∀ w ∈ wsL_law, w.before _ s = true := fun w h => hts0 w (List.mem_cons_of_mem _ h)
  have hown : s.vm.findClass RX8 = some m.cls := findClass_of_methodNamed B.named
  have hlocks := B.notSynchronized
  subst hsz
  have hD := hD0.self (sz := s.heap.size)
  generalize hAe : va_A [(h0, .inr (8, [v0, v1, v2, v3, v4, v5, v6, v7, v8, v9, v10, .int 1, v12, v13, v14, v15, v16, v17, v18, v19, v20, v21, v22]))] s.heap.size = A at hD hE ⊢
  have hA : ∀ q : Nat, s.heap.size ≤ q → A q := fun q h => by rw [← hAe]; exact Or.inr h
  have hS : va_S A s.heap s.heap [] := va_S.rf
  have hP : va_P (dC, dI) vwCl [(h0, .inr (8, [v0, v1, v2, v3, v4, v5, v6, v7, v8, v9, v10, .int 1, v12, v13, v14, v15, v16, v17, v18, v19, v20, v21, v22]))] s.heap := hP
  have hl := lv_entry ([.ref h0, .int 1, .int 20]) (n := 4) (Nat.le_of_ble_eq_true rfl)
  rw [lg_entry_eq]
  generalize (lg_sl ([.ref h0, .int 1, .int 20]) ++ List.replicate (4 - (lg_sl ([.ref h0, .int 1, .int 20])).length) Slot.unset).toArray = ls at hl ⊢
  have hl : lv_has ls 4 [(0, .ref h0), (1, .int 1), (2, .int 20)] := hl
  generalize hHe : s.heap = H at hP hS ⊢
  have hS : va_S A s.heap H [] := by rw [hHe]; exact hS
  refine lv_aload_n hx hb dX8_number_0 rfl (lv_at hl 0 rfl) ?_
  refine va_get (D := (dC, dI)) (ci := 8) (v := .int 1) (C := RX8) (T := TX8) (N := 23) hx hb hts inlX8 hown hK hP 0 rfl rfl 11 (by decide) (hts _ mw_414) (fun _ h9 => h9) rfl dX8_number_1 ?_
  refine lv_if_eq (tgt := 9) hx hb dX8_number_4 (by decide) (fun h => absurd h (by decide)) (fun _ => ?_)
  refine lv_iload_n hx hb dX8_number_7 rfl (lv_at hl 1 rfl) ?_
  have hP9 := hP.sub (ws' := [(h0, .inr (8, [v0, v1, v2, v3, v4, v5, v6, v7, v8, v9, v10, .int 1, v12, v13, v14, v15, v16, v17, v18, v19, v20, v21, v22]))]) [0] rfl
  have hD9 := hD.sub (ws' := [(h0, .inr (8, [v0, v1, v2, v3, v4, v5, v6, v7, v8, v9, v10, .int 1, v12, v13, v14, v15, v16, v17, v18, v19, v20, v21, v22]))]) [0] (by decide) rfl
  refine W.widen (k := 0) (n := 0) (by omega) (by omega) ?_
  exact W.iret (v := 1) hx hb hr (fun t ht hW => ⟨⟨1, (), rfl, rfl, by rw [ht]; exact hP9, hD9⟩, hS.F ht⟩) hS.2.2 dX8_number_8
set_option maxHeartbeats 4000000 in
set_option maxRecDepth 100000 in
/-- X8_number -/
theorem c_X8_number_1_9 (l : Launch) (dC : Nat → ClassId) (dI : Nat → Nat → Nat) (cy : Nat → ClassId) (nb : Nat → Nat) (h0 : Nat) (v0 : Value) (v1 : Value) (v2 : Value) (v3 : Value) (v4 : Value) (v5 : Value) (v6 : Value) (v7 : Value) (v8 : Value) (v9 : Value) (v10 : Value) (v12 : Value) (v13 : Value) (v14 : Value) (v15 : Value) (v16 : Value) (v17 : Value) (v18 : Value) (v19 : Value) (v20 : Value) (v21 : Value) (v22 : Value) (sz : Nat) : Met l yX8_number (wsg yX8_number cX8_number 4 (some .int)) ({ frames := 9, cells := 0, slots := 0, locals := 400 }) (va_Pc [.ref h0, .int 1, .int 9] (fun U => U.heap.size = sz ∧ va_P (dC, dI) vwCl [(h0, .inr (8, [v0, v1, v2, v3, v4, v5, v6, v7, v8, v9, v10, .int 1, v12, v13, v14, v15, v16, v17, v18, v19, v20, v21, v22]))] U.heap ∧ va_K (dC, dI) vwCl (tyL cy) U ∧ va_D (fun _ => True) [(h0, .inr (8, [v0, v1, v2, v3, v4, v5, v6, v7, v8, v9, v10, .int 1, v12, v13, v14, v15, v16, v17, v18, v19, v20, v21, v22]))] ∧ GE nb (va_A [(h0, .inr (8, [v0, v1, v2, v3, v4, v5, v6, v7, v8, v9, v10, .int 1, v12, v13, v14, v15, v16, v17, v18, v19, v20, v21, v22]))] sz) U)) (va_Qi (fun (r : Int32) (_ : Unit) => r = 1) (fun _ t => va_P (dC, dI) vwCl [(h0, .inr (8, [v0, v1, v2, v3, v4, v5, v6, v7, v8, v9, v10, .int 1, v12, v13, v14, v15, v16, v17, v18, v19, v20, v21, v22]))] t.heap ∧ va_D (va_A [(h0, .inr (8, [v0, v1, v2, v3, v4, v5, v6, v7, v8, v9, v10, .int 1, v12, v13, v14, v15, v16, v17, v18, v19, v20, v21, v22]))] sz) [(h0, .inr (8, [v0, v1, v2, v3, v4, v5, v6, v7, v8, v9, v10, .int 1, v12, v13, v14, v15, v16, v17, v18, v19, v20, v21, v22]))]) (va_A [(h0, .inr (8, [v0, v1, v2, v3, v4, v5, v6, v7, v8, v9, v10, .int 1, v12, v13, v14, v15, v16, v17, v18, v19, v20, v21, v22]))] sz)) 0 0 (va_A [(h0, .inr (8, [v0, v1, v2, v3, v4, v5, v6, v7, v8, v9, v10, .int 1, v12, v13, v14, v15, v16, v17, v18, v19, v20, v21, v22]))] sz) := by
  refine Met.ofW (cc := cX8_number) (maxL := 4) (ret := (some .int)) (by decide) rfl ?_
  intro p e s m args below meth c s₁ B hml hv
  obtain ⟨rfl, hsz, hP, hK, hD0, hE⟩ := hv
  have hx := B.exec
  have hb := B.bytes
  have hr := B.returns
  have hts0 := atoms_spec (ws := (wsg yX8_number cX8_number 4 (some .int))) B.pre
  have hts : ∀ w ∈ wsL_law, w.before _ s = true := fun w h => hts0 w (List.mem_cons_of_mem _ h)
  have hown : s.vm.findClass RX8 = some m.cls := findClass_of_methodNamed B.named
  have hlocks := B.notSynchronized
  subst hsz
  have hD := hD0.self (sz := s.heap.size)
  generalize hAe : va_A [(h0, .inr (8, [v0, v1, v2, v3, v4, v5, v6, v7, v8, v9, v10, .int 1, v12, v13, v14, v15, v16, v17, v18, v19, v20, v21, v22]))] s.heap.size = A at hD hE ⊢
  have hA : ∀ q : Nat, s.heap.size ≤ q → A q := fun q h => by rw [← hAe]; exact Or.inr h
  have hS : va_S A s.heap s.heap [] := va_S.rf
  have hP : va_P (dC, dI) vwCl [(h0, .inr (8, [v0, v1, v2, v3, v4, v5, v6, v7, v8, v9, v10, .int 1, v12, v13, v14, v15, v16, v17, v18, v19, v20, v21, v22]))] s.heap := hP
  have hl := lv_entry ([.ref h0, .int 1, .int 9]) (n := 4) (Nat.le_of_ble_eq_true rfl)
  rw [lg_entry_eq]
  generalize (lg_sl ([.ref h0, .int 1, .int 9]) ++ List.replicate (4 - (lg_sl ([.ref h0, .int 1, .int 9])).length) Slot.unset).toArray = ls at hl ⊢
  have hl : lv_has ls 4 [(0, .ref h0), (1, .int 1), (2, .int 9)] := hl
  generalize hHe : s.heap = H at hP hS ⊢
  have hS : va_S A s.heap H [] := by rw [hHe]; exact hS
  refine lv_aload_n hx hb dX8_number_0 rfl (lv_at hl 0 rfl) ?_
  refine va_get (D := (dC, dI)) (ci := 8) (v := .int 1) (C := RX8) (T := TX8) (N := 23) hx hb hts inlX8 hown hK hP 0 rfl rfl 11 (by decide) (hts _ mw_414) (fun _ h9 => h9) rfl dX8_number_1 ?_
  refine lv_if_eq (tgt := 9) hx hb dX8_number_4 (by decide) (fun h => absurd h (by decide)) (fun _ => ?_)
  refine lv_iload_n hx hb dX8_number_7 rfl (lv_at hl 1 rfl) ?_
  have hP9 := hP.sub (ws' := [(h0, .inr (8, [v0, v1, v2, v3, v4, v5, v6, v7, v8, v9, v10, .int 1, v12, v13, v14, v15, v16, v17, v18, v19, v20, v21, v22]))]) [0] rfl
  have hD9 := hD.sub (ws' := [(h0, .inr (8, [v0, v1, v2, v3, v4, v5, v6, v7, v8, v9, v10, .int 1, v12, v13, v14, v15, v16, v17, v18, v19, v20, v21, v22]))]) [0] (by decide) rfl
  refine W.widen (k := 0) (n := 0) (by omega) (by omega) ?_
  exact W.iret (v := 1) hx hb hr (fun t ht hW => ⟨⟨1, (), rfl, rfl, by rw [ht]; exact hP9, hD9⟩, hS.F ht⟩) hS.2.2 dX8_number_8
set_option maxHeartbeats 4000000 in
set_option maxRecDepth 100000 in
/-- X8_starts -/
theorem c_X8_starts (l : Launch) (dC : Nat → ClassId) (dI : Nat → Nat → Nat) (cy : Nat → ClassId) (nb : Nat → Nat) (h0 : Nat) (v0 : Value) (v1 : Value) (v2 : Value) (v3 : Value) (v4 : Value) (v5 : Value) (v7 : Value) (v8 : Value) (v10 : Value) (v12 : Value) (v14 : Value) (v15 : Value) (v16 : Value) (v17 : Value) (v18 : Value) (v19 : Value) (v20 : Value) (v21 : Value) (v22 : Value) (xt : Int32) (xa : Int32) (xr : Int32) (xs : Int32) (sz : Nat) : Met l yX8_starts (wsg yX8_starts cX8_starts 1 none) ({ frames := 9, cells := 0, slots := 0, locals := 400 }) (va_Pc [.ref h0] (fun U => U.heap.size = sz ∧ va_P (dC, dI) vwCl [(h0, .inr (8, [v0, v1, v2, v3, v4, v5, .int xt, v7, v8, .int xa, v10, .int xr, v12, .int xs, v14, v15, v16, v17, v18, v19, v20, v21, v22]))] U.heap ∧ va_K (dC, dI) vwCl (tyL cy) U ∧ va_D (fun _ => True) [(h0, .inr (8, [v0, v1, v2, v3, v4, v5, .int xt, v7, v8, .int xa, v10, .int xr, v12, .int xs, v14, v15, v16, v17, v18, v19, v20, v21, v22]))] ∧ GE nb (va_A [(h0, .inr (8, [v0, v1, v2, v3, v4, v5, .int xt, v7, v8, .int xa, v10, .int xr, v12, .int xs, v14, v15, v16, v17, v18, v19, v20, v21, v22]))] sz) U)) (va_Qv (fun (_ : Unit) => True) (fun _ t => va_P (dC, dI) vwCl [(h0, .inr (8, [v0, v1, v2, v3, v4, v5, .int 0, v7, v8, .int 0, v10, .int 0, v12, .int 0, v14, v15, v16, v17, v18, v19, v20, v21, v22]))] t.heap ∧ va_D (va_A [(h0, .inr (8, [v0, v1, v2, v3, v4, v5, .int xt, v7, v8, .int xa, v10, .int xr, v12, .int xs, v14, v15, v16, v17, v18, v19, v20, v21, v22]))] sz) [(h0, .inr (8, [v0, v1, v2, v3, v4, v5, .int 0, v7, v8, .int 0, v10, .int 0, v12, .int 0, v14, v15, v16, v17, v18, v19, v20, v21, v22]))]) (va_A [(h0, .inr (8, [v0, v1, v2, v3, v4, v5, .int xt, v7, v8, .int xa, v10, .int xr, v12, .int xs, v14, v15, v16, v17, v18, v19, v20, v21, v22]))] sz)) 0 0 (va_A [(h0, .inr (8, [v0, v1, v2, v3, v4, v5, .int xt, v7, v8, .int xa, v10, .int xr, v12, .int xs, v14, v15, v16, v17, v18, v19, v20, v21, v22]))] sz) := by
  refine Met.ofW (cc := cX8_starts) (maxL := 1) (ret := none) (by decide) rfl ?_
  intro p e s m args below meth c s₁ B hml hv
  obtain ⟨rfl, hsz, hP, hK, hD0, hE⟩ := hv
  have hx := B.exec
  have hb := B.bytes
  have hr := B.returns
  have hts0 := atoms_spec (ws := (wsg yX8_starts cX8_starts 1 none)) B.pre
  have hts : ∀ w ∈ wsL_law, w.before _ s = true := fun w h => hts0 w (List.mem_cons_of_mem _ h)
  have hown : s.vm.findClass RX8 = some m.cls := findClass_of_methodNamed B.named
  have hlocks := B.notSynchronized
  subst hsz
  have hD := hD0.self (sz := s.heap.size)
  generalize hAe : va_A [(h0, .inr (8, [v0, v1, v2, v3, v4, v5, .int xt, v7, v8, .int xa, v10, .int xr, v12, .int xs, v14, v15, v16, v17, v18, v19, v20, v21, v22]))] s.heap.size = A at hD hE ⊢
  have hA : ∀ q : Nat, s.heap.size ≤ q → A q := fun q h => by rw [← hAe]; exact Or.inr h
  have hS : va_S A s.heap s.heap [] := va_S.rf
  have hP : va_P (dC, dI) vwCl [(h0, .inr (8, [v0, v1, v2, v3, v4, v5, .int xt, v7, v8, .int xa, v10, .int xr, v12, .int xs, v14, v15, v16, v17, v18, v19, v20, v21, v22]))] s.heap := hP
  have hl := lv_entry ([.ref h0]) (n := 1) (Nat.le_of_ble_eq_true rfl)
  rw [lg_entry_eq]
  generalize (lg_sl ([.ref h0]) ++ List.replicate (1 - (lg_sl ([.ref h0])).length) Slot.unset).toArray = ls at hl ⊢
  have hl : lv_has ls 1 [(0, .ref h0)] := hl
  generalize hHe : s.heap = H at hP hS ⊢
  have hS : va_S A s.heap H [] := by rw [hHe]; exact hS
  refine lv_aload_n hx hb dX8_starts_0 rfl (lv_at hl 0 rfl) ?_
  refine lv_iconst (v := 0) hx hb dX8_starts_1 (by decide) ?_
  refine va_put (D := (dC, dI)) (ci := 8) (v := .int 0) (ty := .int) (C := RX8) (T := TX8) (N := 23) hx hb hts inlX8 tyX8 tyX8_ok nmX8 hown hK hP hD hS 0 rfl rfl 6 (by decide) (hts _ mw_127) (fun _ h9 => h9) rfl (by decide +kernel) rfl rfl (Nat.le_of_ble_eq_true rfl) dX8_starts_2 (fun H locs hP hD hS => ?_)
  have hP : va_P (dC, dI) vwCl [(h0, .inr (8, [v0, v1, v2, v3, v4, v5, .int 0, v7, v8, .int xa, v10, .int xr, v12, .int xs, v14, v15, v16, v17, v18, v19, v20, v21, v22]))] H := hP
  have hD : va_D A [(h0, .inr (8, [v0, v1, v2, v3, v4, v5, .int 0, v7, v8, .int xa, v10, .int xr, v12, .int xs, v14, v15, v16, v17, v18, v19, v20, v21, v22]))] := hD
  refine lv_aload_n hx hb dX8_starts_5 rfl (lv_at hl 0 rfl) ?_
  refine lv_iconst (v := 0) hx hb dX8_starts_6 (by decide) ?_
  refine va_put (D := (dC, dI)) (ci := 8) (v := .int 0) (ty := .int) (C := RX8) (T := TX8) (N := 23) hx hb hts inlX8 tyX8 tyX8_ok nmX8 hown hK hP hD hS 0 rfl rfl 9 (by decide) (hts _ mw_421) (fun _ h9 => h9) rfl (by decide +kernel) rfl rfl (Nat.le_of_ble_eq_true rfl) dX8_starts_7 (fun H locs hP hD hS => ?_)
  have hP : va_P (dC, dI) vwCl [(h0, .inr (8, [v0, v1, v2, v3, v4, v5, .int 0, v7, v8, .int 0, v10, .int xr, v12, .int xs, v14, v15, v16, v17, v18, v19, v20, v21, v22]))] H := hP
  have hD : va_D A [(h0, .inr (8, [v0, v1, v2, v3, v4, v5, .int 0, v7, v8, .int 0, v10, .int xr, v12, .int xs, v14, v15, v16, v17, v18, v19, v20, v21, v22]))] := hD
  refine lv_aload_n hx hb dX8_starts_10 rfl (lv_at hl 0 rfl) ?_
  refine lv_iconst (v := 0) hx hb dX8_starts_11 (by decide) ?_
  refine va_put (D := (dC, dI)) (ci := 8) (v := .int 0) (ty := .int) (C := RX8) (T := TX8) (N := 23) hx hb hts inlX8 tyX8 tyX8_ok nmX8 hown hK hP hD hS 0 rfl rfl 11 (by decide) (hts _ mw_414) (fun _ h9 => h9) rfl (by decide +kernel) rfl rfl (Nat.le_of_ble_eq_true rfl) dX8_starts_12 (fun H locs hP hD hS => ?_)
  have hP : va_P (dC, dI) vwCl [(h0, .inr (8, [v0, v1, v2, v3, v4, v5, .int 0, v7, v8, .int 0, v10, .int 0, v12, .int xs, v14, v15, v16, v17, v18, v19, v20, v21, v22]))] H := hP
  have hD : va_D A [(h0, .inr (8, [v0, v1, v2, v3, v4, v5, .int 0, v7, v8, .int 0, v10, .int 0, v12, .int xs, v14, v15, v16, v17, v18, v19, v20, v21, v22]))] := hD
  refine lv_aload_n hx hb dX8_starts_15 rfl (lv_at hl 0 rfl) ?_
  refine lv_iconst (v := 0) hx hb dX8_starts_16 (by decide) ?_
  refine va_put (D := (dC, dI)) (ci := 8) (v := .int 0) (ty := .int) (C := RX8) (T := TX8) (N := 23) hx hb hts inlX8 tyX8 tyX8_ok nmX8 hown hK hP hD hS 0 rfl rfl 13 (by decide) (hts _ mw_422) (fun _ h9 => h9) rfl (by decide +kernel) rfl rfl (Nat.le_of_ble_eq_true rfl) dX8_starts_17 (fun H locs hP hD hS => ?_)
  have hP : va_P (dC, dI) vwCl [(h0, .inr (8, [v0, v1, v2, v3, v4, v5, .int 0, v7, v8, .int 0, v10, .int 0, v12, .int 0, v14, v15, v16, v17, v18, v19, v20, v21, v22]))] H := hP
  have hD : va_D A [(h0, .inr (8, [v0, v1, v2, v3, v4, v5, .int 0, v7, v8, .int 0, v10, .int 0, v12, .int 0, v14, v15, v16, v17, v18, v19, v20, v21, v22]))] := hD
  have hP9 := hP.sub (ws' := [(h0, .inr (8, [v0, v1, v2, v3, v4, v5, .int 0, v7, v8, .int 0, v10, .int 0, v12, .int 0, v14, v15, v16, v17, v18, v19, v20, v21, v22]))]) [0] rfl
  have hD9 := hD.sub (ws' := [(h0, .inr (8, [v0, v1, v2, v3, v4, v5, .int 0, v7, v8, .int 0, v10, .int 0, v12, .int 0, v14, v15, v16, v17, v18, v19, v20, v21, v22]))]) [0] (by decide) rfl
  refine W.widen (k := 0) (n := 0) (by omega) (by omega) ?_
  exact W.vret hx hb hr (fun t ht hW => ⟨⟨(), rfl, trivial, by rw [ht]; exact hP9, hD9⟩, hS.F ht⟩) hS.2.2 dX8_starts_20
set_option maxHeartbeats 4000000 in
set_option maxRecDepth 100000 in
/-- X8_isMore -/
theorem c_X8_isMore (l : Launch) (dC : Nat → ClassId) (dI : Nat → Nat → Nat) (cy : Nat → ClassId) (nb : Nat → Nat) (h0 : Nat) (v0 : Value) (v1 : Value) (v2 : Value) (v3 : Value) (v4 : Value) (v5 : Value) (v6 : Value) (v7 : Value) (v8 : Value) (v9 : Value) (v10 : Value) (v12 : Value) (v13 : Value) (v14 : Value) (v15 : Value) (v16 : Value) (v17 : Value) (v18 : Value) (v19 : Value) (v20 : Value) (v21 : Value) (v22 : Value) (sz : Nat) : Met l yX8_isMore (wsg yX8_isMore cX8_isMore 1 (some .boolean)) ({ frames := 9, cells := 0, slots := 0, locals := 400 }) (va_Pc [.ref h0] (fun U => U.heap.size = sz ∧ va_P (dC, dI) vwCl [(h0, .inr (8, [v0, v1, v2, v3, v4, v5, v6, v7, v8, v9, v10, .int 1, v12, v13, v14, v15, v16, v17, v18, v19, v20, v21, v22]))] U.heap ∧ va_K (dC, dI) vwCl (tyL cy) U ∧ va_D (fun _ => True) [(h0, .inr (8, [v0, v1, v2, v3, v4, v5, v6, v7, v8, v9, v10, .int 1, v12, v13, v14, v15, v16, v17, v18, v19, v20, v21, v22]))] ∧ GE nb (va_A [(h0, .inr (8, [v0, v1, v2, v3, v4, v5, v6, v7, v8, v9, v10, .int 1, v12, v13, v14, v15, v16, v17, v18, v19, v20, v21, v22]))] sz) U)) (va_Qi (fun (r : Int32) (_ : Unit) => r = 0) (fun _ t => va_P (dC, dI) vwCl [(h0, .inr (8, [v0, v1, v2, v3, v4, v5, v6, v7, v8, v9, v10, .int 1, v12, v13, v14, v15, v16, v17, v18, v19, v20, v21, v22]))] t.heap ∧ va_D (va_A [(h0, .inr (8, [v0, v1, v2, v3, v4, v5, v6, v7, v8, v9, v10, .int 1, v12, v13, v14, v15, v16, v17, v18, v19, v20, v21, v22]))] sz) [(h0, .inr (8, [v0, v1, v2, v3, v4, v5, v6, v7, v8, v9, v10, .int 1, v12, v13, v14, v15, v16, v17, v18, v19, v20, v21, v22]))]) (va_A [(h0, .inr (8, [v0, v1, v2, v3, v4, v5, v6, v7, v8, v9, v10, .int 1, v12, v13, v14, v15, v16, v17, v18, v19, v20, v21, v22]))] sz)) 0 0 (va_A [(h0, .inr (8, [v0, v1, v2, v3, v4, v5, v6, v7, v8, v9, v10, .int 1, v12, v13, v14, v15, v16, v17, v18, v19, v20, v21, v22]))] sz) := by
  refine Met.ofW (cc := cX8_isMore) (maxL := 1) (ret := (some .boolean)) (by decide) rfl ?_
  intro p e s m args below meth c s₁ B hml hv
  obtain ⟨rfl, hsz, hP, hK, hD0, hE⟩ := hv
  have hx := B.exec
  have hb := B.bytes
  have hr := B.returns
  have hts0 := atoms_spec (ws := (wsg yX8_isMore cX8_isMore 1 (some .boolean))) B.pre
  have hts : ∀ w ∈ wsL_law, w.before _ s = true := fun w h => hts0 w (List.mem_cons_of_mem _ h)
  have hown : s.vm.findClass RX8 = some m.cls := findClass_of_methodNamed B.named
  have hlocks := B.notSynchronized
  subst hsz
  have hD := hD0.self (sz := s.heap.size)
  generalize hAe : va_A [(h0, .inr (8, [v0, v1, v2, v3, v4, v5, v6, v7, v8, v9, v10, .int 1, v12, v13, v14, v15, v16, v17, v18, v19, v20, v21, v22]))] s.heap.size = A at hD hE ⊢
  have hA : ∀ q : Nat, s.heap.size ≤ q → A q := fun q h => by rw [← hAe]; exact Or.inr h
  have hS : va_S A s.heap s.heap [] := va_S.rf
  have hP : va_P (dC, dI) vwCl [(h0, .inr (8, [v0, v1, v2, v3, v4, v5, v6, v7, v8, v9, v10, .int 1, v12, v13, v14, v15, v16, v17, v18, v19, v20, v21, v22]))] s.heap := hP
  have hl := lv_entry ([.ref h0]) (n := 1) (Nat.le_of_ble_eq_true rfl)
  rw [lg_entry_eq]
  generalize (lg_sl ([.ref h0]) ++ List.replicate (1 - (lg_sl ([.ref h0])).length) Slot.unset).toArray = ls at hl ⊢
  have hl : lv_has ls 1 [(0, .ref h0)] := hl
  generalize hHe : s.heap = H at hP hS ⊢
  have hS : va_S A s.heap H [] := by rw [hHe]; exact hS
  refine lv_aload_n hx hb dX8_isMore_0 rfl (lv_at hl 0 rfl) ?_
  refine va_get (D := (dC, dI)) (ci := 8) (v := .int 1) (C := RX8) (T := TX8) (N := 23) hx hb hts inlX8 hown hK hP 0 rfl rfl 11 (by decide) (hts _ mw_414) (fun _ h9 => h9) rfl dX8_isMore_1 ?_
  refine lv_if_ne (tgt := 14) hx hb dX8_isMore_4 (by decide) (fun _ => ?_) (fun h => absurd h (by decide))
  refine lv_iconst (v := 0) hx hb dX8_isMore_14 (by decide) ?_
  have hP9 := hP.sub (ws' := [(h0, .inr (8, [v0, v1, v2, v3, v4, v5, v6, v7, v8, v9, v10, .int 1, v12, v13, v14, v15, v16, v17, v18, v19, v20, v21, v22]))]) [0] rfl
  have hD9 := hD.sub (ws' := [(h0, .inr (8, [v0, v1, v2, v3, v4, v5, v6, v7, v8, v9, v10, .int 1, v12, v13, v14, v15, v16, v17, v18, v19, v20, v21, v22]))]) [0] (by decide) rfl
  refine W.widen (k := 0) (n := 0) (by omega) (by omega) ?_
  exact W.zret (v := 0) hx hb hr (by rfl) (fun t ht hW => ⟨⟨0, (), rfl, rfl, by rw [ht]; exact hP9, hD9⟩, hS.F ht⟩) hS.2.2 dX8_isMore_15
set_option maxHeartbeats 4000000 in
set_option maxRecDepth 100000 in
/-- X8_settles -/
theorem c_X8_settles (l : Launch) (dC : Nat → ClassId) (dI : Nat → Nat → Nat) (cy : Nat → ClassId) (nb : Nat → Nat) (h0 : Nat) (v0 : Value) (v1 : Value) (v2 : Value) (v3 : Value) (v4 : Value) (v5 : Value) (v6 : Value) (v7 : Value) (v9 : Value) (v10 : Value) (v12 : Value) (v14 : Value) (v17 : Value) (v18 : Value) (v19 : Value) (v20 : Value) (v21 : Value) (v22 : Value) (xl : Int32) (x15 : Int32) (x16 : Int32) (sz : Nat) : Met l yX8_settles (wsg yX8_settles cX8_settles 1 none) ({ frames := 9, cells := 0, slots := 0, locals := 400 }) (va_Pc [.ref h0] (fun U => U.heap.size = sz ∧ va_P (dC, dI) vwCl [(h0, .inr (8, [v0, v1, v2, v3, v4, v5, v6, v7, .int xl, v9, v10, .int 1, v12, .int 0, v14, .int x15, .int x16, v17, v18, v19, v20, v21, v22]))] U.heap ∧ va_K (dC, dI) vwCl (tyL cy) U ∧ va_D (fun _ => True) [(h0, .inr (8, [v0, v1, v2, v3, v4, v5, v6, v7, .int xl, v9, v10, .int 1, v12, .int 0, v14, .int x15, .int x16, v17, v18, v19, v20, v21, v22]))] ∧ GE nb (va_A [(h0, .inr (8, [v0, v1, v2, v3, v4, v5, v6, v7, .int xl, v9, v10, .int 1, v12, .int 0, v14, .int x15, .int x16, v17, v18, v19, v20, v21, v22]))] sz) U)) (va_Qv (fun (_ : Unit) => True) (fun _ t => va_P (dC, dI) vwCl [(h0, .inr (8, [v0, v1, v2, v3, v4, v5, v6, v7, .int 0, v9, v10, .int 1, v12, .int 0, v14, .int 1, .int 0, v17, v18, v19, v20, v21, v22]))] t.heap ∧ va_D (va_A [(h0, .inr (8, [v0, v1, v2, v3, v4, v5, v6, v7, .int xl, v9, v10, .int 1, v12, .int 0, v14, .int x15, .int x16, v17, v18, v19, v20, v21, v22]))] sz) [(h0, .inr (8, [v0, v1, v2, v3, v4, v5, v6, v7, .int 0, v9, v10, .int 1, v12, .int 0, v14, .int 1, .int 0, v17, v18, v19, v20, v21, v22]))]) (va_A [(h0, .inr (8, [v0, v1, v2, v3, v4, v5, v6, v7, .int xl, v9, v10, .int 1, v12, .int 0, v14, .int x15, .int x16, v17, v18, v19, v20, v21, v22]))] sz)) 0 0 (va_A [(h0, .inr (8, [v0, v1, v2, v3, v4, v5, v6, v7, .int xl, v9, v10, .int 1, v12, .int 0, v14, .int x15, .int x16, v17, v18, v19, v20, v21, v22]))] sz) := by
  refine Met.ofW (cc := cX8_settles) (maxL := 1) (ret := none) (by decide) rfl ?_
  intro p e s m args below meth c s₁ B hml hv
  obtain ⟨rfl, hsz, hP, hK, hD0, hE⟩ := hv
  have hx := B.exec
  have hb := B.bytes
  have hr := B.returns
  have hts0 := atoms_spec (ws := (wsg yX8_settles cX8_settles 1 none)) B.pre
  have hts : ∀ w ∈ wsL_law, w.before _ s = true := fun w h => hts0 w (List.mem_cons_of_mem _ h)
  have hown : s.vm.findClass RX8 = some m.cls := findClass_of_methodNamed B.named
  have hlocks := B.notSynchronized
  subst hsz
  have hD := hD0.self (sz := s.heap.size)
  generalize hAe : va_A [(h0, .inr (8, [v0, v1, v2, v3, v4, v5, v6, v7, .int xl, v9, v10, .int 1, v12, .int 0, v14, .int x15, .int x16, v17, v18, v19, v20, v21, v22]))] s.heap.size = A at hD hE ⊢
  have hA : ∀ q : Nat, s.heap.size ≤ q → A q := fun q h => by rw [← hAe]; exact Or.inr h
  have hS : va_S A s.heap s.heap [] := va_S.rf
  have hP : va_P (dC, dI) vwCl [(h0, .inr (8, [v0, v1, v2, v3, v4, v5, v6, v7, .int xl, v9, v10, .int 1, v12, .int 0, v14, .int x15, .int x16, v17, v18, v19, v20, v21, v22]))] s.heap := hP
  have hl := lv_entry ([.ref h0]) (n := 1) (Nat.le_of_ble_eq_true rfl)
  rw [lg_entry_eq]
  generalize (lg_sl ([.ref h0]) ++ List.replicate (1 - (lg_sl ([.ref h0])).length) Slot.unset).toArray = ls at hl ⊢
  have hl : lv_has ls 1 [(0, .ref h0)] := hl
  generalize hHe : s.heap = H at hP hS ⊢
  have hS : va_S A s.heap H [] := by rw [hHe]; exact hS
  refine lv_aload_n hx hb dX8_settles_0 rfl (lv_at hl 0 rfl) ?_
  refine lv_iconst (v := 0) hx hb dX8_settles_1 (by decide) ?_
  refine va_put (D := (dC, dI)) (ci := 8) (v := .int 0) (ty := .int) (C := RX8) (T := TX8) (N := 23) hx hb hts inlX8 tyX8 tyX8_ok nmX8 hown hK hP hD hS 0 rfl rfl 8 (by decide) (hts _ mw_128) (fun _ h9 => h9) rfl (by decide +kernel) rfl rfl (Nat.le_of_ble_eq_true rfl) dX8_settles_2 (fun H locs hP hD hS => ?_)
  have hP : va_P (dC, dI) vwCl [(h0, .inr (8, [v0, v1, v2, v3, v4, v5, v6, v7, .int 0, v9, v10, .int 1, v12, .int 0, v14, .int x15, .int x16, v17, v18, v19, v20, v21, v22]))] H := hP
  have hD : va_D A [(h0, .inr (8, [v0, v1, v2, v3, v4, v5, v6, v7, .int 0, v9, v10, .int 1, v12, .int 0, v14, .int x15, .int x16, v17, v18, v19, v20, v21, v22]))] := hD
  refine lv_aload_n hx hb dX8_settles_5 rfl (lv_at hl 0 rfl) ?_
  refine lv_aload_n hx hb dX8_settles_6 rfl (lv_at hl 0 rfl) ?_
  refine va_get (D := (dC, dI)) (ci := 8) (v := .int 1) (C := RX8) (T := TX8) (N := 23) hx hb hts inlX8 hown hK hP 0 rfl rfl 11 (by decide) (hts _ mw_414) (fun _ h9 => h9) rfl dX8_settles_7 ?_
  refine va_put (D := (dC, dI)) (ci := 8) (v := .int 1) (ty := .int) (C := RX8) (T := TX8) (N := 23) hx hb hts inlX8 tyX8 tyX8_ok nmX8 hown hK hP hD hS 0 rfl rfl 15 (by decide) (hts _ mw_543) (fun _ h9 => h9) rfl (by decide +kernel) rfl rfl (Nat.le_of_ble_eq_true rfl) dX8_settles_10 (fun H locs hP hD hS => ?_)
  have hP : va_P (dC, dI) vwCl [(h0, .inr (8, [v0, v1, v2, v3, v4, v5, v6, v7, .int 0, v9, v10, .int 1, v12, .int 0, v14, .int 1, .int x16, v17, v18, v19, v20, v21, v22]))] H := hP
  have hD : va_D A [(h0, .inr (8, [v0, v1, v2, v3, v4, v5, v6, v7, .int 0, v9, v10, .int 1, v12, .int 0, v14, .int 1, .int x16, v17, v18, v19, v20, v21, v22]))] := hD
  refine lv_aload_n hx hb dX8_settles_13 rfl (lv_at hl 0 rfl) ?_
  refine lv_aload_n hx hb dX8_settles_14 rfl (lv_at hl 0 rfl) ?_
  refine va_get (D := (dC, dI)) (ci := 8) (v := .int 1) (C := RX8) (T := TX8) (N := 23) hx hb hts inlX8 hown hK hP 0 rfl rfl 11 (by decide) (hts _ mw_414) (fun _ h9 => h9) rfl dX8_settles_15 ?_
  refine lv_if_ne (tgt := 25) hx hb dX8_settles_18 (by decide) (fun _ => ?_) (fun h => absurd h (by decide))
  refine lv_aload_n hx hb dX8_settles_25 rfl (lv_at hl 0 rfl) ?_
  refine va_get (D := (dC, dI)) (ci := 8) (v := .int 0) (C := RX8) (T := TX8) (N := 23) hx hb hts inlX8 hown hK hP 0 rfl rfl 13 (by decide) (hts _ mw_422) (fun _ h9 => h9) rfl dX8_settles_26 ?_
  refine va_put (D := (dC, dI)) (ci := 8) (v := .int 0) (ty := .int) (C := RX8) (T := TX8) (N := 23) hx hb hts inlX8 tyX8 tyX8_ok nmX8 hown hK hP hD hS 0 rfl rfl 16 (by decide) (hts _ mw_104) (fun _ h9 => h9) rfl (by decide +kernel) rfl rfl (Nat.le_of_ble_eq_true rfl) dX8_settles_29 (fun H locs hP hD hS => ?_)
  have hP : va_P (dC, dI) vwCl [(h0, .inr (8, [v0, v1, v2, v3, v4, v5, v6, v7, .int 0, v9, v10, .int 1, v12, .int 0, v14, .int 1, .int 0, v17, v18, v19, v20, v21, v22]))] H := hP
  have hD : va_D A [(h0, .inr (8, [v0, v1, v2, v3, v4, v5, v6, v7, .int 0, v9, v10, .int 1, v12, .int 0, v14, .int 1, .int 0, v17, v18, v19, v20, v21, v22]))] := hD
  have hP9 := hP.sub (ws' := [(h0, .inr (8, [v0, v1, v2, v3, v4, v5, v6, v7, .int 0, v9, v10, .int 1, v12, .int 0, v14, .int 1, .int 0, v17, v18, v19, v20, v21, v22]))]) [0] rfl
  have hD9 := hD.sub (ws' := [(h0, .inr (8, [v0, v1, v2, v3, v4, v5, v6, v7, .int 0, v9, v10, .int 1, v12, .int 0, v14, .int 1, .int 0, v17, v18, v19, v20, v21, v22]))]) [0] (by decide) rfl
  refine W.widen (k := 0) (n := 0) (by omega) (by omega) ?_
  exact W.vret hx hb hr (fun t ht hW => ⟨⟨(), rfl, trivial, by rw [ht]; exact hP9, hD9⟩, hS.F ht⟩) hS.2.2 dX8_settles_32
set_option maxHeartbeats 4000000 in
set_option maxRecDepth 100000 in
/-- linePart(), of an empty buffer -/
theorem c_X8_linePart (l : Launch) (dC : Nat → ClassId) (dI : Nat → Nat → Nat) (cy : Nat → ClassId) (nb : Nat → Nat) (h0 : Nat) (a1 : Nat) (v1 : Value) (v2 : Value) (v3 : Value) (v4 : Value) (v5 : Value) (v6 : Value) (v7 : Value) (v13 : Value) (v14 : Value) (v15 : Value) (v16 : Value) (v17 : Value) (v18 : Value) (v19 : Value) (v20 : Value) (v21 : Value) (v22 : Value) (xb : Int32) (xe : Int32) (g : Nat → Int32) (sz : Nat) (hg : FN g) : Met l yX8_linePart (wsg yX8_linePart cX8_linePart 1 none) ({ frames := 12, cells := 0, slots := 0, locals := 700 }) (va_Pc [.ref h0] (fun U => U.heap.size = sz ∧ va_P (dC, dI) vwCl [(h0, .inr (8, [.ref a1, v1, v2, v3, v4, v5, v6, v7, .int 0, .int 0, .int xb, .int 0, .int xe, v13, v14, v15, v16, v17, v18, v19, v20, v21, v22])), (a1, .inl (cy 1, 1037, .inl g))] U.heap ∧ va_K (dC, dI) vwCl (tyL cy) U ∧ va_D (fun _ => True) [(h0, .inr (8, [.ref a1, v1, v2, v3, v4, v5, v6, v7, .int 0, .int 0, .int xb, .int 0, .int xe, v13, v14, v15, v16, v17, v18, v19, v20, v21, v22])), (a1, .inl (cy 1, 1037, .inl g))] ∧ GE nb (va_A [(h0, .inr (8, [.ref a1, v1, v2, v3, v4, v5, v6, v7, .int 0, .int 0, .int xb, .int 0, .int xe, v13, v14, v15, v16, v17, v18, v19, v20, v21, v22])), (a1, .inl (cy 1, 1037, .inl g))] sz) U)) (va_Qv (fun (_ : Unit) => True) (fun _ t => ∃ (g2 : Nat → Int32), True ∧ va_P (dC, dI) vwCl [(h0, .inr (8, [.ref a1, v1, v2, v3, v4, v5, v6, v7, .int 0, .int 0, .int 0, .int 1, .int 0, v13, v14, v15, v16, v17, v18, v19, v20, v21, v22])), (a1, .inl (cy 1, 1037, .inl g2))] t.heap ∧ va_D (va_A [(h0, .inr (8, [.ref a1, v1, v2, v3, v4, v5, v6, v7, .int 0, .int 0, .int xb, .int 0, .int xe, v13, v14, v15, v16, v17, v18, v19, v20, v21, v22])), (a1, .inl (cy 1, 1037, .inl g))] sz) [(h0, .inr (8, [.ref a1, v1, v2, v3, v4, v5, v6, v7, .int 0, .int 0, .int 0, .int 1, .int 0, v13, v14, v15, v16, v17, v18, v19, v20, v21, v22])), (a1, .inl (cy 1, 1037, .inl g2))]) (va_A [(h0, .inr (8, [.ref a1, v1, v2, v3, v4, v5, v6, v7, .int 0, .int 0, .int xb, .int 0, .int xe, v13, v14, v15, v16, v17, v18, v19, v20, v21, v22])), (a1, .inl (cy 1, 1037, .inl g))] sz)) 0 0 (va_A [(h0, .inr (8, [.ref a1, v1, v2, v3, v4, v5, v6, v7, .int 0, .int 0, .int xb, .int 0, .int xe, v13, v14, v15, v16, v17, v18, v19, v20, v21, v22])), (a1, .inl (cy 1, 1037, .inl g))] sz) := by
  refine Met.ofW (cc := cX8_linePart) (maxL := 1) (ret := none) (by decide) rfl ?_
  intro p e s m args below meth c s₁ B hml hv
  obtain ⟨rfl, hsz, hP, hK, hD0, hE⟩ := hv
  have hx := B.exec
  have hb := B.bytes
  have hr := B.returns
  have hts0 := atoms_spec (ws := (wsg yX8_linePart cX8_linePart 1 none)) B.pre
  have hts : ∀ w ∈ wsL_law, w.before _ s = true := fun w h => hts0 w (List.mem_cons_of_mem _ h)
  have hown : s.vm.findClass RX8 = some m.cls := findClass_of_methodNamed B.named
  have hlocks := B.notSynchronized
  subst hsz
  have hD := hD0.self (sz := s.heap.size)
  generalize hAe : va_A [(h0, .inr (8, [.ref a1, v1, v2, v3, v4, v5, v6, v7, .int 0, .int 0, .int xb, .int 0, .int xe, v13, v14, v15, v16, v17, v18, v19, v20, v21, v22])), (a1, .inl (cy 1, 1037, .inl g))] s.heap.size = A at hD hE ⊢
  have hA : ∀ q : Nat, s.heap.size ≤ q → A q := fun q h => by rw [← hAe]; exact Or.inr h
  have hS : va_S A s.heap s.heap [] := va_S.rf
  have hP : va_P (dC, dI) vwCl [(h0, .inr (8, [.ref a1, v1, v2, v3, v4, v5, v6, v7, .int 0, .int 0, .int xb, .int 0, .int xe, v13, v14, v15, v16, v17, v18, v19, v20, v21, v22])), (a1, .inl (cy 1, 1037, .inl g))] s.heap := hP
  have hl := lv_entry ([.ref h0]) (n := 1) (Nat.le_of_ble_eq_true rfl)
  rw [lg_entry_eq]
  generalize (lg_sl ([.ref h0]) ++ List.replicate (1 - (lg_sl ([.ref h0])).length) Slot.unset).toArray = ls at hl ⊢
  have hl : lv_has ls 1 [(0, .ref h0)] := hl
  generalize hHe : s.heap = H at hP hS ⊢
  have hS : va_S A s.heap H [] := by rw [hHe]; exact hS
  refine lv_aload_n hx hb dX8_linePart_0 rfl (lv_at hl 0 rfl) ?_
  have hPc := hP.sub (ws' := [(h0, .inr (8, [.ref a1, v1, v2, v3, v4, v5, v6, v7, .int 0, .int 0, .int xb, .int 0, .int xe, v13, v14, v15, v16, v17, v18, v19, v20, v21, v22]))]) [0] rfl
  have hDc := hD.sub (ws' := [(h0, .inr (8, [.ref a1, v1, v2, v3, v4, v5, v6, v7, .int 0, .int 0, .int xb, .int 0, .int xe, v13, v14, v15, v16, v17, v18, v19, v20, v21, v22]))]) [0] (by decide) rfl
  have hFc := va_free (wc := [(h0, .inr (8, [.ref a1, v1, v2, v3, v4, v5, v6, v7, .int 0, .int 0, .int xb, .int 0, .int xe, v13, v14, v15, v16, v17, v18, v19, v20, v21, v22]))]) hD hS hA [0] rfl
  refine va_callv (va_runV (As := []) (rest := []) ⟨hx, hb, hml, hown, hts⟩ (c_X8_reads l dC dI cy nb h0 (.ref a1) (v1) (v2) (v3) (v4) (v5) (v6) (v7) (.int 0) (.int xe) (v13) (v14) (v15) (v16) (v17) (v18) (v19) (v20) (v21) (v22) xb H.size) (cwV 0 hts (gV mw_430 mw_431 mw_432 mw_5 mw_433) rfl rfl rfl (by decide +kernel) ⟨Nat.le_of_ble_eq_true rfl, Nat.le_of_ble_eq_true rfl⟩) ⟨fun a U g mk q => by obtain ⟨q0, q1, qP, qK, qD, qE⟩ := q; exact ⟨q0, q1, qP, va_K.moved (u := U) (U := U.calling g mk a) (Vm.Alike.refl U.vm) qK, qD, GE.calling qE⟩, va_recv hK hP (ci := 8) (q0 := 0) rfl rfl, fun U hU hW => ⟨rfl, by rw [hU], by rw [hU]; exact hPc, va_K.moved hW.alike hK, hDc.weaken (fun _ _ _ _ => trivial), GE.call hE hS hFc hU hW⟩⟩ rfl rfl hl.1 rfl (lv_room (Nat.le_of_ble_eq_true rfl)) dX8_linePart_1 ⟨Nat.le_of_ble_eq_true rfl, Nat.le_of_ble_eq_true rfl⟩) hS (fun q _ h => hFc q h) hFc (fun u t H1 locs ht hvm hw1 hB hz1 hk1 hS => ?_)
  obtain ⟨hP1, hD1⟩ := hB
  rw [ht] at hP1
  obtain ⟨hP, hD⟩ := va_join (wr := [(a1, .inl (cy 1, 1037, .inl g))]) (w1 := [(h0, .inr (8, [.ref a1, v1, v2, v3, v4, v5, v6, v7, .int 0, .int 0, .int 0, .int 0, .int xe, v13, v14, v15, v16, v17, v18, v19, v20, v21, v22]))]) hP hD [0] [1] rfl rfl (by decide) (by decide) hk1 hFc hP1 hD1
  generalize H1 = H at hP hS ⊢
  have hP : va_P (dC, dI) vwCl [(a1, .inl (cy 1, 1037, .inl g)), (h0, .inr (8, [.ref a1, v1, v2, v3, v4, v5, v6, v7, .int 0, .int 0, .int 0, .int 0, .int xe, v13, v14, v15, v16, v17, v18, v19, v20, v21, v22]))] H := hP
  have hD : va_D A [(a1, .inl (cy 1, 1037, .inl g)), (h0, .inr (8, [.ref a1, v1, v2, v3, v4, v5, v6, v7, .int 0, .int 0, .int 0, .int 0, .int xe, v13, v14, v15, v16, v17, v18, v19, v20, v21, v22]))] := hD
  refine W.widen (k := 0) (n := 0) (by omega) (by omega) ?_
  refine lv_aload_n hx hb dX8_linePart_4 rfl (lv_at hl 0 rfl) ?_
  refine va_ldcS hx hb hown (hE.wr 8 rfl) dX8_linePart_5 ?_
  have hPc := hP.sub (ws' := [(h0, .inr (8, [.ref a1, v1, v2, v3, v4, v5, v6, v7, .int 0, .int 0, .int 0, .int 0, .int xe, v13, v14, v15, v16, v17, v18, v19, v20, v21, v22]))]) [1] rfl
  have hDc := hD.sub (ws' := [(h0, .inr (8, [.ref a1, v1, v2, v3, v4, v5, v6, v7, .int 0, .int 0, .int 0, .int 0, .int xe, v13, v14, v15, v16, v17, v18, v19, v20, v21, v22]))]) [1] (by decide) rfl
  have hFc := va_free (wc := [(h0, .inr (8, [.ref a1, v1, v2, v3, v4, v5, v6, v7, .int 0, .int 0, .int 0, .int 0, .int xe, v13, v14, v15, v16, v17, v18, v19, v20, v21, v22]))]) hD hS hA [1] rfl
  refine va_calli (va_runV (As := [.ref (nb (3 + 2 * 8))]) (rest := []) ⟨hx, hb, hml, hown, hts⟩ (c_X8_isWord l dC dI cy nb h0 (.ref a1) (v1) (v2) (v3) (v4) (v5) (v6) (v7) (.int 0) (.int 0) (.int xe) (v13) (v14) (v15) (v16) (v17) (v18) (v19) (v20) (v21) (v22) H.size) (cwV 1 hts (gV mw_448 mw_449 mw_450 mw_5 mw_451) rfl rfl rfl (by decide +kernel) ⟨Nat.le_of_ble_eq_true rfl, Nat.le_of_ble_eq_true rfl⟩) ⟨fun a U g mk q => by obtain ⟨q0, q1, qP, qK, qD, qE⟩ := q; exact ⟨q0, q1, qP, va_K.moved (u := U) (U := U.calling g mk a) (Vm.Alike.refl U.vm) qK, qD, GE.calling qE⟩, va_recv hK hP (ci := 8) (q0 := 1) rfl rfl, fun U hU hW => ⟨rfl, by rw [hU], by rw [hU]; exact hPc, va_K.moved hW.alike hK, hDc.weaken (fun _ _ _ _ => trivial), GE.call hE hS hFc hU hW⟩⟩ rfl rfl hl.1 rfl (lv_room (Nat.le_of_ble_eq_true rfl)) dX8_linePart_7 ⟨Nat.le_of_ble_eq_true rfl, Nat.le_of_ble_eq_true rfl⟩) hS (fun q _ h => hFc q h) hFc (fun r u t H1 locs ht hvm hw2 hB hz1 hk1 hS => ?_)
  obtain ⟨hP1, hD1⟩ := hB
  rw [ht] at hP1
  obtain ⟨hP, hD⟩ := va_join (wr := [(a1, .inl (cy 1, 1037, .inl g))]) (w1 := [(h0, .inr (8, [.ref a1, v1, v2, v3, v4, v5, v6, v7, .int 0, .int 0, .int 0, .int 0, .int xe, v13, v14, v15, v16, v17, v18, v19, v20, v21, v22]))]) hP hD [1] [0] rfl rfl (by decide) (by decide) hk1 hFc hP1 hD1
  generalize H1 = H at hP hS ⊢
  have hP : va_P (dC, dI) vwCl [(a1, .inl (cy 1, 1037, .inl g)), (h0, .inr (8, [.ref a1, v1, v2, v3, v4, v5, v6, v7, .int 0, .int 0, .int 0, .int 0, .int xe, v13, v14, v15, v16, v17, v18, v19, v20, v21, v22]))] H := hP
  have hD : va_D A [(a1, .inl (cy 1, 1037, .inl g)), (h0, .inr (8, [.ref a1, v1, v2, v3, v4, v5, v6, v7, .int 0, .int 0, .int 0, .int 0, .int xe, v13, v14, v15, v16, v17, v18, v19, v20, v21, v22]))] := hD
  obtain rfl := hw2
  refine W.widen (k := 0) (n := 0) (by omega) (by omega) ?_
  refine lv_if_ne (tgt := 18) hx hb dX8_linePart_10 (by decide) (fun h => absurd h (by decide)) (fun _ => ?_)
  refine lv_aload_n hx hb dX8_linePart_13 rfl (lv_at hl 0 rfl) ?_
  refine lv_iconst (v := 1) hx hb dX8_linePart_14 (by decide) ?_
  have hPc := hP.sub (ws' := [(h0, .inr (8, [.ref a1, v1, v2, v3, v4, v5, v6, v7, .int 0, .int 0, .int 0, .int 0, .int xe, v13, v14, v15, v16, v17, v18, v19, v20, v21, v22]))]) [1] rfl
  have hDc := hD.sub (ws' := [(h0, .inr (8, [.ref a1, v1, v2, v3, v4, v5, v6, v7, .int 0, .int 0, .int 0, .int 0, .int xe, v13, v14, v15, v16, v17, v18, v19, v20, v21, v22]))]) [1] (by decide) rfl
  have hFc := va_free (wc := [(h0, .inr (8, [.ref a1, v1, v2, v3, v4, v5, v6, v7, .int 0, .int 0, .int 0, .int 0, .int xe, v13, v14, v15, v16, v17, v18, v19, v20, v21, v22]))]) hD hS hA [1] rfl
  refine va_callv (va_runV (As := [.int 1]) (rest := []) ⟨hx, hb, hml, hown, hts⟩ (c_X8_fails l dC dI cy nb h0 (.ref a1) (v1) (v2) (v3) (v4) (v5) (v6) (v7) (.int 0) (.int 0) (v13) (v14) (v15) (v16) (v17) (v18) (v19) (v20) (v21) (v22) xe H.size) (cwV 1 hts (gV mw_454 mw_455 mw_456 mw_5 mw_457) rfl rfl rfl (by decide +kernel) ⟨Nat.le_of_ble_eq_true rfl, Nat.le_of_ble_eq_true rfl⟩) ⟨fun a U g mk q => by obtain ⟨q0, q1, qP, qK, qD, qE⟩ := q; exact ⟨q0, q1, qP, va_K.moved (u := U) (U := U.calling g mk a) (Vm.Alike.refl U.vm) qK, qD, GE.calling qE⟩, va_recv hK hP (ci := 8) (q0 := 1) rfl rfl, fun U hU hW => ⟨rfl, by rw [hU], by rw [hU]; exact hPc, va_K.moved hW.alike hK, hDc.weaken (fun _ _ _ _ => trivial), GE.call hE hS hFc hU hW⟩⟩ rfl rfl hl.1 rfl (lv_room (Nat.le_of_ble_eq_true rfl)) dX8_linePart_15 ⟨Nat.le_of_ble_eq_true rfl, Nat.le_of_ble_eq_true rfl⟩) hS (fun q _ h => hFc q h) hFc (fun u t H1 locs ht hvm hw3 hB hz1 hk1 hS => ?_)
  obtain ⟨hP1, hD1⟩ := hB
  rw [ht] at hP1
  obtain ⟨hP, hD⟩ := va_join (wr := [(a1, .inl (cy 1, 1037, .inl g))]) (w1 := [(h0, .inr (8, [.ref a1, v1, v2, v3, v4, v5, v6, v7, .int 0, .int 0, .int 0, .int 1, .int 0, v13, v14, v15, v16, v17, v18, v19, v20, v21, v22]))]) hP hD [1] [0] rfl rfl (by decide) (by decide) hk1 hFc hP1 hD1
  generalize H1 = H at hP hS ⊢
  have hP : va_P (dC, dI) vwCl [(a1, .inl (cy 1, 1037, .inl g)), (h0, .inr (8, [.ref a1, v1, v2, v3, v4, v5, v6, v7, .int 0, .int 0, .int 0, .int 1, .int 0, v13, v14, v15, v16, v17, v18, v19, v20, v21, v22]))] H := hP
  have hD : va_D A [(a1, .inl (cy 1, 1037, .inl g)), (h0, .inr (8, [.ref a1, v1, v2, v3, v4, v5, v6, v7, .int 0, .int 0, .int 0, .int 1, .int 0, v13, v14, v15, v16, v17, v18, v19, v20, v21, v22]))] := hD
  refine W.widen (k := 0) (n := 0) (by omega) (by omega) ?_
  refine lv_aload_n hx hb dX8_linePart_18 rfl (lv_at hl 0 rfl) ?_
  refine va_get (D := (dC, dI)) (ci := 8) (v := .ref a1) (C := RX8) (T := TX8) (N := 23) hx hb hts inlX8 hown hK hP 1 rfl rfl 0 (by decide) (hts _ mw_97) (fun _ h9 => h9) rfl dX8_linePart_19 ?_
  refine lv_iconst (v := 0) hx hb dX8_linePart_22 (by decide) ?_
  refine lv_aload_n hx hb dX8_linePart_23 rfl (lv_at hl 0 rfl) ?_
  refine lv_iconst (v := 1) hx hb dX8_linePart_24 (by decide) ?_
  refine lv_sipush (v := 2000) hx hb dX8_linePart_25 (by decide) ?_
  have hPc := hP.sub (ws' := [(h0, .inr (8, [.ref a1, v1, v2, v3, v4, v5, v6, v7, .int 0, .int 0, .int 0, .int 1, .int 0, v13, v14, v15, v16, v17, v18, v19, v20, v21, v22]))]) [1] rfl
  have hDc := hD.sub (ws' := [(h0, .inr (8, [.ref a1, v1, v2, v3, v4, v5, v6, v7, .int 0, .int 0, .int 0, .int 1, .int 0, v13, v14, v15, v16, v17, v18, v19, v20, v21, v22]))]) [1] (by decide) rfl
  have hFc := va_free (wc := [(h0, .inr (8, [.ref a1, v1, v2, v3, v4, v5, v6, v7, .int 0, .int 0, .int 0, .int 1, .int 0, v13, v14, v15, v16, v17, v18, v19, v20, v21, v22]))]) hD hS hA [1] rfl
  refine va_calli (va_runV (As := [.int 1, .int 2000]) (rest := [.int 0, .ref a1]) ⟨hx, hb, hml, hown, hts⟩ (c_X8_number_1_2000 l dC dI cy nb h0 (.ref a1) (v1) (v2) (v3) (v4) (v5) (v6) (v7) (.int 0) (.int 0) (.int 0) (.int 0) (v13) (v14) (v15) (v16) (v17) (v18) (v19) (v20) (v21) (v22) H.size) (cwV 2 hts (gV mw_458 mw_459 mw_460 mw_5 mw_461) rfl rfl rfl (by decide +kernel) ⟨Nat.le_of_ble_eq_true rfl, Nat.le_of_ble_eq_true rfl⟩) ⟨fun a U g mk q => by obtain ⟨q0, q1, qP, qK, qD, qE⟩ := q; exact ⟨q0, q1, qP, va_K.moved (u := U) (U := U.calling g mk a) (Vm.Alike.refl U.vm) qK, qD, GE.calling qE⟩, va_recv hK hP (ci := 8) (q0 := 1) rfl rfl, fun U hU hW => ⟨rfl, by rw [hU], by rw [hU]; exact hPc, va_K.moved hW.alike hK, hDc.weaken (fun _ _ _ _ => trivial), GE.call hE hS hFc hU hW⟩⟩ rfl rfl hl.1 rfl (lv_room (Nat.le_of_ble_eq_true rfl)) dX8_linePart_28 ⟨Nat.le_of_ble_eq_true rfl, Nat.le_of_ble_eq_true rfl⟩) hS (fun q _ h => hFc q h) hFc (fun r u t H1 locs ht hvm hw4 hB hz1 hk1 hS => ?_)
  obtain ⟨hP1, hD1⟩ := hB
  rw [ht] at hP1
  obtain ⟨hP, hD⟩ := va_join (wr := [(a1, .inl (cy 1, 1037, .inl g))]) (w1 := [(h0, .inr (8, [.ref a1, v1, v2, v3, v4, v5, v6, v7, .int 0, .int 0, .int 0, .int 1, .int 0, v13, v14, v15, v16, v17, v18, v19, v20, v21, v22]))]) hP hD [1] [0] rfl rfl (by decide) (by decide) hk1 hFc hP1 hD1
  generalize H1 = H at hP hS ⊢
  have hP : va_P (dC, dI) vwCl [(a1, .inl (cy 1, 1037, .inl g)), (h0, .inr (8, [.ref a1, v1, v2, v3, v4, v5, v6, v7, .int 0, .int 0, .int 0, .int 1, .int 0, v13, v14, v15, v16, v17, v18, v19, v20, v21, v22]))] H := hP
  have hD : va_D A [(a1, .inl (cy 1, 1037, .inl g)), (h0, .inr (8, [.ref a1, v1, v2, v3, v4, v5, v6, v7, .int 0, .int 0, .int 0, .int 1, .int 0, v13, v14, v15, v16, v17, v18, v19, v20, v21, v22]))] := hD
  obtain rfl := hw4
  refine W.widen (k := 0) (n := 0) (by omega) (by omega) ?_
  refine va_iast hx hb hK hP hD hS 0 1 rfl rfl (vp_in_nI (n := 0) (by decide) (by decide)) dX8_linePart_31 (fun H locs hP hD hS => ?_)
  have hP : va_P (dC, dI) vwCl [(a1, .inl (cy 1, 1037, .inl (upd g ((0 : Int32).toNatClampNeg) 1))), (h0, .inr (8, [.ref a1, v1, v2, v3, v4, v5, v6, v7, .int 0, .int 0, .int 0, .int 1, .int 0, v13, v14, v15, v16, v17, v18, v19, v20, v21, v22]))] H := hP
  have hD : va_D A [(a1, .inl (cy 1, 1037, .inl (upd g ((0 : Int32).toNatClampNeg) 1))), (h0, .inr (8, [.ref a1, v1, v2, v3, v4, v5, v6, v7, .int 0, .int 0, .int 0, .int 1, .int 0, v13, v14, v15, v16, v17, v18, v19, v20, v21, v22]))] := hD
  refine lv_aload_n hx hb dX8_linePart_32 rfl (lv_at hl 0 rfl) ?_
  refine va_get (D := (dC, dI)) (ci := 8) (v := .ref a1) (C := RX8) (T := TX8) (N := 23) hx hb hts inlX8 hown hK hP 1 rfl rfl 0 (by decide) (hts _ mw_97) (fun _ h9 => h9) rfl dX8_linePart_33 ?_
  refine lv_iconst (v := 3) hx hb dX8_linePart_36 (by decide) ?_
  refine lv_aload_n hx hb dX8_linePart_37 rfl (lv_at hl 0 rfl) ?_
  refine lv_iconst (v := 0) hx hb dX8_linePart_38 (by decide) ?_
  refine lv_sipush (v := 999) hx hb dX8_linePart_39 (by decide) ?_
  have hPc := hP.sub (ws' := [(h0, .inr (8, [.ref a1, v1, v2, v3, v4, v5, v6, v7, .int 0, .int 0, .int 0, .int 1, .int 0, v13, v14, v15, v16, v17, v18, v19, v20, v21, v22]))]) [1] rfl
  have hDc := hD.sub (ws' := [(h0, .inr (8, [.ref a1, v1, v2, v3, v4, v5, v6, v7, .int 0, .int 0, .int 0, .int 1, .int 0, v13, v14, v15, v16, v17, v18, v19, v20, v21, v22]))]) [1] (by decide) rfl
  have hFc := va_free (wc := [(h0, .inr (8, [.ref a1, v1, v2, v3, v4, v5, v6, v7, .int 0, .int 0, .int 0, .int 1, .int 0, v13, v14, v15, v16, v17, v18, v19, v20, v21, v22]))]) hD hS hA [1] rfl
  refine va_calli (va_runV (As := [.int 0, .int 999]) (rest := [.int 3, .ref a1]) ⟨hx, hb, hml, hown, hts⟩ (c_X8_number_0_999 l dC dI cy nb h0 (.ref a1) (v1) (v2) (v3) (v4) (v5) (v6) (v7) (.int 0) (.int 0) (.int 0) (.int 0) (v13) (v14) (v15) (v16) (v17) (v18) (v19) (v20) (v21) (v22) H.size) (cwV 2 hts (gV mw_458 mw_459 mw_460 mw_5 mw_461) rfl rfl rfl (by decide +kernel) ⟨Nat.le_of_ble_eq_true rfl, Nat.le_of_ble_eq_true rfl⟩) ⟨fun a U g mk q => by obtain ⟨q0, q1, qP, qK, qD, qE⟩ := q; exact ⟨q0, q1, qP, va_K.moved (u := U) (U := U.calling g mk a) (Vm.Alike.refl U.vm) qK, qD, GE.calling qE⟩, va_recv hK hP (ci := 8) (q0 := 1) rfl rfl, fun U hU hW => ⟨rfl, by rw [hU], by rw [hU]; exact hPc, va_K.moved hW.alike hK, hDc.weaken (fun _ _ _ _ => trivial), GE.call hE hS hFc hU hW⟩⟩ rfl rfl hl.1 rfl (lv_room (Nat.le_of_ble_eq_true rfl)) dX8_linePart_42 ⟨Nat.le_of_ble_eq_true rfl, Nat.le_of_ble_eq_true rfl⟩) hS (fun q _ h => hFc q h) hFc (fun r u t H1 locs ht hvm hw5 hB hz1 hk1 hS => ?_)
  obtain ⟨hP1, hD1⟩ := hB
  rw [ht] at hP1
  obtain ⟨hP, hD⟩ := va_join (wr := [(a1, .inl (cy 1, 1037, .inl (upd g ((0 : Int32).toNatClampNeg) 1)))]) (w1 := [(h0, .inr (8, [.ref a1, v1, v2, v3, v4, v5, v6, v7, .int 0, .int 0, .int 0, .int 1, .int 0, v13, v14, v15, v16, v17, v18, v19, v20, v21, v22]))]) hP hD [1] [0] rfl rfl (by decide) (by decide) hk1 hFc hP1 hD1
  generalize H1 = H at hP hS ⊢
  have hP : va_P (dC, dI) vwCl [(a1, .inl (cy 1, 1037, .inl (upd g ((0 : Int32).toNatClampNeg) 1))), (h0, .inr (8, [.ref a1, v1, v2, v3, v4, v5, v6, v7, .int 0, .int 0, .int 0, .int 1, .int 0, v13, v14, v15, v16, v17, v18, v19, v20, v21, v22]))] H := hP
  have hD : va_D A [(a1, .inl (cy 1, 1037, .inl (upd g ((0 : Int32).toNatClampNeg) 1))), (h0, .inr (8, [.ref a1, v1, v2, v3, v4, v5, v6, v7, .int 0, .int 0, .int 0, .int 1, .int 0, v13, v14, v15, v16, v17, v18, v19, v20, v21, v22]))] := hD
  obtain rfl := hw5
  refine W.widen (k := 0) (n := 0) (by omega) (by omega) ?_
  refine va_iast hx hb hK hP hD hS 0 1 rfl rfl (vp_in_nI (n := 3) (by decide) (by decide)) dX8_linePart_45 (fun H locs hP hD hS => ?_)
  have hP : va_P (dC, dI) vwCl [(a1, .inl (cy 1, 1037, .inl (upd (upd g ((0 : Int32).toNatClampNeg) 1) ((3 : Int32).toNatClampNeg) 0))), (h0, .inr (8, [.ref a1, v1, v2, v3, v4, v5, v6, v7, .int 0, .int 0, .int 0, .int 1, .int 0, v13, v14, v15, v16, v17, v18, v19, v20, v21, v22]))] H := hP
  have hD : va_D A [(a1, .inl (cy 1, 1037, .inl (upd (upd g ((0 : Int32).toNatClampNeg) 1) ((3 : Int32).toNatClampNeg) 0))), (h0, .inr (8, [.ref a1, v1, v2, v3, v4, v5, v6, v7, .int 0, .int 0, .int 0, .int 1, .int 0, v13, v14, v15, v16, v17, v18, v19, v20, v21, v22]))] := hD
  refine lv_aload_n hx hb dX8_linePart_46 rfl (lv_at hl 0 rfl) ?_
  refine va_get (D := (dC, dI)) (ci := 8) (v := .ref a1) (C := RX8) (T := TX8) (N := 23) hx hb hts inlX8 hown hK hP 1 rfl rfl 0 (by decide) (hts _ mw_97) (fun _ h9 => h9) rfl dX8_linePart_47 ?_
  refine lv_iconst (v := 5) hx hb dX8_linePart_50 (by decide) ?_
  refine lv_aload_n hx hb dX8_linePart_51 rfl (lv_at hl 0 rfl) ?_
  refine va_get (D := (dC, dI)) (ci := 8) (v := .ref a1) (C := RX8) (T := TX8) (N := 23) hx hb hts inlX8 hown hK hP 1 rfl rfl 0 (by decide) (hts _ mw_97) (fun _ h9 => h9) rfl dX8_linePart_52 ?_
  refine lv_iconst (v := 3) hx hb dX8_linePart_55 (by decide) ?_
  refine va_iald hx hb hK hP 0 1 rfl rfl (vp_in_nI (n := 3) (by decide) (by decide)) dX8_linePart_56 ?_
  refine my_topi (y := 0) (by rfl) ?_
  refine va_iast hx hb hK hP hD hS 0 1 rfl rfl (vp_in_nI (n := 5) (by decide) (by decide)) dX8_linePart_57 (fun H locs hP hD hS => ?_)
  have hP : va_P (dC, dI) vwCl [(a1, .inl (cy 1, 1037, .inl (upd (upd (upd g ((0 : Int32).toNatClampNeg) 1) ((3 : Int32).toNatClampNeg) 0) ((5 : Int32).toNatClampNeg) 0))), (h0, .inr (8, [.ref a1, v1, v2, v3, v4, v5, v6, v7, .int 0, .int 0, .int 0, .int 1, .int 0, v13, v14, v15, v16, v17, v18, v19, v20, v21, v22]))] H := hP
  have hD : va_D A [(a1, .inl (cy 1, 1037, .inl (upd (upd (upd g ((0 : Int32).toNatClampNeg) 1) ((3 : Int32).toNatClampNeg) 0) ((5 : Int32).toNatClampNeg) 0))), (h0, .inr (8, [.ref a1, v1, v2, v3, v4, v5, v6, v7, .int 0, .int 0, .int 0, .int 1, .int 0, v13, v14, v15, v16, v17, v18, v19, v20, v21, v22]))] := hD
  refine lv_aload_n hx hb dX8_linePart_58 rfl (lv_at hl 0 rfl) ?_
  refine va_get (D := (dC, dI)) (ci := 8) (v := .ref a1) (C := RX8) (T := TX8) (N := 23) hx hb hts inlX8 hown hK hP 1 rfl rfl 0 (by decide) (hts _ mw_97) (fun _ h9 => h9) rfl dX8_linePart_59 ?_
  refine lv_iconst (v := 1) hx hb dX8_linePart_62 (by decide) ?_
  refine lv_aload_n hx hb dX8_linePart_63 rfl (lv_at hl 0 rfl) ?_
  refine lv_iconst (v := 1) hx hb dX8_linePart_64 (by decide) ?_
  refine lv_bipush (v := 20) hx hb dX8_linePart_65 (by decide) ?_
  have hPc := hP.sub (ws' := [(h0, .inr (8, [.ref a1, v1, v2, v3, v4, v5, v6, v7, .int 0, .int 0, .int 0, .int 1, .int 0, v13, v14, v15, v16, v17, v18, v19, v20, v21, v22]))]) [1] rfl
  have hDc := hD.sub (ws' := [(h0, .inr (8, [.ref a1, v1, v2, v3, v4, v5, v6, v7, .int 0, .int 0, .int 0, .int 1, .int 0, v13, v14, v15, v16, v17, v18, v19, v20, v21, v22]))]) [1] (by decide) rfl
  have hFc := va_free (wc := [(h0, .inr (8, [.ref a1, v1, v2, v3, v4, v5, v6, v7, .int 0, .int 0, .int 0, .int 1, .int 0, v13, v14, v15, v16, v17, v18, v19, v20, v21, v22]))]) hD hS hA [1] rfl
  refine va_calli (va_runV (As := [.int 1, .int 20]) (rest := [.int 1, .ref a1]) ⟨hx, hb, hml, hown, hts⟩ (c_X8_number_1_20 l dC dI cy nb h0 (.ref a1) (v1) (v2) (v3) (v4) (v5) (v6) (v7) (.int 0) (.int 0) (.int 0) (.int 0) (v13) (v14) (v15) (v16) (v17) (v18) (v19) (v20) (v21) (v22) H.size) (cwV 2 hts (gV mw_458 mw_459 mw_460 mw_5 mw_461) rfl rfl rfl (by decide +kernel) ⟨Nat.le_of_ble_eq_true rfl, Nat.le_of_ble_eq_true rfl⟩) ⟨fun a U g mk q => by obtain ⟨q0, q1, qP, qK, qD, qE⟩ := q; exact ⟨q0, q1, qP, va_K.moved (u := U) (U := U.calling g mk a) (Vm.Alike.refl U.vm) qK, qD, GE.calling qE⟩, va_recv hK hP (ci := 8) (q0 := 1) rfl rfl, fun U hU hW => ⟨rfl, by rw [hU], by rw [hU]; exact hPc, va_K.moved hW.alike hK, hDc.weaken (fun _ _ _ _ => trivial), GE.call hE hS hFc hU hW⟩⟩ rfl rfl hl.1 rfl (lv_room (Nat.le_of_ble_eq_true rfl)) dX8_linePart_67 ⟨Nat.le_of_ble_eq_true rfl, Nat.le_of_ble_eq_true rfl⟩) hS (fun q _ h => hFc q h) hFc (fun r u t H1 locs ht hvm hw6 hB hz1 hk1 hS => ?_)
  obtain ⟨hP1, hD1⟩ := hB
  rw [ht] at hP1
  obtain ⟨hP, hD⟩ := va_join (wr := [(a1, .inl (cy 1, 1037, .inl (upd (upd (upd g ((0 : Int32).toNatClampNeg) 1) ((3 : Int32).toNatClampNeg) 0) ((5 : Int32).toNatClampNeg) 0)))]) (w1 := [(h0, .inr (8, [.ref a1, v1, v2, v3, v4, v5, v6, v7, .int 0, .int 0, .int 0, .int 1, .int 0, v13, v14, v15, v16, v17, v18, v19, v20, v21, v22]))]) hP hD [1] [0] rfl rfl (by decide) (by decide) hk1 hFc hP1 hD1
  generalize H1 = H at hP hS ⊢
  have hP : va_P (dC, dI) vwCl [(a1, .inl (cy 1, 1037, .inl (upd (upd (upd g ((0 : Int32).toNatClampNeg) 1) ((3 : Int32).toNatClampNeg) 0) ((5 : Int32).toNatClampNeg) 0))), (h0, .inr (8, [.ref a1, v1, v2, v3, v4, v5, v6, v7, .int 0, .int 0, .int 0, .int 1, .int 0, v13, v14, v15, v16, v17, v18, v19, v20, v21, v22]))] H := hP
  have hD : va_D A [(a1, .inl (cy 1, 1037, .inl (upd (upd (upd g ((0 : Int32).toNatClampNeg) 1) ((3 : Int32).toNatClampNeg) 0) ((5 : Int32).toNatClampNeg) 0))), (h0, .inr (8, [.ref a1, v1, v2, v3, v4, v5, v6, v7, .int 0, .int 0, .int 0, .int 1, .int 0, v13, v14, v15, v16, v17, v18, v19, v20, v21, v22]))] := hD
  obtain rfl := hw6
  refine W.widen (k := 0) (n := 0) (by omega) (by omega) ?_
  refine va_iast hx hb hK hP hD hS 0 1 rfl rfl (vp_in_nI (n := 1) (by decide) (by decide)) dX8_linePart_70 (fun H locs hP hD hS => ?_)
  have hP : va_P (dC, dI) vwCl [(a1, .inl (cy 1, 1037, .inl (upd (upd (upd (upd g ((0 : Int32).toNatClampNeg) 1) ((3 : Int32).toNatClampNeg) 0) ((5 : Int32).toNatClampNeg) 0) ((1 : Int32).toNatClampNeg) 1))), (h0, .inr (8, [.ref a1, v1, v2, v3, v4, v5, v6, v7, .int 0, .int 0, .int 0, .int 1, .int 0, v13, v14, v15, v16, v17, v18, v19, v20, v21, v22]))] H := hP
  have hD : va_D A [(a1, .inl (cy 1, 1037, .inl (upd (upd (upd (upd g ((0 : Int32).toNatClampNeg) 1) ((3 : Int32).toNatClampNeg) 0) ((5 : Int32).toNatClampNeg) 0) ((1 : Int32).toNatClampNeg) 1))), (h0, .inr (8, [.ref a1, v1, v2, v3, v4, v5, v6, v7, .int 0, .int 0, .int 0, .int 1, .int 0, v13, v14, v15, v16, v17, v18, v19, v20, v21, v22]))] := hD
  refine lv_aload_n hx hb dX8_linePart_71 rfl (lv_at hl 0 rfl) ?_
  refine va_get (D := (dC, dI)) (ci := 8) (v := .ref a1) (C := RX8) (T := TX8) (N := 23) hx hb hts inlX8 hown hK hP 1 rfl rfl 0 (by decide) (hts _ mw_97) (fun _ h9 => h9) rfl dX8_linePart_72 ?_
  refine lv_iconst (v := 2) hx hb dX8_linePart_75 (by decide) ?_
  refine lv_aload_n hx hb dX8_linePart_76 rfl (lv_at hl 0 rfl) ?_
  refine lv_iconst (v := 1) hx hb dX8_linePart_77 (by decide) ?_
  refine lv_bipush (v := 9) hx hb dX8_linePart_78 (by decide) ?_
  have hPc := hP.sub (ws' := [(h0, .inr (8, [.ref a1, v1, v2, v3, v4, v5, v6, v7, .int 0, .int 0, .int 0, .int 1, .int 0, v13, v14, v15, v16, v17, v18, v19, v20, v21, v22]))]) [1] rfl
  have hDc := hD.sub (ws' := [(h0, .inr (8, [.ref a1, v1, v2, v3, v4, v5, v6, v7, .int 0, .int 0, .int 0, .int 1, .int 0, v13, v14, v15, v16, v17, v18, v19, v20, v21, v22]))]) [1] (by decide) rfl
  have hFc := va_free (wc := [(h0, .inr (8, [.ref a1, v1, v2, v3, v4, v5, v6, v7, .int 0, .int 0, .int 0, .int 1, .int 0, v13, v14, v15, v16, v17, v18, v19, v20, v21, v22]))]) hD hS hA [1] rfl
  refine va_calli (va_runV (As := [.int 1, .int 9]) (rest := [.int 2, .ref a1]) ⟨hx, hb, hml, hown, hts⟩ (c_X8_number_1_9 l dC dI cy nb h0 (.ref a1) (v1) (v2) (v3) (v4) (v5) (v6) (v7) (.int 0) (.int 0) (.int 0) (.int 0) (v13) (v14) (v15) (v16) (v17) (v18) (v19) (v20) (v21) (v22) H.size) (cwV 2 hts (gV mw_458 mw_459 mw_460 mw_5 mw_461) rfl rfl rfl (by decide +kernel) ⟨Nat.le_of_ble_eq_true rfl, Nat.le_of_ble_eq_true rfl⟩) ⟨fun a U g mk q => by obtain ⟨q0, q1, qP, qK, qD, qE⟩ := q; exact ⟨q0, q1, qP, va_K.moved (u := U) (U := U.calling g mk a) (Vm.Alike.refl U.vm) qK, qD, GE.calling qE⟩, va_recv hK hP (ci := 8) (q0 := 1) rfl rfl, fun U hU hW => ⟨rfl, by rw [hU], by rw [hU]; exact hPc, va_K.moved hW.alike hK, hDc.weaken (fun _ _ _ _ => trivial), GE.call hE hS hFc hU hW⟩⟩ rfl rfl hl.1 rfl (lv_room (Nat.le_of_ble_eq_true rfl)) dX8_linePart_80 ⟨Nat.le_of_ble_eq_true rfl, Nat.le_of_ble_eq_true rfl⟩) hS (fun q _ h => hFc q h) hFc (fun r u t H1 locs ht hvm hw7 hB hz1 hk1 hS => ?_)
  obtain ⟨hP1, hD1⟩ := hB
  rw [ht] at hP1
  obtain ⟨hP, hD⟩ := va_join (wr := [(a1, .inl (cy 1, 1037, .inl (upd (upd (upd (upd g ((0 : Int32).toNatClampNeg) 1) ((3 : Int32).toNatClampNeg) 0) ((5 : Int32).toNatClampNeg) 0) ((1 : Int32).toNatClampNeg) 1)))]) (w1 := [(h0, .inr (8, [.ref a1, v1, v2, v3, v4, v5, v6, v7, .int 0, .int 0, .int 0, .int 1, .int 0, v13, v14, v15, v16, v17, v18, v19, v20, v21, v22]))]) hP hD [1] [0] rfl rfl (by decide) (by decide) hk1 hFc hP1 hD1
  generalize H1 = H at hP hS ⊢
  have hP : va_P (dC, dI) vwCl [(a1, .inl (cy 1, 1037, .inl (upd (upd (upd (upd g ((0 : Int32).toNatClampNeg) 1) ((3 : Int32).toNatClampNeg) 0) ((5 : Int32).toNatClampNeg) 0) ((1 : Int32).toNatClampNeg) 1))), (h0, .inr (8, [.ref a1, v1, v2, v3, v4, v5, v6, v7, .int 0, .int 0, .int 0, .int 1, .int 0, v13, v14, v15, v16, v17, v18, v19, v20, v21, v22]))] H := hP
  have hD : va_D A [(a1, .inl (cy 1, 1037, .inl (upd (upd (upd (upd g ((0 : Int32).toNatClampNeg) 1) ((3 : Int32).toNatClampNeg) 0) ((5 : Int32).toNatClampNeg) 0) ((1 : Int32).toNatClampNeg) 1))), (h0, .inr (8, [.ref a1, v1, v2, v3, v4, v5, v6, v7, .int 0, .int 0, .int 0, .int 1, .int 0, v13, v14, v15, v16, v17, v18, v19, v20, v21, v22]))] := hD
  obtain rfl := hw7
  refine W.widen (k := 0) (n := 0) (by omega) (by omega) ?_
  refine va_iast hx hb hK hP hD hS 0 1 rfl rfl (vp_in_nI (n := 2) (by decide) (by decide)) dX8_linePart_83 (fun H locs hP hD hS => ?_)
  have hP : va_P (dC, dI) vwCl [(a1, .inl (cy 1, 1037, .inl (upd (upd (upd (upd (upd g ((0 : Int32).toNatClampNeg) 1) ((3 : Int32).toNatClampNeg) 0) ((5 : Int32).toNatClampNeg) 0) ((1 : Int32).toNatClampNeg) 1) ((2 : Int32).toNatClampNeg) 1))), (h0, .inr (8, [.ref a1, v1, v2, v3, v4, v5, v6, v7, .int 0, .int 0, .int 0, .int 1, .int 0, v13, v14, v15, v16, v17, v18, v19, v20, v21, v22]))] H := hP
  have hD : va_D A [(a1, .inl (cy 1, 1037, .inl (upd (upd (upd (upd (upd g ((0 : Int32).toNatClampNeg) 1) ((3 : Int32).toNatClampNeg) 0) ((5 : Int32).toNatClampNeg) 0) ((1 : Int32).toNatClampNeg) 1) ((2 : Int32).toNatClampNeg) 1))), (h0, .inr (8, [.ref a1, v1, v2, v3, v4, v5, v6, v7, .int 0, .int 0, .int 0, .int 1, .int 0, v13, v14, v15, v16, v17, v18, v19, v20, v21, v22]))] := hD
  have hP9 := hP.sub (ws' := [(h0, .inr (8, [.ref a1, v1, v2, v3, v4, v5, v6, v7, .int 0, .int 0, .int 0, .int 1, .int 0, v13, v14, v15, v16, v17, v18, v19, v20, v21, v22])), (a1, .inl (cy 1, 1037, .inl (upd (upd (upd (upd (upd g ((0 : Int32).toNatClampNeg) 1) ((3 : Int32).toNatClampNeg) 0) ((5 : Int32).toNatClampNeg) 0) ((1 : Int32).toNatClampNeg) 1) ((2 : Int32).toNatClampNeg) 1)))]) [1, 0] rfl
  have hD9 := hD.sub (ws' := [(h0, .inr (8, [.ref a1, v1, v2, v3, v4, v5, v6, v7, .int 0, .int 0, .int 0, .int 1, .int 0, v13, v14, v15, v16, v17, v18, v19, v20, v21, v22])), (a1, .inl (cy 1, 1037, .inl (upd (upd (upd (upd (upd g ((0 : Int32).toNatClampNeg) 1) ((3 : Int32).toNatClampNeg) 0) ((5 : Int32).toNatClampNeg) 0) ((1 : Int32).toNatClampNeg) 1) ((2 : Int32).toNatClampNeg) 1)))]) [1, 0] (by decide) rfl
  refine W.widen (k := 0) (n := 0) (by omega) (by omega) ?_
  exact W.vret hx hb hr (fun t ht hW => ⟨⟨(), rfl, trivial, _, trivial, by rw [ht]; exact hP9, hD9⟩, hS.F ht⟩) hS.2.2 dX8_linePart_84
set_option maxHeartbeats 4000000 in
set_option maxRecDepth 100000 in
/-- X8_load -/
theorem c_X8_load (l : Launch) (dC : Nat → ClassId) (dI : Nat → Nat → Nat) (cy : Nat → ClassId) (nb : Nat → Nat) (h0 : Nat) (a1 : Nat) (a2 : Nat) (a3 : Nat) (a4 : Nat) (a5 : Nat) (a6 : Nat) (a7 : Nat) (a8 : Nat) (a9 : Nat) (b0 : Nat) (x6 : Int32) (g : Nat → Int32) (ga : Nat → Int32) (sz : Nat) (hg : FN g) : Met l yX8_load (wsg yX8_load cX8_load 1 (some .int)) ({ frames := 14, cells := 0, slots := 0, locals := 900 }) (va_Pc [.ref h0] (fun U => U.heap.size = sz ∧ va_P (dC, dI) vwCl [(h0, .inr (8, [.ref a1, .ref a2, .ref a3, .ref a4, .ref a5, .int 0, .int x6, .ref a6, .int 0, .int 0, .int 0, .int 0, .int 0, .int 0, .int 0, .int 0, .int (-1), .ref a7, .ref a8, .int 0, .ref a9, .ref b0, .int 0])), (a1, .inl (cy 1, 1037, .inl g)), (a2, .inl (cy 1, 1037, .inl ga))] U.heap ∧ va_K (dC, dI) vwCl (tyL cy) U ∧ va_D (fun _ => True) [(h0, .inr (8, [.ref a1, .ref a2, .ref a3, .ref a4, .ref a5, .int 0, .int x6, .ref a6, .int 0, .int 0, .int 0, .int 0, .int 0, .int 0, .int 0, .int 0, .int (-1), .ref a7, .ref a8, .int 0, .ref a9, .ref b0, .int 0])), (a1, .inl (cy 1, 1037, .inl g)), (a2, .inl (cy 1, 1037, .inl ga))] ∧ GE nb (va_A [(h0, .inr (8, [.ref a1, .ref a2, .ref a3, .ref a4, .ref a5, .int 0, .int x6, .ref a6, .int 0, .int 0, .int 0, .int 0, .int 0, .int 0, .int 0, .int 0, .int (-1), .ref a7, .ref a8, .int 0, .ref a9, .ref b0, .int 0])), (a1, .inl (cy 1, 1037, .inl g)), (a2, .inl (cy 1, 1037, .inl ga))] sz) U)) (va_Qi (fun (r : Int32) (_ : Unit) => r = (-100)) (fun _ t => va_P (dC, dI) vwCl [(h0, .inr (8, [.ref a1, .ref a2, .ref a3, .ref a4, .ref a5, .int 0, .int 0, .ref a6, .int 0, .int 0, .int 0, .int 1, .int 0, .int 0, .int 0, .int 1, .int 0, .ref a7, .ref a8, .int 0, .ref a9, .ref b0, .int 0]))] t.heap ∧ va_D (va_A [(h0, .inr (8, [.ref a1, .ref a2, .ref a3, .ref a4, .ref a5, .int 0, .int x6, .ref a6, .int 0, .int 0, .int 0, .int 0, .int 0, .int 0, .int 0, .int 0, .int (-1), .ref a7, .ref a8, .int 0, .ref a9, .ref b0, .int 0])), (a1, .inl (cy 1, 1037, .inl g)), (a2, .inl (cy 1, 1037, .inl ga))] sz) [(h0, .inr (8, [.ref a1, .ref a2, .ref a3, .ref a4, .ref a5, .int 0, .int 0, .ref a6, .int 0, .int 0, .int 0, .int 1, .int 0, .int 0, .int 0, .int 1, .int 0, .ref a7, .ref a8, .int 0, .ref a9, .ref b0, .int 0]))]) (va_A [(h0, .inr (8, [.ref a1, .ref a2, .ref a3, .ref a4, .ref a5, .int 0, .int x6, .ref a6, .int 0, .int 0, .int 0, .int 0, .int 0, .int 0, .int 0, .int 0, .int (-1), .ref a7, .ref a8, .int 0, .ref a9, .ref b0, .int 0])), (a1, .inl (cy 1, 1037, .inl g)), (a2, .inl (cy 1, 1037, .inl ga))] sz)) 0 0 (va_A [(h0, .inr (8, [.ref a1, .ref a2, .ref a3, .ref a4, .ref a5, .int 0, .int x6, .ref a6, .int 0, .int 0, .int 0, .int 0, .int 0, .int 0, .int 0, .int 0, .int (-1), .ref a7, .ref a8, .int 0, .ref a9, .ref b0, .int 0])), (a1, .inl (cy 1, 1037, .inl g)), (a2, .inl (cy 1, 1037, .inl ga))] sz) := by
  refine Met.ofW (cc := cX8_load) (maxL := 1) (ret := (some .int)) (by decide) rfl ?_
  intro p e s m args below meth c s₁ B hml hv
  obtain ⟨rfl, hsz, hP, hK, hD0, hE⟩ := hv
  have hx := B.exec
  have hb := B.bytes
  have hr := B.returns
  have hts0 := atoms_spec (ws := (wsg yX8_load cX8_load 1 (some .int))) B.pre
  have hts : ∀ w ∈ wsL_law, w.before _ s = true := fun w h => hts0 w (List.mem_cons_of_mem _ h)
  have hown : s.vm.findClass RX8 = some m.cls := findClass_of_methodNamed B.named
  have hlocks := B.notSynchronized
  subst hsz
  have hD := hD0.self (sz := s.heap.size)
  generalize hAe : va_A [(h0, .inr (8, [.ref a1, .ref a2, .ref a3, .ref a4, .ref a5, .int 0, .int x6, .ref a6, .int 0, .int 0, .int 0, .int 0, .int 0, .int 0, .int 0, .int 0, .int (-1), .ref a7, .ref a8, .int 0, .ref a9, .ref b0, .int 0])), (a1, .inl (cy 1, 1037, .inl g)), (a2, .inl (cy 1, 1037, .inl ga))] s.heap.size = A at hD hE ⊢
  have hA : ∀ q : Nat, s.heap.size ≤ q → A q := fun q h => by rw [← hAe]; exact Or.inr h
  have hS : va_S A s.heap s.heap [] := va_S.rf
  have hP : va_P (dC, dI) vwCl [(h0, .inr (8, [.ref a1, .ref a2, .ref a3, .ref a4, .ref a5, .int 0, .int x6, .ref a6, .int 0, .int 0, .int 0, .int 0, .int 0, .int 0, .int 0, .int 0, .int (-1), .ref a7, .ref a8, .int 0, .ref a9, .ref b0, .int 0])), (a1, .inl (cy 1, 1037, .inl g)), (a2, .inl (cy 1, 1037, .inl ga))] s.heap := hP
  have hl := lv_entry ([.ref h0]) (n := 1) (Nat.le_of_ble_eq_true rfl)
  rw [lg_entry_eq]
  generalize (lg_sl ([.ref h0]) ++ List.replicate (1 - (lg_sl ([.ref h0])).length) Slot.unset).toArray = ls at hl ⊢
  have hl : lv_has ls 1 [(0, .ref h0)] := hl
  generalize hHe : s.heap = H at hP hS ⊢
  have hS : va_S A s.heap H [] := by rw [hHe]; exact hS
  refine lv_aload_n hx hb dX8_load_0 rfl (lv_at hl 0 rfl) ?_
  have hPc := hP.sub (ws' := [(h0, .inr (8, [.ref a1, .ref a2, .ref a3, .ref a4, .ref a5, .int 0, .int x6, .ref a6, .int 0, .int 0, .int 0, .int 0, .int 0, .int 0, .int 0, .int 0, .int (-1), .ref a7, .ref a8, .int 0, .ref a9, .ref b0, .int 0]))]) [0] rfl
  have hDc := hD.sub (ws' := [(h0, .inr (8, [.ref a1, .ref a2, .ref a3, .ref a4, .ref a5, .int 0, .int x6, .ref a6, .int 0, .int 0, .int 0, .int 0, .int 0, .int 0, .int 0, .int 0, .int (-1), .ref a7, .ref a8, .int 0, .ref a9, .ref b0, .int 0]))]) [0] (by decide) rfl
  have hFc := va_free (wc := [(h0, .inr (8, [.ref a1, .ref a2, .ref a3, .ref a4, .ref a5, .int 0, .int x6, .ref a6, .int 0, .int 0, .int 0, .int 0, .int 0, .int 0, .int 0, .int 0, .int (-1), .ref a7, .ref a8, .int 0, .ref a9, .ref b0, .int 0]))]) hD hS hA [0] rfl
  refine va_callv (va_runV (As := []) (rest := []) ⟨hx, hb, hml, hown, hts⟩ (c_X8_starts l dC dI cy nb h0 (.ref a1) (.ref a2) (.ref a3) (.ref a4) (.ref a5) (.int 0) (.ref a6) (.int 0) (.int 0) (.int 0) (.int 0) (.int 0) (.int (-1)) (.ref a7) (.ref a8) (.int 0) (.ref a9) (.ref b0) (.int 0) x6 0 0 0 H.size) (cwV 0 hts (gV mw_417 mw_418 mw_419 mw_5 mw_420) rfl rfl rfl (by decide +kernel) ⟨Nat.le_of_ble_eq_true rfl, Nat.le_of_ble_eq_true rfl⟩) ⟨fun a U g mk q => by obtain ⟨q0, q1, qP, qK, qD, qE⟩ := q; exact ⟨q0, q1, qP, va_K.moved (u := U) (U := U.calling g mk a) (Vm.Alike.refl U.vm) qK, qD, GE.calling qE⟩, va_recv hK hP (ci := 8) (q0 := 0) rfl rfl, fun U hU hW => ⟨rfl, by rw [hU], by rw [hU]; exact hPc, va_K.moved hW.alike hK, hDc.weaken (fun _ _ _ _ => trivial), GE.call hE hS hFc hU hW⟩⟩ rfl rfl hl.1 rfl (lv_room (Nat.le_of_ble_eq_true rfl)) dX8_load_1 ⟨Nat.le_of_ble_eq_true rfl, Nat.le_of_ble_eq_true rfl⟩) hS (fun q _ h => hFc q h) hFc (fun u t H1 locs ht hvm hw1 hB hz1 hk1 hS => ?_)
  obtain ⟨hP1, hD1⟩ := hB
  rw [ht] at hP1
  obtain ⟨hP, hD⟩ := va_join (wr := [(a1, .inl (cy 1, 1037, .inl g)), (a2, .inl (cy 1, 1037, .inl ga))]) (w1 := [(h0, .inr (8, [.ref a1, .ref a2, .ref a3, .ref a4, .ref a5, .int 0, .int 0, .ref a6, .int 0, .int 0, .int 0, .int 0, .int 0, .int 0, .int 0, .int 0, .int (-1), .ref a7, .ref a8, .int 0, .ref a9, .ref b0, .int 0]))]) hP hD [0] [1, 2] rfl rfl (by decide) (by decide) hk1 hFc hP1 hD1
  generalize H1 = H at hP hS ⊢
  have hP : va_P (dC, dI) vwCl [(a1, .inl (cy 1, 1037, .inl g)), (a2, .inl (cy 1, 1037, .inl ga)), (h0, .inr (8, [.ref a1, .ref a2, .ref a3, .ref a4, .ref a5, .int 0, .int 0, .ref a6, .int 0, .int 0, .int 0, .int 0, .int 0, .int 0, .int 0, .int 0, .int (-1), .ref a7, .ref a8, .int 0, .ref a9, .ref b0, .int 0]))] H := hP
  have hD : va_D A [(a1, .inl (cy 1, 1037, .inl g)), (a2, .inl (cy 1, 1037, .inl ga)), (h0, .inr (8, [.ref a1, .ref a2, .ref a3, .ref a4, .ref a5, .int 0, .int 0, .ref a6, .int 0, .int 0, .int 0, .int 0, .int 0, .int 0, .int 0, .int 0, .int (-1), .ref a7, .ref a8, .int 0, .ref a9, .ref b0, .int 0]))] := hD
  refine W.widen (k := 0) (n := 0) (by omega) (by omega) ?_
  refine lv_aload_n hx hb dX8_load_4 rfl (lv_at hl 0 rfl) ?_
  refine va_get (D := (dC, dI)) (ci := 8) (v := .ref a1) (C := RX8) (T := TX8) (N := 23) hx hb hts inlX8 hown hK hP 2 rfl rfl 0 (by decide) (hts _ mw_97) (fun _ h9 => h9) rfl dX8_load_5 ?_
  refine lv_iconst (v := 0) hx hb dX8_load_8 (by decide) ?_
  refine lv_aload_n hx hb dX8_load_9 rfl (lv_at hl 0 rfl) ?_
  refine va_get (D := (dC, dI)) (ci := 8) (v := .ref a2) (C := RX8) (T := TX8) (N := 23) hx hb hts inlX8 hown hK hP 2 rfl rfl 1 (by decide) (hts _ mw_98) (fun _ h9 => h9) rfl dX8_load_10 ?_
  refine lv_iconst (v := 0) hx hb dX8_load_13 (by decide) ?_
  have hPc := hP.sub (ws' := [(a1, .inl (cy 1, 1037, .inl g)), (a2, .inl (cy 1, 1037, .inl ga))]) [0, 1] rfl
  have hDc := hD.sub (ws' := [(a1, .inl (cy 1, 1037, .inl g)), (a2, .inl (cy 1, 1037, .inl ga))]) [0, 1] (by decide) rfl
  have hFc := va_free (wc := [(a1, .inl (cy 1, 1037, .inl g)), (a2, .inl (cy 1, 1037, .inl ga))]) hD hS hA [0, 1] rfl
  refine va_callv (va_runS (As := [.ref a1, .int 0, .ref a2, .int 0]) (rest := []) ⟨hx, hb, hml, hown, hts⟩ (c_X8_copies l dC dI cy nb a1 a2 0 0 1037 1037 g ga H.size (by decide) (by decide) (by decide)) (va_cwS 4 hts (gS mw_423 mw_424 mw_5 mw_425) rfl rfl rfl (by decide +kernel) ⟨Nat.le_of_ble_eq_true rfl, Nat.le_of_ble_eq_true rfl⟩) ⟨fun a U g mk q => by obtain ⟨q0, q1, qP, qK, qD, qE⟩ := q; exact ⟨q0, q1, qP, va_K.moved (u := U) (U := U.calling g mk a) (Vm.Alike.refl U.vm) qK, qD, GE.calling qE⟩, fun U hU hW => ⟨rfl, by rw [hU], by rw [hU]; exact hPc, va_K.moved hW.alike hK, hDc.weaken (fun _ _ _ _ => trivial), GE.call hE hS hFc hU hW⟩⟩ rfl rfl hl.1 rfl (lv_room (Nat.le_of_ble_eq_true rfl)) dX8_load_14 ⟨Nat.le_of_ble_eq_true rfl, Nat.le_of_ble_eq_true rfl⟩) hS (fun q _ h => hFc q h) hFc (fun u t H1 locs ht hvm hw4 hB hz1 hk1 hS => ?_)
  obtain ⟨g2, hg3, hP1, hD1⟩ := hB
  rw [ht] at hP1
  obtain ⟨hP, hD⟩ := va_join (wr := [(h0, .inr (8, [.ref a1, .ref a2, .ref a3, .ref a4, .ref a5, .int 0, .int 0, .ref a6, .int 0, .int 0, .int 0, .int 0, .int 0, .int 0, .int 0, .int 0, .int (-1), .ref a7, .ref a8, .int 0, .ref a9, .ref b0, .int 0]))]) (w1 := [(a1, .inl (cy 1, 1037, .inl g)), (a2, .inl (cy 1, 1037, .inl g2))]) hP hD [0, 1] [2] rfl rfl (by decide) (by decide) hk1 hFc hP1 hD1
  generalize H1 = H at hP hS ⊢
  have hP : va_P (dC, dI) vwCl [(h0, .inr (8, [.ref a1, .ref a2, .ref a3, .ref a4, .ref a5, .int 0, .int 0, .ref a6, .int 0, .int 0, .int 0, .int 0, .int 0, .int 0, .int 0, .int 0, .int (-1), .ref a7, .ref a8, .int 0, .ref a9, .ref b0, .int 0])), (a1, .inl (cy 1, 1037, .inl g)), (a2, .inl (cy 1, 1037, .inl g2))] H := hP
  have hD : va_D A [(h0, .inr (8, [.ref a1, .ref a2, .ref a3, .ref a4, .ref a5, .int 0, .int 0, .ref a6, .int 0, .int 0, .int 0, .int 0, .int 0, .int 0, .int 0, .int 0, .int (-1), .ref a7, .ref a8, .int 0, .ref a9, .ref b0, .int 0])), (a1, .inl (cy 1, 1037, .inl g)), (a2, .inl (cy 1, 1037, .inl g2))] := hD
  refine W.widen (k := 0) (n := 0) (by omega) (by omega) ?_
  refine lv_aload_n hx hb dX8_load_17 rfl (lv_at hl 0 rfl) ?_
  have hPc := hP.sub (ws' := [(h0, .inr (8, [.ref a1, .ref a2, .ref a3, .ref a4, .ref a5, .int 0, .int 0, .ref a6, .int 0, .int 0, .int 0, .int 0, .int 0, .int 0, .int 0, .int 0, .int (-1), .ref a7, .ref a8, .int 0, .ref a9, .ref b0, .int 0])), (a1, .inl (cy 1, 1037, .inl g))]) [0, 1] rfl
  have hDc := hD.sub (ws' := [(h0, .inr (8, [.ref a1, .ref a2, .ref a3, .ref a4, .ref a5, .int 0, .int 0, .ref a6, .int 0, .int 0, .int 0, .int 0, .int 0, .int 0, .int 0, .int 0, .int (-1), .ref a7, .ref a8, .int 0, .ref a9, .ref b0, .int 0])), (a1, .inl (cy 1, 1037, .inl g))]) [0, 1] (by decide) rfl
  have hFc := va_free (wc := [(h0, .inr (8, [.ref a1, .ref a2, .ref a3, .ref a4, .ref a5, .int 0, .int 0, .ref a6, .int 0, .int 0, .int 0, .int 0, .int 0, .int 0, .int 0, .int 0, .int (-1), .ref a7, .ref a8, .int 0, .ref a9, .ref b0, .int 0])), (a1, .inl (cy 1, 1037, .inl g))]) hD hS hA [0, 1] rfl
  refine va_callv (va_runV (As := []) (rest := []) ⟨hx, hb, hml, hown, hts⟩ (c_X8_begins l dC dI cy nb h0 a1 (.ref a2) (.ref a3) (.ref a4) (.ref a5) (.int 0) (.int 0) (.ref a6) (.int 0) (.int 0) (.int 0) (.int 0) (.int 0) (.int 0) (.int 0) (.int 0) (.int (-1)) (.ref a7) (.ref a8) (.int 0) (.ref a9) (.ref b0) (.int 0) g H.size) (cwV 0 hts (gV mw_109 mw_110 mw_111 mw_5 mw_112) rfl rfl rfl (by decide +kernel) ⟨Nat.le_of_ble_eq_true rfl, Nat.le_of_ble_eq_true rfl⟩) ⟨fun a U g mk q => by obtain ⟨q0, q1, qP, qK, qD, qE⟩ := q; exact ⟨q0, q1, qP, va_K.moved (u := U) (U := U.calling g mk a) (Vm.Alike.refl U.vm) qK, qD, GE.calling qE⟩, va_recv hK hP (ci := 8) (q0 := 0) rfl rfl, fun U hU hW => ⟨rfl, by rw [hU], by rw [hU]; exact hPc, va_K.moved hW.alike hK, hDc.weaken (fun _ _ _ _ => trivial), GE.call hE hS hFc hU hW⟩⟩ rfl rfl hl.1 rfl (lv_room (Nat.le_of_ble_eq_true rfl)) dX8_load_18 ⟨Nat.le_of_ble_eq_true rfl, Nat.le_of_ble_eq_true rfl⟩) hS (fun q _ h => hFc q h) hFc (fun u t H1 locs ht hvm hw7 hB hz1 hk1 hS => ?_)
  obtain ⟨g5, hg6, hP1, hD1⟩ := hB
  rw [ht] at hP1
  obtain ⟨hP, hD⟩ := va_join (wr := [(a2, .inl (cy 1, 1037, .inl g2))]) (w1 := [(h0, .inr (8, [.ref a1, .ref a2, .ref a3, .ref a4, .ref a5, .int 0, .int 0, .ref a6, .int 0, .int 0, .int 0, .int 0, .int 0, .int 0, .int 0, .int 0, .int (-1), .ref a7, .ref a8, .int 0, .ref a9, .ref b0, .int 0])), (a1, .inl (cy 1, 1037, .inl g5))]) hP hD [0, 1] [2] rfl rfl (by decide) (by decide) hk1 hFc hP1 hD1
  generalize H1 = H at hP hS ⊢
  have hP : va_P (dC, dI) vwCl [(a2, .inl (cy 1, 1037, .inl g2)), (h0, .inr (8, [.ref a1, .ref a2, .ref a3, .ref a4, .ref a5, .int 0, .int 0, .ref a6, .int 0, .int 0, .int 0, .int 0, .int 0, .int 0, .int 0, .int 0, .int (-1), .ref a7, .ref a8, .int 0, .ref a9, .ref b0, .int 0])), (a1, .inl (cy 1, 1037, .inl g5))] H := hP
  have hD : va_D A [(a2, .inl (cy 1, 1037, .inl g2)), (h0, .inr (8, [.ref a1, .ref a2, .ref a3, .ref a4, .ref a5, .int 0, .int 0, .ref a6, .int 0, .int 0, .int 0, .int 0, .int 0, .int 0, .int 0, .int 0, .int (-1), .ref a7, .ref a8, .int 0, .ref a9, .ref b0, .int 0])), (a1, .inl (cy 1, 1037, .inl g5))] := hD
  refine W.widen (k := 0) (n := 0) (by omega) (by omega) ?_
  refine lv_aload_n hx hb dX8_load_21 rfl (lv_at hl 0 rfl) ?_
  have hPc := hP.sub (ws' := [(h0, .inr (8, [.ref a1, .ref a2, .ref a3, .ref a4, .ref a5, .int 0, .int 0, .ref a6, .int 0, .int 0, .int 0, .int 0, .int 0, .int 0, .int 0, .int 0, .int (-1), .ref a7, .ref a8, .int 0, .ref a9, .ref b0, .int 0])), (a1, .inl (cy 1, 1037, .inl g5))]) [1, 2] rfl
  have hDc := hD.sub (ws' := [(h0, .inr (8, [.ref a1, .ref a2, .ref a3, .ref a4, .ref a5, .int 0, .int 0, .ref a6, .int 0, .int 0, .int 0, .int 0, .int 0, .int 0, .int 0, .int 0, .int (-1), .ref a7, .ref a8, .int 0, .ref a9, .ref b0, .int 0])), (a1, .inl (cy 1, 1037, .inl g5))]) [1, 2] (by decide) rfl
  have hFc := va_free (wc := [(h0, .inr (8, [.ref a1, .ref a2, .ref a3, .ref a4, .ref a5, .int 0, .int 0, .ref a6, .int 0, .int 0, .int 0, .int 0, .int 0, .int 0, .int 0, .int 0, .int (-1), .ref a7, .ref a8, .int 0, .ref a9, .ref b0, .int 0])), (a1, .inl (cy 1, 1037, .inl g5))]) hD hS hA [1, 2] rfl
  refine va_callv (va_runV (As := []) (rest := []) ⟨hx, hb, hml, hown, hts⟩ (c_X8_linePart l dC dI cy nb h0 a1 (.ref a2) (.ref a3) (.ref a4) (.ref a5) (.int 0) (.int 0) (.ref a6) (.int 0) (.int 0) (.int 0) (.int (-1)) (.ref a7) (.ref a8) (.int 0) (.ref a9) (.ref b0) (.int 0) 0 0 g5 H.size hg6) (cwV 0 hts (gV mw_426 mw_427 mw_428 mw_5 mw_429) rfl rfl rfl (by decide +kernel) ⟨Nat.le_of_ble_eq_true rfl, Nat.le_of_ble_eq_true rfl⟩) ⟨fun a U g mk q => by obtain ⟨q0, q1, qP, qK, qD, qE⟩ := q; exact ⟨q0, q1, qP, va_K.moved (u := U) (U := U.calling g mk a) (Vm.Alike.refl U.vm) qK, qD, GE.calling qE⟩, va_recv hK hP (ci := 8) (q0 := 1) rfl rfl, fun U hU hW => ⟨rfl, by rw [hU], by rw [hU]; exact hPc, va_K.moved hW.alike hK, hDc.weaken (fun _ _ _ _ => trivial), GE.call hE hS hFc hU hW⟩⟩ rfl rfl hl.1 rfl (lv_room (Nat.le_of_ble_eq_true rfl)) dX8_load_22 ⟨Nat.le_of_ble_eq_true rfl, Nat.le_of_ble_eq_true rfl⟩) hS (fun q _ h => hFc q h) hFc (fun u t H1 locs ht hvm hw10 hB hz1 hk1 hS => ?_)
  obtain ⟨g8, hg9, hP1, hD1⟩ := hB
  rw [ht] at hP1
  obtain ⟨hP, hD⟩ := va_join (wr := [(a2, .inl (cy 1, 1037, .inl g2))]) (w1 := [(h0, .inr (8, [.ref a1, .ref a2, .ref a3, .ref a4, .ref a5, .int 0, .int 0, .ref a6, .int 0, .int 0, .int 0, .int 1, .int 0, .int 0, .int 0, .int 0, .int (-1), .ref a7, .ref a8, .int 0, .ref a9, .ref b0, .int 0])), (a1, .inl (cy 1, 1037, .inl g8))]) hP hD [1, 2] [0] rfl rfl (by decide) (by decide) hk1 hFc hP1 hD1
  generalize H1 = H at hP hS ⊢
  have hP : va_P (dC, dI) vwCl [(a2, .inl (cy 1, 1037, .inl g2)), (h0, .inr (8, [.ref a1, .ref a2, .ref a3, .ref a4, .ref a5, .int 0, .int 0, .ref a6, .int 0, .int 0, .int 0, .int 1, .int 0, .int 0, .int 0, .int 0, .int (-1), .ref a7, .ref a8, .int 0, .ref a9, .ref b0, .int 0])), (a1, .inl (cy 1, 1037, .inl g8))] H := hP
  have hD : va_D A [(a2, .inl (cy 1, 1037, .inl g2)), (h0, .inr (8, [.ref a1, .ref a2, .ref a3, .ref a4, .ref a5, .int 0, .int 0, .ref a6, .int 0, .int 0, .int 0, .int 1, .int 0, .int 0, .int 0, .int 0, .int (-1), .ref a7, .ref a8, .int 0, .ref a9, .ref b0, .int 0])), (a1, .inl (cy 1, 1037, .inl g8))] := hD
  refine W.widen (k := 0) (n := 0) (by omega) (by omega) ?_
  refine lv_aload_n hx hb dX8_load_25 rfl (lv_at hl 0 rfl) ?_
  have hPc := hP.sub (ws' := [(h0, .inr (8, [.ref a1, .ref a2, .ref a3, .ref a4, .ref a5, .int 0, .int 0, .ref a6, .int 0, .int 0, .int 0, .int 1, .int 0, .int 0, .int 0, .int 0, .int (-1), .ref a7, .ref a8, .int 0, .ref a9, .ref b0, .int 0]))]) [1] rfl
  have hDc := hD.sub (ws' := [(h0, .inr (8, [.ref a1, .ref a2, .ref a3, .ref a4, .ref a5, .int 0, .int 0, .ref a6, .int 0, .int 0, .int 0, .int 1, .int 0, .int 0, .int 0, .int 0, .int (-1), .ref a7, .ref a8, .int 0, .ref a9, .ref b0, .int 0]))]) [1] (by decide) rfl
  have hFc := va_free (wc := [(h0, .inr (8, [.ref a1, .ref a2, .ref a3, .ref a4, .ref a5, .int 0, .int 0, .ref a6, .int 0, .int 0, .int 0, .int 1, .int 0, .int 0, .int 0, .int 0, .int (-1), .ref a7, .ref a8, .int 0, .ref a9, .ref b0, .int 0]))]) hD hS hA [1] rfl
  refine va_calli (va_runV (As := []) (rest := []) ⟨hx, hb, hml, hown, hts⟩ (c_X8_isMore l dC dI cy nb h0 (.ref a1) (.ref a2) (.ref a3) (.ref a4) (.ref a5) (.int 0) (.int 0) (.ref a6) (.int 0) (.int 0) (.int 0) (.int 0) (.int 0) (.int 0) (.int 0) (.int (-1)) (.ref a7) (.ref a8) (.int 0) (.ref a9) (.ref b0) (.int 0) H.size) (cwV 0 hts (gV mw_466 mw_467 mw_468 mw_5 mw_469) rfl rfl rfl (by decide +kernel) ⟨Nat.le_of_ble_eq_true rfl, Nat.le_of_ble_eq_true rfl⟩) ⟨fun a U g mk q => by obtain ⟨q0, q1, qP, qK, qD, qE⟩ := q; exact ⟨q0, q1, qP, va_K.moved (u := U) (U := U.calling g mk a) (Vm.Alike.refl U.vm) qK, qD, GE.calling qE⟩, va_recv hK hP (ci := 8) (q0 := 1) rfl rfl, fun U hU hW => ⟨rfl, by rw [hU], by rw [hU]; exact hPc, va_K.moved hW.alike hK, hDc.weaken (fun _ _ _ _ => trivial), GE.call hE hS hFc hU hW⟩⟩ rfl rfl hl.1 rfl (lv_room (Nat.le_of_ble_eq_true rfl)) dX8_load_26 ⟨Nat.le_of_ble_eq_true rfl, Nat.le_of_ble_eq_true rfl⟩) hS (fun q _ h => hFc q h) hFc (fun r u t H1 locs ht hvm hw11 hB hz1 hk1 hS => ?_)
  obtain ⟨hP1, hD1⟩ := hB
  rw [ht] at hP1
  obtain ⟨hP, hD⟩ := va_join (wr := [(a2, .inl (cy 1, 1037, .inl g2)), (a1, .inl (cy 1, 1037, .inl g8))]) (w1 := [(h0, .inr (8, [.ref a1, .ref a2, .ref a3, .ref a4, .ref a5, .int 0, .int 0, .ref a6, .int 0, .int 0, .int 0, .int 1, .int 0, .int 0, .int 0, .int 0, .int (-1), .ref a7, .ref a8, .int 0, .ref a9, .ref b0, .int 0]))]) hP hD [1] [0, 2] rfl rfl (by decide) (by decide) hk1 hFc hP1 hD1
  generalize H1 = H at hP hS ⊢
  have hP : va_P (dC, dI) vwCl [(a2, .inl (cy 1, 1037, .inl g2)), (a1, .inl (cy 1, 1037, .inl g8)), (h0, .inr (8, [.ref a1, .ref a2, .ref a3, .ref a4, .ref a5, .int 0, .int 0, .ref a6, .int 0, .int 0, .int 0, .int 1, .int 0, .int 0, .int 0, .int 0, .int (-1), .ref a7, .ref a8, .int 0, .ref a9, .ref b0, .int 0]))] H := hP
  have hD : va_D A [(a2, .inl (cy 1, 1037, .inl g2)), (a1, .inl (cy 1, 1037, .inl g8)), (h0, .inr (8, [.ref a1, .ref a2, .ref a3, .ref a4, .ref a5, .int 0, .int 0, .ref a6, .int 0, .int 0, .int 0, .int 1, .int 0, .int 0, .int 0, .int 0, .int (-1), .ref a7, .ref a8, .int 0, .ref a9, .ref b0, .int 0]))] := hD
  obtain rfl := hw11
  refine W.widen (k := 0) (n := 0) (by omega) (by omega) ?_
  refine lv_if_eq (tgt := 39) hx hb dX8_load_29 (by decide) (fun _ => ?_) (fun h => absurd (by decide) h)
  refine lv_aload_n hx hb dX8_load_39 rfl (lv_at hl 0 rfl) ?_
  have hPc := hP.sub (ws' := [(h0, .inr (8, [.ref a1, .ref a2, .ref a3, .ref a4, .ref a5, .int 0, .int 0, .ref a6, .int 0, .int 0, .int 0, .int 1, .int 0, .int 0, .int 0, .int 0, .int (-1), .ref a7, .ref a8, .int 0, .ref a9, .ref b0, .int 0]))]) [2] rfl
  have hDc := hD.sub (ws' := [(h0, .inr (8, [.ref a1, .ref a2, .ref a3, .ref a4, .ref a5, .int 0, .int 0, .ref a6, .int 0, .int 0, .int 0, .int 1, .int 0, .int 0, .int 0, .int 0, .int (-1), .ref a7, .ref a8, .int 0, .ref a9, .ref b0, .int 0]))]) [2] (by decide) rfl
  have hFc := va_free (wc := [(h0, .inr (8, [.ref a1, .ref a2, .ref a3, .ref a4, .ref a5, .int 0, .int 0, .ref a6, .int 0, .int 0, .int 0, .int 1, .int 0, .int 0, .int 0, .int 0, .int (-1), .ref a7, .ref a8, .int 0, .ref a9, .ref b0, .int 0]))]) hD hS hA [2] rfl
  refine va_callv (va_runV (As := []) (rest := []) ⟨hx, hb, hml, hown, hts⟩ (c_X8_settles l dC dI cy nb h0 (.ref a1) (.ref a2) (.ref a3) (.ref a4) (.ref a5) (.int 0) (.int 0) (.ref a6) (.int 0) (.int 0) (.int 0) (.int 0) (.ref a7) (.ref a8) (.int 0) (.ref a9) (.ref b0) (.int 0) 0 0 (-1) H.size) (cwV 0 hts (gV mw_539 mw_540 mw_541 mw_5 mw_542) rfl rfl rfl (by decide +kernel) ⟨Nat.le_of_ble_eq_true rfl, Nat.le_of_ble_eq_true rfl⟩) ⟨fun a U g mk q => by obtain ⟨q0, q1, qP, qK, qD, qE⟩ := q; exact ⟨q0, q1, qP, va_K.moved (u := U) (U := U.calling g mk a) (Vm.Alike.refl U.vm) qK, qD, GE.calling qE⟩, va_recv hK hP (ci := 8) (q0 := 2) rfl rfl, fun U hU hW => ⟨rfl, by rw [hU], by rw [hU]; exact hPc, va_K.moved hW.alike hK, hDc.weaken (fun _ _ _ _ => trivial), GE.call hE hS hFc hU hW⟩⟩ rfl rfl hl.1 rfl (lv_room (Nat.le_of_ble_eq_true rfl)) dX8_load_40 ⟨Nat.le_of_ble_eq_true rfl, Nat.le_of_ble_eq_true rfl⟩) hS (fun q _ h => hFc q h) hFc (fun u t H1 locs ht hvm hw12 hB hz1 hk1 hS => ?_)
  obtain ⟨hP1, hD1⟩ := hB
  rw [ht] at hP1
  obtain ⟨hP, hD⟩ := va_join (wr := [(a2, .inl (cy 1, 1037, .inl g2)), (a1, .inl (cy 1, 1037, .inl g8))]) (w1 := [(h0, .inr (8, [.ref a1, .ref a2, .ref a3, .ref a4, .ref a5, .int 0, .int 0, .ref a6, .int 0, .int 0, .int 0, .int 1, .int 0, .int 0, .int 0, .int 1, .int 0, .ref a7, .ref a8, .int 0, .ref a9, .ref b0, .int 0]))]) hP hD [2] [0, 1] rfl rfl (by decide) (by decide) hk1 hFc hP1 hD1
  generalize H1 = H at hP hS ⊢
  have hP : va_P (dC, dI) vwCl [(a2, .inl (cy 1, 1037, .inl g2)), (a1, .inl (cy 1, 1037, .inl g8)), (h0, .inr (8, [.ref a1, .ref a2, .ref a3, .ref a4, .ref a5, .int 0, .int 0, .ref a6, .int 0, .int 0, .int 0, .int 1, .int 0, .int 0, .int 0, .int 1, .int 0, .ref a7, .ref a8, .int 0, .ref a9, .ref b0, .int 0]))] H := hP
  have hD : va_D A [(a2, .inl (cy 1, 1037, .inl g2)), (a1, .inl (cy 1, 1037, .inl g8)), (h0, .inr (8, [.ref a1, .ref a2, .ref a3, .ref a4, .ref a5, .int 0, .int 0, .ref a6, .int 0, .int 0, .int 0, .int 1, .int 0, .int 0, .int 0, .int 1, .int 0, .ref a7, .ref a8, .int 0, .ref a9, .ref b0, .int 0]))] := hD
  refine W.widen (k := 0) (n := 0) (by omega) (by omega) ?_
  refine lv_aload_n hx hb dX8_load_43 rfl (lv_at hl 0 rfl) ?_
  refine va_get (D := (dC, dI)) (ci := 8) (v := .int 1) (C := RX8) (T := TX8) (N := 23) hx hb hts inlX8 hown hK hP 2 rfl rfl 11 (by decide) (hts _ mw_414) (fun _ h9 => h9) rfl dX8_load_44 ?_
  refine lv_if_eq (tgt := 71) hx hb dX8_load_47 (by decide) (fun h => absurd h (by decide)) (fun _ => ?_)
  refine lv_aload_n hx hb dX8_load_50 rfl (lv_at hl 0 rfl) ?_
  refine va_get (D := (dC, dI)) (ci := 8) (v := .ref a2) (C := RX8) (T := TX8) (N := 23) hx hb hts inlX8 hown hK hP 2 rfl rfl 1 (by decide) (hts _ mw_98) (fun _ h9 => h9) rfl dX8_load_51 ?_
  refine lv_iconst (v := 0) hx hb dX8_load_54 (by decide) ?_
  refine lv_aload_n hx hb dX8_load_55 rfl (lv_at hl 0 rfl) ?_
  refine va_get (D := (dC, dI)) (ci := 8) (v := .ref a1) (C := RX8) (T := TX8) (N := 23) hx hb hts inlX8 hown hK hP 2 rfl rfl 0 (by decide) (hts _ mw_97) (fun _ h9 => h9) rfl dX8_load_56 ?_
  refine lv_iconst (v := 0) hx hb dX8_load_59 (by decide) ?_
  have hPc := hP.sub (ws' := [(a2, .inl (cy 1, 1037, .inl g2)), (a1, .inl (cy 1, 1037, .inl g8))]) [0, 1] rfl
  have hDc := hD.sub (ws' := [(a2, .inl (cy 1, 1037, .inl g2)), (a1, .inl (cy 1, 1037, .inl g8))]) [0, 1] (by decide) rfl
  have hFc := va_free (wc := [(a2, .inl (cy 1, 1037, .inl g2)), (a1, .inl (cy 1, 1037, .inl g8))]) hD hS hA [0, 1] rfl
  refine va_callv (va_runS (As := [.ref a2, .int 0, .ref a1, .int 0]) (rest := []) ⟨hx, hb, hml, hown, hts⟩ (c_X8_copies l dC dI cy nb a2 a1 0 0 1037 1037 g2 g8 H.size (by decide) (by decide) (by decide)) (va_cwS 4 hts (gS mw_423 mw_424 mw_5 mw_425) rfl rfl rfl (by decide +kernel) ⟨Nat.le_of_ble_eq_true rfl, Nat.le_of_ble_eq_true rfl⟩) ⟨fun a U g mk q => by obtain ⟨q0, q1, qP, qK, qD, qE⟩ := q; exact ⟨q0, q1, qP, va_K.moved (u := U) (U := U.calling g mk a) (Vm.Alike.refl U.vm) qK, qD, GE.calling qE⟩, fun U hU hW => ⟨rfl, by rw [hU], by rw [hU]; exact hPc, va_K.moved hW.alike hK, hDc.weaken (fun _ _ _ _ => trivial), GE.call hE hS hFc hU hW⟩⟩ rfl rfl hl.1 rfl (lv_room (Nat.le_of_ble_eq_true rfl)) dX8_load_60 ⟨Nat.le_of_ble_eq_true rfl, Nat.le_of_ble_eq_true rfl⟩) hS (fun q _ h => hFc q h) hFc (fun u t H1 locs ht hvm hw15 hB hz1 hk1 hS => ?_)
  obtain ⟨g13, hg14, hP1, hD1⟩ := hB
  rw [ht] at hP1
  obtain ⟨hP, hD⟩ := va_join (wr := [(h0, .inr (8, [.ref a1, .ref a2, .ref a3, .ref a4, .ref a5, .int 0, .int 0, .ref a6, .int 0, .int 0, .int 0, .int 1, .int 0, .int 0, .int 0, .int 1, .int 0, .ref a7, .ref a8, .int 0, .ref a9, .ref b0, .int 0]))]) (w1 := [(a2, .inl (cy 1, 1037, .inl g2)), (a1, .inl (cy 1, 1037, .inl g13))]) hP hD [0, 1] [2] rfl rfl (by decide) (by decide) hk1 hFc hP1 hD1
  generalize H1 = H at hP hS ⊢
  have hP : va_P (dC, dI) vwCl [(h0, .inr (8, [.ref a1, .ref a2, .ref a3, .ref a4, .ref a5, .int 0, .int 0, .ref a6, .int 0, .int 0, .int 0, .int 1, .int 0, .int 0, .int 0, .int 1, .int 0, .ref a7, .ref a8, .int 0, .ref a9, .ref b0, .int 0])), (a2, .inl (cy 1, 1037, .inl g2)), (a1, .inl (cy 1, 1037, .inl g13))] H := hP
  have hD : va_D A [(h0, .inr (8, [.ref a1, .ref a2, .ref a3, .ref a4, .ref a5, .int 0, .int 0, .ref a6, .int 0, .int 0, .int 0, .int 1, .int 0, .int 0, .int 0, .int 1, .int 0, .ref a7, .ref a8, .int 0, .ref a9, .ref b0, .int 0])), (a2, .inl (cy 1, 1037, .inl g2)), (a1, .inl (cy 1, 1037, .inl g13))] := hD
  refine W.widen (k := 0) (n := 0) (by omega) (by omega) ?_
  refine lv_bipush (v := (-100)) hx hb dX8_load_63 (by decide) ?_
  refine lv_aload_n hx hb dX8_load_65 rfl (lv_at hl 0 rfl) ?_
  refine va_get (D := (dC, dI)) (ci := 8) (v := .int 0) (C := RX8) (T := TX8) (N := 23) hx hb hts inlX8 hown hK hP 0 rfl rfl 12 (by decide) (hts _ mw_415) (fun _ h9 => h9) rfl dX8_load_66 ?_
  refine lv_isub hx hb dX8_load_69 ?_
  refine my_topi (y := (-100)) (by decide) ?_
  have hP9 := hP.sub (ws' := [(h0, .inr (8, [.ref a1, .ref a2, .ref a3, .ref a4, .ref a5, .int 0, .int 0, .ref a6, .int 0, .int 0, .int 0, .int 1, .int 0, .int 0, .int 0, .int 1, .int 0, .ref a7, .ref a8, .int 0, .ref a9, .ref b0, .int 0]))]) [0] rfl
  have hD9 := hD.sub (ws' := [(h0, .inr (8, [.ref a1, .ref a2, .ref a3, .ref a4, .ref a5, .int 0, .int 0, .ref a6, .int 0, .int 0, .int 0, .int 1, .int 0, .int 0, .int 0, .int 1, .int 0, .ref a7, .ref a8, .int 0, .ref a9, .ref b0, .int 0]))]) [0] (by decide) rfl
  refine W.widen (k := 0) (n := 0) (by omega) (by omega) ?_
  exact W.iret (v := (-100)) hx hb hr (fun t ht hW => ⟨⟨(-100), (), rfl, rfl, by rw [ht]; exact hP9, hD9⟩, hS.F ht⟩) hS.2.2 dX8_load_70
