noncomputable def F8_thrown (u0 : RS) : Option (Int32) := some (u0 0 6)
set_option maxHeartbeats 4000000 in
set_option maxRecDepth 100000 in
theorem k_X8_thrown (l : Launch) (dC : Nat → ClassId) (dI : Nat → Nat → Nat) (cy : Nat → ClassId) (nb : Nat → Nat) (ad : Nat → Nat) (u0 : RS) (ro : Int32) (sz : Nat) (hF : F8_thrown u0 = some ro) : Met l yX8_thrown (wsg yX8_thrown cX8_thrown 1 (some .int)) ({ frames := 7, cells := 0, slots := 0, locals := 200 }) (va_Pc [.ref (ad 0)] (fun U => U.heap.size = sz ∧ va_P (dC, dI) vwCl (WM cy ad u0) U.heap ∧ va_K (dC, dI) vwCl (tyL cy) U ∧ va_D (fun _ => True) (WM cy ad u0) ∧ GE nb (va_A (WM cy ad u0) sz) U)) (va_Qi (fun (r : Int32) (_ : Unit) => r = ro) (fun _ t => va_P (dC, dI) vwCl (WM cy ad u0) t.heap ∧ va_D (va_A (WM cy ad u0) sz) (WM cy ad u0)) (va_A (WM cy ad u0) sz)) 0 0 (va_A (WM cy ad u0) sz) := by
  refine Met.ofW (cc := cX8_thrown) (maxL := 1) (ret := (some .int)) pn_X8 rfl ?_
  intro p e s m args below meth c s₁ B hml hv
  obtain ⟨rfl, hsz, hP, hK, hD0, hE⟩ := hv
  have hx := B.exec
  have hb := B.bytes
  have hr := B.returns
  have hts0 := atoms_spec (ws := (wsg yX8_thrown cX8_thrown 1 (some .int))) B.pre
  have hts : ∀ w ∈ wsL_law, w.before _ s = true := fun w h => hts0 w (List.mem_cons_of_mem _ h)
  have hown : s.vm.findClass RX8 = some m.cls := by have h9 := findClass_of_methodNamed B.named; exact h9
  have hlocks := B.notSynchronized
  subst hsz
  have hD := hD0.self (sz := s.heap.size)
  generalize hAe : va_A (WM cy ad u0) s.heap.size = A at hD hE ⊢
  have hA : ∀ q : Nat, s.heap.size ≤ q → A q := fun q h => by rw [← hAe]; exact Or.inr h
  have hS : va_S A s.heap s.heap [] := va_S.rf
  have hP : va_P (dC, dI) vwCl (WM cy ad u0) s.heap := hP
  have hl := lv_entry ([.ref (ad 0)]) (n := 1) (Nat.le_of_ble_eq_true rfl)
  rw [lg_entry_eq]
  generalize (lg_sl ([.ref (ad 0)]) ++ List.replicate (1 - (lg_sl ([.ref (ad 0)])).length) Slot.unset).toArray = ls at hl ⊢
  have hl : lv_has ls 1 [(0, .ref (ad 0))] := hl
  generalize hHe : s.heap = H at hP hS ⊢
  have hS : va_S A s.heap H [] := by rw [hHe]; exact hS
  refine my_Q (fun Qn hQ => ?_)
  simp only [F8_thrown] at hF
  refine lv_aload_n hx hb dX8_thrown_0 rfl (lv_at hl 0 rfl) ?_
  refine va_get (D := (dC, dI)) (ci := 8) (v := .int (u0 0 6)) (C := RX8) (T := TX8) (N := 23) hx hb hts inlX8 hown hK hP 0 rfl rfl 6 (by decide) (hts _ mw_127) (fun _ h9 => h9) rfl dX8_thrown_1 ?_
  have ev := s1 hF
  have hP9 := hP
  have hD9 := hD
  rw [hQ]
  exact W.iret (v := (u0 0 6)) hx hb hr (fun t ht hW => ⟨⟨(u0 0 6), (), rfl, ev, by rw [ht]; exact hP9, hD9⟩, hS.F ht⟩) hS.2.2 dX8_thrown_4
