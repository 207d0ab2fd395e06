set_option maxHeartbeats 4000000 in
set_option maxRecDepth 100000 in
theorem c_X5_init (l : Launch) (dC : Nat → ClassId) (dI : Nat → Nat → Nat) (cy : Nat → ClassId) (nb : Nat → Nat) (h0 : Nat) (sz : Nat) : Met l yX5_init (wsg yX5_init cX5_init 1 none) ({ frames := 7, cells := 4, slots := 672, locals := 200 }) (va_Pc [.ref h0] (fun U => U.heap.size = sz ∧ va_P (dC, dI) vwCl [(h0, eO 5 [.null, .int 0, .int 0, .int 0, .int 0, .int 0, .null, .null, .null, .int 0, .int 0])] U.heap ∧ va_K (dC, dI) vwCl (tyL cy) U ∧ va_D (fun _ => True) [(h0, eO 5 [.null, .int 0, .int 0, .int 0, .int 0, .int 0, .null, .null, .null, .int 0, .int 0])] ∧ GE nb (va_A [(h0, eO 5 [.null, .int 0, .int 0, .int 0, .int 0, .int 0, .null, .null, .null, .int 0, .int 0])] sz) U)) (va_Qv (fun (_ : Unit) => True) (fun _ t => ∃ (q1 q2 q3 q4 : Nat), va_P (dC, dI) vwCl [(h0, eO 5 [.ref q1, .int 0, .int 0, .int 0, .int 0, .int 0, .ref q2, .ref q3, .ref q4, .int 0, .int 0]), (q1, eI cy 0 600 (fun _ => 0)), (q2, eI cy 0 64 (fun _ => 0)), (q3, eI cy 1 4 (fun _ => 0)), (q4, eI cy 1 4 (fun _ => 0))] t.heap ∧ va_D (va_A [(h0, eO 5 [.null, .int 0, .int 0, .int 0, .int 0, .int 0, .null, .null, .null, .int 0, .int 0])] sz) [(h0, eO 5 [.ref q1, .int 0, .int 0, .int 0, .int 0, .int 0, .ref q2, .ref q3, .ref q4, .int 0, .int 0]), (q1, eI cy 0 600 (fun _ => 0)), (q2, eI cy 0 64 (fun _ => 0)), (q3, eI cy 1 4 (fun _ => 0)), (q4, eI cy 1 4 (fun _ => 0))]) (va_A [(h0, eO 5 [.null, .int 0, .int 0, .int 0, .int 0, .int 0, .null, .null, .null, .int 0, .int 0])] sz)) 4 672 (va_A [(h0, eO 5 [.null, .int 0, .int 0, .int 0, .int 0, .int 0, .null, .null, .null, .int 0, .int 0])] sz) := by
  refine Met.ofW (cc := cX5_init) (maxL := 1) (ret := none) pn_X5 rfl ?_
  intro p e s m args below meth c s₁ B hml hv
  obtain ⟨rfl, hsz, hP, hK, hD0, hE⟩ := hv
  have hx := B.exec
  have hb := B.bytes
  have hr := B.returns
  have hts0 := atoms_spec (ws := (wsg yX5_init cX5_init 1 none)) B.pre
  have hts : ∀ w ∈ wsL_law, w.before _ s = true := fun w h => hts0 w (List.mem_cons_of_mem _ h)
  have hown : s.vm.findClass RX5 = some m.cls := by have h9 := findClass_of_methodNamed B.named; exact h9
  have hlocks := B.notSynchronized
  have hin : meth.name = "<init>" := (name_of_methodNamed B.named B.method).1
  subst hsz
  have hD := hD0.self (sz := s.heap.size)
  generalize hAe : va_A [(h0, eO 5 [.null, .int 0, .int 0, .int 0, .int 0, .int 0, .null, .null, .null, .int 0, .int 0])] s.heap.size = A at hD hE ⊢
  have hA : ∀ q : Nat, s.heap.size ≤ q → A q := fun q h => by rw [← hAe]; exact Or.inr h
  have hS : va_S A s.heap s.heap [] := va_S.rf
  have hP : va_P (dC, dI) vwCl [(h0, eO 5 [.null, .int 0, .int 0, .int 0, .int 0, .int 0, .null, .null, .null, .int 0, .int 0])] s.heap := hP
  have hl := lv_entry ([.ref h0]) (n := 1) (Nat.le_of_ble_eq_true rfl)
  rw [lg_entry_eq]
  generalize (lg_sl ([.ref h0]) ++ List.replicate (1 - (lg_sl ([.ref h0])).length) Slot.unset).toArray = ls at hl ⊢
  have hl : lv_has ls 1 [(0, .ref h0)] := hl
  generalize hHe : s.heap = H at hP hS ⊢
  have hS : va_S A s.heap H [] := by rw [hHe]; exact hS
  refine lv_aload_n hx hb dX5_init_0 rfl (lv_at hl 0 rfl) ?_
  refine W.objInit hx hb hown (hts _ mw_71) (hts _ mw_13) (hts _ mw_14) rfl (by rw [hml]; exact hl.1) rfl dX5_init_1 (Nat.le_of_ble_eq_true rfl) (Nat.le_of_ble_eq_true rfl) ?_
  refine W.eq (g2 := F0 m 4 ls []) rfl ?_
  refine lv_aload_n hx hb dX5_init_4 rfl (lv_at hl 0 rfl) ?_
  refine lv_sipush (v := 600) hx hb dX5_init_5 (by decide) ?_
  refine va_newa (atype := .byte) (ty := .byte) (a0 := (600, .inl (fun _ => 0))) hx hb (hts _ mw_24) rfl hK hP hD hS hA (fun _ => rfl) (by decide) (by decide) (Nat.le_of_ble_eq_true rfl) (Nat.le_of_ble_eq_true rfl) (Nat.le_of_ble_eq_true rfl) dX5_init_8 (fun q1 cA H hK9 hP hD hS => ?_)
  have hcA := my_cA hK9 hK 0 rfl
  subst hcA
  clear hK9
  have hP : va_P (dC, dI) vwCl [(h0, eO 5 [.null, .int 0, .int 0, .int 0, .int 0, .int 0, .null, .null, .null, .int 0, .int 0]), (q1, eI cy 0 600 (fun _ => 0))] H := hP
  have hD : va_D A [(h0, eO 5 [.null, .int 0, .int 0, .int 0, .int 0, .int 0, .null, .null, .null, .int 0, .int 0]), (q1, eI cy 0 600 (fun _ => 0))] := hD
  refine W.widen (k := 1) (n := 600) (by omega) (by omega) ?_
  refine va_putF (D := (dC, dI)) (ci := 5) (v := .ref q1) (ty := (.array .byte)) (C := RX5) (T := TX5) (N := 11) hx hb hts inlX5 tyX5 tyX5_ok nmX5 hown hK hP hD hS 0 rfl rfl 0 (by decide) (hts _ mw_72) (fun _ h9 => h9) rfl hin rfl (by decide +kernel) rfl rfl (Nat.le_of_ble_eq_true rfl) dX5_init_10 (fun H locs hP hD hS => ?_)
  have hP : va_P (dC, dI) vwCl [(h0, eO 5 [.ref q1, .int 0, .int 0, .int 0, .int 0, .int 0, .null, .null, .null, .int 0, .int 0]), (q1, eI cy 0 600 (fun _ => 0))] H := hP
  have hD : va_D A [(h0, eO 5 [.ref q1, .int 0, .int 0, .int 0, .int 0, .int 0, .null, .null, .null, .int 0, .int 0]), (q1, eI cy 0 600 (fun _ => 0))] := hD
  refine lv_aload_n hx hb dX5_init_13 rfl (lv_at hl 0 rfl) ?_
  refine lv_bipush (v := 64) hx hb dX5_init_14 (by decide) ?_
  refine va_newa (atype := .byte) (ty := .byte) (a0 := (64, .inl (fun _ => 0))) hx hb (hts _ mw_24) rfl hK hP hD hS hA (fun _ => rfl) (by decide) (by decide) (Nat.le_of_ble_eq_true rfl) (Nat.le_of_ble_eq_true rfl) (Nat.le_of_ble_eq_true rfl) dX5_init_16 (fun q2 cA H hK9 hP hD hS => ?_)
  have hcA := my_cA hK9 hK 0 rfl
  subst hcA
  clear hK9
  have hP : va_P (dC, dI) vwCl [(h0, eO 5 [.ref q1, .int 0, .int 0, .int 0, .int 0, .int 0, .null, .null, .null, .int 0, .int 0]), (q1, eI cy 0 600 (fun _ => 0)), (q2, eI cy 0 64 (fun _ => 0))] H := hP
  have hD : va_D A [(h0, eO 5 [.ref q1, .int 0, .int 0, .int 0, .int 0, .int 0, .null, .null, .null, .int 0, .int 0]), (q1, eI cy 0 600 (fun _ => 0)), (q2, eI cy 0 64 (fun _ => 0))] := hD
  refine W.widen (k := 2) (n := 664) (by omega) (by omega) ?_
  refine va_putF (D := (dC, dI)) (ci := 5) (v := .ref q2) (ty := (.array .byte)) (C := RX5) (T := TX5) (N := 11) hx hb hts inlX5 tyX5 tyX5_ok nmX5 hown hK hP hD hS 0 rfl rfl 6 (by decide) (hts _ mw_73) (fun _ h9 => h9) rfl hin rfl (by decide +kernel) rfl rfl (Nat.le_of_ble_eq_true rfl) dX5_init_18 (fun H locs hP hD hS => ?_)
  have hP : va_P (dC, dI) vwCl [(h0, eO 5 [.ref q1, .int 0, .int 0, .int 0, .int 0, .int 0, .ref q2, .null, .null, .int 0, .int 0]), (q1, eI cy 0 600 (fun _ => 0)), (q2, eI cy 0 64 (fun _ => 0))] H := hP
  have hD : va_D A [(h0, eO 5 [.ref q1, .int 0, .int 0, .int 0, .int 0, .int 0, .ref q2, .null, .null, .int 0, .int 0]), (q1, eI cy 0 600 (fun _ => 0)), (q2, eI cy 0 64 (fun _ => 0))] := hD
  refine lv_aload_n hx hb dX5_init_21 rfl (lv_at hl 0 rfl) ?_
  refine lv_iconst (v := 4) hx hb dX5_init_22 (by decide) ?_
  refine va_newa (atype := .int) (ty := .int) (a0 := (4, .inl (fun _ => 0))) hx hb (hts _ mw_28) rfl hK hP hD hS hA (fun _ => rfl) (by decide) (by decide) (Nat.le_of_ble_eq_true rfl) (Nat.le_of_ble_eq_true rfl) (Nat.le_of_ble_eq_true rfl) dX5_init_23 (fun q3 cA H hK9 hP hD hS => ?_)
  have hcA := my_cA hK9 hK 1 rfl
  subst hcA
  clear hK9
  have hP : va_P (dC, dI) vwCl [(h0, eO 5 [.ref q1, .int 0, .int 0, .int 0, .int 0, .int 0, .ref q2, .null, .null, .int 0, .int 0]), (q1, eI cy 0 600 (fun _ => 0)), (q2, eI cy 0 64 (fun _ => 0)), (q3, eI cy 1 4 (fun _ => 0))] H := hP
  have hD : va_D A [(h0, eO 5 [.ref q1, .int 0, .int 0, .int 0, .int 0, .int 0, .ref q2, .null, .null, .int 0, .int 0]), (q1, eI cy 0 600 (fun _ => 0)), (q2, eI cy 0 64 (fun _ => 0)), (q3, eI cy 1 4 (fun _ => 0))] := hD
  refine W.widen (k := 3) (n := 668) (by omega) (by omega) ?_
  refine va_putF (D := (dC, dI)) (ci := 5) (v := .ref q3) (ty := (.array .int)) (C := RX5) (T := TX5) (N := 11) hx hb hts inlX5 tyX5 tyX5_ok nmX5 hown hK hP hD hS 0 rfl rfl 7 (by decide) (hts _ mw_74) (fun _ h9 => h9) rfl hin rfl (by decide +kernel) rfl rfl (Nat.le_of_ble_eq_true rfl) dX5_init_25 (fun H locs hP hD hS => ?_)
  have hP : va_P (dC, dI) vwCl [(h0, eO 5 [.ref q1, .int 0, .int 0, .int 0, .int 0, .int 0, .ref q2, .ref q3, .null, .int 0, .int 0]), (q1, eI cy 0 600 (fun _ => 0)), (q2, eI cy 0 64 (fun _ => 0)), (q3, eI cy 1 4 (fun _ => 0))] H := hP
  have hD : va_D A [(h0, eO 5 [.ref q1, .int 0, .int 0, .int 0, .int 0, .int 0, .ref q2, .ref q3, .null, .int 0, .int 0]), (q1, eI cy 0 600 (fun _ => 0)), (q2, eI cy 0 64 (fun _ => 0)), (q3, eI cy 1 4 (fun _ => 0))] := hD
  refine lv_aload_n hx hb dX5_init_28 rfl (lv_at hl 0 rfl) ?_
  refine lv_iconst (v := 4) hx hb dX5_init_29 (by decide) ?_
  refine va_newa (atype := .int) (ty := .int) (a0 := (4, .inl (fun _ => 0))) hx hb (hts _ mw_28) rfl hK hP hD hS hA (fun _ => rfl) (by decide) (by decide) (Nat.le_of_ble_eq_true rfl) (Nat.le_of_ble_eq_true rfl) (Nat.le_of_ble_eq_true rfl) dX5_init_30 (fun q4 cA H hK9 hP hD hS => ?_)
  have hcA := my_cA hK9 hK 1 rfl
  subst hcA
  clear hK9
  have hP : va_P (dC, dI) vwCl [(h0, eO 5 [.ref q1, .int 0, .int 0, .int 0, .int 0, .int 0, .ref q2, .ref q3, .null, .int 0, .int 0]), (q1, eI cy 0 600 (fun _ => 0)), (q2, eI cy 0 64 (fun _ => 0)), (q3, eI cy 1 4 (fun _ => 0)), (q4, eI cy 1 4 (fun _ => 0))] H := hP
  have hD : va_D A [(h0, eO 5 [.ref q1, .int 0, .int 0, .int 0, .int 0, .int 0, .ref q2, .ref q3, .null, .int 0, .int 0]), (q1, eI cy 0 600 (fun _ => 0)), (q2, eI cy 0 64 (fun _ => 0)), (q3, eI cy 1 4 (fun _ => 0)), (q4, eI cy 1 4 (fun _ => 0))] := hD
  refine W.widen (k := 4) (n := 672) (by omega) (by omega) ?_
  refine va_putF (D := (dC, dI)) (ci := 5) (v := .ref q4) (ty := (.array .int)) (C := RX5) (T := TX5) (N := 11) hx hb hts inlX5 tyX5 tyX5_ok nmX5 hown hK hP hD hS 0 rfl rfl 8 (by decide) (hts _ mw_75) (fun _ h9 => h9) rfl hin rfl (by decide +kernel) rfl rfl (Nat.le_of_ble_eq_true rfl) dX5_init_32 (fun H locs hP hD hS => ?_)
  have hP : va_P (dC, dI) vwCl [(h0, eO 5 [.ref q1, .int 0, .int 0, .int 0, .int 0, .int 0, .ref q2, .ref q3, .ref q4, .int 0, .int 0]), (q1, eI cy 0 600 (fun _ => 0)), (q2, eI cy 0 64 (fun _ => 0)), (q3, eI cy 1 4 (fun _ => 0)), (q4, eI cy 1 4 (fun _ => 0))] H := hP
  have hD : va_D A [(h0, eO 5 [.ref q1, .int 0, .int 0, .int 0, .int 0, .int 0, .ref q2, .ref q3, .ref q4, .int 0, .int 0]), (q1, eI cy 0 600 (fun _ => 0)), (q2, eI cy 0 64 (fun _ => 0)), (q3, eI cy 1 4 (fun _ => 0)), (q4, eI cy 1 4 (fun _ => 0))] := hD
  have hP9 := hP.sub (ws' := [(h0, eO 5 [.ref q1, .int 0, .int 0, .int 0, .int 0, .int 0, .ref q2, .ref q3, .ref q4, .int 0, .int 0]), (q1, eI cy 0 600 (fun _ => 0)), (q2, eI cy 0 64 (fun _ => 0)), (q3, eI cy 1 4 (fun _ => 0)), (q4, eI cy 1 4 (fun _ => 0))]) [0, 1, 2, 3, 4] rfl
  have hD9 := hD.sub (ws' := [(h0, eO 5 [.ref q1, .int 0, .int 0, .int 0, .int 0, .int 0, .ref q2, .ref q3, .ref q4, .int 0, .int 0]), (q1, eI cy 0 600 (fun _ => 0)), (q2, eI cy 0 64 (fun _ => 0)), (q3, eI cy 1 4 (fun _ => 0)), (q4, eI cy 1 4 (fun _ => 0))]) [0, 1, 2, 3, 4] (by decide) rfl
  refine W.widen (k := 4) (n := 672) (by omega) (by omega) ?_
  exact W.vret hx hb hr (fun t ht hW => ⟨⟨(), rfl, trivial, q1, q2, q3, q4, by rw [ht]; exact hP9, hD9⟩, hS.F ht⟩) hS.2.2 dX5_init_35
set_option maxHeartbeats 8000000 in
set_option maxRecDepth 100000 in
theorem c_X7_init (l : Launch) (dC : Nat → ClassId) (dI : Nat → Nat → Nat) (cy : Nat → ClassId) (nb : Nat → Nat) (h0 : Nat) (sz : Nat) : Met l yX7_init (wsg yX7_init cX7_init 1 none) ({ frames := 10, cells := 143, slots := 2377, locals := 500 }) (va_Pc [.ref h0] (fun U => U.heap.size = sz ∧ va_P (dC, dI) vwCl [(h0, eO 7 [.null, .null, .null, .null, .null, .null, .null, .int 0, .int 0, .int 0, .int 0, .int 0])] U.heap ∧ va_K (dC, dI) vwCl (tyL cy) U ∧ va_D (fun _ => True) [(h0, eO 7 [.null, .null, .null, .null, .null, .null, .null, .int 0, .int 0, .int 0, .int 0, .int 0])] ∧ GE nb (va_A [(h0, eO 7 [.null, .null, .null, .null, .null, .null, .null, .int 0, .int 0, .int 0, .int 0, .int 0])] sz) U)) (va_Qv (fun (_ : Unit) => True) (fun _ t => ∃ (ad : CK → Nat) (uz : RS), ad .cl = h0 ∧ GA nb ad gz0 KS0 ∧ C3_begin gz0 uP 0 480 0 1 1 = some uz ∧ va_P (dC, dI) vwCl (WC cy ad KS0 gz0 uz) t.heap ∧ va_D (va_A [(h0, eO 7 [.null, .null, .null, .null, .null, .null, .null, .int 0, .int 0, .int 0, .int 0, .int 0])] sz) (WC cy ad KS0 gz0 uz)) (va_A [(h0, eO 7 [.null, .null, .null, .null, .null, .null, .null, .int 0, .int 0, .int 0, .int 0, .int 0])] sz)) 143 2377 (va_A [(h0, eO 7 [.null, .null, .null, .null, .null, .null, .null, .int 0, .int 0, .int 0, .int 0, .int 0])] sz) := by
  refine Met.ofW (cc := cX7_init) (maxL := 1) (ret := none) pn_X7 rfl ?_
  intro p e s m args below meth c s₁ B hml hv
  obtain ⟨rfl, hsz, hP, hK, hD0, hE⟩ := hv
  have hx := B.exec
  have hb := B.bytes
  have hr := B.returns
  have hts0 := atoms_spec (ws := (wsg yX7_init cX7_init 1 none)) B.pre
  have hts : ∀ w ∈ wsL_law, w.before _ s = true := fun w h => hts0 w (List.mem_cons_of_mem _ h)
  have hown : s.vm.findClass RX7 = some m.cls := by have h9 := findClass_of_methodNamed B.named; exact h9
  have hlocks := B.notSynchronized
  have hin : meth.name = "<init>" := (name_of_methodNamed B.named B.method).1
  subst hsz
  have hD := hD0.self (sz := s.heap.size)
  generalize hAe : va_A [(h0, eO 7 [.null, .null, .null, .null, .null, .null, .null, .int 0, .int 0, .int 0, .int 0, .int 0])] s.heap.size = A at hD hE ⊢
  have hA : ∀ q : Nat, s.heap.size ≤ q → A q := fun q h => by rw [← hAe]; exact Or.inr h
  have hS : va_S A s.heap s.heap [] := va_S.rf
  have hP : va_P (dC, dI) vwCl [(h0, eO 7 [.null, .null, .null, .null, .null, .null, .null, .int 0, .int 0, .int 0, .int 0, .int 0])] s.heap := hP
  have hl := lv_entry ([.ref h0]) (n := 1) (Nat.le_of_ble_eq_true rfl)
  rw [lg_entry_eq]
  generalize (lg_sl ([.ref h0]) ++ List.replicate (1 - (lg_sl ([.ref h0])).length) Slot.unset).toArray = ls at hl ⊢
  have hl : lv_has ls 1 [(0, .ref h0)] := hl
  generalize hHe : s.heap = H at hP hS ⊢
  have hS : va_S A s.heap H [] := by rw [hHe]; exact hS
  refine lv_aload_n hx hb dX7_init_0 rfl (lv_at hl 0 rfl) ?_
  refine W.objInit hx hb hown (hts _ mw_12) (hts _ mw_13) (hts _ mw_14) rfl (by rw [hml]; exact hl.1) rfl dX7_init_1 (Nat.le_of_ble_eq_true rfl) (Nat.le_of_ble_eq_true rfl) ?_
  refine W.eq (g2 := F0 m 4 ls []) rfl ?_
  refine lv_aload_n hx hb dX7_init_4 rfl (lv_at hl 0 rfl) ?_
  refine va_new (ci := 3) (fs := [.int 0, .int 0, .int 0, .int 0, .int 0, .int 0, .int 0, .int 0, .int 0, .int 0, .null, .null, .null, .null, .null, .null, .int 0]) (C := RX3) (T := TX3) (N := 17) hx hb hts inlX3 tyX3 tyX3_ok hown (hts _ mw_15) (hts _ mw_16) (hts _ mw_17) hK hP hD hS hA rfl (fun j hj => by match j, hj with | 0, _ => rfl | 1, _ => rfl | 2, _ => rfl | 3, _ => rfl | 4, _ => rfl | 5, _ => rfl | 6, _ => rfl | 7, _ => rfl | 8, _ => rfl | 9, _ => rfl | 10, _ => rfl | 11, _ => rfl | 12, _ => rfl | 13, _ => rfl | 14, _ => rfl | 15, _ => rfl | 16, _ => rfl | (n+17), h => omega) (Nat.le_of_ble_eq_true rfl) (Nat.le_of_ble_eq_true rfl) dX7_init_5 (fun q1 H hP hD hS => ?_)
  have hP : va_P (dC, dI) vwCl ([(h0, eO 7 [.null, .null, .null, .null, .null, .null, .null, .int 0, .int 0, .int 0, .int 0, .int 0])] ++ [(q1, eO 3 [.int 0, .int 0, .int 0, .int 0, .int 0, .int 0, .int 0, .int 0, .int 0, .int 0, .null, .null, .null, .null, .null, .null, .int 0])]) H := hP
  have hD : va_D A ([(h0, eO 7 [.null, .null, .null, .null, .null, .null, .null, .int 0, .int 0, .int 0, .int 0, .int 0])] ++ [(q1, eO 3 [.int 0, .int 0, .int 0, .int 0, .int 0, .int 0, .int 0, .int 0, .int 0, .int 0, .null, .null, .null, .null, .null, .null, .int 0])]) := hD
  refine W.widen (k := 1) (n := 17) (by omega) (by omega) ?_
  refine lv_dup hx hb dX7_init_8 rfl ?_
  have hPc := my_lastP hP
  have hDc := my_lastD hD
  have hFc := my_free hDc hS hA
  refine va_callv (va_runI (As := []) (rest := [.ref q1, .ref h0]) ⟨hx, hb, hml, hown, hts⟩ (c_X3_init l dC dI cy nb q1 H.size) (cwI 0 hts (gI mw_37) rfl rfl rfl (hts _ mw_17) (hts _ mw_35) (hts _ mw_36) rfl (by decide +kernel) ⟨Nat.le_of_ble_eq_true rfl, Nat.le_of_ble_eq_true rfl⟩) (my_preS hPc hK hDc hE hS hFc) rfl rfl hl.1 rfl (lv_room (Nat.le_of_ble_eq_true rfl)) dX7_init_9 ⟨Nat.le_of_ble_eq_true rfl, Nat.le_of_ble_eq_true rfl⟩) hS (fun q _ h => hFc q h) hFc (fun u t H1 locs ht hvm hw9 hB hz1 hk1 hS => ?_)
  obtain ⟨s_q1, s_q2, s_q3, s_q4, s_q5, s_q6, s_a, s_b, s_c, s_d, s_f, s_k, hP1, hD1⟩ := hB
  rw [ht] at hP1
  obtain ⟨hP, hD⟩ := my_join hP hD hk1 hFc hP1 hD1
  generalize H1 = H at hP hS ⊢
  clear hP1 hD1 hPc hDc hFc hk1 hz1 hvm ht
  have hP : va_P (dC, dI) vwCl ([(h0, eO 7 [.null, .null, .null, .null, .null, .null, .null, .int 0, .int 0, .int 0, .int 0, .int 0])] ++ cN cy nb q1 s_q1 s_q2 s_q3 s_q4 s_q5 s_q6 s_a s_b s_c s_d s_f s_k) H := hP
  have hD : va_D A ([(h0, eO 7 [.null, .null, .null, .null, .null, .null, .null, .int 0, .int 0, .int 0, .int 0, .int 0])] ++ cN cy nb q1 s_q1 s_q2 s_q3 s_q4 s_q5 s_q6 s_a s_b s_c s_d s_f s_k) := hD
  refine W.widen (k := 67) (n := 831) (by omega) (by omega) ?_
  refine va_putF (D := (dC, dI)) (ci := 7) (v := .ref q1) (ty := (.object "CardLine$Line")) (C := RX7) (T := TX7) (N := 12) hx hb hts inlX7 tyX7 tyX7_ok nmX7 hown hK hP hD hS 0 rfl rfl 0 (by decide) (hts _ mw_18) (fun _ h9 => h9) rfl hin rfl (by decide +kernel) rfl rfl (Nat.le_of_ble_eq_true rfl) dX7_init_12 (fun H locs hP hD hS => ?_)
  have hP : va_P (dC, dI) vwCl ([(h0, eO 7 [.ref q1, .null, .null, .null, .null, .null, .null, .int 0, .int 0, .int 0, .int 0, .int 0])] ++ cN cy nb q1 s_q1 s_q2 s_q3 s_q4 s_q5 s_q6 s_a s_b s_c s_d s_f s_k) H := hP
  have hD : va_D A ([(h0, eO 7 [.ref q1, .null, .null, .null, .null, .null, .null, .int 0, .int 0, .int 0, .int 0, .int 0])] ++ cN cy nb q1 s_q1 s_q2 s_q3 s_q4 s_q5 s_q6 s_a s_b s_c s_d s_f s_k) := hD
  refine lv_aload_n hx hb dX7_init_15 rfl (lv_at hl 0 rfl) ?_
  refine va_new (ci := 3) (fs := [.int 0, .int 0, .int 0, .int 0, .int 0, .int 0, .int 0, .int 0, .int 0, .int 0, .null, .null, .null, .null, .null, .null, .int 0]) (C := RX3) (T := TX3) (N := 17) hx hb hts inlX3 tyX3 tyX3_ok hown (hts _ mw_15) (hts _ mw_16) (hts _ mw_17) hK hP hD hS hA rfl (fun j hj => by match j, hj with | 0, _ => rfl | 1, _ => rfl | 2, _ => rfl | 3, _ => rfl | 4, _ => rfl | 5, _ => rfl | 6, _ => rfl | 7, _ => rfl | 8, _ => rfl | 9, _ => rfl | 10, _ => rfl | 11, _ => rfl | 12, _ => rfl | 13, _ => rfl | 14, _ => rfl | 15, _ => rfl | 16, _ => rfl | (n+17), h => omega) (Nat.le_of_ble_eq_true rfl) (Nat.le_of_ble_eq_true rfl) dX7_init_16 (fun q2 H hP hD hS => ?_)
  have hP : va_P (dC, dI) vwCl ([(h0, eO 7 [.ref q1, .null, .null, .null, .null, .null, .null, .int 0, .int 0, .int 0, .int 0, .int 0])] ++ cN cy nb q1 s_q1 s_q2 s_q3 s_q4 s_q5 s_q6 s_a s_b s_c s_d s_f s_k ++ [(q2, eO 3 [.int 0, .int 0, .int 0, .int 0, .int 0, .int 0, .int 0, .int 0, .int 0, .int 0, .null, .null, .null, .null, .null, .null, .int 0])]) H := hP
  have hD : va_D A ([(h0, eO 7 [.ref q1, .null, .null, .null, .null, .null, .null, .int 0, .int 0, .int 0, .int 0, .int 0])] ++ cN cy nb q1 s_q1 s_q2 s_q3 s_q4 s_q5 s_q6 s_a s_b s_c s_d s_f s_k ++ [(q2, eO 3 [.int 0, .int 0, .int 0, .int 0, .int 0, .int 0, .int 0, .int 0, .int 0, .int 0, .null, .null, .null, .null, .null, .null, .int 0])]) := hD
  refine W.widen (k := 68) (n := 848) (by omega) (by omega) ?_
  refine lv_dup hx hb dX7_init_19 rfl ?_
  have hPc := my_lastP hP
  have hDc := my_lastD hD
  have hFc := my_free hDc hS hA
  refine va_callv (va_runI (As := []) (rest := [.ref q2, .ref h0]) ⟨hx, hb, hml, hown, hts⟩ (c_X3_init l dC dI cy nb q2 H.size) (cwI 0 hts (gI mw_37) rfl rfl rfl (hts _ mw_17) (hts _ mw_35) (hts _ mw_36) rfl (by decide +kernel) ⟨Nat.le_of_ble_eq_true rfl, Nat.le_of_ble_eq_true rfl⟩) (my_preS hPc hK hDc hE hS hFc) rfl rfl hl.1 rfl (lv_room (Nat.le_of_ble_eq_true rfl)) dX7_init_20 ⟨Nat.le_of_ble_eq_true rfl, Nat.le_of_ble_eq_true rfl⟩) hS (fun q _ h => hFc q h) hFc (fun u t H1 locs ht hvm hw9 hB hz1 hk1 hS => ?_)
  obtain ⟨t_q1, t_q2, t_q3, t_q4, t_q5, t_q6, t_a, t_b, t_c, t_d, t_f, t_k, hP1, hD1⟩ := hB
  rw [ht] at hP1
  obtain ⟨hP, hD⟩ := my_join hP hD hk1 hFc hP1 hD1
  generalize H1 = H at hP hS ⊢
  clear hP1 hD1 hPc hDc hFc hk1 hz1 hvm ht
  have hP : va_P (dC, dI) vwCl ([(h0, eO 7 [.ref q1, .null, .null, .null, .null, .null, .null, .int 0, .int 0, .int 0, .int 0, .int 0])] ++ cN cy nb q1 s_q1 s_q2 s_q3 s_q4 s_q5 s_q6 s_a s_b s_c s_d s_f s_k ++ cN cy nb q2 t_q1 t_q2 t_q3 t_q4 t_q5 t_q6 t_a t_b t_c t_d t_f t_k) H := hP
  have hD : va_D A ([(h0, eO 7 [.ref q1, .null, .null, .null, .null, .null, .null, .int 0, .int 0, .int 0, .int 0, .int 0])] ++ cN cy nb q1 s_q1 s_q2 s_q3 s_q4 s_q5 s_q6 s_a s_b s_c s_d s_f s_k ++ cN cy nb q2 t_q1 t_q2 t_q3 t_q4 t_q5 t_q6 t_a t_b t_c t_d t_f t_k) := hD
  refine W.widen (k := 134) (n := 1662) (by omega) (by omega) ?_
  refine va_putF (D := (dC, dI)) (ci := 7) (v := .ref q2) (ty := (.object "CardLine$Line")) (C := RX7) (T := TX7) (N := 12) hx hb hts inlX7 tyX7 tyX7_ok nmX7 hown hK hP hD hS 0 rfl rfl 1 (by decide) (hts _ mw_19) (fun _ h9 => h9) rfl hin rfl (by decide +kernel) rfl rfl (Nat.le_of_ble_eq_true rfl) dX7_init_23 (fun H locs hP hD hS => ?_)
  have hP : va_P (dC, dI) vwCl ([(h0, eO 7 [.ref q1, .ref q2, .null, .null, .null, .null, .null, .int 0, .int 0, .int 0, .int 0, .int 0])] ++ cN cy nb q1 s_q1 s_q2 s_q3 s_q4 s_q5 s_q6 s_a s_b s_c s_d s_f s_k ++ cN cy nb q2 t_q1 t_q2 t_q3 t_q4 t_q5 t_q6 t_a t_b t_c t_d t_f t_k) H := hP
  have hD : va_D A ([(h0, eO 7 [.ref q1, .ref q2, .null, .null, .null, .null, .null, .int 0, .int 0, .int 0, .int 0, .int 0])] ++ cN cy nb q1 s_q1 s_q2 s_q3 s_q4 s_q5 s_q6 s_a s_b s_c s_d s_f s_k ++ cN cy nb q2 t_q1 t_q2 t_q3 t_q4 t_q5 t_q6 t_a t_b t_c t_d t_f t_k) := hD
  refine lv_aload_n hx hb dX7_init_26 rfl (lv_at hl 0 rfl) ?_
  refine va_new (ci := 5) (fs := [.null, .int 0, .int 0, .int 0, .int 0, .int 0, .null, .null, .null, .int 0, .int 0]) (C := RX5) (T := TX5) (N := 11) hx hb hts inlX5 tyX5 tyX5_ok hown (hts _ mw_20) (hts _ mw_21) (hts _ mw_22) hK hP hD hS hA rfl (fun j hj => by match j, hj with | 0, _ => rfl | 1, _ => rfl | 2, _ => rfl | 3, _ => rfl | 4, _ => rfl | 5, _ => rfl | 6, _ => rfl | 7, _ => rfl | 8, _ => rfl | 9, _ => rfl | 10, _ => rfl | (n+11), h => omega) (Nat.le_of_ble_eq_true rfl) (Nat.le_of_ble_eq_true rfl) dX7_init_27 (fun q3 H hP hD hS => ?_)
  have hP : va_P (dC, dI) vwCl ([(h0, eO 7 [.ref q1, .ref q2, .null, .null, .null, .null, .null, .int 0, .int 0, .int 0, .int 0, .int 0])] ++ cN cy nb q1 s_q1 s_q2 s_q3 s_q4 s_q5 s_q6 s_a s_b s_c s_d s_f s_k ++ cN cy nb q2 t_q1 t_q2 t_q3 t_q4 t_q5 t_q6 t_a t_b t_c t_d t_f t_k ++ [(q3, eO 5 [.null, .int 0, .int 0, .int 0, .int 0, .int 0, .null, .null, .null, .int 0, .int 0])]) H := hP
  have hD : va_D A ([(h0, eO 7 [.ref q1, .ref q2, .null, .null, .null, .null, .null, .int 0, .int 0, .int 0, .int 0, .int 0])] ++ cN cy nb q1 s_q1 s_q2 s_q3 s_q4 s_q5 s_q6 s_a s_b s_c s_d s_f s_k ++ cN cy nb q2 t_q1 t_q2 t_q3 t_q4 t_q5 t_q6 t_a t_b t_c t_d t_f t_k ++ [(q3, eO 5 [.null, .int 0, .int 0, .int 0, .int 0, .int 0, .null, .null, .null, .int 0, .int 0])]) := hD
  refine W.widen (k := 135) (n := 1673) (by omega) (by omega) ?_
  refine lv_dup hx hb dX7_init_30 rfl ?_
  have hPc := my_lastP hP
  have hDc := my_lastD hD
  have hFc := my_free hDc hS hA
  refine va_callv (va_runIN (As := []) (rest := [.ref q3, .ref h0]) ⟨hx, hb, hml, hown, hts⟩ (c_X5_init l dC dI cy nb q3 H.size) ⟨va_cnB 0 hts (gI mw_70) rfl rfl rfl (hE.n21) (hts _ mw_22) (by decide +kernel) ⟨Nat.le_of_ble_eq_true rfl, Nat.le_of_ble_eq_true rfl⟩, rfl, (hts _ mw_69)⟩ (my_preS hPc hK hDc hE hS hFc) rfl rfl hl.1 rfl (lv_room (Nat.le_of_ble_eq_true rfl)) dX7_init_31 ⟨Nat.le_of_ble_eq_true rfl, Nat.le_of_ble_eq_true rfl⟩) hS (fun q _ h => hFc q h) hFc (fun u t H1 locs ht hvm hw9 hB hz1 hk1 hS => ?_)
  obtain ⟨n4, n5, n6, n7, hP1, hD1⟩ := hB
  rw [ht] at hP1
  obtain ⟨hP, hD⟩ := my_join hP hD hk1 hFc hP1 hD1
  generalize H1 = H at hP hS ⊢
  clear hP1 hD1 hPc hDc hFc hk1 hz1 hvm ht
  have hP : va_P (dC, dI) vwCl ([(h0, eO 7 [.ref q1, .ref q2, .null, .null, .null, .null, .null, .int 0, .int 0, .int 0, .int 0, .int 0])] ++ cN cy nb q1 s_q1 s_q2 s_q3 s_q4 s_q5 s_q6 s_a s_b s_c s_d s_f s_k ++ cN cy nb q2 t_q1 t_q2 t_q3 t_q4 t_q5 t_q6 t_a t_b t_c t_d t_f t_k ++ [(q3, eO 5 [.ref n4, .int 0, .int 0, .int 0, .int 0, .int 0, .ref n5, .ref n6, .ref n7, .int 0, .int 0]), (n4, eI cy 0 600 (fun _ => 0)), (n5, eI cy 0 64 (fun _ => 0)), (n6, eI cy 1 4 (fun _ => 0)), (n7, eI cy 1 4 (fun _ => 0))]) H := hP
  have hD : va_D A ([(h0, eO 7 [.ref q1, .ref q2, .null, .null, .null, .null, .null, .int 0, .int 0, .int 0, .int 0, .int 0])] ++ cN cy nb q1 s_q1 s_q2 s_q3 s_q4 s_q5 s_q6 s_a s_b s_c s_d s_f s_k ++ cN cy nb q2 t_q1 t_q2 t_q3 t_q4 t_q5 t_q6 t_a t_b t_c t_d t_f t_k ++ [(q3, eO 5 [.ref n4, .int 0, .int 0, .int 0, .int 0, .int 0, .ref n5, .ref n6, .ref n7, .int 0, .int 0]), (n4, eI cy 0 600 (fun _ => 0)), (n5, eI cy 0 64 (fun _ => 0)), (n6, eI cy 1 4 (fun _ => 0)), (n7, eI cy 1 4 (fun _ => 0))]) := hD
  refine W.widen (k := 139) (n := 2345) (by omega) (by omega) ?_
  refine va_putF (D := (dC, dI)) (ci := 7) (v := .ref q3) (ty := (.object "CardLine$Reader")) (C := RX7) (T := TX7) (N := 12) hx hb hts inlX7 tyX7 tyX7_ok nmX7 hown hK hP hD hS 0 rfl rfl 2 (by decide) (hts _ mw_23) (fun _ h9 => h9) rfl hin rfl (by decide +kernel) rfl rfl (Nat.le_of_ble_eq_true rfl) dX7_init_34 (fun H locs hP hD hS => ?_)
  have hP : va_P (dC, dI) vwCl ([(h0, eO 7 [.ref q1, .ref q2, .ref q3, .null, .null, .null, .null, .int 0, .int 0, .int 0, .int 0, .int 0])] ++ cN cy nb q1 s_q1 s_q2 s_q3 s_q4 s_q5 s_q6 s_a s_b s_c s_d s_f s_k ++ cN cy nb q2 t_q1 t_q2 t_q3 t_q4 t_q5 t_q6 t_a t_b t_c t_d t_f t_k ++ [(q3, eO 5 [.ref n4, .int 0, .int 0, .int 0, .int 0, .int 0, .ref n5, .ref n6, .ref n7, .int 0, .int 0]), (n4, eI cy 0 600 (fun _ => 0)), (n5, eI cy 0 64 (fun _ => 0)), (n6, eI cy 1 4 (fun _ => 0)), (n7, eI cy 1 4 (fun _ => 0))]) H := hP
  have hD : va_D A ([(h0, eO 7 [.ref q1, .ref q2, .ref q3, .null, .null, .null, .null, .int 0, .int 0, .int 0, .int 0, .int 0])] ++ cN cy nb q1 s_q1 s_q2 s_q3 s_q4 s_q5 s_q6 s_a s_b s_c s_d s_f s_k ++ cN cy nb q2 t_q1 t_q2 t_q3 t_q4 t_q5 t_q6 t_a t_b t_c t_d t_f t_k ++ [(q3, eO 5 [.ref n4, .int 0, .int 0, .int 0, .int 0, .int 0, .ref n5, .ref n6, .ref n7, .int 0, .int 0]), (n4, eI cy 0 600 (fun _ => 0)), (n5, eI cy 0 64 (fun _ => 0)), (n6, eI cy 1 4 (fun _ => 0)), (n7, eI cy 1 4 (fun _ => 0))]) := hD
  refine lv_aload_n hx hb dX7_init_37 rfl (lv_at hl 0 rfl) ?_
  refine lv_bipush (v := 16) hx hb dX7_init_38 (by decide) ?_
  refine va_newa (atype := .byte) (ty := .byte) (a0 := (16, .inl (fun _ => 0))) hx hb (hts _ mw_24) rfl hK hP hD hS hA (fun _ => rfl) (by decide) (by decide) (Nat.le_of_ble_eq_true rfl) (Nat.le_of_ble_eq_true rfl) (Nat.le_of_ble_eq_true rfl) dX7_init_40 (fun q8 cA H hK9 hP hD hS => ?_)
  have hcA := my_cA hK9 hK 0 rfl
  subst hcA
  clear hK9
  have hP : va_P (dC, dI) vwCl ([(h0, eO 7 [.ref q1, .ref q2, .ref q3, .null, .null, .null, .null, .int 0, .int 0, .int 0, .int 0, .int 0])] ++ cN cy nb q1 s_q1 s_q2 s_q3 s_q4 s_q5 s_q6 s_a s_b s_c s_d s_f s_k ++ cN cy nb q2 t_q1 t_q2 t_q3 t_q4 t_q5 t_q6 t_a t_b t_c t_d t_f t_k ++ [(q3, eO 5 [.ref n4, .int 0, .int 0, .int 0, .int 0, .int 0, .ref n5, .ref n6, .ref n7, .int 0, .int 0]), (n4, eI cy 0 600 (fun _ => 0)), (n5, eI cy 0 64 (fun _ => 0)), (n6, eI cy 1 4 (fun _ => 0)), (n7, eI cy 1 4 (fun _ => 0))] ++ [(q8, eI cy 0 16 (fun _ => 0))]) H := hP
  have hD : va_D A ([(h0, eO 7 [.ref q1, .ref q2, .ref q3, .null, .null, .null, .null, .int 0, .int 0, .int 0, .int 0, .int 0])] ++ cN cy nb q1 s_q1 s_q2 s_q3 s_q4 s_q5 s_q6 s_a s_b s_c s_d s_f s_k ++ cN cy nb q2 t_q1 t_q2 t_q3 t_q4 t_q5 t_q6 t_a t_b t_c t_d t_f t_k ++ [(q3, eO 5 [.ref n4, .int 0, .int 0, .int 0, .int 0, .int 0, .ref n5, .ref n6, .ref n7, .int 0, .int 0]), (n4, eI cy 0 600 (fun _ => 0)), (n5, eI cy 0 64 (fun _ => 0)), (n6, eI cy 1 4 (fun _ => 0)), (n7, eI cy 1 4 (fun _ => 0))] ++ [(q8, eI cy 0 16 (fun _ => 0))]) := hD
  refine W.widen (k := 140) (n := 2361) (by omega) (by omega) ?_
  refine va_putF (D := (dC, dI)) (ci := 7) (v := .ref q8) (ty := (.array .byte)) (C := RX7) (T := TX7) (N := 12) hx hb hts inlX7 tyX7 tyX7_ok nmX7 hown hK hP hD hS 0 rfl rfl 3 (by decide) (hts _ mw_25) (fun _ h9 => h9) rfl hin rfl (by decide +kernel) rfl rfl (Nat.le_of_ble_eq_true rfl) dX7_init_42 (fun H locs hP hD hS => ?_)
  have hP : va_P (dC, dI) vwCl ([(h0, eO 7 [.ref q1, .ref q2, .ref q3, .ref q8, .null, .null, .null, .int 0, .int 0, .int 0, .int 0, .int 0])] ++ cN cy nb q1 s_q1 s_q2 s_q3 s_q4 s_q5 s_q6 s_a s_b s_c s_d s_f s_k ++ cN cy nb q2 t_q1 t_q2 t_q3 t_q4 t_q5 t_q6 t_a t_b t_c t_d t_f t_k ++ [(q3, eO 5 [.ref n4, .int 0, .int 0, .int 0, .int 0, .int 0, .ref n5, .ref n6, .ref n7, .int 0, .int 0]), (n4, eI cy 0 600 (fun _ => 0)), (n5, eI cy 0 64 (fun _ => 0)), (n6, eI cy 1 4 (fun _ => 0)), (n7, eI cy 1 4 (fun _ => 0))] ++ [(q8, eI cy 0 16 (fun _ => 0))]) H := hP
  have hD : va_D A ([(h0, eO 7 [.ref q1, .ref q2, .ref q3, .ref q8, .null, .null, .null, .int 0, .int 0, .int 0, .int 0, .int 0])] ++ cN cy nb q1 s_q1 s_q2 s_q3 s_q4 s_q5 s_q6 s_a s_b s_c s_d s_f s_k ++ cN cy nb q2 t_q1 t_q2 t_q3 t_q4 t_q5 t_q6 t_a t_b t_c t_d t_f t_k ++ [(q3, eO 5 [.ref n4, .int 0, .int 0, .int 0, .int 0, .int 0, .ref n5, .ref n6, .ref n7, .int 0, .int 0]), (n4, eI cy 0 600 (fun _ => 0)), (n5, eI cy 0 64 (fun _ => 0)), (n6, eI cy 1 4 (fun _ => 0)), (n7, eI cy 1 4 (fun _ => 0))] ++ [(q8, eI cy 0 16 (fun _ => 0))]) := hD
  refine lv_aload_n hx hb dX7_init_45 rfl (lv_at hl 0 rfl) ?_
  refine lv_bipush (v := 8) hx hb dX7_init_46 (by decide) ?_
  refine va_newq (C := RX3) (N' := 8) hx hb hown (hts _ mw_15) (hE.o3) hK hP hD hS hA (by decide) (by decide) (Nat.le_of_ble_eq_true rfl) (Nat.le_of_ble_eq_true rfl) (Nat.le_of_ble_eq_true rfl) dX7_init_48 (fun q9 cA H hK9 hP hD hS => ?_)
  have hcA := my_cA hK9 hK 5 rfl
  subst hcA
  clear hK9
  have hP : va_P (dC, dI) vwCl ([(h0, eO 7 [.ref q1, .ref q2, .ref q3, .ref q8, .null, .null, .null, .int 0, .int 0, .int 0, .int 0, .int 0])] ++ cN cy nb q1 s_q1 s_q2 s_q3 s_q4 s_q5 s_q6 s_a s_b s_c s_d s_f s_k ++ cN cy nb q2 t_q1 t_q2 t_q3 t_q4 t_q5 t_q6 t_a t_b t_c t_d t_f t_k ++ [(q3, eO 5 [.ref n4, .int 0, .int 0, .int 0, .int 0, .int 0, .ref n5, .ref n6, .ref n7, .int 0, .int 0]), (n4, eI cy 0 600 (fun _ => 0)), (n5, eI cy 0 64 (fun _ => 0)), (n6, eI cy 1 4 (fun _ => 0)), (n7, eI cy 1 4 (fun _ => 0))] ++ [(q8, eI cy 0 16 (fun _ => 0))] ++ [(q9, .inl (cy 5, 8, .inr (.inr (.inr (.inr (fun _ => none))))))]) H := hP
  have hD : va_D A ([(h0, eO 7 [.ref q1, .ref q2, .ref q3, .ref q8, .null, .null, .null, .int 0, .int 0, .int 0, .int 0, .int 0])] ++ cN cy nb q1 s_q1 s_q2 s_q3 s_q4 s_q5 s_q6 s_a s_b s_c s_d s_f s_k ++ cN cy nb q2 t_q1 t_q2 t_q3 t_q4 t_q5 t_q6 t_a t_b t_c t_d t_f t_k ++ [(q3, eO 5 [.ref n4, .int 0, .int 0, .int 0, .int 0, .int 0, .ref n5, .ref n6, .ref n7, .int 0, .int 0]), (n4, eI cy 0 600 (fun _ => 0)), (n5, eI cy 0 64 (fun _ => 0)), (n6, eI cy 1 4 (fun _ => 0)), (n7, eI cy 1 4 (fun _ => 0))] ++ [(q8, eI cy 0 16 (fun _ => 0))] ++ [(q9, .inl (cy 5, 8, .inr (.inr (.inr (.inr (fun _ => none))))))]) := hD
  refine W.widen (k := 141) (n := 2369) (by omega) (by omega) ?_
  refine va_putF (D := (dC, dI)) (ci := 7) (v := .ref q9) (ty := (.array (.object "CardLine$Line"))) (C := RX7) (T := TX7) (N := 12) hx hb hts inlX7 tyX7 tyX7_ok nmX7 hown hK hP hD hS 0 rfl rfl 4 (by decide) (hts _ mw_26) (fun _ h9 => h9) rfl hin rfl (by decide +kernel) rfl rfl (Nat.le_of_ble_eq_true rfl) dX7_init_51 (fun H locs hP hD hS => ?_)
  have hP : va_P (dC, dI) vwCl ([(h0, eO 7 [.ref q1, .ref q2, .ref q3, .ref q8, .ref q9, .null, .null, .int 0, .int 0, .int 0, .int 0, .int 0])] ++ cN cy nb q1 s_q1 s_q2 s_q3 s_q4 s_q5 s_q6 s_a s_b s_c s_d s_f s_k ++ cN cy nb q2 t_q1 t_q2 t_q3 t_q4 t_q5 t_q6 t_a t_b t_c t_d t_f t_k ++ [(q3, eO 5 [.ref n4, .int 0, .int 0, .int 0, .int 0, .int 0, .ref n5, .ref n6, .ref n7, .int 0, .int 0]), (n4, eI cy 0 600 (fun _ => 0)), (n5, eI cy 0 64 (fun _ => 0)), (n6, eI cy 1 4 (fun _ => 0)), (n7, eI cy 1 4 (fun _ => 0))] ++ [(q8, eI cy 0 16 (fun _ => 0))] ++ [(q9, .inl (cy 5, 8, .inr (.inr (.inr (.inr (fun _ => none))))))]) H := hP
  have hD : va_D A ([(h0, eO 7 [.ref q1, .ref q2, .ref q3, .ref q8, .ref q9, .null, .null, .int 0, .int 0, .int 0, .int 0, .int 0])] ++ cN cy nb q1 s_q1 s_q2 s_q3 s_q4 s_q5 s_q6 s_a s_b s_c s_d s_f s_k ++ cN cy nb q2 t_q1 t_q2 t_q3 t_q4 t_q5 t_q6 t_a t_b t_c t_d t_f t_k ++ [(q3, eO 5 [.ref n4, .int 0, .int 0, .int 0, .int 0, .int 0, .ref n5, .ref n6, .ref n7, .int 0, .int 0]), (n4, eI cy 0 600 (fun _ => 0)), (n5, eI cy 0 64 (fun _ => 0)), (n6, eI cy 1 4 (fun _ => 0)), (n7, eI cy 1 4 (fun _ => 0))] ++ [(q8, eI cy 0 16 (fun _ => 0))] ++ [(q9, .inl (cy 5, 8, .inr (.inr (.inr (.inr (fun _ => none))))))]) := hD
  refine lv_aload_n hx hb dX7_init_54 rfl (lv_at hl 0 rfl) ?_
  refine lv_iconst (v := 2) hx hb dX7_init_55 (by decide) ?_
  refine va_newq (C := RX3) (N' := 2) hx hb hown (hts _ mw_15) (hE.o3) hK hP hD hS hA (by decide) (by decide) (Nat.le_of_ble_eq_true rfl) (Nat.le_of_ble_eq_true rfl) (Nat.le_of_ble_eq_true rfl) dX7_init_56 (fun q10 cA H hK9 hP hD hS => ?_)
  have hcA := my_cA hK9 hK 5 rfl
  subst hcA
  clear hK9
  have hP : va_P (dC, dI) vwCl ([(h0, eO 7 [.ref q1, .ref q2, .ref q3, .ref q8, .ref q9, .null, .null, .int 0, .int 0, .int 0, .int 0, .int 0])] ++ cN cy nb q1 s_q1 s_q2 s_q3 s_q4 s_q5 s_q6 s_a s_b s_c s_d s_f s_k ++ cN cy nb q2 t_q1 t_q2 t_q3 t_q4 t_q5 t_q6 t_a t_b t_c t_d t_f t_k ++ [(q3, eO 5 [.ref n4, .int 0, .int 0, .int 0, .int 0, .int 0, .ref n5, .ref n6, .ref n7, .int 0, .int 0]), (n4, eI cy 0 600 (fun _ => 0)), (n5, eI cy 0 64 (fun _ => 0)), (n6, eI cy 1 4 (fun _ => 0)), (n7, eI cy 1 4 (fun _ => 0))] ++ [(q8, eI cy 0 16 (fun _ => 0))] ++ [(q9, .inl (cy 5, 8, .inr (.inr (.inr (.inr (fun _ => none))))))] ++ [(q10, .inl (cy 5, 2, .inr (.inr (.inr (.inr (fun _ => none))))))]) H := hP
  have hD : va_D A ([(h0, eO 7 [.ref q1, .ref q2, .ref q3, .ref q8, .ref q9, .null, .null, .int 0, .int 0, .int 0, .int 0, .int 0])] ++ cN cy nb q1 s_q1 s_q2 s_q3 s_q4 s_q5 s_q6 s_a s_b s_c s_d s_f s_k ++ cN cy nb q2 t_q1 t_q2 t_q3 t_q4 t_q5 t_q6 t_a t_b t_c t_d t_f t_k ++ [(q3, eO 5 [.ref n4, .int 0, .int 0, .int 0, .int 0, .int 0, .ref n5, .ref n6, .ref n7, .int 0, .int 0]), (n4, eI cy 0 600 (fun _ => 0)), (n5, eI cy 0 64 (fun _ => 0)), (n6, eI cy 1 4 (fun _ => 0)), (n7, eI cy 1 4 (fun _ => 0))] ++ [(q8, eI cy 0 16 (fun _ => 0))] ++ [(q9, .inl (cy 5, 8, .inr (.inr (.inr (.inr (fun _ => none))))))] ++ [(q10, .inl (cy 5, 2, .inr (.inr (.inr (.inr (fun _ => none))))))]) := hD
  refine W.widen (k := 142) (n := 2371) (by omega) (by omega) ?_
  refine va_putF (D := (dC, dI)) (ci := 7) (v := .ref q10) (ty := (.array (.object "CardLine$Line"))) (C := RX7) (T := TX7) (N := 12) hx hb hts inlX7 tyX7 tyX7_ok nmX7 hown hK hP hD hS 0 rfl rfl 5 (by decide) (hts _ mw_27) (fun _ h9 => h9) rfl hin rfl (by decide +kernel) rfl rfl (Nat.le_of_ble_eq_true rfl) dX7_init_59 (fun H locs hP hD hS => ?_)
  have hP : va_P (dC, dI) vwCl ([(h0, eO 7 [.ref q1, .ref q2, .ref q3, .ref q8, .ref q9, .ref q10, .null, .int 0, .int 0, .int 0, .int 0, .int 0])] ++ cN cy nb q1 s_q1 s_q2 s_q3 s_q4 s_q5 s_q6 s_a s_b s_c s_d s_f s_k ++ cN cy nb q2 t_q1 t_q2 t_q3 t_q4 t_q5 t_q6 t_a t_b t_c t_d t_f t_k ++ [(q3, eO 5 [.ref n4, .int 0, .int 0, .int 0, .int 0, .int 0, .ref n5, .ref n6, .ref n7, .int 0, .int 0]), (n4, eI cy 0 600 (fun _ => 0)), (n5, eI cy 0 64 (fun _ => 0)), (n6, eI cy 1 4 (fun _ => 0)), (n7, eI cy 1 4 (fun _ => 0))] ++ [(q8, eI cy 0 16 (fun _ => 0))] ++ [(q9, .inl (cy 5, 8, .inr (.inr (.inr (.inr (fun _ => none))))))] ++ [(q10, .inl (cy 5, 2, .inr (.inr (.inr (.inr (fun _ => none))))))]) H := hP
  have hD : va_D A ([(h0, eO 7 [.ref q1, .ref q2, .ref q3, .ref q8, .ref q9, .ref q10, .null, .int 0, .int 0, .int 0, .int 0, .int 0])] ++ cN cy nb q1 s_q1 s_q2 s_q3 s_q4 s_q5 s_q6 s_a s_b s_c s_d s_f s_k ++ cN cy nb q2 t_q1 t_q2 t_q3 t_q4 t_q5 t_q6 t_a t_b t_c t_d t_f t_k ++ [(q3, eO 5 [.ref n4, .int 0, .int 0, .int 0, .int 0, .int 0, .ref n5, .ref n6, .ref n7, .int 0, .int 0]), (n4, eI cy 0 600 (fun _ => 0)), (n5, eI cy 0 64 (fun _ => 0)), (n6, eI cy 1 4 (fun _ => 0)), (n7, eI cy 1 4 (fun _ => 0))] ++ [(q8, eI cy 0 16 (fun _ => 0))] ++ [(q9, .inl (cy 5, 8, .inr (.inr (.inr (.inr (fun _ => none))))))] ++ [(q10, .inl (cy 5, 2, .inr (.inr (.inr (.inr (fun _ => none))))))]) := hD
  refine lv_aload_n hx hb dX7_init_62 rfl (lv_at hl 0 rfl) ?_
  refine lv_bipush (v := 6) hx hb dX7_init_63 (by decide) ?_
  refine va_newa (atype := .int) (ty := .int) (a0 := (6, .inl (fun _ => 0))) hx hb (hts _ mw_28) rfl hK hP hD hS hA (fun _ => rfl) (by decide) (by decide) (Nat.le_of_ble_eq_true rfl) (Nat.le_of_ble_eq_true rfl) (Nat.le_of_ble_eq_true rfl) dX7_init_65 (fun q11 cA H hK9 hP hD hS => ?_)
  have hcA := my_cA hK9 hK 1 rfl
  subst hcA
  clear hK9
  have hP : va_P (dC, dI) vwCl ([(h0, eO 7 [.ref q1, .ref q2, .ref q3, .ref q8, .ref q9, .ref q10, .null, .int 0, .int 0, .int 0, .int 0, .int 0])] ++ cN cy nb q1 s_q1 s_q2 s_q3 s_q4 s_q5 s_q6 s_a s_b s_c s_d s_f s_k ++ cN cy nb q2 t_q1 t_q2 t_q3 t_q4 t_q5 t_q6 t_a t_b t_c t_d t_f t_k ++ [(q3, eO 5 [.ref n4, .int 0, .int 0, .int 0, .int 0, .int 0, .ref n5, .ref n6, .ref n7, .int 0, .int 0]), (n4, eI cy 0 600 (fun _ => 0)), (n5, eI cy 0 64 (fun _ => 0)), (n6, eI cy 1 4 (fun _ => 0)), (n7, eI cy 1 4 (fun _ => 0))] ++ [(q8, eI cy 0 16 (fun _ => 0))] ++ [(q9, .inl (cy 5, 8, .inr (.inr (.inr (.inr (fun _ => none))))))] ++ [(q10, .inl (cy 5, 2, .inr (.inr (.inr (.inr (fun _ => none))))))] ++ [(q11, eI cy 1 6 (fun _ => 0))]) H := hP
  have hD : va_D A ([(h0, eO 7 [.ref q1, .ref q2, .ref q3, .ref q8, .ref q9, .ref q10, .null, .int 0, .int 0, .int 0, .int 0, .int 0])] ++ cN cy nb q1 s_q1 s_q2 s_q3 s_q4 s_q5 s_q6 s_a s_b s_c s_d s_f s_k ++ cN cy nb q2 t_q1 t_q2 t_q3 t_q4 t_q5 t_q6 t_a t_b t_c t_d t_f t_k ++ [(q3, eO 5 [.ref n4, .int 0, .int 0, .int 0, .int 0, .int 0, .ref n5, .ref n6, .ref n7, .int 0, .int 0]), (n4, eI cy 0 600 (fun _ => 0)), (n5, eI cy 0 64 (fun _ => 0)), (n6, eI cy 1 4 (fun _ => 0)), (n7, eI cy 1 4 (fun _ => 0))] ++ [(q8, eI cy 0 16 (fun _ => 0))] ++ [(q9, .inl (cy 5, 8, .inr (.inr (.inr (.inr (fun _ => none))))))] ++ [(q10, .inl (cy 5, 2, .inr (.inr (.inr (.inr (fun _ => none))))))] ++ [(q11, eI cy 1 6 (fun _ => 0))]) := hD
  refine W.widen (k := 143) (n := 2377) (by omega) (by omega) ?_
  refine va_putF (D := (dC, dI)) (ci := 7) (v := .ref q11) (ty := (.array .int)) (C := RX7) (T := TX7) (N := 12) hx hb hts inlX7 tyX7 tyX7_ok nmX7 hown hK hP hD hS 0 rfl rfl 6 (by decide) (hts _ mw_29) (fun _ h9 => h9) rfl hin rfl (by decide +kernel) rfl rfl (Nat.le_of_ble_eq_true rfl) dX7_init_67 (fun H locs hP hD hS => ?_)
  have hP : va_P (dC, dI) vwCl ([(h0, eO 7 [.ref q1, .ref q2, .ref q3, .ref q8, .ref q9, .ref q10, .ref q11, .int 0, .int 0, .int 0, .int 0, .int 0])] ++ cN cy nb q1 s_q1 s_q2 s_q3 s_q4 s_q5 s_q6 s_a s_b s_c s_d s_f s_k ++ cN cy nb q2 t_q1 t_q2 t_q3 t_q4 t_q5 t_q6 t_a t_b t_c t_d t_f t_k ++ [(q3, eO 5 [.ref n4, .int 0, .int 0, .int 0, .int 0, .int 0, .ref n5, .ref n6, .ref n7, .int 0, .int 0]), (n4, eI cy 0 600 (fun _ => 0)), (n5, eI cy 0 64 (fun _ => 0)), (n6, eI cy 1 4 (fun _ => 0)), (n7, eI cy 1 4 (fun _ => 0))] ++ [(q8, eI cy 0 16 (fun _ => 0))] ++ [(q9, .inl (cy 5, 8, .inr (.inr (.inr (.inr (fun _ => none))))))] ++ [(q10, .inl (cy 5, 2, .inr (.inr (.inr (.inr (fun _ => none))))))] ++ [(q11, eI cy 1 6 (fun _ => 0))]) H := hP
  have hD : va_D A ([(h0, eO 7 [.ref q1, .ref q2, .ref q3, .ref q8, .ref q9, .ref q10, .ref q11, .int 0, .int 0, .int 0, .int 0, .int 0])] ++ cN cy nb q1 s_q1 s_q2 s_q3 s_q4 s_q5 s_q6 s_a s_b s_c s_d s_f s_k ++ cN cy nb q2 t_q1 t_q2 t_q3 t_q4 t_q5 t_q6 t_a t_b t_c t_d t_f t_k ++ [(q3, eO 5 [.ref n4, .int 0, .int 0, .int 0, .int 0, .int 0, .ref n5, .ref n6, .ref n7, .int 0, .int 0]), (n4, eI cy 0 600 (fun _ => 0)), (n5, eI cy 0 64 (fun _ => 0)), (n6, eI cy 1 4 (fun _ => 0)), (n7, eI cy 1 4 (fun _ => 0))] ++ [(q8, eI cy 0 16 (fun _ => 0))] ++ [(q9, .inl (cy 5, 8, .inr (.inr (.inr (.inr (fun _ => none))))))] ++ [(q10, .inl (cy 5, 2, .inr (.inr (.inr (.inr (fun _ => none))))))] ++ [(q11, eI cy 1 6 (fun _ => 0))]) := hD
  refine lv_aload_n hx hb dX7_init_70 rfl (lv_at hl 0 rfl) ?_
  refine lv_iconst (v := 0) hx hb dX7_init_71 (by decide) ?_
  refine va_put (D := (dC, dI)) (ci := 7) (v := .int 0) (ty := .int) (C := RX7) (T := TX7) (N := 12) hx hb hts inlX7 tyX7 tyX7_ok nmX7 hown hK hP hD hS 0 rfl rfl 7 (by decide) (hts _ mw_30) (fun _ h9 => h9) rfl (by decide +kernel) rfl rfl (Nat.le_of_ble_eq_true rfl) dX7_init_72 (fun H locs hP hD hS => ?_)
  have hP : va_P (dC, dI) vwCl ([(h0, eO 7 [.ref q1, .ref q2, .ref q3, .ref q8, .ref q9, .ref q10, .ref q11, .int 0, .int 0, .int 0, .int 0, .int 0])] ++ cN cy nb q1 s_q1 s_q2 s_q3 s_q4 s_q5 s_q6 s_a s_b s_c s_d s_f s_k ++ cN cy nb q2 t_q1 t_q2 t_q3 t_q4 t_q5 t_q6 t_a t_b t_c t_d t_f t_k ++ [(q3, eO 5 [.ref n4, .int 0, .int 0, .int 0, .int 0, .int 0, .ref n5, .ref n6, .ref n7, .int 0, .int 0]), (n4, eI cy 0 600 (fun _ => 0)), (n5, eI cy 0 64 (fun _ => 0)), (n6, eI cy 1 4 (fun _ => 0)), (n7, eI cy 1 4 (fun _ => 0))] ++ [(q8, eI cy 0 16 (fun _ => 0))] ++ [(q9, .inl (cy 5, 8, .inr (.inr (.inr (.inr (fun _ => none))))))] ++ [(q10, .inl (cy 5, 2, .inr (.inr (.inr (.inr (fun _ => none))))))] ++ [(q11, eI cy 1 6 (fun _ => 0))]) H := hP
  have hD : va_D A ([(h0, eO 7 [.ref q1, .ref q2, .ref q3, .ref q8, .ref q9, .ref q10, .ref q11, .int 0, .int 0, .int 0, .int 0, .int 0])] ++ cN cy nb q1 s_q1 s_q2 s_q3 s_q4 s_q5 s_q6 s_a s_b s_c s_d s_f s_k ++ cN cy nb q2 t_q1 t_q2 t_q3 t_q4 t_q5 t_q6 t_a t_b t_c t_d t_f t_k ++ [(q3, eO 5 [.ref n4, .int 0, .int 0, .int 0, .int 0, .int 0, .ref n5, .ref n6, .ref n7, .int 0, .int 0]), (n4, eI cy 0 600 (fun _ => 0)), (n5, eI cy 0 64 (fun _ => 0)), (n6, eI cy 1 4 (fun _ => 0)), (n7, eI cy 1 4 (fun _ => 0))] ++ [(q8, eI cy 0 16 (fun _ => 0))] ++ [(q9, .inl (cy 5, 8, .inr (.inr (.inr (.inr (fun _ => none))))))] ++ [(q10, .inl (cy 5, 2, .inr (.inr (.inr (.inr (fun _ => none))))))] ++ [(q11, eI cy 1 6 (fun _ => 0))]) := hD
  refine lv_aload_n hx hb dX7_init_75 rfl (lv_at hl 0 rfl) ?_
  refine lv_iconst (v := 0) hx hb dX7_init_76 (by decide) ?_
  refine va_put (D := (dC, dI)) (ci := 7) (v := .int 0) (ty := .int) (C := RX7) (T := TX7) (N := 12) hx hb hts inlX7 tyX7 tyX7_ok nmX7 hown hK hP hD hS 0 rfl rfl 8 (by decide) (hts _ mw_31) (fun _ h9 => h9) rfl (by decide +kernel) rfl rfl (Nat.le_of_ble_eq_true rfl) dX7_init_77 (fun H locs hP hD hS => ?_)
  have hP : va_P (dC, dI) vwCl ([(h0, eO 7 [.ref q1, .ref q2, .ref q3, .ref q8, .ref q9, .ref q10, .ref q11, .int 0, .int 0, .int 0, .int 0, .int 0])] ++ cN cy nb q1 s_q1 s_q2 s_q3 s_q4 s_q5 s_q6 s_a s_b s_c s_d s_f s_k ++ cN cy nb q2 t_q1 t_q2 t_q3 t_q4 t_q5 t_q6 t_a t_b t_c t_d t_f t_k ++ [(q3, eO 5 [.ref n4, .int 0, .int 0, .int 0, .int 0, .int 0, .ref n5, .ref n6, .ref n7, .int 0, .int 0]), (n4, eI cy 0 600 (fun _ => 0)), (n5, eI cy 0 64 (fun _ => 0)), (n6, eI cy 1 4 (fun _ => 0)), (n7, eI cy 1 4 (fun _ => 0))] ++ [(q8, eI cy 0 16 (fun _ => 0))] ++ [(q9, .inl (cy 5, 8, .inr (.inr (.inr (.inr (fun _ => none))))))] ++ [(q10, .inl (cy 5, 2, .inr (.inr (.inr (.inr (fun _ => none))))))] ++ [(q11, eI cy 1 6 (fun _ => 0))]) H := hP
  have hD : va_D A ([(h0, eO 7 [.ref q1, .ref q2, .ref q3, .ref q8, .ref q9, .ref q10, .ref q11, .int 0, .int 0, .int 0, .int 0, .int 0])] ++ cN cy nb q1 s_q1 s_q2 s_q3 s_q4 s_q5 s_q6 s_a s_b s_c s_d s_f s_k ++ cN cy nb q2 t_q1 t_q2 t_q3 t_q4 t_q5 t_q6 t_a t_b t_c t_d t_f t_k ++ [(q3, eO 5 [.ref n4, .int 0, .int 0, .int 0, .int 0, .int 0, .ref n5, .ref n6, .ref n7, .int 0, .int 0]), (n4, eI cy 0 600 (fun _ => 0)), (n5, eI cy 0 64 (fun _ => 0)), (n6, eI cy 1 4 (fun _ => 0)), (n7, eI cy 1 4 (fun _ => 0))] ++ [(q8, eI cy 0 16 (fun _ => 0))] ++ [(q9, .inl (cy 5, 8, .inr (.inr (.inr (.inr (fun _ => none))))))] ++ [(q10, .inl (cy 5, 2, .inr (.inr (.inr (.inr (fun _ => none))))))] ++ [(q11, eI cy 1 6 (fun _ => 0))]) := hD
  refine lv_aload_n hx hb dX7_init_80 rfl (lv_at hl 0 rfl) ?_
  refine lv_iconst (v := (-1)) hx hb dX7_init_81 (by decide) ?_
  refine va_put (D := (dC, dI)) (ci := 7) (v := .int (-1)) (ty := .int) (C := RX7) (T := TX7) (N := 12) hx hb hts inlX7 tyX7 tyX7_ok nmX7 hown hK hP hD hS 0 rfl rfl 9 (by decide) (hts _ mw_32) (fun _ h9 => h9) rfl (by decide +kernel) rfl rfl (Nat.le_of_ble_eq_true rfl) dX7_init_82 (fun H locs hP hD hS => ?_)
  have hP : va_P (dC, dI) vwCl ([(h0, eO 7 [.ref q1, .ref q2, .ref q3, .ref q8, .ref q9, .ref q10, .ref q11, .int 0, .int 0, .int (-1), .int 0, .int 0])] ++ cN cy nb q1 s_q1 s_q2 s_q3 s_q4 s_q5 s_q6 s_a s_b s_c s_d s_f s_k ++ cN cy nb q2 t_q1 t_q2 t_q3 t_q4 t_q5 t_q6 t_a t_b t_c t_d t_f t_k ++ [(q3, eO 5 [.ref n4, .int 0, .int 0, .int 0, .int 0, .int 0, .ref n5, .ref n6, .ref n7, .int 0, .int 0]), (n4, eI cy 0 600 (fun _ => 0)), (n5, eI cy 0 64 (fun _ => 0)), (n6, eI cy 1 4 (fun _ => 0)), (n7, eI cy 1 4 (fun _ => 0))] ++ [(q8, eI cy 0 16 (fun _ => 0))] ++ [(q9, .inl (cy 5, 8, .inr (.inr (.inr (.inr (fun _ => none))))))] ++ [(q10, .inl (cy 5, 2, .inr (.inr (.inr (.inr (fun _ => none))))))] ++ [(q11, eI cy 1 6 (fun _ => 0))]) H := hP
  have hD : va_D A ([(h0, eO 7 [.ref q1, .ref q2, .ref q3, .ref q8, .ref q9, .ref q10, .ref q11, .int 0, .int 0, .int (-1), .int 0, .int 0])] ++ cN cy nb q1 s_q1 s_q2 s_q3 s_q4 s_q5 s_q6 s_a s_b s_c s_d s_f s_k ++ cN cy nb q2 t_q1 t_q2 t_q3 t_q4 t_q5 t_q6 t_a t_b t_c t_d t_f t_k ++ [(q3, eO 5 [.ref n4, .int 0, .int 0, .int 0, .int 0, .int 0, .ref n5, .ref n6, .ref n7, .int 0, .int 0]), (n4, eI cy 0 600 (fun _ => 0)), (n5, eI cy 0 64 (fun _ => 0)), (n6, eI cy 1 4 (fun _ => 0)), (n7, eI cy 1 4 (fun _ => 0))] ++ [(q8, eI cy 0 16 (fun _ => 0))] ++ [(q9, .inl (cy 5, 8, .inr (.inr (.inr (.inr (fun _ => none))))))] ++ [(q10, .inl (cy 5, 2, .inr (.inr (.inr (.inr (fun _ => none))))))] ++ [(q11, eI cy 1 6 (fun _ => 0))]) := hD
  refine lv_aload_n hx hb dX7_init_85 rfl (lv_at hl 0 rfl) ?_
  refine lv_iconst (v := 0) hx hb dX7_init_86 (by decide) ?_
  refine va_put (D := (dC, dI)) (ci := 7) (v := .int 0) (ty := .int) (C := RX7) (T := TX7) (N := 12) hx hb hts inlX7 tyX7 tyX7_ok nmX7 hown hK hP hD hS 0 rfl rfl 10 (by decide) (hts _ mw_33) (fun _ h9 => h9) rfl (by decide +kernel) rfl rfl (Nat.le_of_ble_eq_true rfl) dX7_init_87 (fun H locs hP hD hS => ?_)
  have hP : va_P (dC, dI) vwCl ([(h0, eO 7 [.ref q1, .ref q2, .ref q3, .ref q8, .ref q9, .ref q10, .ref q11, .int 0, .int 0, .int (-1), .int 0, .int 0])] ++ cN cy nb q1 s_q1 s_q2 s_q3 s_q4 s_q5 s_q6 s_a s_b s_c s_d s_f s_k ++ cN cy nb q2 t_q1 t_q2 t_q3 t_q4 t_q5 t_q6 t_a t_b t_c t_d t_f t_k ++ [(q3, eO 5 [.ref n4, .int 0, .int 0, .int 0, .int 0, .int 0, .ref n5, .ref n6, .ref n7, .int 0, .int 0]), (n4, eI cy 0 600 (fun _ => 0)), (n5, eI cy 0 64 (fun _ => 0)), (n6, eI cy 1 4 (fun _ => 0)), (n7, eI cy 1 4 (fun _ => 0))] ++ [(q8, eI cy 0 16 (fun _ => 0))] ++ [(q9, .inl (cy 5, 8, .inr (.inr (.inr (.inr (fun _ => none))))))] ++ [(q10, .inl (cy 5, 2, .inr (.inr (.inr (.inr (fun _ => none))))))] ++ [(q11, eI cy 1 6 (fun _ => 0))]) H := hP
  have hD : va_D A ([(h0, eO 7 [.ref q1, .ref q2, .ref q3, .ref q8, .ref q9, .ref q10, .ref q11, .int 0, .int 0, .int (-1), .int 0, .int 0])] ++ cN cy nb q1 s_q1 s_q2 s_q3 s_q4 s_q5 s_q6 s_a s_b s_c s_d s_f s_k ++ cN cy nb q2 t_q1 t_q2 t_q3 t_q4 t_q5 t_q6 t_a t_b t_c t_d t_f t_k ++ [(q3, eO 5 [.ref n4, .int 0, .int 0, .int 0, .int 0, .int 0, .ref n5, .ref n6, .ref n7, .int 0, .int 0]), (n4, eI cy 0 600 (fun _ => 0)), (n5, eI cy 0 64 (fun _ => 0)), (n6, eI cy 1 4 (fun _ => 0)), (n7, eI cy 1 4 (fun _ => 0))] ++ [(q8, eI cy 0 16 (fun _ => 0))] ++ [(q9, .inl (cy 5, 8, .inr (.inr (.inr (.inr (fun _ => none))))))] ++ [(q10, .inl (cy 5, 2, .inr (.inr (.inr (.inr (fun _ => none))))))] ++ [(q11, eI cy 1 6 (fun _ => 0))]) := hD
  refine lv_aload_n hx hb dX7_init_90 rfl (lv_at hl 0 rfl) ?_
  refine lv_iconst (v := 0) hx hb dX7_init_91 (by decide) ?_
  refine va_put (D := (dC, dI)) (ci := 7) (v := .int 0) (ty := .int) (C := RX7) (T := TX7) (N := 12) hx hb hts inlX7 tyX7 tyX7_ok nmX7 hown hK hP hD hS 0 rfl rfl 11 (by decide) (hts _ mw_34) (fun _ h9 => h9) rfl (by decide +kernel) rfl rfl (Nat.le_of_ble_eq_true rfl) dX7_init_92 (fun H locs hP hD hS => ?_)
  have hP : va_P (dC, dI) vwCl ([(h0, eO 7 [.ref q1, .ref q2, .ref q3, .ref q8, .ref q9, .ref q10, .ref q11, .int 0, .int 0, .int (-1), .int 0, .int 0])] ++ cN cy nb q1 s_q1 s_q2 s_q3 s_q4 s_q5 s_q6 s_a s_b s_c s_d s_f s_k ++ cN cy nb q2 t_q1 t_q2 t_q3 t_q4 t_q5 t_q6 t_a t_b t_c t_d t_f t_k ++ [(q3, eO 5 [.ref n4, .int 0, .int 0, .int 0, .int 0, .int 0, .ref n5, .ref n6, .ref n7, .int 0, .int 0]), (n4, eI cy 0 600 (fun _ => 0)), (n5, eI cy 0 64 (fun _ => 0)), (n6, eI cy 1 4 (fun _ => 0)), (n7, eI cy 1 4 (fun _ => 0))] ++ [(q8, eI cy 0 16 (fun _ => 0))] ++ [(q9, .inl (cy 5, 8, .inr (.inr (.inr (.inr (fun _ => none))))))] ++ [(q10, .inl (cy 5, 2, .inr (.inr (.inr (.inr (fun _ => none))))))] ++ [(q11, eI cy 1 6 (fun _ => 0))]) H := hP
  have hD : va_D A ([(h0, eO 7 [.ref q1, .ref q2, .ref q3, .ref q8, .ref q9, .ref q10, .ref q11, .int 0, .int 0, .int (-1), .int 0, .int 0])] ++ cN cy nb q1 s_q1 s_q2 s_q3 s_q4 s_q5 s_q6 s_a s_b s_c s_d s_f s_k ++ cN cy nb q2 t_q1 t_q2 t_q3 t_q4 t_q5 t_q6 t_a t_b t_c t_d t_f t_k ++ [(q3, eO 5 [.ref n4, .int 0, .int 0, .int 0, .int 0, .int 0, .ref n5, .ref n6, .ref n7, .int 0, .int 0]), (n4, eI cy 0 600 (fun _ => 0)), (n5, eI cy 0 64 (fun _ => 0)), (n6, eI cy 1 4 (fun _ => 0)), (n7, eI cy 1 4 (fun _ => 0))] ++ [(q8, eI cy 0 16 (fun _ => 0))] ++ [(q9, .inl (cy 5, 8, .inr (.inr (.inr (.inr (fun _ => none))))))] ++ [(q10, .inl (cy 5, 2, .inr (.inr (.inr (.inr (fun _ => none))))))] ++ [(q11, eI cy 1 6 (fun _ => 0))]) := hD
  refine lv_aload_n hx hb dX7_init_95 rfl (lv_at hl 0 rfl) ?_
  refine va_get (D := (dC, dI)) (ci := 7) (v := .ref q1) (C := RX7) (T := TX7) (N := 12) hx hb hts inlX7 hown hK hP 0 rfl rfl 0 (by decide) (hts _ mw_18) (fun _ h9 => h9) rfl dX7_init_96 ?_
  refine lv_sipush (v := 480) hx hb dX7_init_99 (by decide) ?_
  refine lv_iconst (v := 0) hx hb dX7_init_102 (by decide) ?_
  refine lv_iconst (v := 1) hx hb dX7_init_103 (by decide) ?_
  refine lv_iconst (v := 1) hx hb dX7_init_104 (by decide) ?_
  have eW : ([(h0, eO 7 [.ref q1, .ref q2, .ref q3, .ref q8, .ref q9, .ref q10, .ref q11, .int 0, .int 0, .int (-1), .int 0, .int 0])] ++ cN cy nb q1 s_q1 s_q2 s_q3 s_q4 s_q5 s_q6 s_a s_b s_c s_d s_f s_k ++ cN cy nb q2 t_q1 t_q2 t_q3 t_q4 t_q5 t_q6 t_a t_b t_c t_d t_f t_k ++ [(q3, eO 5 [.ref n4, .int 0, .int 0, .int 0, .int 0, .int 0, .ref n5, .ref n6, .ref n7, .int 0, .int 0]), (n4, eI cy 0 600 (fun _ => 0)), (n5, eI cy 0 64 (fun _ => 0)), (n6, eI cy 1 4 (fun _ => 0)), (n7, eI cy 1 4 (fun _ => 0))] ++ [(q8, eI cy 0 16 (fun _ => 0))] ++ [(q9, .inl (cy 5, 8, .inr (.inr (.inr (.inr (fun _ => none))))))] ++ [(q10, .inl (cy 5, 2, .inr (.inr (.inr (.inr (fun _ => none))))))] ++ [(q11, eI cy 1 6 (fun _ => 0))]) = WC cy (adl (adl (adB h0 q3 q8 q9 q10 q11 n4 n5 n6 n7 (nb 0)) 0 q1 s_q1 s_q2 s_q3 s_q4 s_q5 s_q6 s_a s_b s_c s_d s_f s_k) 1 q2 t_q1 t_q2 t_q3 t_q4 t_q5 t_q6 t_a t_b t_c t_d t_f t_k) KS0 gz0 uP := by
    rw [← ctor_cells]
    simp only [List.append_assoc, List.cons_append, List.nil_append, cO, eO, eI]
  rw [eW] at hP hD
  clear eW
  have hk : GA nb (adl (adl (adB h0 q3 q8 q9 q10 q11 n4 n5 n6 n7 (nb 0)) 0 q1 s_q1 s_q2 s_q3 s_q4 s_q5 s_q6 s_a s_b s_c s_d s_f s_k) 1 q2 t_q1 t_q2 t_q3 t_q4 t_q5 t_q6 t_a t_b t_c t_d t_f t_k) gz0 KS0 := ⟨ks0_gk, rfl⟩
  have h_L : has gz0 (.ln 0) := inl0.mpr (Or.inl rfl)
  obtain ⟨uz, hF, -⟩ := begin_C (g := gz0) (u := uP) (L := 0) (d := 480) (bl := 0) (tr := 1) (ti := 1) (by omega)
  obtain ⟨q88, h8⟩ := wc_at (cy := cy) (ad := (adl (adl (adB h0 q3 q8 q9 q10 q11 n4 n5 n6 n7 (nb 0)) 0 q1 s_q1 s_q2 s_q3 s_q4 s_q5 s_q6 s_a s_b s_c s_d s_f s_k) 1 q2 t_q1 t_q2 t_q3 t_q4 t_q5 t_q6 t_a t_b t_c t_d t_f t_k)) (ks := KS0) (g := gz0) (u := uP) (κ := .ln 0) hk.1 h_L
  have hPc := hP
  have hDc := hD
  have hFc := my_free hD hS hA
  refine va_callv (va_runV (As := [.int 480, .int 0, .int 1, .int 1]) (rest := []) ⟨hx, hb, hml, hown, hts⟩ (c_X3_begin l dC dI cy nb (adl (adl (adB h0 q3 q8 q9 q10 q11 n4 n5 n6 n7 (nb 0)) 0 q1 s_q1 s_q2 s_q3 s_q4 s_q5 s_q6 s_a s_b s_c s_d s_f s_k) 1 q2 t_q1 t_q2 t_q3 t_q4 t_q5 t_q6 t_a t_b t_c t_d t_f t_k) KS0 gz0 hk uP 0 480 0 1 1 uz H.size h_L hF) (cwV 4 hts (gV mw_76 mw_77 mw_78 mw_17 mw_79) rfl rfl rfl (by decide +kernel) ⟨Nat.le_of_ble_eq_true rfl, Nat.le_of_ble_eq_true rfl⟩) (my_preV hPc hK hDc hE hS hFc (va_recv (q := (RX3, TX3, 17)) hK hPc (ci := 3) (q0 := q88) rfl h8)) rfl rfl hl.1 rfl (lv_room (Nat.le_of_ble_eq_true rfl)) dX7_init_105 ⟨Nat.le_of_ble_eq_true rfl, Nat.le_of_ble_eq_true rfl⟩) hS (fun q _ h => hFc q h) hFc (fun u t H1 locs ht hvm hw9 hB hz1 hk1 hS => ?_)
  obtain ⟨hP1, hD1⟩ := hB
  rw [ht] at hP1
  have hD9 := hD1.weaken (fun k q _ h => hFc q.1 h)
  refine W.widen (k := 143) (n := 2377) (by omega) (by omega) ?_
  exact W.vret hx hb hr (fun t ht hW => ⟨⟨(), rfl, trivial, (adl (adl (adB h0 q3 q8 q9 q10 q11 n4 n5 n6 n7 (nb 0)) 0 q1 s_q1 s_q2 s_q3 s_q4 s_q5 s_q6 s_a s_b s_c s_d s_f s_k) 1 q2 t_q1 t_q2 t_q3 t_q4 t_q5 t_q6 t_a t_b t_c t_d t_f t_k), uz, rfl, hk, hF, by rw [ht]; exact hP1, hD9⟩, hS.F ht⟩) hS.2.2 dX7_init_108
noncomputable def uM0 : RS := fun R i => if R = 0 then (if i = 16 then -1 else 0) else 0
set_option maxHeartbeats 8000000 in
set_option maxRecDepth 100000 in
theorem c_X8_init (l : Launch) (dC : Nat → ClassId) (dI : Nat → Nat → Nat) (cy : Nat → ClassId) (nb : Nat → Nat) (h0 : Nat) (sz : Nat) : Met l yX8_init (wsg yX8_init cX8_init 1 none) ({ frames := 8, cells := 10, slots := 13264, locals := 300 }) (va_Pc [.ref h0] (fun U => U.heap.size = sz ∧ va_P (dC, dI) vwCl [(h0, eO 8 [.null, .null, .null, .null, .null, .int 0, .int 0, .null, .int 0, .int 0, .int 0, .int 0, .int 0, .int 0, .int 0, .int 0, .int 0, .null, .null, .int 0, .null, .null, .int 0])] U.heap ∧ va_K (dC, dI) vwCl (tyL cy) U ∧ va_D (fun _ => True) [(h0, eO 8 [.null, .null, .null, .null, .null, .int 0, .int 0, .null, .int 0, .int 0, .int 0, .int 0, .int 0, .int 0, .int 0, .int 0, .int 0, .null, .null, .int 0, .null, .null, .int 0])] ∧ GE nb (va_A [(h0, eO 8 [.null, .null, .null, .null, .null, .int 0, .int 0, .null, .int 0, .int 0, .int 0, .int 0, .int 0, .int 0, .int 0, .int 0, .int 0, .null, .null, .int 0, .null, .null, .int 0])] sz) U)) (va_Qv (fun (_ : Unit) => True) (fun _ t => ∃ (am : Nat → Nat) (uz : RS), am 0 = h0 ∧ F8_begins uM0 = some uz ∧ va_P (dC, dI) vwCl (WM cy am uz) t.heap ∧ va_D (va_A [(h0, eO 8 [.null, .null, .null, .null, .null, .int 0, .int 0, .null, .int 0, .int 0, .int 0, .int 0, .int 0, .int 0, .int 0, .int 0, .int 0, .null, .null, .int 0, .null, .null, .int 0])] sz) (WM cy am uz)) (va_A [(h0, eO 8 [.null, .null, .null, .null, .null, .int 0, .int 0, .null, .int 0, .int 0, .int 0, .int 0, .int 0, .int 0, .int 0, .int 0, .int 0, .null, .null, .int 0, .null, .null, .int 0])] sz)) 10 13264 (va_A [(h0, eO 8 [.null, .null, .null, .null, .null, .int 0, .int 0, .null, .int 0, .int 0, .int 0, .int 0, .int 0, .int 0, .int 0, .int 0, .int 0, .null, .null, .int 0, .null, .null, .int 0])] sz) := by
  refine Met.ofW (cc := cX8_init) (maxL := 1) (ret := none) pn_X8 rfl ?_
  intro p e s m args below meth c s₁ B hml hv
  obtain ⟨rfl, hsz, hP, hK, hD0, hE⟩ := hv
  have hx := B.exec
  have hb := B.bytes
  have hr := B.returns
  have hts0 := atoms_spec (ws := (wsg yX8_init cX8_init 1 none)) B.pre
  have hts : ∀ w ∈ wsL_law, w.before _ s = true := fun w h => hts0 w (List.mem_cons_of_mem _ h)
  have hown : s.vm.findClass RX8 = some m.cls := by have h9 := findClass_of_methodNamed B.named; exact h9
  have hlocks := B.notSynchronized
  have hin : meth.name = "<init>" := (name_of_methodNamed B.named B.method).1
  subst hsz
  have hD := hD0.self (sz := s.heap.size)
  generalize hAe : va_A [(h0, eO 8 [.null, .null, .null, .null, .null, .int 0, .int 0, .null, .int 0, .int 0, .int 0, .int 0, .int 0, .int 0, .int 0, .int 0, .int 0, .null, .null, .int 0, .null, .null, .int 0])] s.heap.size = A at hD hE ⊢
  have hA : ∀ q : Nat, s.heap.size ≤ q → A q := fun q h => by rw [← hAe]; exact Or.inr h
  have hS : va_S A s.heap s.heap [] := va_S.rf
  have hP : va_P (dC, dI) vwCl [(h0, eO 8 [.null, .null, .null, .null, .null, .int 0, .int 0, .null, .int 0, .int 0, .int 0, .int 0, .int 0, .int 0, .int 0, .int 0, .int 0, .null, .null, .int 0, .null, .null, .int 0])] s.heap := hP
  have hl := lv_entry ([.ref h0]) (n := 1) (Nat.le_of_ble_eq_true rfl)
  rw [lg_entry_eq]
  generalize (lg_sl ([.ref h0]) ++ List.replicate (1 - (lg_sl ([.ref h0])).length) Slot.unset).toArray = ls at hl ⊢
  have hl : lv_has ls 1 [(0, .ref h0)] := hl
  generalize hHe : s.heap = H at hP hS ⊢
  have hS : va_S A s.heap H [] := by rw [hHe]; exact hS
  refine lv_aload_n hx hb dX8_init_0 rfl (lv_at hl 0 rfl) ?_
  refine W.objInit hx hb hown (hts _ mw_96) (hts _ mw_13) (hts _ mw_14) rfl (by rw [hml]; exact hl.1) rfl dX8_init_1 (Nat.le_of_ble_eq_true rfl) (Nat.le_of_ble_eq_true rfl) ?_
  refine W.eq (g2 := F0 m 4 ls []) rfl ?_
  refine lv_aload_n hx hb dX8_init_4 rfl (lv_at hl 0 rfl) ?_
  refine lv_sipush (v := 1037) hx hb dX8_init_5 (by decide) ?_
  refine va_newa (atype := .int) (ty := .int) (a0 := (1037, .inl (fun _ => 0))) hx hb (hts _ mw_28) rfl hK hP hD hS hA (fun _ => rfl) (by decide) (by decide) (Nat.le_of_ble_eq_true rfl) (Nat.le_of_ble_eq_true rfl) (Nat.le_of_ble_eq_true rfl) dX8_init_8 (fun q1 cA H hK9 hP hD hS => ?_)
  have hcA := my_cA hK9 hK 1 rfl
  subst hcA
  clear hK9
  have hP : va_P (dC, dI) vwCl [(h0, eO 8 [.null, .null, .null, .null, .null, .int 0, .int 0, .null, .int 0, .int 0, .int 0, .int 0, .int 0, .int 0, .int 0, .int 0, .int 0, .null, .null, .int 0, .null, .null, .int 0]), (q1, eI cy 1 1037 (fun _ => 0))] H := hP
  have hD : va_D A [(h0, eO 8 [.null, .null, .null, .null, .null, .int 0, .int 0, .null, .int 0, .int 0, .int 0, .int 0, .int 0, .int 0, .int 0, .int 0, .int 0, .null, .null, .int 0, .null, .null, .int 0]), (q1, eI cy 1 1037 (fun _ => 0))] := hD
  refine W.widen (k := 1) (n := 1037) (by omega) (by omega) ?_
  refine va_putF (D := (dC, dI)) (ci := 8) (v := .ref q1) (ty := (.array .int)) (C := RX8) (T := TX8) (N := 23) hx hb hts inlX8 tyX8 tyX8_ok nmX8 hown hK hP hD hS 0 rfl rfl 0 (by decide) (hts _ mw_97) (fun _ h9 => h9) rfl hin rfl (by decide +kernel) rfl rfl (Nat.le_of_ble_eq_true rfl) dX8_init_10 (fun H locs hP hD hS => ?_)
  have hP : va_P (dC, dI) vwCl [(h0, eO 8 [.ref q1, .null, .null, .null, .null, .int 0, .int 0, .null, .int 0, .int 0, .int 0, .int 0, .int 0, .int 0, .int 0, .int 0, .int 0, .null, .null, .int 0, .null, .null, .int 0]), (q1, eI cy 1 1037 (fun _ => 0))] H := hP
  have hD : va_D A [(h0, eO 8 [.ref q1, .null, .null, .null, .null, .int 0, .int 0, .null, .int 0, .int 0, .int 0, .int 0, .int 0, .int 0, .int 0, .int 0, .int 0, .null, .null, .int 0, .null, .null, .int 0]), (q1, eI cy 1 1037 (fun _ => 0))] := hD
  refine lv_aload_n hx hb dX8_init_13 rfl (lv_at hl 0 rfl) ?_
  refine lv_sipush (v := 1037) hx hb dX8_init_14 (by decide) ?_
  refine va_newa (atype := .int) (ty := .int) (a0 := (1037, .inl (fun _ => 0))) hx hb (hts _ mw_28) rfl hK hP hD hS hA (fun _ => rfl) (by decide) (by decide) (Nat.le_of_ble_eq_true rfl) (Nat.le_of_ble_eq_true rfl) (Nat.le_of_ble_eq_true rfl) dX8_init_17 (fun q2 cA H hK9 hP hD hS => ?_)
  have hcA := my_cA hK9 hK 1 rfl
  subst hcA
  clear hK9
  have hP : va_P (dC, dI) vwCl [(h0, eO 8 [.ref q1, .null, .null, .null, .null, .int 0, .int 0, .null, .int 0, .int 0, .int 0, .int 0, .int 0, .int 0, .int 0, .int 0, .int 0, .null, .null, .int 0, .null, .null, .int 0]), (q1, eI cy 1 1037 (fun _ => 0)), (q2, eI cy 1 1037 (fun _ => 0))] H := hP
  have hD : va_D A [(h0, eO 8 [.ref q1, .null, .null, .null, .null, .int 0, .int 0, .null, .int 0, .int 0, .int 0, .int 0, .int 0, .int 0, .int 0, .int 0, .int 0, .null, .null, .int 0, .null, .null, .int 0]), (q1, eI cy 1 1037 (fun _ => 0)), (q2, eI cy 1 1037 (fun _ => 0))] := hD
  refine W.widen (k := 2) (n := 2074) (by omega) (by omega) ?_
  refine va_putF (D := (dC, dI)) (ci := 8) (v := .ref q2) (ty := (.array .int)) (C := RX8) (T := TX8) (N := 23) hx hb hts inlX8 tyX8 tyX8_ok nmX8 hown hK hP hD hS 0 rfl rfl 1 (by decide) (hts _ mw_98) (fun _ h9 => h9) rfl hin rfl (by decide +kernel) rfl rfl (Nat.le_of_ble_eq_true rfl) dX8_init_19 (fun H locs hP hD hS => ?_)
  have hP : va_P (dC, dI) vwCl [(h0, eO 8 [.ref q1, .ref q2, .null, .null, .null, .int 0, .int 0, .null, .int 0, .int 0, .int 0, .int 0, .int 0, .int 0, .int 0, .int 0, .int 0, .null, .null, .int 0, .null, .null, .int 0]), (q1, eI cy 1 1037 (fun _ => 0)), (q2, eI cy 1 1037 (fun _ => 0))] H := hP
  have hD : va_D A [(h0, eO 8 [.ref q1, .ref q2, .null, .null, .null, .int 0, .int 0, .null, .int 0, .int 0, .int 0, .int 0, .int 0, .int 0, .int 0, .int 0, .int 0, .null, .null, .int 0, .null, .null, .int 0]), (q1, eI cy 1 1037 (fun _ => 0)), (q2, eI cy 1 1037 (fun _ => 0))] := hD
  refine lv_aload_n hx hb dX8_init_22 rfl (lv_at hl 0 rfl) ?_
  refine lv_sipush (v := 8296) hx hb dX8_init_23 (by decide) ?_
  refine va_newa (atype := .int) (ty := .int) (a0 := (8296, .inl (fun _ => 0))) hx hb (hts _ mw_28) rfl hK hP hD hS hA (fun _ => rfl) (by decide) (by decide) (Nat.le_of_ble_eq_true rfl) (Nat.le_of_ble_eq_true rfl) (Nat.le_of_ble_eq_true rfl) dX8_init_26 (fun q3 cA H hK9 hP hD hS => ?_)
  have hcA := my_cA hK9 hK 1 rfl
  subst hcA
  clear hK9
  have hP : va_P (dC, dI) vwCl [(h0, eO 8 [.ref q1, .ref q2, .null, .null, .null, .int 0, .int 0, .null, .int 0, .int 0, .int 0, .int 0, .int 0, .int 0, .int 0, .int 0, .int 0, .null, .null, .int 0, .null, .null, .int 0]), (q1, eI cy 1 1037 (fun _ => 0)), (q2, eI cy 1 1037 (fun _ => 0)), (q3, eI cy 1 8296 (fun _ => 0))] H := hP
  have hD : va_D A [(h0, eO 8 [.ref q1, .ref q2, .null, .null, .null, .int 0, .int 0, .null, .int 0, .int 0, .int 0, .int 0, .int 0, .int 0, .int 0, .int 0, .int 0, .null, .null, .int 0, .null, .null, .int 0]), (q1, eI cy 1 1037 (fun _ => 0)), (q2, eI cy 1 1037 (fun _ => 0)), (q3, eI cy 1 8296 (fun _ => 0))] := hD
  refine W.widen (k := 3) (n := 10370) (by omega) (by omega) ?_
  refine va_putF (D := (dC, dI)) (ci := 8) (v := .ref q3) (ty := (.array .int)) (C := RX8) (T := TX8) (N := 23) hx hb hts inlX8 tyX8 tyX8_ok nmX8 hown hK hP hD hS 0 rfl rfl 2 (by decide) (hts _ mw_99) (fun _ h9 => h9) rfl hin rfl (by decide +kernel) rfl rfl (Nat.le_of_ble_eq_true rfl) dX8_init_28 (fun H locs hP hD hS => ?_)
  have hP : va_P (dC, dI) vwCl [(h0, eO 8 [.ref q1, .ref q2, .ref q3, .null, .null, .int 0, .int 0, .null, .int 0, .int 0, .int 0, .int 0, .int 0, .int 0, .int 0, .int 0, .int 0, .null, .null, .int 0, .null, .null, .int 0]), (q1, eI cy 1 1037 (fun _ => 0)), (q2, eI cy 1 1037 (fun _ => 0)), (q3, eI cy 1 8296 (fun _ => 0))] H := hP
  have hD : va_D A [(h0, eO 8 [.ref q1, .ref q2, .ref q3, .null, .null, .int 0, .int 0, .null, .int 0, .int 0, .int 0, .int 0, .int 0, .int 0, .int 0, .int 0, .int 0, .null, .null, .int 0, .null, .null, .int 0]), (q1, eI cy 1 1037 (fun _ => 0)), (q2, eI cy 1 1037 (fun _ => 0)), (q3, eI cy 1 8296 (fun _ => 0))] := hD
  refine lv_aload_n hx hb dX8_init_31 rfl (lv_at hl 0 rfl) ?_
  refine lv_sipush (v := 2074) hx hb dX8_init_32 (by decide) ?_
  refine va_newa (atype := .int) (ty := .int) (a0 := (2074, .inl (fun _ => 0))) hx hb (hts _ mw_28) rfl hK hP hD hS hA (fun _ => rfl) (by decide) (by decide) (Nat.le_of_ble_eq_true rfl) (Nat.le_of_ble_eq_true rfl) (Nat.le_of_ble_eq_true rfl) dX8_init_35 (fun q4 cA H hK9 hP hD hS => ?_)
  have hcA := my_cA hK9 hK 1 rfl
  subst hcA
  clear hK9
  have hP : va_P (dC, dI) vwCl [(h0, eO 8 [.ref q1, .ref q2, .ref q3, .null, .null, .int 0, .int 0, .null, .int 0, .int 0, .int 0, .int 0, .int 0, .int 0, .int 0, .int 0, .int 0, .null, .null, .int 0, .null, .null, .int 0]), (q1, eI cy 1 1037 (fun _ => 0)), (q2, eI cy 1 1037 (fun _ => 0)), (q3, eI cy 1 8296 (fun _ => 0)), (q4, eI cy 1 2074 (fun _ => 0))] H := hP
  have hD : va_D A [(h0, eO 8 [.ref q1, .ref q2, .ref q3, .null, .null, .int 0, .int 0, .null, .int 0, .int 0, .int 0, .int 0, .int 0, .int 0, .int 0, .int 0, .int 0, .null, .null, .int 0, .null, .null, .int 0]), (q1, eI cy 1 1037 (fun _ => 0)), (q2, eI cy 1 1037 (fun _ => 0)), (q3, eI cy 1 8296 (fun _ => 0)), (q4, eI cy 1 2074 (fun _ => 0))] := hD
  refine W.widen (k := 4) (n := 12444) (by omega) (by omega) ?_
  refine va_putF (D := (dC, dI)) (ci := 8) (v := .ref q4) (ty := (.array .int)) (C := RX8) (T := TX8) (N := 23) hx hb hts inlX8 tyX8 tyX8_ok nmX8 hown hK hP hD hS 0 rfl rfl 3 (by decide) (hts _ mw_100) (fun _ h9 => h9) rfl hin rfl (by decide +kernel) rfl rfl (Nat.le_of_ble_eq_true rfl) dX8_init_37 (fun H locs hP hD hS => ?_)
  have hP : va_P (dC, dI) vwCl [(h0, eO 8 [.ref q1, .ref q2, .ref q3, .ref q4, .null, .int 0, .int 0, .null, .int 0, .int 0, .int 0, .int 0, .int 0, .int 0, .int 0, .int 0, .int 0, .null, .null, .int 0, .null, .null, .int 0]), (q1, eI cy 1 1037 (fun _ => 0)), (q2, eI cy 1 1037 (fun _ => 0)), (q3, eI cy 1 8296 (fun _ => 0)), (q4, eI cy 1 2074 (fun _ => 0))] H := hP
  have hD : va_D A [(h0, eO 8 [.ref q1, .ref q2, .ref q3, .ref q4, .null, .int 0, .int 0, .null, .int 0, .int 0, .int 0, .int 0, .int 0, .int 0, .int 0, .int 0, .int 0, .null, .null, .int 0, .null, .null, .int 0]), (q1, eI cy 1 1037 (fun _ => 0)), (q2, eI cy 1 1037 (fun _ => 0)), (q3, eI cy 1 8296 (fun _ => 0)), (q4, eI cy 1 2074 (fun _ => 0))] := hD
  refine lv_aload_n hx hb dX8_init_40 rfl (lv_at hl 0 rfl) ?_
  refine lv_iconst (v := 2) hx hb dX8_init_41 (by decide) ?_
  refine va_newa (atype := .boolean) (ty := .boolean) (a0 := (2, .inl (fun _ => 0))) hx hb (hts _ mw_101) rfl hK hP hD hS hA (fun _ => rfl) (by decide) (by decide) (Nat.le_of_ble_eq_true rfl) (Nat.le_of_ble_eq_true rfl) (Nat.le_of_ble_eq_true rfl) dX8_init_42 (fun q5 cA H hK9 hP hD hS => ?_)
  have hcA := my_cA hK9 hK 2 rfl
  subst hcA
  clear hK9
  have hP : va_P (dC, dI) vwCl [(h0, eO 8 [.ref q1, .ref q2, .ref q3, .ref q4, .null, .int 0, .int 0, .null, .int 0, .int 0, .int 0, .int 0, .int 0, .int 0, .int 0, .int 0, .int 0, .null, .null, .int 0, .null, .null, .int 0]), (q1, eI cy 1 1037 (fun _ => 0)), (q2, eI cy 1 1037 (fun _ => 0)), (q3, eI cy 1 8296 (fun _ => 0)), (q4, eI cy 1 2074 (fun _ => 0)), (q5, eI cy 2 2 (fun _ => 0))] H := hP
  have hD : va_D A [(h0, eO 8 [.ref q1, .ref q2, .ref q3, .ref q4, .null, .int 0, .int 0, .null, .int 0, .int 0, .int 0, .int 0, .int 0, .int 0, .int 0, .int 0, .int 0, .null, .null, .int 0, .null, .null, .int 0]), (q1, eI cy 1 1037 (fun _ => 0)), (q2, eI cy 1 1037 (fun _ => 0)), (q3, eI cy 1 8296 (fun _ => 0)), (q4, eI cy 1 2074 (fun _ => 0)), (q5, eI cy 2 2 (fun _ => 0))] := hD
  refine W.widen (k := 5) (n := 12446) (by omega) (by omega) ?_
  refine va_putF (D := (dC, dI)) (ci := 8) (v := .ref q5) (ty := (.array .boolean)) (C := RX8) (T := TX8) (N := 23) hx hb hts inlX8 tyX8 tyX8_ok nmX8 hown hK hP hD hS 0 rfl rfl 4 (by decide) (hts _ mw_102) (fun _ h9 => h9) rfl hin rfl (by decide +kernel) rfl rfl (Nat.le_of_ble_eq_true rfl) dX8_init_44 (fun H locs hP hD hS => ?_)
  have hP : va_P (dC, dI) vwCl [(h0, eO 8 [.ref q1, .ref q2, .ref q3, .ref q4, .ref q5, .int 0, .int 0, .null, .int 0, .int 0, .int 0, .int 0, .int 0, .int 0, .int 0, .int 0, .int 0, .null, .null, .int 0, .null, .null, .int 0]), (q1, eI cy 1 1037 (fun _ => 0)), (q2, eI cy 1 1037 (fun _ => 0)), (q3, eI cy 1 8296 (fun _ => 0)), (q4, eI cy 1 2074 (fun _ => 0)), (q5, eI cy 2 2 (fun _ => 0))] H := hP
  have hD : va_D A [(h0, eO 8 [.ref q1, .ref q2, .ref q3, .ref q4, .ref q5, .int 0, .int 0, .null, .int 0, .int 0, .int 0, .int 0, .int 0, .int 0, .int 0, .int 0, .int 0, .null, .null, .int 0, .null, .null, .int 0]), (q1, eI cy 1 1037 (fun _ => 0)), (q2, eI cy 1 1037 (fun _ => 0)), (q3, eI cy 1 8296 (fun _ => 0)), (q4, eI cy 1 2074 (fun _ => 0)), (q5, eI cy 2 2 (fun _ => 0))] := hD
  refine lv_aload_n hx hb dX8_init_47 rfl (lv_at hl 0 rfl) ?_
  refine lv_sipush (v := 600) hx hb dX8_init_48 (by decide) ?_
  refine va_newa (atype := .byte) (ty := .byte) (a0 := (600, .inl (fun _ => 0))) hx hb (hts _ mw_24) rfl hK hP hD hS hA (fun _ => rfl) (by decide) (by decide) (Nat.le_of_ble_eq_true rfl) (Nat.le_of_ble_eq_true rfl) (Nat.le_of_ble_eq_true rfl) dX8_init_51 (fun q6 cA H hK9 hP hD hS => ?_)
  have hcA := my_cA hK9 hK 0 rfl
  subst hcA
  clear hK9
  have hP : va_P (dC, dI) vwCl [(h0, eO 8 [.ref q1, .ref q2, .ref q3, .ref q4, .ref q5, .int 0, .int 0, .null, .int 0, .int 0, .int 0, .int 0, .int 0, .int 0, .int 0, .int 0, .int 0, .null, .null, .int 0, .null, .null, .int 0]), (q1, eI cy 1 1037 (fun _ => 0)), (q2, eI cy 1 1037 (fun _ => 0)), (q3, eI cy 1 8296 (fun _ => 0)), (q4, eI cy 1 2074 (fun _ => 0)), (q5, eI cy 2 2 (fun _ => 0)), (q6, eI cy 0 600 (fun _ => 0))] H := hP
  have hD : va_D A [(h0, eO 8 [.ref q1, .ref q2, .ref q3, .ref q4, .ref q5, .int 0, .int 0, .null, .int 0, .int 0, .int 0, .int 0, .int 0, .int 0, .int 0, .int 0, .int 0, .null, .null, .int 0, .null, .null, .int 0]), (q1, eI cy 1 1037 (fun _ => 0)), (q2, eI cy 1 1037 (fun _ => 0)), (q3, eI cy 1 8296 (fun _ => 0)), (q4, eI cy 1 2074 (fun _ => 0)), (q5, eI cy 2 2 (fun _ => 0)), (q6, eI cy 0 600 (fun _ => 0))] := hD
  refine W.widen (k := 6) (n := 13046) (by omega) (by omega) ?_
  refine va_putF (D := (dC, dI)) (ci := 8) (v := .ref q6) (ty := (.array .byte)) (C := RX8) (T := TX8) (N := 23) hx hb hts inlX8 tyX8 tyX8_ok nmX8 hown hK hP hD hS 0 rfl rfl 7 (by decide) (hts _ mw_103) (fun _ h9 => h9) rfl hin rfl (by decide +kernel) rfl rfl (Nat.le_of_ble_eq_true rfl) dX8_init_53 (fun H locs hP hD hS => ?_)
  have hP : va_P (dC, dI) vwCl [(h0, eO 8 [.ref q1, .ref q2, .ref q3, .ref q4, .ref q5, .int 0, .int 0, .ref q6, .int 0, .int 0, .int 0, .int 0, .int 0, .int 0, .int 0, .int 0, .int 0, .null, .null, .int 0, .null, .null, .int 0]), (q1, eI cy 1 1037 (fun _ => 0)), (q2, eI cy 1 1037 (fun _ => 0)), (q3, eI cy 1 8296 (fun _ => 0)), (q4, eI cy 1 2074 (fun _ => 0)), (q5, eI cy 2 2 (fun _ => 0)), (q6, eI cy 0 600 (fun _ => 0))] H := hP
  have hD : va_D A [(h0, eO 8 [.ref q1, .ref q2, .ref q3, .ref q4, .ref q5, .int 0, .int 0, .ref q6, .int 0, .int 0, .int 0, .int 0, .int 0, .int 0, .int 0, .int 0, .int 0, .null, .null, .int 0, .null, .null, .int 0]), (q1, eI cy 1 1037 (fun _ => 0)), (q2, eI cy 1 1037 (fun _ => 0)), (q3, eI cy 1 8296 (fun _ => 0)), (q4, eI cy 1 2074 (fun _ => 0)), (q5, eI cy 2 2 (fun _ => 0)), (q6, eI cy 0 600 (fun _ => 0))] := hD
  refine lv_aload_n hx hb dX8_init_56 rfl (lv_at hl 0 rfl) ?_
  refine lv_iconst (v := (-1)) hx hb dX8_init_57 (by decide) ?_
  refine va_put (D := (dC, dI)) (ci := 8) (v := .int (-1)) (ty := .int) (C := RX8) (T := TX8) (N := 23) hx hb hts inlX8 tyX8 tyX8_ok nmX8 hown hK hP hD hS 0 rfl rfl 16 (by decide) (hts _ mw_104) (fun _ h9 => h9) rfl (by decide +kernel) rfl rfl (Nat.le_of_ble_eq_true rfl) dX8_init_58 (fun H locs hP hD hS => ?_)
  have hP : va_P (dC, dI) vwCl [(h0, eO 8 [.ref q1, .ref q2, .ref q3, .ref q4, .ref q5, .int 0, .int 0, .ref q6, .int 0, .int 0, .int 0, .int 0, .int 0, .int 0, .int 0, .int 0, .int (-1), .null, .null, .int 0, .null, .null, .int 0]), (q1, eI cy 1 1037 (fun _ => 0)), (q2, eI cy 1 1037 (fun _ => 0)), (q3, eI cy 1 8296 (fun _ => 0)), (q4, eI cy 1 2074 (fun _ => 0)), (q5, eI cy 2 2 (fun _ => 0)), (q6, eI cy 0 600 (fun _ => 0))] H := hP
  have hD : va_D A [(h0, eO 8 [.ref q1, .ref q2, .ref q3, .ref q4, .ref q5, .int 0, .int 0, .ref q6, .int 0, .int 0, .int 0, .int 0, .int 0, .int 0, .int 0, .int 0, .int (-1), .null, .null, .int 0, .null, .null, .int 0]), (q1, eI cy 1 1037 (fun _ => 0)), (q2, eI cy 1 1037 (fun _ => 0)), (q3, eI cy 1 8296 (fun _ => 0)), (q4, eI cy 1 2074 (fun _ => 0)), (q5, eI cy 2 2 (fun _ => 0)), (q6, eI cy 0 600 (fun _ => 0))] := hD
  refine lv_aload_n hx hb dX8_init_61 rfl (lv_at hl 0 rfl) ?_
  refine lv_sipush (v := 192) hx hb dX8_init_62 (by decide) ?_
  refine va_newa (atype := .int) (ty := .int) (a0 := (192, .inl (fun _ => 0))) hx hb (hts _ mw_28) rfl hK hP hD hS hA (fun _ => rfl) (by decide) (by decide) (Nat.le_of_ble_eq_true rfl) (Nat.le_of_ble_eq_true rfl) (Nat.le_of_ble_eq_true rfl) dX8_init_65 (fun q7 cA H hK9 hP hD hS => ?_)
  have hcA := my_cA hK9 hK 1 rfl
  subst hcA
  clear hK9
  have hP : va_P (dC, dI) vwCl [(h0, eO 8 [.ref q1, .ref q2, .ref q3, .ref q4, .ref q5, .int 0, .int 0, .ref q6, .int 0, .int 0, .int 0, .int 0, .int 0, .int 0, .int 0, .int 0, .int (-1), .null, .null, .int 0, .null, .null, .int 0]), (q1, eI cy 1 1037 (fun _ => 0)), (q2, eI cy 1 1037 (fun _ => 0)), (q3, eI cy 1 8296 (fun _ => 0)), (q4, eI cy 1 2074 (fun _ => 0)), (q5, eI cy 2 2 (fun _ => 0)), (q6, eI cy 0 600 (fun _ => 0)), (q7, eI cy 1 192 (fun _ => 0))] H := hP
  have hD : va_D A [(h0, eO 8 [.ref q1, .ref q2, .ref q3, .ref q4, .ref q5, .int 0, .int 0, .ref q6, .int 0, .int 0, .int 0, .int 0, .int 0, .int 0, .int 0, .int 0, .int (-1), .null, .null, .int 0, .null, .null, .int 0]), (q1, eI cy 1 1037 (fun _ => 0)), (q2, eI cy 1 1037 (fun _ => 0)), (q3, eI cy 1 8296 (fun _ => 0)), (q4, eI cy 1 2074 (fun _ => 0)), (q5, eI cy 2 2 (fun _ => 0)), (q6, eI cy 0 600 (fun _ => 0)), (q7, eI cy 1 192 (fun _ => 0))] := hD
  refine W.widen (k := 7) (n := 13238) (by omega) (by omega) ?_
  refine va_putF (D := (dC, dI)) (ci := 8) (v := .ref q7) (ty := (.array .int)) (C := RX8) (T := TX8) (N := 23) hx hb hts inlX8 tyX8 tyX8_ok nmX8 hown hK hP hD hS 0 rfl rfl 17 (by decide) (hts _ mw_105) (fun _ h9 => h9) rfl hin rfl (by decide +kernel) rfl rfl (Nat.le_of_ble_eq_true rfl) dX8_init_67 (fun H locs hP hD hS => ?_)
  have hP : va_P (dC, dI) vwCl [(h0, eO 8 [.ref q1, .ref q2, .ref q3, .ref q4, .ref q5, .int 0, .int 0, .ref q6, .int 0, .int 0, .int 0, .int 0, .int 0, .int 0, .int 0, .int 0, .int (-1), .ref q7, .null, .int 0, .null, .null, .int 0]), (q1, eI cy 1 1037 (fun _ => 0)), (q2, eI cy 1 1037 (fun _ => 0)), (q3, eI cy 1 8296 (fun _ => 0)), (q4, eI cy 1 2074 (fun _ => 0)), (q5, eI cy 2 2 (fun _ => 0)), (q6, eI cy 0 600 (fun _ => 0)), (q7, eI cy 1 192 (fun _ => 0))] H := hP
  have hD : va_D A [(h0, eO 8 [.ref q1, .ref q2, .ref q3, .ref q4, .ref q5, .int 0, .int 0, .ref q6, .int 0, .int 0, .int 0, .int 0, .int 0, .int 0, .int 0, .int 0, .int (-1), .ref q7, .null, .int 0, .null, .null, .int 0]), (q1, eI cy 1 1037 (fun _ => 0)), (q2, eI cy 1 1037 (fun _ => 0)), (q3, eI cy 1 8296 (fun _ => 0)), (q4, eI cy 1 2074 (fun _ => 0)), (q5, eI cy 2 2 (fun _ => 0)), (q6, eI cy 0 600 (fun _ => 0)), (q7, eI cy 1 192 (fun _ => 0))] := hD
  refine lv_aload_n hx hb dX8_init_70 rfl (lv_at hl 0 rfl) ?_
  refine lv_iconst (v := 4) hx hb dX8_init_71 (by decide) ?_
  refine va_newa (atype := .int) (ty := .int) (a0 := (4, .inl (fun _ => 0))) hx hb (hts _ mw_28) rfl hK hP hD hS hA (fun _ => rfl) (by decide) (by decide) (Nat.le_of_ble_eq_true rfl) (Nat.le_of_ble_eq_true rfl) (Nat.le_of_ble_eq_true rfl) dX8_init_72 (fun q8 cA H hK9 hP hD hS => ?_)
  have hcA := my_cA hK9 hK 1 rfl
  subst hcA
  clear hK9
  have hP : va_P (dC, dI) vwCl [(h0, eO 8 [.ref q1, .ref q2, .ref q3, .ref q4, .ref q5, .int 0, .int 0, .ref q6, .int 0, .int 0, .int 0, .int 0, .int 0, .int 0, .int 0, .int 0, .int (-1), .ref q7, .null, .int 0, .null, .null, .int 0]), (q1, eI cy 1 1037 (fun _ => 0)), (q2, eI cy 1 1037 (fun _ => 0)), (q3, eI cy 1 8296 (fun _ => 0)), (q4, eI cy 1 2074 (fun _ => 0)), (q5, eI cy 2 2 (fun _ => 0)), (q6, eI cy 0 600 (fun _ => 0)), (q7, eI cy 1 192 (fun _ => 0)), (q8, eI cy 1 4 (fun _ => 0))] H := hP
  have hD : va_D A [(h0, eO 8 [.ref q1, .ref q2, .ref q3, .ref q4, .ref q5, .int 0, .int 0, .ref q6, .int 0, .int 0, .int 0, .int 0, .int 0, .int 0, .int 0, .int 0, .int (-1), .ref q7, .null, .int 0, .null, .null, .int 0]), (q1, eI cy 1 1037 (fun _ => 0)), (q2, eI cy 1 1037 (fun _ => 0)), (q3, eI cy 1 8296 (fun _ => 0)), (q4, eI cy 1 2074 (fun _ => 0)), (q5, eI cy 2 2 (fun _ => 0)), (q6, eI cy 0 600 (fun _ => 0)), (q7, eI cy 1 192 (fun _ => 0)), (q8, eI cy 1 4 (fun _ => 0))] := hD
  refine W.widen (k := 8) (n := 13242) (by omega) (by omega) ?_
  refine va_putF (D := (dC, dI)) (ci := 8) (v := .ref q8) (ty := (.array .int)) (C := RX8) (T := TX8) (N := 23) hx hb hts inlX8 tyX8 tyX8_ok nmX8 hown hK hP hD hS 0 rfl rfl 18 (by decide) (hts _ mw_106) (fun _ h9 => h9) rfl hin rfl (by decide +kernel) rfl rfl (Nat.le_of_ble_eq_true rfl) dX8_init_74 (fun H locs hP hD hS => ?_)
  have hP : va_P (dC, dI) vwCl [(h0, eO 8 [.ref q1, .ref q2, .ref q3, .ref q4, .ref q5, .int 0, .int 0, .ref q6, .int 0, .int 0, .int 0, .int 0, .int 0, .int 0, .int 0, .int 0, .int (-1), .ref q7, .ref q8, .int 0, .null, .null, .int 0]), (q1, eI cy 1 1037 (fun _ => 0)), (q2, eI cy 1 1037 (fun _ => 0)), (q3, eI cy 1 8296 (fun _ => 0)), (q4, eI cy 1 2074 (fun _ => 0)), (q5, eI cy 2 2 (fun _ => 0)), (q6, eI cy 0 600 (fun _ => 0)), (q7, eI cy 1 192 (fun _ => 0)), (q8, eI cy 1 4 (fun _ => 0))] H := hP
  have hD : va_D A [(h0, eO 8 [.ref q1, .ref q2, .ref q3, .ref q4, .ref q5, .int 0, .int 0, .ref q6, .int 0, .int 0, .int 0, .int 0, .int 0, .int 0, .int 0, .int 0, .int (-1), .ref q7, .ref q8, .int 0, .null, .null, .int 0]), (q1, eI cy 1 1037 (fun _ => 0)), (q2, eI cy 1 1037 (fun _ => 0)), (q3, eI cy 1 8296 (fun _ => 0)), (q4, eI cy 1 2074 (fun _ => 0)), (q5, eI cy 2 2 (fun _ => 0)), (q6, eI cy 0 600 (fun _ => 0)), (q7, eI cy 1 192 (fun _ => 0)), (q8, eI cy 1 4 (fun _ => 0))] := hD
  refine lv_aload_n hx hb dX8_init_77 rfl (lv_at hl 0 rfl) ?_
  refine lv_bipush (v := 6) hx hb dX8_init_78 (by decide) ?_
  refine va_newa (atype := .int) (ty := .int) (a0 := (6, .inl (fun _ => 0))) hx hb (hts _ mw_28) rfl hK hP hD hS hA (fun _ => rfl) (by decide) (by decide) (Nat.le_of_ble_eq_true rfl) (Nat.le_of_ble_eq_true rfl) (Nat.le_of_ble_eq_true rfl) dX8_init_80 (fun q9 cA H hK9 hP hD hS => ?_)
  have hcA := my_cA hK9 hK 1 rfl
  subst hcA
  clear hK9
  have hP : va_P (dC, dI) vwCl [(h0, eO 8 [.ref q1, .ref q2, .ref q3, .ref q4, .ref q5, .int 0, .int 0, .ref q6, .int 0, .int 0, .int 0, .int 0, .int 0, .int 0, .int 0, .int 0, .int (-1), .ref q7, .ref q8, .int 0, .null, .null, .int 0]), (q1, eI cy 1 1037 (fun _ => 0)), (q2, eI cy 1 1037 (fun _ => 0)), (q3, eI cy 1 8296 (fun _ => 0)), (q4, eI cy 1 2074 (fun _ => 0)), (q5, eI cy 2 2 (fun _ => 0)), (q6, eI cy 0 600 (fun _ => 0)), (q7, eI cy 1 192 (fun _ => 0)), (q8, eI cy 1 4 (fun _ => 0)), (q9, eI cy 1 6 (fun _ => 0))] H := hP
  have hD : va_D A [(h0, eO 8 [.ref q1, .ref q2, .ref q3, .ref q4, .ref q5, .int 0, .int 0, .ref q6, .int 0, .int 0, .int 0, .int 0, .int 0, .int 0, .int 0, .int 0, .int (-1), .ref q7, .ref q8, .int 0, .null, .null, .int 0]), (q1, eI cy 1 1037 (fun _ => 0)), (q2, eI cy 1 1037 (fun _ => 0)), (q3, eI cy 1 8296 (fun _ => 0)), (q4, eI cy 1 2074 (fun _ => 0)), (q5, eI cy 2 2 (fun _ => 0)), (q6, eI cy 0 600 (fun _ => 0)), (q7, eI cy 1 192 (fun _ => 0)), (q8, eI cy 1 4 (fun _ => 0)), (q9, eI cy 1 6 (fun _ => 0))] := hD
  refine W.widen (k := 9) (n := 13248) (by omega) (by omega) ?_
  refine va_putF (D := (dC, dI)) (ci := 8) (v := .ref q9) (ty := (.array .int)) (C := RX8) (T := TX8) (N := 23) hx hb hts inlX8 tyX8 tyX8_ok nmX8 hown hK hP hD hS 0 rfl rfl 20 (by decide) (hts _ mw_107) (fun _ h9 => h9) rfl hin rfl (by decide +kernel) rfl rfl (Nat.le_of_ble_eq_true rfl) dX8_init_82 (fun H locs hP hD hS => ?_)
  have hP : va_P (dC, dI) vwCl [(h0, eO 8 [.ref q1, .ref q2, .ref q3, .ref q4, .ref q5, .int 0, .int 0, .ref q6, .int 0, .int 0, .int 0, .int 0, .int 0, .int 0, .int 0, .int 0, .int (-1), .ref q7, .ref q8, .int 0, .ref q9, .null, .int 0]), (q1, eI cy 1 1037 (fun _ => 0)), (q2, eI cy 1 1037 (fun _ => 0)), (q3, eI cy 1 8296 (fun _ => 0)), (q4, eI cy 1 2074 (fun _ => 0)), (q5, eI cy 2 2 (fun _ => 0)), (q6, eI cy 0 600 (fun _ => 0)), (q7, eI cy 1 192 (fun _ => 0)), (q8, eI cy 1 4 (fun _ => 0)), (q9, eI cy 1 6 (fun _ => 0))] H := hP
  have hD : va_D A [(h0, eO 8 [.ref q1, .ref q2, .ref q3, .ref q4, .ref q5, .int 0, .int 0, .ref q6, .int 0, .int 0, .int 0, .int 0, .int 0, .int 0, .int 0, .int 0, .int (-1), .ref q7, .ref q8, .int 0, .ref q9, .null, .int 0]), (q1, eI cy 1 1037 (fun _ => 0)), (q2, eI cy 1 1037 (fun _ => 0)), (q3, eI cy 1 8296 (fun _ => 0)), (q4, eI cy 1 2074 (fun _ => 0)), (q5, eI cy 2 2 (fun _ => 0)), (q6, eI cy 0 600 (fun _ => 0)), (q7, eI cy 1 192 (fun _ => 0)), (q8, eI cy 1 4 (fun _ => 0)), (q9, eI cy 1 6 (fun _ => 0))] := hD
  refine lv_aload_n hx hb dX8_init_85 rfl (lv_at hl 0 rfl) ?_
  refine lv_bipush (v := 16) hx hb dX8_init_86 (by decide) ?_
  refine va_newa (atype := .byte) (ty := .byte) (a0 := (16, .inl (fun _ => 0))) hx hb (hts _ mw_24) rfl hK hP hD hS hA (fun _ => rfl) (by decide) (by decide) (Nat.le_of_ble_eq_true rfl) (Nat.le_of_ble_eq_true rfl) (Nat.le_of_ble_eq_true rfl) dX8_init_88 (fun q10 cA H hK9 hP hD hS => ?_)
  have hcA := my_cA hK9 hK 0 rfl
  subst hcA
  clear hK9
  have hP : va_P (dC, dI) vwCl [(h0, eO 8 [.ref q1, .ref q2, .ref q3, .ref q4, .ref q5, .int 0, .int 0, .ref q6, .int 0, .int 0, .int 0, .int 0, .int 0, .int 0, .int 0, .int 0, .int (-1), .ref q7, .ref q8, .int 0, .ref q9, .null, .int 0]), (q1, eI cy 1 1037 (fun _ => 0)), (q2, eI cy 1 1037 (fun _ => 0)), (q3, eI cy 1 8296 (fun _ => 0)), (q4, eI cy 1 2074 (fun _ => 0)), (q5, eI cy 2 2 (fun _ => 0)), (q6, eI cy 0 600 (fun _ => 0)), (q7, eI cy 1 192 (fun _ => 0)), (q8, eI cy 1 4 (fun _ => 0)), (q9, eI cy 1 6 (fun _ => 0)), (q10, eI cy 0 16 (fun _ => 0))] H := hP
  have hD : va_D A [(h0, eO 8 [.ref q1, .ref q2, .ref q3, .ref q4, .ref q5, .int 0, .int 0, .ref q6, .int 0, .int 0, .int 0, .int 0, .int 0, .int 0, .int 0, .int 0, .int (-1), .ref q7, .ref q8, .int 0, .ref q9, .null, .int 0]), (q1, eI cy 1 1037 (fun _ => 0)), (q2, eI cy 1 1037 (fun _ => 0)), (q3, eI cy 1 8296 (fun _ => 0)), (q4, eI cy 1 2074 (fun _ => 0)), (q5, eI cy 2 2 (fun _ => 0)), (q6, eI cy 0 600 (fun _ => 0)), (q7, eI cy 1 192 (fun _ => 0)), (q8, eI cy 1 4 (fun _ => 0)), (q9, eI cy 1 6 (fun _ => 0)), (q10, eI cy 0 16 (fun _ => 0))] := hD
  refine W.widen (k := 10) (n := 13264) (by omega) (by omega) ?_
  refine va_putF (D := (dC, dI)) (ci := 8) (v := .ref q10) (ty := (.array .byte)) (C := RX8) (T := TX8) (N := 23) hx hb hts inlX8 tyX8 tyX8_ok nmX8 hown hK hP hD hS 0 rfl rfl 21 (by decide) (hts _ mw_108) (fun _ h9 => h9) rfl hin rfl (by decide +kernel) rfl rfl (Nat.le_of_ble_eq_true rfl) dX8_init_90 (fun H locs hP hD hS => ?_)
  have hP : va_P (dC, dI) vwCl [(h0, eO 8 [.ref q1, .ref q2, .ref q3, .ref q4, .ref q5, .int 0, .int 0, .ref q6, .int 0, .int 0, .int 0, .int 0, .int 0, .int 0, .int 0, .int 0, .int (-1), .ref q7, .ref q8, .int 0, .ref q9, .ref q10, .int 0]), (q1, eI cy 1 1037 (fun _ => 0)), (q2, eI cy 1 1037 (fun _ => 0)), (q3, eI cy 1 8296 (fun _ => 0)), (q4, eI cy 1 2074 (fun _ => 0)), (q5, eI cy 2 2 (fun _ => 0)), (q6, eI cy 0 600 (fun _ => 0)), (q7, eI cy 1 192 (fun _ => 0)), (q8, eI cy 1 4 (fun _ => 0)), (q9, eI cy 1 6 (fun _ => 0)), (q10, eI cy 0 16 (fun _ => 0))] H := hP
  have hD : va_D A [(h0, eO 8 [.ref q1, .ref q2, .ref q3, .ref q4, .ref q5, .int 0, .int 0, .ref q6, .int 0, .int 0, .int 0, .int 0, .int 0, .int 0, .int 0, .int 0, .int (-1), .ref q7, .ref q8, .int 0, .ref q9, .ref q10, .int 0]), (q1, eI cy 1 1037 (fun _ => 0)), (q2, eI cy 1 1037 (fun _ => 0)), (q3, eI cy 1 8296 (fun _ => 0)), (q4, eI cy 1 2074 (fun _ => 0)), (q5, eI cy 2 2 (fun _ => 0)), (q6, eI cy 0 600 (fun _ => 0)), (q7, eI cy 1 192 (fun _ => 0)), (q8, eI cy 1 4 (fun _ => 0)), (q9, eI cy 1 6 (fun _ => 0)), (q10, eI cy 0 16 (fun _ => 0))] := hD
  refine lv_aload_n hx hb dX8_init_93 rfl (lv_at hl 0 rfl) ?_
  have hP : va_P (dC, dI) vwCl (WM cy (fun k : Nat => ([h0, q1, q2, q3, q4, q5, q6, q7, q8, q9, q10] : List Nat).getD k 0) uM0) H := hP
  have hD : va_D A (WM cy (fun k : Nat => ([h0, q1, q2, q3, q4, q5, q6, q7, q8, q9, q10] : List Nat).getD k 0) uM0) := hD
  obtain ⟨uz, hF, -⟩ := begins_ok (u := uM0)
  have hPc := hP
  have hDc := hD
  have hFc := my_free hD hS hA
  refine va_callv (va_runV (As := []) (rest := []) ⟨hx, hb, hml, hown, hts⟩ (k_X8_begins l dC dI cy nb (fun k : Nat => ([h0, q1, q2, q3, q4, q5, q6, q7, q8, q9, q10] : List Nat).getD k 0) uM0 uz H.size hF) (cwV 0 hts (gV mw_109 mw_110 mw_111 mw_5 mw_112) rfl rfl rfl (by decide +kernel) ⟨Nat.le_of_ble_eq_true rfl, Nat.le_of_ble_eq_true rfl⟩) (my_preV hPc hK hDc hE hS hFc (va_recv (q := (RX8, TX8, 23)) hK hPc (ci := 8) (q0 := 0) rfl rfl)) rfl rfl hl.1 rfl (lv_room (Nat.le_of_ble_eq_true rfl)) dX8_init_94 ⟨Nat.le_of_ble_eq_true rfl, Nat.le_of_ble_eq_true rfl⟩) hS (fun q _ h => hFc q h) hFc (fun u t H1 locs ht hvm hw9 hB hz1 hk1 hS => ?_)
  obtain ⟨hP1, hD1⟩ := hB
  rw [ht] at hP1
  have hD9 := hD1.weaken (fun k q _ h => hFc q.1 h)
  refine W.widen (k := 10) (n := 13264) (by omega) (by omega) ?_
  exact W.vret hx hb hr (fun t ht hW => ⟨⟨(), rfl, trivial, (fun k : Nat => ([h0, q1, q2, q3, q4, q5, q6, q7, q8, q9, q10] : List Nat).getD k 0), uz, rfl, hF, by rw [ht]; exact hP1, hD9⟩, hS.F ht⟩) hS.2.2 dX8_init_97
