theorem zero5 (f : Nat → Int32) : ∀ k : Nat, k < 5 → (upd (upd (upd (upd (upd f ((0 : Int32).toNatClampNeg) 0) ((1 : Int32).toNatClampNeg) 0) ((2 : Int32).toNatClampNeg) 0) ((3 : Int32).toNatClampNeg) 0) ((4 : Int32).toNatClampNeg) 0) k = 0 := fun k hk => by
  rcases (show k = 0 ∨ k = 1 ∨ k = 2 ∨ k = 3 ∨ k = 4 by omega) with rfl | rfl | rfl | rfl | rfl <;> rfl
set_option maxHeartbeats 4000000 in
set_option maxRecDepth 100000 in
/-- Arrays.fill(a, 0), five places -/
theorem c_fill5 (l : Launch) (dC : Nat → ClassId) (dI : Nat → Nat → Nat) (cy : Nat → ClassId) (nb : Nat → Nat) (h0 : Nat) (f : Nat → Int32) (sz : Nat) : Met l yJ7_fill_53178 (wsg yJ7_fill_53178 cJ7_fill_53178 4 none) ({ frames := 7, cells := 0, slots := 0, locals := 200 }) (va_Pc [.ref h0, .int 0] (fun U => U.heap.size = sz ∧ va_P (dC, dI) vwCl [(h0, .inl (cy 1, 5, .inl f))] U.heap ∧ va_K (dC, dI) vwCl (tyL cy) U ∧ va_D (fun _ => True) [(h0, .inl (cy 1, 5, .inl f))] ∧ GE nb (va_A [(h0, .inl (cy 1, 5, .inl f))] sz) U)) (va_Qv (fun (_ : Unit) => True) (fun _ t => ∃ (g : Nat → Int32), (∀ k : Nat, k < 5 → g k = 0) ∧ va_P (dC, dI) vwCl [(h0, .inl (cy 1, 5, .inl g))] t.heap ∧ va_D (va_A [(h0, .inl (cy 1, 5, .inl f))] sz) [(h0, .inl (cy 1, 5, .inl g))]) (va_A [(h0, .inl (cy 1, 5, .inl f))] sz)) 0 0 (va_A [(h0, .inl (cy 1, 5, .inl f))] sz) := by
  refine Met.ofW (cc := cJ7_fill_53178) (maxL := 4) (ret := none) (by decide) rfl ?_
  intro p e s m args below meth c s₁ B hml hv
  obtain ⟨rfl, hsz, hP, hK, hD0, hE⟩ := hv
  have hx := B.exec
  have hb := B.bytes
  have hr := B.returns
  have hts0 := atoms_spec (ws := (wsg yJ7_fill_53178 cJ7_fill_53178 4 none)) B.pre
  have hts : ∀ w ∈ wsL_law, w.before _ s = true := fun w h => hts0 w (List.mem_cons_of_mem _ h)
  have hown : s.vm.findClass RJ7 = some m.cls := findClass_of_methodNamed B.named
  have hlocks := B.notSynchronized
  subst hsz
  have hD := hD0.self (sz := s.heap.size)
  generalize hAe : va_A [(h0, .inl (cy 1, 5, .inl f))] s.heap.size = A at hD hE ⊢
  have hA : ∀ q : Nat, s.heap.size ≤ q → A q := fun q h => by rw [← hAe]; exact Or.inr h
  have hS : va_S A s.heap s.heap [] := va_S.rf
  have hP : va_P (dC, dI) vwCl [(h0, .inl (cy 1, 5, .inl f))] s.heap := hP
  have hl := lv_entry ([.ref h0, .int 0]) (n := 4) (Nat.le_of_ble_eq_true rfl)
  rw [lg_entry_eq]
  generalize (lg_sl ([.ref h0, .int 0]) ++ List.replicate (4 - (lg_sl ([.ref h0, .int 0])).length) Slot.unset).toArray = ls at hl ⊢
  have hl : lv_has ls 4 [(0, .ref h0), (1, .int 0)] := hl
  generalize hHe : s.heap = H at hP hS ⊢
  have hS : va_S A s.heap H [] := by rw [hHe]; exact hS
  refine lv_iconst (v := 0) hx hb dJ7_fill_53178_0 (by decide) ?_
  refine lv_istore_n (lv' := [(2, .int 0), (0, .ref h0), (1, .int 0)]) hx hb dJ7_fill_53178_1 rfl hl (by decide) rfl (fun ls hl => ?_)
  refine lv_aload_n hx hb dJ7_fill_53178_2 rfl (lv_at hl 1 rfl) ?_
  refine va_alen (v := 5) hx hb hK hP 0 1 rfl rfl rfl dJ7_fill_53178_3 ?_
  refine lv_istore_n (lv' := [(3, .int 5), (2, .int 0), (0, .ref h0), (1, .int 0)]) hx hb dJ7_fill_53178_4 rfl hl (by decide) rfl (fun ls hl => ?_)
  refine lv_iload_n hx hb dJ7_fill_53178_5 rfl (lv_at hl 1 rfl) ?_
  refine lv_iload_n hx hb dJ7_fill_53178_6 rfl (lv_at hl 0 rfl) ?_
  refine lv_icmp_ge (tgt := 20) hx hb dJ7_fill_53178_7 (by decide) (fun h => absurd h (by decide)) (fun _ => ?_)
  refine lv_aload_n hx hb dJ7_fill_53178_10 rfl (lv_at hl 2 rfl) ?_
  refine lv_iload_n hx hb dJ7_fill_53178_11 rfl (lv_at hl 1 rfl) ?_
  refine lv_iload_n hx hb dJ7_fill_53178_12 rfl (lv_at hl 3 rfl) ?_
  refine va_iast hx hb hK hP hD hS 0 1 rfl rfl (vp_in_nI (n := 0) (by decide) (by decide)) dJ7_fill_53178_13 (fun H locs hP hD hS => ?_)
  have hP : va_P (dC, dI) vwCl [(h0, .inl (cy 1, 5, .inl (upd f ((0 : Int32).toNatClampNeg) 0)))] H := hP
  have hD : va_D A [(h0, .inl (cy 1, 5, .inl (upd f ((0 : Int32).toNatClampNeg) 0)))] := hD
  refine lv_iinc (v := 1) (lv' := [(2, .int 1), (3, .int 5), (0, .ref h0), (1, .int 0)]) hx hb dJ7_fill_53178_14 hl (k := 1) rfl (by decide) (by decide) rfl (fun ls hl => ?_)
  refine lv_goto (tgt := 5) hx hb dJ7_fill_53178_17 (by decide) ?_
  refine lv_iload_n hx hb dJ7_fill_53178_5 rfl (lv_at hl 0 rfl) ?_
  refine lv_iload_n hx hb dJ7_fill_53178_6 rfl (lv_at hl 1 rfl) ?_
  refine lv_icmp_ge (tgt := 20) hx hb dJ7_fill_53178_7 (by decide) (fun h => absurd h (by decide)) (fun _ => ?_)
  refine lv_aload_n hx hb dJ7_fill_53178_10 rfl (lv_at hl 2 rfl) ?_
  refine lv_iload_n hx hb dJ7_fill_53178_11 rfl (lv_at hl 0 rfl) ?_
  refine lv_iload_n hx hb dJ7_fill_53178_12 rfl (lv_at hl 3 rfl) ?_
  refine va_iast hx hb hK hP hD hS 0 1 rfl rfl (vp_in_nI (n := 1) (by decide) (by decide)) dJ7_fill_53178_13 (fun H locs hP hD hS => ?_)
  have hP : va_P (dC, dI) vwCl [(h0, .inl (cy 1, 5, .inl (upd (upd f ((0 : Int32).toNatClampNeg) 0) ((1 : Int32).toNatClampNeg) 0)))] H := hP
  have hD : va_D A [(h0, .inl (cy 1, 5, .inl (upd (upd f ((0 : Int32).toNatClampNeg) 0) ((1 : Int32).toNatClampNeg) 0)))] := hD
  refine lv_iinc (v := 2) (lv' := [(2, .int 2), (3, .int 5), (0, .ref h0), (1, .int 0)]) hx hb dJ7_fill_53178_14 hl (k := 0) rfl (by decide) (by decide) rfl (fun ls hl => ?_)
  refine lv_goto (tgt := 5) hx hb dJ7_fill_53178_17 (by decide) ?_
  refine lv_iload_n hx hb dJ7_fill_53178_5 rfl (lv_at hl 0 rfl) ?_
  refine lv_iload_n hx hb dJ7_fill_53178_6 rfl (lv_at hl 1 rfl) ?_
  refine lv_icmp_ge (tgt := 20) hx hb dJ7_fill_53178_7 (by decide) (fun h => absurd h (by decide)) (fun _ => ?_)
  refine lv_aload_n hx hb dJ7_fill_53178_10 rfl (lv_at hl 2 rfl) ?_
  refine lv_iload_n hx hb dJ7_fill_53178_11 rfl (lv_at hl 0 rfl) ?_
  refine lv_iload_n hx hb dJ7_fill_53178_12 rfl (lv_at hl 3 rfl) ?_
  refine va_iast hx hb hK hP hD hS 0 1 rfl rfl (vp_in_nI (n := 2) (by decide) (by decide)) dJ7_fill_53178_13 (fun H locs hP hD hS => ?_)
  have hP : va_P (dC, dI) vwCl [(h0, .inl (cy 1, 5, .inl (upd (upd (upd f ((0 : Int32).toNatClampNeg) 0) ((1 : Int32).toNatClampNeg) 0) ((2 : Int32).toNatClampNeg) 0)))] H := hP
  have hD : va_D A [(h0, .inl (cy 1, 5, .inl (upd (upd (upd f ((0 : Int32).toNatClampNeg) 0) ((1 : Int32).toNatClampNeg) 0) ((2 : Int32).toNatClampNeg) 0)))] := hD
  refine lv_iinc (v := 3) (lv' := [(2, .int 3), (3, .int 5), (0, .ref h0), (1, .int 0)]) hx hb dJ7_fill_53178_14 hl (k := 0) rfl (by decide) (by decide) rfl (fun ls hl => ?_)
  refine lv_goto (tgt := 5) hx hb dJ7_fill_53178_17 (by decide) ?_
  refine lv_iload_n hx hb dJ7_fill_53178_5 rfl (lv_at hl 0 rfl) ?_
  refine lv_iload_n hx hb dJ7_fill_53178_6 rfl (lv_at hl 1 rfl) ?_
  refine lv_icmp_ge (tgt := 20) hx hb dJ7_fill_53178_7 (by decide) (fun h => absurd h (by decide)) (fun _ => ?_)
  refine lv_aload_n hx hb dJ7_fill_53178_10 rfl (lv_at hl 2 rfl) ?_
  refine lv_iload_n hx hb dJ7_fill_53178_11 rfl (lv_at hl 0 rfl) ?_
  refine lv_iload_n hx hb dJ7_fill_53178_12 rfl (lv_at hl 3 rfl) ?_
  refine va_iast hx hb hK hP hD hS 0 1 rfl rfl (vp_in_nI (n := 3) (by decide) (by decide)) dJ7_fill_53178_13 (fun H locs hP hD hS => ?_)
  have hP : va_P (dC, dI) vwCl [(h0, .inl (cy 1, 5, .inl (upd (upd (upd (upd f ((0 : Int32).toNatClampNeg) 0) ((1 : Int32).toNatClampNeg) 0) ((2 : Int32).toNatClampNeg) 0) ((3 : Int32).toNatClampNeg) 0)))] H := hP
  have hD : va_D A [(h0, .inl (cy 1, 5, .inl (upd (upd (upd (upd f ((0 : Int32).toNatClampNeg) 0) ((1 : Int32).toNatClampNeg) 0) ((2 : Int32).toNatClampNeg) 0) ((3 : Int32).toNatClampNeg) 0)))] := hD
  refine lv_iinc (v := 4) (lv' := [(2, .int 4), (3, .int 5), (0, .ref h0), (1, .int 0)]) hx hb dJ7_fill_53178_14 hl (k := 0) rfl (by decide) (by decide) rfl (fun ls hl => ?_)
  refine lv_goto (tgt := 5) hx hb dJ7_fill_53178_17 (by decide) ?_
  refine lv_iload_n hx hb dJ7_fill_53178_5 rfl (lv_at hl 0 rfl) ?_
  refine lv_iload_n hx hb dJ7_fill_53178_6 rfl (lv_at hl 1 rfl) ?_
  refine lv_icmp_ge (tgt := 20) hx hb dJ7_fill_53178_7 (by decide) (fun h => absurd h (by decide)) (fun _ => ?_)
  refine lv_aload_n hx hb dJ7_fill_53178_10 rfl (lv_at hl 2 rfl) ?_
  refine lv_iload_n hx hb dJ7_fill_53178_11 rfl (lv_at hl 0 rfl) ?_
  refine lv_iload_n hx hb dJ7_fill_53178_12 rfl (lv_at hl 3 rfl) ?_
  refine va_iast hx hb hK hP hD hS 0 1 rfl rfl (vp_in_nI (n := 4) (by decide) (by decide)) dJ7_fill_53178_13 (fun H locs hP hD hS => ?_)
  have hP : va_P (dC, dI) vwCl [(h0, .inl (cy 1, 5, .inl (upd (upd (upd (upd (upd f ((0 : Int32).toNatClampNeg) 0) ((1 : Int32).toNatClampNeg) 0) ((2 : Int32).toNatClampNeg) 0) ((3 : Int32).toNatClampNeg) 0) ((4 : Int32).toNatClampNeg) 0)))] H := hP
  have hD : va_D A [(h0, .inl (cy 1, 5, .inl (upd (upd (upd (upd (upd f ((0 : Int32).toNatClampNeg) 0) ((1 : Int32).toNatClampNeg) 0) ((2 : Int32).toNatClampNeg) 0) ((3 : Int32).toNatClampNeg) 0) ((4 : Int32).toNatClampNeg) 0)))] := hD
  refine lv_iinc (v := 5) (lv' := [(2, .int 5), (3, .int 5), (0, .ref h0), (1, .int 0)]) hx hb dJ7_fill_53178_14 hl (k := 0) rfl (by decide) (by decide) rfl (fun ls hl => ?_)
  refine lv_goto (tgt := 5) hx hb dJ7_fill_53178_17 (by decide) ?_
  refine lv_iload_n hx hb dJ7_fill_53178_5 rfl (lv_at hl 0 rfl) ?_
  refine lv_iload_n hx hb dJ7_fill_53178_6 rfl (lv_at hl 1 rfl) ?_
  refine lv_icmp_ge (tgt := 20) hx hb dJ7_fill_53178_7 (by decide) (fun _ => ?_) (fun h => absurd (by decide) h)
  refine W.widen (k := 0) (n := 0) (by omega) (by omega) ?_
  exact W.vret hx hb hr (fun t ht hW => ⟨⟨(), rfl, trivial, _, zero5 _, by rw [ht]; exact hP, hD⟩, hS.F ht⟩) hS.2.2 dJ7_fill_53178_20
set_option maxHeartbeats 4000000 in
set_option maxRecDepth 100000 in
/-- Line.begin(..) -/
theorem c_X3_begin (l : Launch) (dC : Nat → ClassId) (dI : Nat → Nat → Nat) (cy : Nat → ClassId) (nb : Nat → Nat) (h0 : Nat) (a1 : Nat) (a2 : Nat) (a3 : Nat) (a4 : Nat) (a5 : Nat) (a6 : Nat) (v0 : Value) (v1 : Value) (v2 : Value) (v3 : Value) (v4 : Value) (v5 : Value) (v6 : Value) (v7 : Value) (v8 : Value) (v9 : Value) (v16 : Value) (f : Nat → Int32) (g : Nat → Int32) (x1 : Int32) (x2 : Int32) (x3 : Int32) (x4 : Int32) (sz : Nat) : Met l yX3_begin (wsg yX3_begin cX3_begin 5 none) ({ frames := 9, cells := 0, slots := 0, locals := 400 }) (va_Pc [.ref h0, .int x1, .int x2, .int x3, .int x4] (fun U => U.heap.size = sz ∧ va_P (dC, dI) vwCl [(h0, .inr (3, [v0, v1, v2, v3, v4, v5, v6, v7, v8, v9, .ref a1, .ref a2, .ref a3, .ref a4, .ref a5, .ref a6, v16])), (a4, .inl (cy 1, 5, .inl f)), (a6, .inl (cy 1, 5, .inl g))] U.heap ∧ va_K (dC, dI) vwCl (tyL cy) U ∧ va_D (fun _ => True) [(h0, .inr (3, [v0, v1, v2, v3, v4, v5, v6, v7, v8, v9, .ref a1, .ref a2, .ref a3, .ref a4, .ref a5, .ref a6, v16])), (a4, .inl (cy 1, 5, .inl f)), (a6, .inl (cy 1, 5, .inl g))] ∧ GE nb (va_A [(h0, .inr (3, [v0, v1, v2, v3, v4, v5, v6, v7, v8, v9, .ref a1, .ref a2, .ref a3, .ref a4, .ref a5, .ref a6, v16])), (a4, .inl (cy 1, 5, .inl f)), (a6, .inl (cy 1, 5, .inl g))] sz) U)) (va_Qv (fun (_ : Unit) => True) (fun _ t => ∃ (f2 : Nat → Int32), (∀ k : Nat, k < 5 → f2 k = 0) ∧ ∃ (g2 : Nat → Int32), (∀ k : Nat, k < 5 → g2 k = 0) ∧ va_P (dC, dI) vwCl [(h0, .inr (3, [.int x1, .int x3, .int x4, .int x2, .int 0, .int x2, .int 0, .int 0, .int 0, .int 0, .ref a1, .ref a2, .ref a3, .ref a4, .ref a5, .ref a6, v16])), (a4, .inl (cy 1, 5, .inl f2)), (a6, .inl (cy 1, 5, .inl g2))] t.heap ∧ va_D (va_A [(h0, .inr (3, [v0, v1, v2, v3, v4, v5, v6, v7, v8, v9, .ref a1, .ref a2, .ref a3, .ref a4, .ref a5, .ref a6, v16])), (a4, .inl (cy 1, 5, .inl f)), (a6, .inl (cy 1, 5, .inl g))] sz) [(h0, .inr (3, [.int x1, .int x3, .int x4, .int x2, .int 0, .int x2, .int 0, .int 0, .int 0, .int 0, .ref a1, .ref a2, .ref a3, .ref a4, .ref a5, .ref a6, v16])), (a4, .inl (cy 1, 5, .inl f2)), (a6, .inl (cy 1, 5, .inl g2))]) (va_A [(h0, .inr (3, [v0, v1, v2, v3, v4, v5, v6, v7, v8, v9, .ref a1, .ref a2, .ref a3, .ref a4, .ref a5, .ref a6, v16])), (a4, .inl (cy 1, 5, .inl f)), (a6, .inl (cy 1, 5, .inl g))] sz)) 0 0 (va_A [(h0, .inr (3, [v0, v1, v2, v3, v4, v5, v6, v7, v8, v9, .ref a1, .ref a2, .ref a3, .ref a4, .ref a5, .ref a6, v16])), (a4, .inl (cy 1, 5, .inl f)), (a6, .inl (cy 1, 5, .inl g))] sz) := by
  refine Met.ofW (cc := cX3_begin) (maxL := 5) (ret := none) (by decide) rfl ?_
  intro p e s m args below meth c s₁ B hml hv
  obtain ⟨rfl, hsz, hP, hK, hD0, hE⟩ := hv
  have hx := B.exec
  have hb := B.bytes
  have hr := B.returns
  have hts0 := atoms_spec (ws := (wsg yX3_begin cX3_begin 5 none)) B.pre
  have hts : ∀ w ∈ wsL_law, w.before _ s = true := fun w h => hts0 w (List.mem_cons_of_mem _ h)
  have hown : s.vm.findClass RX3 = some m.cls := findClass_of_methodNamed B.named
  have hlocks := B.notSynchronized
  subst hsz
  have hD := hD0.self (sz := s.heap.size)
  generalize hAe : va_A [(h0, .inr (3, [v0, v1, v2, v3, v4, v5, v6, v7, v8, v9, .ref a1, .ref a2, .ref a3, .ref a4, .ref a5, .ref a6, v16])), (a4, .inl (cy 1, 5, .inl f)), (a6, .inl (cy 1, 5, .inl g))] s.heap.size = A at hD hE ⊢
  have hA : ∀ q : Nat, s.heap.size ≤ q → A q := fun q h => by rw [← hAe]; exact Or.inr h
  have hS : va_S A s.heap s.heap [] := va_S.rf
  have hP : va_P (dC, dI) vwCl [(h0, .inr (3, [v0, v1, v2, v3, v4, v5, v6, v7, v8, v9, .ref a1, .ref a2, .ref a3, .ref a4, .ref a5, .ref a6, v16])), (a4, .inl (cy 1, 5, .inl f)), (a6, .inl (cy 1, 5, .inl g))] s.heap := hP
  have hl := lv_entry ([.ref h0, .int x1, .int x2, .int x3, .int x4]) (n := 5) (Nat.le_of_ble_eq_true rfl)
  rw [lg_entry_eq]
  generalize (lg_sl ([.ref h0, .int x1, .int x2, .int x3, .int x4]) ++ List.replicate (5 - (lg_sl ([.ref h0, .int x1, .int x2, .int x3, .int x4])).length) Slot.unset).toArray = ls at hl ⊢
  have hl : lv_has ls 5 [(0, .ref h0), (1, .int x1), (2, .int x2), (3, .int x3), (4, .int x4)] := hl
  generalize hHe : s.heap = H at hP hS ⊢
  have hS : va_S A s.heap H [] := by rw [hHe]; exact hS
  refine lv_aload_n hx hb dX3_begin_0 rfl (lv_at hl 0 rfl) ?_
  refine lv_iload_n hx hb dX3_begin_1 rfl (lv_at hl 1 rfl) ?_
  refine va_put (D := (dC, dI)) (ci := 3) (v := .int x1) (ty := .int) (C := RX3) (T := TX3) (N := 17) hx hb hts inlX3 tyX3 tyX3_ok nmX3 hown hK hP hD hS 0 rfl rfl 0 (by decide) (hts _ mw_39) (fun _ h9 => h9) rfl (by decide +kernel) rfl rfl (Nat.le_of_ble_eq_true rfl) dX3_begin_2 (fun H locs hP hD hS => ?_)
  have hP : va_P (dC, dI) vwCl [(h0, .inr (3, [.int x1, v1, v2, v3, v4, v5, v6, v7, v8, v9, .ref a1, .ref a2, .ref a3, .ref a4, .ref a5, .ref a6, v16])), (a4, .inl (cy 1, 5, .inl f)), (a6, .inl (cy 1, 5, .inl g))] H := hP
  have hD : va_D A [(h0, .inr (3, [.int x1, v1, v2, v3, v4, v5, v6, v7, v8, v9, .ref a1, .ref a2, .ref a3, .ref a4, .ref a5, .ref a6, v16])), (a4, .inl (cy 1, 5, .inl f)), (a6, .inl (cy 1, 5, .inl g))] := hD
  refine lv_aload_n hx hb dX3_begin_5 rfl (lv_at hl 0 rfl) ?_
  refine lv_iload_n hx hb dX3_begin_6 rfl (lv_at hl 2 rfl) ?_
  refine va_put (D := (dC, dI)) (ci := 3) (v := .int x2) (ty := .int) (C := RX3) (T := TX3) (N := 17) hx hb hts inlX3 tyX3 tyX3_ok nmX3 hown hK hP hD hS 0 rfl rfl 3 (by decide) (hts _ mw_80) (fun _ h9 => h9) rfl (by decide +kernel) rfl rfl (Nat.le_of_ble_eq_true rfl) dX3_begin_7 (fun H locs hP hD hS => ?_)
  have hP : va_P (dC, dI) vwCl [(h0, .inr (3, [.int x1, v1, v2, .int x2, v4, v5, v6, v7, v8, v9, .ref a1, .ref a2, .ref a3, .ref a4, .ref a5, .ref a6, v16])), (a4, .inl (cy 1, 5, .inl f)), (a6, .inl (cy 1, 5, .inl g))] H := hP
  have hD : va_D A [(h0, .inr (3, [.int x1, v1, v2, .int x2, v4, v5, v6, v7, v8, v9, .ref a1, .ref a2, .ref a3, .ref a4, .ref a5, .ref a6, v16])), (a4, .inl (cy 1, 5, .inl f)), (a6, .inl (cy 1, 5, .inl g))] := hD
  refine lv_aload_n hx hb dX3_begin_10 rfl (lv_at hl 0 rfl) ?_
  refine lv_iconst (v := 0) hx hb dX3_begin_11 (by decide) ?_
  refine va_put (D := (dC, dI)) (ci := 3) (v := .int 0) (ty := .int) (C := RX3) (T := TX3) (N := 17) hx hb hts inlX3 tyX3 tyX3_ok nmX3 hown hK hP hD hS 0 rfl rfl 4 (by decide) (hts _ mw_81) (fun _ h9 => h9) rfl (by decide +kernel) rfl rfl (Nat.le_of_ble_eq_true rfl) dX3_begin_12 (fun H locs hP hD hS => ?_)
  have hP : va_P (dC, dI) vwCl [(h0, .inr (3, [.int x1, v1, v2, .int x2, .int 0, v5, v6, v7, v8, v9, .ref a1, .ref a2, .ref a3, .ref a4, .ref a5, .ref a6, v16])), (a4, .inl (cy 1, 5, .inl f)), (a6, .inl (cy 1, 5, .inl g))] H := hP
  have hD : va_D A [(h0, .inr (3, [.int x1, v1, v2, .int x2, .int 0, v5, v6, v7, v8, v9, .ref a1, .ref a2, .ref a3, .ref a4, .ref a5, .ref a6, v16])), (a4, .inl (cy 1, 5, .inl f)), (a6, .inl (cy 1, 5, .inl g))] := hD
  refine lv_aload_n hx hb dX3_begin_15 rfl (lv_at hl 0 rfl) ?_
  refine lv_iload_n hx hb dX3_begin_16 rfl (lv_at hl 2 rfl) ?_
  refine va_put (D := (dC, dI)) (ci := 3) (v := .int x2) (ty := .int) (C := RX3) (T := TX3) (N := 17) hx hb hts inlX3 tyX3 tyX3_ok nmX3 hown hK hP hD hS 0 rfl rfl 5 (by decide) (hts _ mw_82) (fun _ h9 => h9) rfl (by decide +kernel) rfl rfl (Nat.le_of_ble_eq_true rfl) dX3_begin_17 (fun H locs hP hD hS => ?_)
  have hP : va_P (dC, dI) vwCl [(h0, .inr (3, [.int x1, v1, v2, .int x2, .int 0, .int x2, v6, v7, v8, v9, .ref a1, .ref a2, .ref a3, .ref a4, .ref a5, .ref a6, v16])), (a4, .inl (cy 1, 5, .inl f)), (a6, .inl (cy 1, 5, .inl g))] H := hP
  have hD : va_D A [(h0, .inr (3, [.int x1, v1, v2, .int x2, .int 0, .int x2, v6, v7, v8, v9, .ref a1, .ref a2, .ref a3, .ref a4, .ref a5, .ref a6, v16])), (a4, .inl (cy 1, 5, .inl f)), (a6, .inl (cy 1, 5, .inl g))] := hD
  refine lv_aload_n hx hb dX3_begin_20 rfl (lv_at hl 0 rfl) ?_
  refine lv_iload_n hx hb dX3_begin_21 rfl (lv_at hl 3 rfl) ?_
  refine va_put (D := (dC, dI)) (ci := 3) (v := .int x3) (ty := .int) (C := RX3) (T := TX3) (N := 17) hx hb hts inlX3 tyX3 tyX3_ok nmX3 hown hK hP hD hS 0 rfl rfl 1 (by decide) (hts _ mw_83) (fun _ h9 => h9) rfl (by decide +kernel) rfl rfl (Nat.le_of_ble_eq_true rfl) dX3_begin_22 (fun H locs hP hD hS => ?_)
  have hP : va_P (dC, dI) vwCl [(h0, .inr (3, [.int x1, .int x3, v2, .int x2, .int 0, .int x2, v6, v7, v8, v9, .ref a1, .ref a2, .ref a3, .ref a4, .ref a5, .ref a6, v16])), (a4, .inl (cy 1, 5, .inl f)), (a6, .inl (cy 1, 5, .inl g))] H := hP
  have hD : va_D A [(h0, .inr (3, [.int x1, .int x3, v2, .int x2, .int 0, .int x2, v6, v7, v8, v9, .ref a1, .ref a2, .ref a3, .ref a4, .ref a5, .ref a6, v16])), (a4, .inl (cy 1, 5, .inl f)), (a6, .inl (cy 1, 5, .inl g))] := hD
  refine lv_aload_n hx hb dX3_begin_25 rfl (lv_at hl 0 rfl) ?_
  refine lv_iload hx hb dX3_begin_26 (lv_at hl 4 rfl) ?_
  refine va_put (D := (dC, dI)) (ci := 3) (v := .int x4) (ty := .int) (C := RX3) (T := TX3) (N := 17) hx hb hts inlX3 tyX3 tyX3_ok nmX3 hown hK hP hD hS 0 rfl rfl 2 (by decide) (hts _ mw_84) (fun _ h9 => h9) rfl (by decide +kernel) rfl rfl (Nat.le_of_ble_eq_true rfl) dX3_begin_28 (fun H locs hP hD hS => ?_)
  have hP : va_P (dC, dI) vwCl [(h0, .inr (3, [.int x1, .int x3, .int x4, .int x2, .int 0, .int x2, v6, v7, v8, v9, .ref a1, .ref a2, .ref a3, .ref a4, .ref a5, .ref a6, v16])), (a4, .inl (cy 1, 5, .inl f)), (a6, .inl (cy 1, 5, .inl g))] H := hP
  have hD : va_D A [(h0, .inr (3, [.int x1, .int x3, .int x4, .int x2, .int 0, .int x2, v6, v7, v8, v9, .ref a1, .ref a2, .ref a3, .ref a4, .ref a5, .ref a6, v16])), (a4, .inl (cy 1, 5, .inl f)), (a6, .inl (cy 1, 5, .inl g))] := hD
  refine lv_aload_n hx hb dX3_begin_31 rfl (lv_at hl 0 rfl) ?_
  refine lv_iconst (v := 0) hx hb dX3_begin_32 (by decide) ?_
  refine va_put (D := (dC, dI)) (ci := 3) (v := .int 0) (ty := .int) (C := RX3) (T := TX3) (N := 17) hx hb hts inlX3 tyX3 tyX3_ok nmX3 hown hK hP hD hS 0 rfl rfl 6 (by decide) (hts _ mw_85) (fun _ h9 => h9) rfl (by decide +kernel) rfl rfl (Nat.le_of_ble_eq_true rfl) dX3_begin_33 (fun H locs hP hD hS => ?_)
  have hP : va_P (dC, dI) vwCl [(h0, .inr (3, [.int x1, .int x3, .int x4, .int x2, .int 0, .int x2, .int 0, v7, v8, v9, .ref a1, .ref a2, .ref a3, .ref a4, .ref a5, .ref a6, v16])), (a4, .inl (cy 1, 5, .inl f)), (a6, .inl (cy 1, 5, .inl g))] H := hP
  have hD : va_D A [(h0, .inr (3, [.int x1, .int x3, .int x4, .int x2, .int 0, .int x2, .int 0, v7, v8, v9, .ref a1, .ref a2, .ref a3, .ref a4, .ref a5, .ref a6, v16])), (a4, .inl (cy 1, 5, .inl f)), (a6, .inl (cy 1, 5, .inl g))] := hD
  refine lv_aload_n hx hb dX3_begin_36 rfl (lv_at hl 0 rfl) ?_
  refine lv_iconst (v := 0) hx hb dX3_begin_37 (by decide) ?_
  refine va_put (D := (dC, dI)) (ci := 3) (v := .int 0) (ty := .int) (C := RX3) (T := TX3) (N := 17) hx hb hts inlX3 tyX3 tyX3_ok nmX3 hown hK hP hD hS 0 rfl rfl 7 (by decide) (hts _ mw_86) (fun _ h9 => h9) rfl (by decide +kernel) rfl rfl (Nat.le_of_ble_eq_true rfl) dX3_begin_38 (fun H locs hP hD hS => ?_)
  have hP : va_P (dC, dI) vwCl [(h0, .inr (3, [.int x1, .int x3, .int x4, .int x2, .int 0, .int x2, .int 0, .int 0, v8, v9, .ref a1, .ref a2, .ref a3, .ref a4, .ref a5, .ref a6, v16])), (a4, .inl (cy 1, 5, .inl f)), (a6, .inl (cy 1, 5, .inl g))] H := hP
  have hD : va_D A [(h0, .inr (3, [.int x1, .int x3, .int x4, .int x2, .int 0, .int x2, .int 0, .int 0, v8, v9, .ref a1, .ref a2, .ref a3, .ref a4, .ref a5, .ref a6, v16])), (a4, .inl (cy 1, 5, .inl f)), (a6, .inl (cy 1, 5, .inl g))] := hD
  refine lv_aload_n hx hb dX3_begin_41 rfl (lv_at hl 0 rfl) ?_
  refine lv_iconst (v := 0) hx hb dX3_begin_42 (by decide) ?_
  refine va_put (D := (dC, dI)) (ci := 3) (v := .int 0) (ty := .int) (C := RX3) (T := TX3) (N := 17) hx hb hts inlX3 tyX3 tyX3_ok nmX3 hown hK hP hD hS 0 rfl rfl 8 (by decide) (hts _ mw_87) (fun _ h9 => h9) rfl (by decide +kernel) rfl rfl (Nat.le_of_ble_eq_true rfl) dX3_begin_43 (fun H locs hP hD hS => ?_)
  have hP : va_P (dC, dI) vwCl [(h0, .inr (3, [.int x1, .int x3, .int x4, .int x2, .int 0, .int x2, .int 0, .int 0, .int 0, v9, .ref a1, .ref a2, .ref a3, .ref a4, .ref a5, .ref a6, v16])), (a4, .inl (cy 1, 5, .inl f)), (a6, .inl (cy 1, 5, .inl g))] H := hP
  have hD : va_D A [(h0, .inr (3, [.int x1, .int x3, .int x4, .int x2, .int 0, .int x2, .int 0, .int 0, .int 0, v9, .ref a1, .ref a2, .ref a3, .ref a4, .ref a5, .ref a6, v16])), (a4, .inl (cy 1, 5, .inl f)), (a6, .inl (cy 1, 5, .inl g))] := hD
  refine lv_aload_n hx hb dX3_begin_46 rfl (lv_at hl 0 rfl) ?_
  refine lv_iconst (v := 0) hx hb dX3_begin_47 (by decide) ?_
  refine va_put (D := (dC, dI)) (ci := 3) (v := .int 0) (ty := .int) (C := RX3) (T := TX3) (N := 17) hx hb hts inlX3 tyX3 tyX3_ok nmX3 hown hK hP hD hS 0 rfl rfl 9 (by decide) (hts _ mw_88) (fun _ h9 => h9) rfl (by decide +kernel) rfl rfl (Nat.le_of_ble_eq_true rfl) dX3_begin_48 (fun H locs hP hD hS => ?_)
  have hP : va_P (dC, dI) vwCl [(h0, .inr (3, [.int x1, .int x3, .int x4, .int x2, .int 0, .int x2, .int 0, .int 0, .int 0, .int 0, .ref a1, .ref a2, .ref a3, .ref a4, .ref a5, .ref a6, v16])), (a4, .inl (cy 1, 5, .inl f)), (a6, .inl (cy 1, 5, .inl g))] H := hP
  have hD : va_D A [(h0, .inr (3, [.int x1, .int x3, .int x4, .int x2, .int 0, .int x2, .int 0, .int 0, .int 0, .int 0, .ref a1, .ref a2, .ref a3, .ref a4, .ref a5, .ref a6, v16])), (a4, .inl (cy 1, 5, .inl f)), (a6, .inl (cy 1, 5, .inl g))] := hD
  refine lv_aload_n hx hb dX3_begin_51 rfl (lv_at hl 0 rfl) ?_
  refine va_get (D := (dC, dI)) (ci := 3) (v := .ref a4) (C := RX3) (T := TX3) (N := 17) hx hb hts inlX3 hown hK hP 0 rfl rfl 13 (by decide) (hts _ mw_46) (fun _ h9 => h9) rfl dX3_begin_52 ?_
  refine lv_iconst (v := 0) hx hb dX3_begin_55 (by decide) ?_
  have hPc := hP.sub (ws' := [(a4, .inl (cy 1, 5, .inl f))]) [1] rfl
  have hDc := hD.sub (ws' := [(a4, .inl (cy 1, 5, .inl f))]) [1] (by decide) rfl
  have hFc := va_free (wc := [(a4, .inl (cy 1, 5, .inl f))]) hD hS hA [1] rfl
  refine va_callv (va_runS (As := [.ref a4, .int 0]) (rest := []) ⟨hx, hb, hml, hown, hts⟩ (c_fill5 l dC dI cy nb a4 f H.size) (va_cwS 2 hts (gS mw_89 mw_90 mw_91 mw_92) rfl rfl rfl (by decide +kernel) ⟨Nat.le_of_ble_eq_true rfl, Nat.le_of_ble_eq_true rfl⟩) ⟨fun a U g mk q => by obtain ⟨q0, q1, qP, qK, qD, qE⟩ := q; exact ⟨q0, q1, qP, va_K.moved (u := U) (U := U.calling g mk a) (Vm.Alike.refl U.vm) qK, qD, GE.calling qE⟩, fun U hU hW => ⟨rfl, by rw [hU], by rw [hU]; exact hPc, va_K.moved hW.alike hK, hDc.weaken (fun _ _ _ _ => trivial), GE.call hE hS hFc hU hW⟩⟩ rfl rfl hl.1 rfl (lv_room (Nat.le_of_ble_eq_true rfl)) dX3_begin_56 ⟨Nat.le_of_ble_eq_true rfl, Nat.le_of_ble_eq_true rfl⟩) hS (fun q _ h => hFc q h) hFc (fun u t H1 locs ht hvm hw3 hB hz1 hk1 hS => ?_)
  obtain ⟨g1, hg2, hP1, hD1⟩ := hB
  rw [ht] at hP1
  obtain ⟨hP, hD⟩ := va_join (wr := [(h0, .inr (3, [.int x1, .int x3, .int x4, .int x2, .int 0, .int x2, .int 0, .int 0, .int 0, .int 0, .ref a1, .ref a2, .ref a3, .ref a4, .ref a5, .ref a6, v16])), (a6, .inl (cy 1, 5, .inl g))]) (w1 := [(a4, .inl (cy 1, 5, .inl g1))]) hP hD [1] [0, 2] rfl rfl (by decide) (by decide) hk1 hFc hP1 hD1
  generalize H1 = H at hP hS ⊢
  have hP : va_P (dC, dI) vwCl [(h0, .inr (3, [.int x1, .int x3, .int x4, .int x2, .int 0, .int x2, .int 0, .int 0, .int 0, .int 0, .ref a1, .ref a2, .ref a3, .ref a4, .ref a5, .ref a6, v16])), (a6, .inl (cy 1, 5, .inl g)), (a4, .inl (cy 1, 5, .inl g1))] H := hP
  have hD : va_D A [(h0, .inr (3, [.int x1, .int x3, .int x4, .int x2, .int 0, .int x2, .int 0, .int 0, .int 0, .int 0, .ref a1, .ref a2, .ref a3, .ref a4, .ref a5, .ref a6, v16])), (a6, .inl (cy 1, 5, .inl g)), (a4, .inl (cy 1, 5, .inl g1))] := hD
  refine W.widen (k := 0) (n := 0) (by omega) (by omega) ?_
  refine lv_aload_n hx hb dX3_begin_59 rfl (lv_at hl 0 rfl) ?_
  refine va_get (D := (dC, dI)) (ci := 3) (v := .ref a6) (C := RX3) (T := TX3) (N := 17) hx hb hts inlX3 hown hK hP 0 rfl rfl 15 (by decide) (hts _ mw_48) (fun _ h9 => h9) rfl dX3_begin_60 ?_
  refine lv_iconst (v := 0) hx hb dX3_begin_63 (by decide) ?_
  have hPc := hP.sub (ws' := [(a6, .inl (cy 1, 5, .inl g))]) [1] rfl
  have hDc := hD.sub (ws' := [(a6, .inl (cy 1, 5, .inl g))]) [1] (by decide) rfl
  have hFc := va_free (wc := [(a6, .inl (cy 1, 5, .inl g))]) hD hS hA [1] rfl
  refine va_callv (va_runS (As := [.ref a6, .int 0]) (rest := []) ⟨hx, hb, hml, hown, hts⟩ (c_fill5 l dC dI cy nb a6 g H.size) (va_cwS 2 hts (gS mw_89 mw_90 mw_91 mw_92) rfl rfl rfl (by decide +kernel) ⟨Nat.le_of_ble_eq_true rfl, Nat.le_of_ble_eq_true rfl⟩) ⟨fun a U g mk q => by obtain ⟨q0, q1, qP, qK, qD, qE⟩ := q; exact ⟨q0, q1, qP, va_K.moved (u := U) (U := U.calling g mk a) (Vm.Alike.refl U.vm) qK, qD, GE.calling qE⟩, fun U hU hW => ⟨rfl, by rw [hU], by rw [hU]; exact hPc, va_K.moved hW.alike hK, hDc.weaken (fun _ _ _ _ => trivial), GE.call hE hS hFc hU hW⟩⟩ rfl rfl hl.1 rfl (lv_room (Nat.le_of_ble_eq_true rfl)) dX3_begin_64 ⟨Nat.le_of_ble_eq_true rfl, Nat.le_of_ble_eq_true rfl⟩) hS (fun q _ h => hFc q h) hFc (fun u t H1 locs ht hvm hw6 hB hz1 hk1 hS => ?_)
  obtain ⟨g4, hg5, hP1, hD1⟩ := hB
  rw [ht] at hP1
  obtain ⟨hP, hD⟩ := va_join (wr := [(h0, .inr (3, [.int x1, .int x3, .int x4, .int x2, .int 0, .int x2, .int 0, .int 0, .int 0, .int 0, .ref a1, .ref a2, .ref a3, .ref a4, .ref a5, .ref a6, v16])), (a4, .inl (cy 1, 5, .inl g1))]) (w1 := [(a6, .inl (cy 1, 5, .inl g4))]) hP hD [1] [0, 2] rfl rfl (by decide) (by decide) hk1 hFc hP1 hD1
  generalize H1 = H at hP hS ⊢
  have hP : va_P (dC, dI) vwCl [(h0, .inr (3, [.int x1, .int x3, .int x4, .int x2, .int 0, .int x2, .int 0, .int 0, .int 0, .int 0, .ref a1, .ref a2, .ref a3, .ref a4, .ref a5, .ref a6, v16])), (a4, .inl (cy 1, 5, .inl g1)), (a6, .inl (cy 1, 5, .inl g4))] H := hP
  have hD : va_D A [(h0, .inr (3, [.int x1, .int x3, .int x4, .int x2, .int 0, .int x2, .int 0, .int 0, .int 0, .int 0, .ref a1, .ref a2, .ref a3, .ref a4, .ref a5, .ref a6, v16])), (a4, .inl (cy 1, 5, .inl g1)), (a6, .inl (cy 1, 5, .inl g4))] := hD
  refine W.widen (k := 0) (n := 0) (by omega) (by omega) ?_
  have hP9 := hP.sub (ws' := [(h0, .inr (3, [.int x1, .int x3, .int x4, .int x2, .int 0, .int x2, .int 0, .int 0, .int 0, .int 0, .ref a1, .ref a2, .ref a3, .ref a4, .ref a5, .ref a6, v16])), (a4, .inl (cy 1, 5, .inl g1)), (a6, .inl (cy 1, 5, .inl g4))]) [0, 1, 2] rfl
  have hD9 := hD.sub (ws' := [(h0, .inr (3, [.int x1, .int x3, .int x4, .int x2, .int 0, .int x2, .int 0, .int 0, .int 0, .int 0, .ref a1, .ref a2, .ref a3, .ref a4, .ref a5, .ref a6, v16])), (a4, .inl (cy 1, 5, .inl g1)), (a6, .inl (cy 1, 5, .inl g4))]) [0, 1, 2] (by decide) rfl
  refine W.widen (k := 0) (n := 0) (by omega) (by omega) ?_
  exact W.vret hx hb hr (fun t ht hW => ⟨⟨(), rfl, trivial, g1, hg2, g4, hg5, by rw [ht]; exact hP9, hD9⟩, hS.F ht⟩) hS.2.2 dX3_begin_67
