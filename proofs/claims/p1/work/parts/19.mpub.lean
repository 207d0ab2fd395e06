theorem inB_nI {N a b : Nat} (h1 : a ≤ N) (h2 : N ≤ b) (hb : b < 2 ^ 31) : inB (nI N).toInt64 (lN a) (lN b) = 1 := by
  have e : (nI N).toInt64 = lN N := nI_l (by omega)
  unfold inB
  rw [e, if_pos ⟨(lN_le (by omega) (by omega)).mpr h1, (lN_le (by omega) (by omega)).mpr h2⟩]
theorem my_0a (x : Int32) : 0 + x = x := Int32.zero_add x
set_option maxHeartbeats 4000000 in
set_option maxRecDepth 100000 in
/-- X8_run -/
theorem c_X8_run (l : Launch) (dC : Nat → ClassId) (dI : Nat → Nat → Nat) (cy : Nat → ClassId) (nb : Nat → Nat) (h0 : Nat) (a1 : Nat) (a2 : Nat) (a3 : Nat) (a4 : Nat) (a5 : Nat) (a6 : Nat) (a7 : Nat) (a8 : Nat) (a9 : Nat) (b0 : Nat) (x6 : Int32) (g : Nat → Int32) (gp : Nat → Int32) (y : Nat) (sz : Nat) (hg : FN g) (hy1 : 1 ≤ y) (hy2 : y ≤ 2000) : Met l yX8_run (wsg yX8_run cX8_run 3 (some .int)) ({ frames := 14, cells := 0, slots := 0, locals := 900 }) (va_Pc [.ref h0, .int (nI y)] (fun U => U.heap.size = sz ∧ va_P (dC, dI) vwCl [(h0, .inr (8, [.ref a1, .ref a2, .ref a3, .ref a4, .ref a5, .int 0, .int x6, .ref a6, .int 0, .int 0, .int 0, .int 0, .int 0, .int 0, .int 0, .int 0, .int (-1), .ref a7, .ref a8, .int 0, .ref a9, .ref b0, .int 0])), (a1, .inl (cy 1, 1037, .inl g)), (a3, .inl (cy 1, 8296, .inl gp))] U.heap ∧ va_K (dC, dI) vwCl (tyL cy) U ∧ va_D (fun _ => True) [(h0, .inr (8, [.ref a1, .ref a2, .ref a3, .ref a4, .ref a5, .int 0, .int x6, .ref a6, .int 0, .int 0, .int 0, .int 0, .int 0, .int 0, .int 0, .int 0, .int (-1), .ref a7, .ref a8, .int 0, .ref a9, .ref b0, .int 0])), (a1, .inl (cy 1, 1037, .inl g)), (a3, .inl (cy 1, 8296, .inl gp))] ∧ GE nb (va_A [(h0, .inr (8, [.ref a1, .ref a2, .ref a3, .ref a4, .ref a5, .int 0, .int x6, .ref a6, .int 0, .int 0, .int 0, .int 0, .int 0, .int 0, .int 0, .int 0, .int (-1), .ref a7, .ref a8, .int 0, .ref a9, .ref b0, .int 0])), (a1, .inl (cy 1, 1037, .inl g)), (a3, .inl (cy 1, 8296, .inl gp))] sz) U)) (va_Qi (fun (r : Int32) (_ : Unit) => r = 0) (fun _ t => va_P (dC, dI) vwCl [(h0, .inr (8, [.ref a1, .ref a2, .ref a3, .ref a4, .ref a5, .int 1, .int 0, .ref a6, .int 0, .int 0, .int 0, .int 0, .int 0, .int 0, .int 0, .int 0, .int (-1), .ref a7, .ref a8, .int 0, .ref a9, .ref b0, .int 0]))] t.heap ∧ va_D (va_A [(h0, .inr (8, [.ref a1, .ref a2, .ref a3, .ref a4, .ref a5, .int 0, .int x6, .ref a6, .int 0, .int 0, .int 0, .int 0, .int 0, .int 0, .int 0, .int 0, .int (-1), .ref a7, .ref a8, .int 0, .ref a9, .ref b0, .int 0])), (a1, .inl (cy 1, 1037, .inl g)), (a3, .inl (cy 1, 8296, .inl gp))] sz) [(h0, .inr (8, [.ref a1, .ref a2, .ref a3, .ref a4, .ref a5, .int 1, .int 0, .ref a6, .int 0, .int 0, .int 0, .int 0, .int 0, .int 0, .int 0, .int 0, .int (-1), .ref a7, .ref a8, .int 0, .ref a9, .ref b0, .int 0]))]) (va_A [(h0, .inr (8, [.ref a1, .ref a2, .ref a3, .ref a4, .ref a5, .int 0, .int x6, .ref a6, .int 0, .int 0, .int 0, .int 0, .int 0, .int 0, .int 0, .int 0, .int (-1), .ref a7, .ref a8, .int 0, .ref a9, .ref b0, .int 0])), (a1, .inl (cy 1, 1037, .inl g)), (a3, .inl (cy 1, 8296, .inl gp))] sz)) 0 0 (va_A [(h0, .inr (8, [.ref a1, .ref a2, .ref a3, .ref a4, .ref a5, .int 0, .int x6, .ref a6, .int 0, .int 0, .int 0, .int 0, .int 0, .int 0, .int 0, .int 0, .int (-1), .ref a7, .ref a8, .int 0, .ref a9, .ref b0, .int 0])), (a1, .inl (cy 1, 1037, .inl g)), (a3, .inl (cy 1, 8296, .inl gp))] sz) := by
  refine Met.ofW (cc := cX8_run) (maxL := 3) (ret := (some .int)) (by decide) rfl ?_
  intro p e s m args below meth c s₁ B hml hv
  obtain ⟨rfl, hsz, hP, hK, hD0, hE⟩ := hv
  have hx := B.exec
  have hb := B.bytes
  have hr := B.returns
  have hts0 := atoms_spec (ws := (wsg yX8_run cX8_run 3 (some .int))) B.pre
  have hts : ∀ w ∈ wsL_law, w.before _ s = true := fun w h => hts0 w (List.mem_cons_of_mem _ h)
  have hown : s.vm.findClass RX8 = some m.cls := findClass_of_methodNamed B.named
  have hlocks := B.notSynchronized
  subst hsz
  have hD := hD0.self (sz := s.heap.size)
  generalize hAe : va_A [(h0, .inr (8, [.ref a1, .ref a2, .ref a3, .ref a4, .ref a5, .int 0, .int x6, .ref a6, .int 0, .int 0, .int 0, .int 0, .int 0, .int 0, .int 0, .int 0, .int (-1), .ref a7, .ref a8, .int 0, .ref a9, .ref b0, .int 0])), (a1, .inl (cy 1, 1037, .inl g)), (a3, .inl (cy 1, 8296, .inl gp))] s.heap.size = A at hD hE ⊢
  have hA : ∀ q : Nat, s.heap.size ≤ q → A q := fun q h => by rw [← hAe]; exact Or.inr h
  have hS : va_S A s.heap s.heap [] := va_S.rf
  have hP : va_P (dC, dI) vwCl [(h0, .inr (8, [.ref a1, .ref a2, .ref a3, .ref a4, .ref a5, .int 0, .int x6, .ref a6, .int 0, .int 0, .int 0, .int 0, .int 0, .int 0, .int 0, .int 0, .int (-1), .ref a7, .ref a8, .int 0, .ref a9, .ref b0, .int 0])), (a1, .inl (cy 1, 1037, .inl g)), (a3, .inl (cy 1, 8296, .inl gp))] s.heap := hP
  have hl := lv_entry ([.ref h0, .int (nI y)]) (n := 3) (Nat.le_of_ble_eq_true rfl)
  rw [lg_entry_eq]
  generalize (lg_sl ([.ref h0, .int (nI y)]) ++ List.replicate (3 - (lg_sl ([.ref h0, .int (nI y)])).length) Slot.unset).toArray = ls at hl ⊢
  have hl : lv_has ls 3 [(0, .ref h0), (1, .int (nI y))] := hl
  generalize hHe : s.heap = H at hP hS ⊢
  have hS : va_S A s.heap H [] := by rw [hHe]; exact hS
  refine my_Q (fun Qn hQ => ?_)
  refine lv_aload_n hx hb dX8_run_0 rfl (lv_at hl 0 rfl) ?_
  refine lv_iload_n hx hb dX8_run_1 rfl (lv_at hl 1 rfl) ?_
  refine lv_i2l (v := ((nI y)).toInt64) hx hb dX8_run_2 rfl ?_
  refine lv_lconst (v := 1) hx hb dX8_run_3 (by decide) ?_
  refine lv_ldc2 hx hb hown (hts _ mw_1230) dX8_run_4 ?_
  have hPc := hP.sub (ws' := []) [] rfl
  have hDc := hD.sub (ws' := []) [] (by decide) rfl
  have hFc := va_free (wc := []) hD hS hA [] rfl
  refine va_calli (va_runS (As := [.long ((nI y)).toInt64, .long 1, .long 2000]) (rest := [.ref h0]) ⟨hx, hb, hml, hown, hts⟩ (c_X8_in l dC dI cy nb ((nI y)).toInt64 1 2000 H.size) (va_cwS 3 hts (gS mw_445 mw_446 mw_5 mw_447) rfl rfl rfl (by decide +kernel) ⟨Nat.le_of_ble_eq_true rfl, Nat.le_of_ble_eq_true rfl⟩) ⟨fun a U g mk q => by obtain ⟨q0, q1, qP, qK, qD, qE⟩ := q; exact ⟨q0, q1, qP, va_K.moved (u := U) (U := U.calling g mk a) (Vm.Alike.refl U.vm) qK, qD, GE.calling qE⟩, fun U hU hW => ⟨rfl, by rw [hU], by rw [hU]; exact hPc, va_K.moved hW.alike hK, hDc.weaken (fun _ _ _ _ => trivial), GE.call hE hS hFc hU hW⟩⟩ rfl rfl hl.1 rfl (lv_room (Nat.le_of_ble_eq_true rfl)) dX8_run_7 ⟨Nat.le_of_ble_eq_true rfl, Nat.le_of_ble_eq_true rfl⟩) hS (fun q _ h => hFc q h) hFc (fun r u t H1 locs ht hvm hw1 hB hz1 hk1 hS => ?_)
  obtain ⟨hP1, hD1⟩ := hB
  rw [ht] at hP1
  obtain ⟨hP, hD⟩ := va_join (wr := [(h0, .inr (8, [.ref a1, .ref a2, .ref a3, .ref a4, .ref a5, .int 0, .int x6, .ref a6, .int 0, .int 0, .int 0, .int 0, .int 0, .int 0, .int 0, .int 0, .int (-1), .ref a7, .ref a8, .int 0, .ref a9, .ref b0, .int 0])), (a1, .inl (cy 1, 1037, .inl g)), (a3, .inl (cy 1, 8296, .inl gp))]) (w1 := []) hP hD [] [0, 1, 2] rfl rfl (by decide) (by decide) hk1 hFc hP1 hD1
  generalize H1 = H at hP hS ⊢
  have hP : va_P (dC, dI) vwCl [(h0, .inr (8, [.ref a1, .ref a2, .ref a3, .ref a4, .ref a5, .int 0, .int x6, .ref a6, .int 0, .int 0, .int 0, .int 0, .int 0, .int 0, .int 0, .int 0, .int (-1), .ref a7, .ref a8, .int 0, .ref a9, .ref b0, .int 0])), (a1, .inl (cy 1, 1037, .inl g)), (a3, .inl (cy 1, 8296, .inl gp))] H := hP
  have hD : va_D A [(h0, .inr (8, [.ref a1, .ref a2, .ref a3, .ref a4, .ref a5, .int 0, .int x6, .ref a6, .int 0, .int 0, .int 0, .int 0, .int 0, .int 0, .int 0, .int 0, .int (-1), .ref a7, .ref a8, .int 0, .ref a9, .ref b0, .int 0])), (a1, .inl (cy 1, 1037, .inl g)), (a3, .inl (cy 1, 8296, .inl gp))] := hD
  obtain rfl := hw1
  refine my_topi (y := 1) (by exact inB_nI (a := 1) (b := 2000) hy1 hy2 (by decide)) ?_
  refine W.widen (k := 0) (n := 0) (by omega) (by omega) ?_
  refine lv_iconst (v := 1) hx hb dX8_run_10 (by decide) ?_
  have hPc := hP.sub (ws' := [(h0, .inr (8, [.ref a1, .ref a2, .ref a3, .ref a4, .ref a5, .int 0, .int x6, .ref a6, .int 0, .int 0, .int 0, .int 0, .int 0, .int 0, .int 0, .int 0, .int (-1), .ref a7, .ref a8, .int 0, .ref a9, .ref b0, .int 0]))]) [0] rfl
  have hDc := hD.sub (ws' := [(h0, .inr (8, [.ref a1, .ref a2, .ref a3, .ref a4, .ref a5, .int 0, .int x6, .ref a6, .int 0, .int 0, .int 0, .int 0, .int 0, .int 0, .int 0, .int 0, .int (-1), .ref a7, .ref a8, .int 0, .ref a9, .ref b0, .int 0]))]) [0] (by decide) rfl
  have hFc := va_free (wc := [(h0, .inr (8, [.ref a1, .ref a2, .ref a3, .ref a4, .ref a5, .int 0, .int x6, .ref a6, .int 0, .int 0, .int 0, .int 0, .int 0, .int 0, .int 0, .int 0, .int (-1), .ref a7, .ref a8, .int 0, .ref a9, .ref b0, .int 0]))]) hD hS hA [0] rfl
  refine va_calli (va_runV (As := [.int 1, .int 1]) (rest := []) ⟨hx, hb, hml, hown, hts⟩ (c_X8_isThrown_1 l dC dI cy nb h0 (.ref a1) (.ref a2) (.ref a3) (.ref a4) (.ref a5) (.int 0) (.ref a6) (.int 0) (.int 0) (.int 0) (.int 0) (.int 0) (.int 0) (.int 0) (.int 0) (.int (-1)) (.ref a7) (.ref a8) (.int 0) (.ref a9) (.ref b0) (.int 0) x6 1 H.size) (cwV 2 hts (gV mw_580 mw_581 mw_582 mw_5 mw_583) rfl rfl rfl (by decide +kernel) ⟨Nat.le_of_ble_eq_true rfl, Nat.le_of_ble_eq_true rfl⟩) ⟨fun a U g mk q => by obtain ⟨q0, q1, qP, qK, qD, qE⟩ := q; exact ⟨q0, q1, qP, va_K.moved (u := U) (U := U.calling g mk a) (Vm.Alike.refl U.vm) qK, qD, GE.calling qE⟩, va_recv hK hP (ci := 8) (q0 := 0) rfl rfl, fun U hU hW => ⟨rfl, by rw [hU], by rw [hU]; exact hPc, va_K.moved hW.alike hK, hDc.weaken (fun _ _ _ _ => trivial), GE.call hE hS hFc hU hW⟩⟩ rfl rfl hl.1 rfl (lv_room (Nat.le_of_ble_eq_true rfl)) dX8_run_11 ⟨Nat.le_of_ble_eq_true rfl, Nat.le_of_ble_eq_true rfl⟩) hS (fun q _ h => hFc q h) hFc (fun r u t H1 locs ht hvm hw2 hB hz1 hk1 hS => ?_)
  obtain ⟨hP1, hD1⟩ := hB
  rw [ht] at hP1
  obtain ⟨hP, hD⟩ := va_join (wr := [(a1, .inl (cy 1, 1037, .inl g)), (a3, .inl (cy 1, 8296, .inl gp))]) (w1 := [(h0, .inr (8, [.ref a1, .ref a2, .ref a3, .ref a4, .ref a5, .int 0, .int 0, .ref a6, .int 0, .int 0, .int 0, .int 0, .int 0, .int 0, .int 0, .int 0, .int (-1), .ref a7, .ref a8, .int 0, .ref a9, .ref b0, .int 0]))]) hP hD [0] [1, 2] rfl rfl (by decide) (by decide) hk1 hFc hP1 hD1
  generalize H1 = H at hP hS ⊢
  have hP : va_P (dC, dI) vwCl [(a1, .inl (cy 1, 1037, .inl g)), (a3, .inl (cy 1, 8296, .inl gp)), (h0, .inr (8, [.ref a1, .ref a2, .ref a3, .ref a4, .ref a5, .int 0, .int 0, .ref a6, .int 0, .int 0, .int 0, .int 0, .int 0, .int 0, .int 0, .int 0, .int (-1), .ref a7, .ref a8, .int 0, .ref a9, .ref b0, .int 0]))] H := hP
  have hD : va_D A [(a1, .inl (cy 1, 1037, .inl g)), (a3, .inl (cy 1, 8296, .inl gp)), (h0, .inr (8, [.ref a1, .ref a2, .ref a3, .ref a4, .ref a5, .int 0, .int 0, .ref a6, .int 0, .int 0, .int 0, .int 0, .int 0, .int 0, .int 0, .int 0, .int (-1), .ref a7, .ref a8, .int 0, .ref a9, .ref b0, .int 0]))] := hD
  obtain rfl := hw2
  refine W.widen (k := 0) (n := 0) (by omega) (by omega) ?_
  refine lv_if_eq (tgt := 19) hx hb dX8_run_14 (by decide) (fun _ => ?_) (fun h => absurd (by decide) h)
  refine lv_aload_n hx hb dX8_run_19 rfl (lv_at hl 0 rfl) ?_
  have hPc := hP.sub (ws' := [(h0, .inr (8, [.ref a1, .ref a2, .ref a3, .ref a4, .ref a5, .int 0, .int 0, .ref a6, .int 0, .int 0, .int 0, .int 0, .int 0, .int 0, .int 0, .int 0, .int (-1), .ref a7, .ref a8, .int 0, .ref a9, .ref b0, .int 0])), (a1, .inl (cy 1, 1037, .inl g)), (a3, .inl (cy 1, 8296, .inl gp))]) [2, 0, 1] rfl
  have hDc := hD.sub (ws' := [(h0, .inr (8, [.ref a1, .ref a2, .ref a3, .ref a4, .ref a5, .int 0, .int 0, .ref a6, .int 0, .int 0, .int 0, .int 0, .int 0, .int 0, .int 0, .int 0, .int (-1), .ref a7, .ref a8, .int 0, .ref a9, .ref b0, .int 0])), (a1, .inl (cy 1, 1037, .inl g)), (a3, .inl (cy 1, 8296, .inl gp))]) [2, 0, 1] (by decide) rfl
  have hFc := va_free (wc := [(h0, .inr (8, [.ref a1, .ref a2, .ref a3, .ref a4, .ref a5, .int 0, .int 0, .ref a6, .int 0, .int 0, .int 0, .int 0, .int 0, .int 0, .int 0, .int 0, .int (-1), .ref a7, .ref a8, .int 0, .ref a9, .ref b0, .int 0])), (a1, .inl (cy 1, 1037, .inl g)), (a3, .inl (cy 1, 8296, .inl gp))]) hD hS hA [2, 0, 1] rfl
  refine va_callv (va_runV (As := []) (rest := []) ⟨hx, hb, hml, hown, hts⟩ (c_X8_keeps l dC dI cy nb h0 a1 a2 a3 a4 a5 a6 a7 a8 a9 b0 0 g gp H.size hg) (cwV 0 hts (gV mw_987 mw_988 mw_989 mw_5 mw_990) rfl rfl rfl (by decide +kernel) ⟨Nat.le_of_ble_eq_true rfl, Nat.le_of_ble_eq_true rfl⟩) ⟨fun a U g mk q => by obtain ⟨q0, q1, qP, qK, qD, qE⟩ := q; exact ⟨q0, q1, qP, va_K.moved (u := U) (U := U.calling g mk a) (Vm.Alike.refl U.vm) qK, qD, GE.calling qE⟩, va_recv hK hP (ci := 8) (q0 := 2) rfl rfl, fun U hU hW => ⟨rfl, by rw [hU], by rw [hU]; exact hPc, va_K.moved hW.alike hK, hDc.weaken (fun _ _ _ _ => trivial), GE.call hE hS hFc hU hW⟩⟩ rfl rfl hl.1 rfl (lv_room (Nat.le_of_ble_eq_true rfl)) dX8_run_20 ⟨Nat.le_of_ble_eq_true rfl, Nat.le_of_ble_eq_true rfl⟩) hS (fun q _ h => hFc q h) hFc (fun u t H1 locs ht hvm hw3 hB hz1 hk1 hS => ?_)
  obtain ⟨hP1, hD1⟩ := hB
  rw [ht] at hP1
  obtain ⟨hP, hD⟩ := va_join (wr := []) (w1 := [(h0, .inr (8, [.ref a1, .ref a2, .ref a3, .ref a4, .ref a5, .int 1, .int 0, .ref a6, .int 0, .int 0, .int 0, .int 0, .int 0, .int 0, .int 0, .int 0, .int (-1), .ref a7, .ref a8, .int 0, .ref a9, .ref b0, .int 0])), (a1, .inl (cy 1, 1037, .inl g))]) hP hD [2, 0, 1] [] rfl rfl (by decide) (by decide) hk1 hFc hP1 hD1
  generalize H1 = H at hP hS ⊢
  have hP : va_P (dC, dI) vwCl [(h0, .inr (8, [.ref a1, .ref a2, .ref a3, .ref a4, .ref a5, .int 1, .int 0, .ref a6, .int 0, .int 0, .int 0, .int 0, .int 0, .int 0, .int 0, .int 0, .int (-1), .ref a7, .ref a8, .int 0, .ref a9, .ref b0, .int 0])), (a1, .inl (cy 1, 1037, .inl g))] H := hP
  have hD : va_D A [(h0, .inr (8, [.ref a1, .ref a2, .ref a3, .ref a4, .ref a5, .int 1, .int 0, .ref a6, .int 0, .int 0, .int 0, .int 0, .int 0, .int 0, .int 0, .int 0, .int (-1), .ref a7, .ref a8, .int 0, .ref a9, .ref b0, .int 0])), (a1, .inl (cy 1, 1037, .inl g))] := hD
  refine W.widen (k := 0) (n := 0) (by omega) (by omega) ?_
  refine lv_iconst (v := 0) hx hb dX8_run_23 (by decide) ?_
  refine lv_istore_n (lv' := [(2, .int 0), (0, .ref h0), (1, .int (nI y))]) hx hb dX8_run_24 rfl hl (by decide) rfl (fun ls hl => ?_)
  have hP := hP.sub (ws' := [(h0, .inr (8, [.ref a1, .ref a2, .ref a3, .ref a4, .ref a5, .int 1, .int 0, .ref a6, .int 0, .int 0, .int 0, .int 0, .int 0, .int 0, .int 0, .int 0, .int (-1), .ref a7, .ref a8, .int 0, .ref a9, .ref b0, .int 0])), (a1, .inl (cy 1, 1037, .inl g))]) [0, 1] rfl
  have hD := hD.sub (ws' := [(h0, .inr (8, [.ref a1, .ref a2, .ref a3, .ref a4, .ref a5, .int 1, .int 0, .ref a6, .int 0, .int 0, .int 0, .int 0, .int 0, .int 0, .int 0, .int 0, .int (-1), .ref a7, .ref a8, .int 0, .ref a9, .ref b0, .int 0])), (a1, .inl (cy 1, 1037, .inl g))]) [0, 1] (by decide) rfl
  have loop1 : ∀ (n k : Nat) (g3 : Nat → Int32) (H : Heap) (locs : List Loc) (ls : Array Slot), n + k = y → (FT k g3) → va_P (dC, dI) vwCl [(h0, .inr (8, [.ref a1, .ref a2, .ref a3, .ref a4, .ref a5, .int 1, .int 0, .ref a6, .int 0, .int 0, .int 0, .int 0, .int 0, .int 0, .int 0, .int 0, .int (-1), .ref a7, .ref a8, .int 0, .ref a9, .ref b0, .int 0])), (a1, .inl (cy 1, 1037, .inl g3))] H → va_D A [(h0, .inr (8, [.ref a1, .ref a2, .ref a3, .ref a4, .ref a5, .int 1, .int 0, .ref a6, .int 0, .int 0, .int 0, .int 0, .int 0, .int 0, .int 0, .int 0, .int (-1), .ref a7, .ref a8, .int 0, .ref a9, .ref b0, .int 0])), (a1, .inl (cy 1, 1037, .inl g3))] → va_S A s.heap H locs → lv_has ls 3 [(2, .int (nI k)), (0, .ref h0), (1, .int (nI y))] → W p l e (headSpec (wsg yX8_run cX8_run 3 (some .int)) ({ frames := 14, cells := 0, slots := 0, locals := 900 })).room s m ([.ref h0, .int (nI y)] : List Value).toArray below meth c H locs 0 0 Qn (F0 m 25 ls []) := by
    intro n
    induction n with
    | zero =>
      intro k g3 H locs ls hnk hg3 hP hD hS hl
      obtain rfl : y = k := by omega
      refine lv_iload_n hx hb dX8_run_25 rfl (lv_at hl 0 rfl) ?_
      refine lv_iload_n hx hb dX8_run_26 rfl (lv_at hl 2 rfl) ?_
      refine lv_icmp_ge (tgt := 40) hx hb dX8_run_27 (by decide) (fun c_27_1 => ?_) (fun c_27_1 => by exact absurd (nI_le (Nat.le_refl y) (by omega)) c_27_1)
      refine lv_aload_n hx hb dX8_run_40 rfl (lv_at hl 1 rfl) ?_
      refine va_get (D := (dC, dI)) (ci := 8) (v := .ref a1) (C := RX8) (T := TX8) (N := 23) hx hb hts inlX8 hown hK hP 0 rfl rfl 0 (by decide) (hts _ mw_97) (fun _ h9 => h9) rfl dX8_run_41 ?_
      refine lv_bipush (v := 10) hx hb dX8_run_44 (by decide) ?_
      refine va_iald hx hb hK hP 1 1 rfl rfl (vp_in_nI (n := 10) (by decide) (by decide)) dX8_run_46 ?_
      refine my_topi (y := 0) (by exact hg3.2.2.2.2.2.2) ?_
      rw [hQ]
      have hP9 := hP.sub (ws' := [(h0, .inr (8, [.ref a1, .ref a2, .ref a3, .ref a4, .ref a5, .int 1, .int 0, .ref a6, .int 0, .int 0, .int 0, .int 0, .int 0, .int 0, .int 0, .int 0, .int (-1), .ref a7, .ref a8, .int 0, .ref a9, .ref b0, .int 0]))]) [0] rfl
      have hD9 := hD.sub (ws' := [(h0, .inr (8, [.ref a1, .ref a2, .ref a3, .ref a4, .ref a5, .int 1, .int 0, .ref a6, .int 0, .int 0, .int 0, .int 0, .int 0, .int 0, .int 0, .int 0, .int (-1), .ref a7, .ref a8, .int 0, .ref a9, .ref b0, .int 0]))]) [0] (by decide) rfl
      refine W.widen (k := 0) (n := 0) (by omega) (by omega) ?_
      exact W.iret (v := 0) hx hb hr (fun t ht hW => ⟨⟨0, (), rfl, rfl, by rw [ht]; exact hP9, hD9⟩, hS.F ht⟩) hS.2.2 dX8_run_47
    | succ n ih =>
      intro k g3 H locs ls hnk hg3 hP hD hS hl
      have hk : k < y := by omega
      refine lv_iload_n hx hb dX8_run_25 rfl (lv_at hl 0 rfl) ?_
      refine lv_iload_n hx hb dX8_run_26 rfl (lv_at hl 2 rfl) ?_
      refine lv_icmp_ge (tgt := 40) hx hb dX8_run_27 (by decide) (fun c_27_2 => by exact absurd c_27_2 (nI_ge (a := k) (b := y) hk (by omega))) (fun c_27_2 => ?_)
      refine lv_aload_n hx hb dX8_run_30 rfl (lv_at hl 1 rfl) ?_
      have hPc := hP.sub (ws' := [(h0, .inr (8, [.ref a1, .ref a2, .ref a3, .ref a4, .ref a5, .int 1, .int 0, .ref a6, .int 0, .int 0, .int 0, .int 0, .int 0, .int 0, .int 0, .int 0, .int (-1), .ref a7, .ref a8, .int 0, .ref a9, .ref b0, .int 0])), (a1, .inl (cy 1, 1037, .inl g3))]) [0, 1] rfl
      have hDc := hD.sub (ws' := [(h0, .inr (8, [.ref a1, .ref a2, .ref a3, .ref a4, .ref a5, .int 1, .int 0, .ref a6, .int 0, .int 0, .int 0, .int 0, .int 0, .int 0, .int 0, .int 0, .int (-1), .ref a7, .ref a8, .int 0, .ref a9, .ref b0, .int 0])), (a1, .inl (cy 1, 1037, .inl g3))]) [0, 1] (by decide) rfl
      have hFc := va_free (wc := [(h0, .inr (8, [.ref a1, .ref a2, .ref a3, .ref a4, .ref a5, .int 1, .int 0, .ref a6, .int 0, .int 0, .int 0, .int 0, .int 0, .int 0, .int 0, .int 0, .int (-1), .ref a7, .ref a8, .int 0, .ref a9, .ref b0, .int 0])), (a1, .inl (cy 1, 1037, .inl g3))]) hD hS hA [0, 1] rfl
      refine va_callv (va_runV (As := []) (rest := []) ⟨hx, hb, hml, hown, hts⟩ (c_X8_passes l dC dI cy nb h0 a1 (.ref a2) (.ref a3) (.ref a4) (.ref a5) (.int 1) (.int 0) (.ref a6) (.int 0) (.int 0) (.int 0) (.int 0) (.int 0) (.int 0) (.int 0) (.int 0) (.int (-1)) (.ref a7) (.ref a8) (.int 0) (.ref a9) (.ref b0) (.int 0) g3 k H.size hg3) (cwV 0 hts (gV mw_1231 mw_1232 mw_1233 mw_5 mw_1234) rfl rfl rfl (by decide +kernel) ⟨Nat.le_of_ble_eq_true rfl, Nat.le_of_ble_eq_true rfl⟩) ⟨fun a U g mk q => by obtain ⟨q0, q1, qP, qK, qD, qE⟩ := q; exact ⟨q0, q1, qP, va_K.moved (u := U) (U := U.calling g mk a) (Vm.Alike.refl U.vm) qK, qD, GE.calling qE⟩, va_recv hK hP (ci := 8) (q0 := 0) rfl rfl, fun U hU hW => ⟨rfl, by rw [hU], by rw [hU]; exact hPc, va_K.moved hW.alike hK, hDc.weaken (fun _ _ _ _ => trivial), GE.call hE hS hFc hU hW⟩⟩ rfl rfl hl.1 rfl (lv_room (Nat.le_of_ble_eq_true rfl)) dX8_run_31 ⟨Nat.le_of_ble_eq_true rfl, Nat.le_of_ble_eq_true rfl⟩) hS (fun q _ h => hFc q h) hFc (fun u t H1 locs ht hvm hw6 hB hz1 hk1 hS => ?_)
      obtain ⟨g4, hg5, hP1, hD1⟩ := hB
      rw [ht] at hP1
      obtain ⟨hP, hD⟩ := va_join (wr := []) (w1 := [(h0, .inr (8, [.ref a1, .ref a2, .ref a3, .ref a4, .ref a5, .int 1, .int 0, .ref a6, .int 0, .int 0, .int 0, .int 0, .int 0, .int 0, .int 0, .int 0, .int (-1), .ref a7, .ref a8, .int 0, .ref a9, .ref b0, .int 0])), (a1, .inl (cy 1, 1037, .inl g4))]) hP hD [0, 1] [] rfl rfl (by decide) (by decide) hk1 hFc hP1 hD1
      generalize H1 = H at hP hS ⊢
      have hP : va_P (dC, dI) vwCl [(h0, .inr (8, [.ref a1, .ref a2, .ref a3, .ref a4, .ref a5, .int 1, .int 0, .ref a6, .int 0, .int 0, .int 0, .int 0, .int 0, .int 0, .int 0, .int 0, .int (-1), .ref a7, .ref a8, .int 0, .ref a9, .ref b0, .int 0])), (a1, .inl (cy 1, 1037, .inl g4))] H := hP
      have hD : va_D A [(h0, .inr (8, [.ref a1, .ref a2, .ref a3, .ref a4, .ref a5, .int 1, .int 0, .ref a6, .int 0, .int 0, .int 0, .int 0, .int 0, .int 0, .int 0, .int 0, .int (-1), .ref a7, .ref a8, .int 0, .ref a9, .ref b0, .int 0])), (a1, .inl (cy 1, 1037, .inl g4))] := hD
      refine W.widen (k := 0) (n := 0) (by omega) (by omega) ?_
      refine lv_iinc (v := (nI (k + 1))) (lv' := [(2, .int (nI (k + 1))), (0, .ref h0), (1, .int (nI y))]) hx hb dX8_run_34 hl (k := 0) rfl (by first | exact nI_1 _ | (rw [show k + 1 + 0 = (k + 0) + 1 by omega]; exact nI_1 _)) (by decide) rfl (fun ls hl => ?_)
      refine lv_goto (tgt := 25) hx hb dX8_run_37 (by decide) ?_
      exact ih (k + 1) _ _ _ _ (by omega) hg5 (hP.sub [0, 1] rfl) (hD.sub [0, 1] (by decide) rfl) hS (lv_sub hl [0, 1, 2] rfl)
  exact loop1 y 0 _ _ _ _ (by omega) (FT_of hg) (hP.sub [0, 1] rfl) (hD.sub [0, 1] (by decide) rfl) hS (lv_sub hl [0, 1, 2] rfl)
set_option maxHeartbeats 4000000 in
set_option maxRecDepth 100000 in
/-- X8_runToLeave -/
theorem c_X8_runToLeave (l : Launch) (dC : Nat → ClassId) (dI : Nat → Nat → Nat) (cy : Nat → ClassId) (nb : Nat → Nat) (h0 : Nat) (a1 : Nat) (a2 : Nat) (a3 : Nat) (a4 : Nat) (a5 : Nat) (a6 : Nat) (a7 : Nat) (a8 : Nat) (a9 : Nat) (b0 : Nat) (x6 : Int32) (g : Nat → Int32) (gp : Nat → Int32) (y : Nat) (sz : Nat) (hg : FN g) (hy1 : 1 ≤ y) (hy2 : y ≤ 2000) : Met l yX8_runToLeave (wsg yX8_runToLeave cX8_runToLeave 4 (some .int)) ({ frames := 14, cells := 0, slots := 0, locals := 900 }) (va_Pc [.ref h0, .int (nI y)] (fun U => U.heap.size = sz ∧ va_P (dC, dI) vwCl [(h0, .inr (8, [.ref a1, .ref a2, .ref a3, .ref a4, .ref a5, .int 0, .int x6, .ref a6, .int 0, .int 0, .int 0, .int 0, .int 0, .int 0, .int 0, .int 0, .int (-1), .ref a7, .ref a8, .int 0, .ref a9, .ref b0, .int 0])), (a1, .inl (cy 1, 1037, .inl g)), (a3, .inl (cy 1, 8296, .inl gp))] U.heap ∧ va_K (dC, dI) vwCl (tyL cy) U ∧ va_D (fun _ => True) [(h0, .inr (8, [.ref a1, .ref a2, .ref a3, .ref a4, .ref a5, .int 0, .int x6, .ref a6, .int 0, .int 0, .int 0, .int 0, .int 0, .int 0, .int 0, .int 0, .int (-1), .ref a7, .ref a8, .int 0, .ref a9, .ref b0, .int 0])), (a1, .inl (cy 1, 1037, .inl g)), (a3, .inl (cy 1, 8296, .inl gp))] ∧ GE nb (va_A [(h0, .inr (8, [.ref a1, .ref a2, .ref a3, .ref a4, .ref a5, .int 0, .int x6, .ref a6, .int 0, .int 0, .int 0, .int 0, .int 0, .int 0, .int 0, .int 0, .int (-1), .ref a7, .ref a8, .int 0, .ref a9, .ref b0, .int 0])), (a1, .inl (cy 1, 1037, .inl g)), (a3, .inl (cy 1, 8296, .inl gp))] sz) U)) (va_Qi (fun (r : Int32) (_ : Unit) => r = (-1)) (fun _ t => va_P (dC, dI) vwCl [(h0, .inr (8, [.ref a1, .ref a2, .ref a3, .ref a4, .ref a5, .int 1, .int 0, .ref a6, .int 0, .int 0, .int 0, .int 0, .int 0, .int 0, .int 0, .int 0, .int (-1), .ref a7, .ref a8, .int 0, .ref a9, .ref b0, .int 0]))] t.heap ∧ va_D (va_A [(h0, .inr (8, [.ref a1, .ref a2, .ref a3, .ref a4, .ref a5, .int 0, .int x6, .ref a6, .int 0, .int 0, .int 0, .int 0, .int 0, .int 0, .int 0, .int 0, .int (-1), .ref a7, .ref a8, .int 0, .ref a9, .ref b0, .int 0])), (a1, .inl (cy 1, 1037, .inl g)), (a3, .inl (cy 1, 8296, .inl gp))] sz) [(h0, .inr (8, [.ref a1, .ref a2, .ref a3, .ref a4, .ref a5, .int 1, .int 0, .ref a6, .int 0, .int 0, .int 0, .int 0, .int 0, .int 0, .int 0, .int 0, .int (-1), .ref a7, .ref a8, .int 0, .ref a9, .ref b0, .int 0]))]) (va_A [(h0, .inr (8, [.ref a1, .ref a2, .ref a3, .ref a4, .ref a5, .int 0, .int x6, .ref a6, .int 0, .int 0, .int 0, .int 0, .int 0, .int 0, .int 0, .int 0, .int (-1), .ref a7, .ref a8, .int 0, .ref a9, .ref b0, .int 0])), (a1, .inl (cy 1, 1037, .inl g)), (a3, .inl (cy 1, 8296, .inl gp))] sz)) 0 0 (va_A [(h0, .inr (8, [.ref a1, .ref a2, .ref a3, .ref a4, .ref a5, .int 0, .int x6, .ref a6, .int 0, .int 0, .int 0, .int 0, .int 0, .int 0, .int 0, .int 0, .int (-1), .ref a7, .ref a8, .int 0, .ref a9, .ref b0, .int 0])), (a1, .inl (cy 1, 1037, .inl g)), (a3, .inl (cy 1, 8296, .inl gp))] sz) := by
  refine Met.ofW (cc := cX8_runToLeave) (maxL := 4) (ret := (some .int)) (by decide) rfl ?_
  intro p e s m args below meth c s₁ B hml hv
  obtain ⟨rfl, hsz, hP, hK, hD0, hE⟩ := hv
  have hx := B.exec
  have hb := B.bytes
  have hr := B.returns
  have hts0 := atoms_spec (ws := (wsg yX8_runToLeave cX8_runToLeave 4 (some .int))) B.pre
  have hts : ∀ w ∈ wsL_law, w.before _ s = true := fun w h => hts0 w (List.mem_cons_of_mem _ h)
  have hown : s.vm.findClass RX8 = some m.cls := findClass_of_methodNamed B.named
  have hlocks := B.notSynchronized
  subst hsz
  have hD := hD0.self (sz := s.heap.size)
  generalize hAe : va_A [(h0, .inr (8, [.ref a1, .ref a2, .ref a3, .ref a4, .ref a5, .int 0, .int x6, .ref a6, .int 0, .int 0, .int 0, .int 0, .int 0, .int 0, .int 0, .int 0, .int (-1), .ref a7, .ref a8, .int 0, .ref a9, .ref b0, .int 0])), (a1, .inl (cy 1, 1037, .inl g)), (a3, .inl (cy 1, 8296, .inl gp))] s.heap.size = A at hD hE ⊢
  have hA : ∀ q : Nat, s.heap.size ≤ q → A q := fun q h => by rw [← hAe]; exact Or.inr h
  have hS : va_S A s.heap s.heap [] := va_S.rf
  have hP : va_P (dC, dI) vwCl [(h0, .inr (8, [.ref a1, .ref a2, .ref a3, .ref a4, .ref a5, .int 0, .int x6, .ref a6, .int 0, .int 0, .int 0, .int 0, .int 0, .int 0, .int 0, .int 0, .int (-1), .ref a7, .ref a8, .int 0, .ref a9, .ref b0, .int 0])), (a1, .inl (cy 1, 1037, .inl g)), (a3, .inl (cy 1, 8296, .inl gp))] s.heap := hP
  have hl := lv_entry ([.ref h0, .int (nI y)]) (n := 4) (Nat.le_of_ble_eq_true rfl)
  rw [lg_entry_eq]
  generalize (lg_sl ([.ref h0, .int (nI y)]) ++ List.replicate (4 - (lg_sl ([.ref h0, .int (nI y)])).length) Slot.unset).toArray = ls at hl ⊢
  have hl : lv_has ls 4 [(0, .ref h0), (1, .int (nI y))] := hl
  generalize hHe : s.heap = H at hP hS ⊢
  have hS : va_S A s.heap H [] := by rw [hHe]; exact hS
  refine my_Q (fun Qn hQ => ?_)
  refine lv_aload_n hx hb dX8_runToLeave_0 rfl (lv_at hl 0 rfl) ?_
  refine lv_iload_n hx hb dX8_runToLeave_1 rfl (lv_at hl 1 rfl) ?_
  refine lv_i2l (v := ((nI y)).toInt64) hx hb dX8_runToLeave_2 rfl ?_
  refine lv_lconst (v := 1) hx hb dX8_runToLeave_3 (by decide) ?_
  refine lv_ldc2 hx hb hown (hts _ mw_1230) dX8_runToLeave_4 ?_
  have hPc := hP.sub (ws' := []) [] rfl
  have hDc := hD.sub (ws' := []) [] (by decide) rfl
  have hFc := va_free (wc := []) hD hS hA [] rfl
  refine va_calli (va_runS (As := [.long ((nI y)).toInt64, .long 1, .long 2000]) (rest := [.ref h0]) ⟨hx, hb, hml, hown, hts⟩ (c_X8_in l dC dI cy nb ((nI y)).toInt64 1 2000 H.size) (va_cwS 3 hts (gS mw_445 mw_446 mw_5 mw_447) rfl rfl rfl (by decide +kernel) ⟨Nat.le_of_ble_eq_true rfl, Nat.le_of_ble_eq_true rfl⟩) ⟨fun a U g mk q => by obtain ⟨q0, q1, qP, qK, qD, qE⟩ := q; exact ⟨q0, q1, qP, va_K.moved (u := U) (U := U.calling g mk a) (Vm.Alike.refl U.vm) qK, qD, GE.calling qE⟩, fun U hU hW => ⟨rfl, by rw [hU], by rw [hU]; exact hPc, va_K.moved hW.alike hK, hDc.weaken (fun _ _ _ _ => trivial), GE.call hE hS hFc hU hW⟩⟩ rfl rfl hl.1 rfl (lv_room (Nat.le_of_ble_eq_true rfl)) dX8_runToLeave_7 ⟨Nat.le_of_ble_eq_true rfl, Nat.le_of_ble_eq_true rfl⟩) hS (fun q _ h => hFc q h) hFc (fun r u t H1 locs ht hvm hw1 hB hz1 hk1 hS => ?_)
  obtain ⟨hP1, hD1⟩ := hB
  rw [ht] at hP1
  obtain ⟨hP, hD⟩ := va_join (wr := [(h0, .inr (8, [.ref a1, .ref a2, .ref a3, .ref a4, .ref a5, .int 0, .int x6, .ref a6, .int 0, .int 0, .int 0, .int 0, .int 0, .int 0, .int 0, .int 0, .int (-1), .ref a7, .ref a8, .int 0, .ref a9, .ref b0, .int 0])), (a1, .inl (cy 1, 1037, .inl g)), (a3, .inl (cy 1, 8296, .inl gp))]) (w1 := []) hP hD [] [0, 1, 2] rfl rfl (by decide) (by decide) hk1 hFc hP1 hD1
  generalize H1 = H at hP hS ⊢
  have hP : va_P (dC, dI) vwCl [(h0, .inr (8, [.ref a1, .ref a2, .ref a3, .ref a4, .ref a5, .int 0, .int x6, .ref a6, .int 0, .int 0, .int 0, .int 0, .int 0, .int 0, .int 0, .int 0, .int (-1), .ref a7, .ref a8, .int 0, .ref a9, .ref b0, .int 0])), (a1, .inl (cy 1, 1037, .inl g)), (a3, .inl (cy 1, 8296, .inl gp))] H := hP
  have hD : va_D A [(h0, .inr (8, [.ref a1, .ref a2, .ref a3, .ref a4, .ref a5, .int 0, .int x6, .ref a6, .int 0, .int 0, .int 0, .int 0, .int 0, .int 0, .int 0, .int 0, .int (-1), .ref a7, .ref a8, .int 0, .ref a9, .ref b0, .int 0])), (a1, .inl (cy 1, 1037, .inl g)), (a3, .inl (cy 1, 8296, .inl gp))] := hD
  obtain rfl := hw1
  refine my_topi (y := 1) (by exact inB_nI (a := 1) (b := 2000) hy1 hy2 (by decide)) ?_
  refine W.widen (k := 0) (n := 0) (by omega) (by omega) ?_
  refine lv_iconst (v := 1) hx hb dX8_runToLeave_10 (by decide) ?_
  have hPc := hP.sub (ws' := [(h0, .inr (8, [.ref a1, .ref a2, .ref a3, .ref a4, .ref a5, .int 0, .int x6, .ref a6, .int 0, .int 0, .int 0, .int 0, .int 0, .int 0, .int 0, .int 0, .int (-1), .ref a7, .ref a8, .int 0, .ref a9, .ref b0, .int 0]))]) [0] rfl
  have hDc := hD.sub (ws' := [(h0, .inr (8, [.ref a1, .ref a2, .ref a3, .ref a4, .ref a5, .int 0, .int x6, .ref a6, .int 0, .int 0, .int 0, .int 0, .int 0, .int 0, .int 0, .int 0, .int (-1), .ref a7, .ref a8, .int 0, .ref a9, .ref b0, .int 0]))]) [0] (by decide) rfl
  have hFc := va_free (wc := [(h0, .inr (8, [.ref a1, .ref a2, .ref a3, .ref a4, .ref a5, .int 0, .int x6, .ref a6, .int 0, .int 0, .int 0, .int 0, .int 0, .int 0, .int 0, .int 0, .int (-1), .ref a7, .ref a8, .int 0, .ref a9, .ref b0, .int 0]))]) hD hS hA [0] rfl
  refine va_calli (va_runV (As := [.int 1, .int 1]) (rest := []) ⟨hx, hb, hml, hown, hts⟩ (c_X8_isThrown_1 l dC dI cy nb h0 (.ref a1) (.ref a2) (.ref a3) (.ref a4) (.ref a5) (.int 0) (.ref a6) (.int 0) (.int 0) (.int 0) (.int 0) (.int 0) (.int 0) (.int 0) (.int 0) (.int (-1)) (.ref a7) (.ref a8) (.int 0) (.ref a9) (.ref b0) (.int 0) x6 1 H.size) (cwV 2 hts (gV mw_580 mw_581 mw_582 mw_5 mw_583) rfl rfl rfl (by decide +kernel) ⟨Nat.le_of_ble_eq_true rfl, Nat.le_of_ble_eq_true rfl⟩) ⟨fun a U g mk q => by obtain ⟨q0, q1, qP, qK, qD, qE⟩ := q; exact ⟨q0, q1, qP, va_K.moved (u := U) (U := U.calling g mk a) (Vm.Alike.refl U.vm) qK, qD, GE.calling qE⟩, va_recv hK hP (ci := 8) (q0 := 0) rfl rfl, fun U hU hW => ⟨rfl, by rw [hU], by rw [hU]; exact hPc, va_K.moved hW.alike hK, hDc.weaken (fun _ _ _ _ => trivial), GE.call hE hS hFc hU hW⟩⟩ rfl rfl hl.1 rfl (lv_room (Nat.le_of_ble_eq_true rfl)) dX8_runToLeave_11 ⟨Nat.le_of_ble_eq_true rfl, Nat.le_of_ble_eq_true rfl⟩) hS (fun q _ h => hFc q h) hFc (fun r u t H1 locs ht hvm hw2 hB hz1 hk1 hS => ?_)
  obtain ⟨hP1, hD1⟩ := hB
  rw [ht] at hP1
  obtain ⟨hP, hD⟩ := va_join (wr := [(a1, .inl (cy 1, 1037, .inl g)), (a3, .inl (cy 1, 8296, .inl gp))]) (w1 := [(h0, .inr (8, [.ref a1, .ref a2, .ref a3, .ref a4, .ref a5, .int 0, .int 0, .ref a6, .int 0, .int 0, .int 0, .int 0, .int 0, .int 0, .int 0, .int 0, .int (-1), .ref a7, .ref a8, .int 0, .ref a9, .ref b0, .int 0]))]) hP hD [0] [1, 2] rfl rfl (by decide) (by decide) hk1 hFc hP1 hD1
  generalize H1 = H at hP hS ⊢
  have hP : va_P (dC, dI) vwCl [(a1, .inl (cy 1, 1037, .inl g)), (a3, .inl (cy 1, 8296, .inl gp)), (h0, .inr (8, [.ref a1, .ref a2, .ref a3, .ref a4, .ref a5, .int 0, .int 0, .ref a6, .int 0, .int 0, .int 0, .int 0, .int 0, .int 0, .int 0, .int 0, .int (-1), .ref a7, .ref a8, .int 0, .ref a9, .ref b0, .int 0]))] H := hP
  have hD : va_D A [(a1, .inl (cy 1, 1037, .inl g)), (a3, .inl (cy 1, 8296, .inl gp)), (h0, .inr (8, [.ref a1, .ref a2, .ref a3, .ref a4, .ref a5, .int 0, .int 0, .ref a6, .int 0, .int 0, .int 0, .int 0, .int 0, .int 0, .int 0, .int 0, .int (-1), .ref a7, .ref a8, .int 0, .ref a9, .ref b0, .int 0]))] := hD
  obtain rfl := hw2
  refine W.widen (k := 0) (n := 0) (by omega) (by omega) ?_
  refine lv_if_eq (tgt := 19) hx hb dX8_runToLeave_14 (by decide) (fun _ => ?_) (fun h => absurd (by decide) h)
  refine lv_aload_n hx hb dX8_runToLeave_19 rfl (lv_at hl 0 rfl) ?_
  have hPc := hP.sub (ws' := [(h0, .inr (8, [.ref a1, .ref a2, .ref a3, .ref a4, .ref a5, .int 0, .int 0, .ref a6, .int 0, .int 0, .int 0, .int 0, .int 0, .int 0, .int 0, .int 0, .int (-1), .ref a7, .ref a8, .int 0, .ref a9, .ref b0, .int 0])), (a1, .inl (cy 1, 1037, .inl g)), (a3, .inl (cy 1, 8296, .inl gp))]) [2, 0, 1] rfl
  have hDc := hD.sub (ws' := [(h0, .inr (8, [.ref a1, .ref a2, .ref a3, .ref a4, .ref a5, .int 0, .int 0, .ref a6, .int 0, .int 0, .int 0, .int 0, .int 0, .int 0, .int 0, .int 0, .int (-1), .ref a7, .ref a8, .int 0, .ref a9, .ref b0, .int 0])), (a1, .inl (cy 1, 1037, .inl g)), (a3, .inl (cy 1, 8296, .inl gp))]) [2, 0, 1] (by decide) rfl
  have hFc := va_free (wc := [(h0, .inr (8, [.ref a1, .ref a2, .ref a3, .ref a4, .ref a5, .int 0, .int 0, .ref a6, .int 0, .int 0, .int 0, .int 0, .int 0, .int 0, .int 0, .int 0, .int (-1), .ref a7, .ref a8, .int 0, .ref a9, .ref b0, .int 0])), (a1, .inl (cy 1, 1037, .inl g)), (a3, .inl (cy 1, 8296, .inl gp))]) hD hS hA [2, 0, 1] rfl
  refine va_callv (va_runV (As := []) (rest := []) ⟨hx, hb, hml, hown, hts⟩ (c_X8_keeps l dC dI cy nb h0 a1 a2 a3 a4 a5 a6 a7 a8 a9 b0 0 g gp H.size hg) (cwV 0 hts (gV mw_987 mw_988 mw_989 mw_5 mw_990) rfl rfl rfl (by decide +kernel) ⟨Nat.le_of_ble_eq_true rfl, Nat.le_of_ble_eq_true rfl⟩) ⟨fun a U g mk q => by obtain ⟨q0, q1, qP, qK, qD, qE⟩ := q; exact ⟨q0, q1, qP, va_K.moved (u := U) (U := U.calling g mk a) (Vm.Alike.refl U.vm) qK, qD, GE.calling qE⟩, va_recv hK hP (ci := 8) (q0 := 2) rfl rfl, fun U hU hW => ⟨rfl, by rw [hU], by rw [hU]; exact hPc, va_K.moved hW.alike hK, hDc.weaken (fun _ _ _ _ => trivial), GE.call hE hS hFc hU hW⟩⟩ rfl rfl hl.1 rfl (lv_room (Nat.le_of_ble_eq_true rfl)) dX8_runToLeave_20 ⟨Nat.le_of_ble_eq_true rfl, Nat.le_of_ble_eq_true rfl⟩) hS (fun q _ h => hFc q h) hFc (fun u t H1 locs ht hvm hw3 hB hz1 hk1 hS => ?_)
  obtain ⟨hP1, hD1⟩ := hB
  rw [ht] at hP1
  obtain ⟨hP, hD⟩ := va_join (wr := []) (w1 := [(h0, .inr (8, [.ref a1, .ref a2, .ref a3, .ref a4, .ref a5, .int 1, .int 0, .ref a6, .int 0, .int 0, .int 0, .int 0, .int 0, .int 0, .int 0, .int 0, .int (-1), .ref a7, .ref a8, .int 0, .ref a9, .ref b0, .int 0])), (a1, .inl (cy 1, 1037, .inl g))]) hP hD [2, 0, 1] [] rfl rfl (by decide) (by decide) hk1 hFc hP1 hD1
  generalize H1 = H at hP hS ⊢
  have hP : va_P (dC, dI) vwCl [(h0, .inr (8, [.ref a1, .ref a2, .ref a3, .ref a4, .ref a5, .int 1, .int 0, .ref a6, .int 0, .int 0, .int 0, .int 0, .int 0, .int 0, .int 0, .int 0, .int (-1), .ref a7, .ref a8, .int 0, .ref a9, .ref b0, .int 0])), (a1, .inl (cy 1, 1037, .inl g))] H := hP
  have hD : va_D A [(h0, .inr (8, [.ref a1, .ref a2, .ref a3, .ref a4, .ref a5, .int 1, .int 0, .ref a6, .int 0, .int 0, .int 0, .int 0, .int 0, .int 0, .int 0, .int 0, .int (-1), .ref a7, .ref a8, .int 0, .ref a9, .ref b0, .int 0])), (a1, .inl (cy 1, 1037, .inl g))] := hD
  refine W.widen (k := 0) (n := 0) (by omega) (by omega) ?_
  refine lv_aload_n hx hb dX8_runToLeave_23 rfl (lv_at hl 0 rfl) ?_
  refine va_get (D := (dC, dI)) (ci := 8) (v := .ref a1) (C := RX8) (T := TX8) (N := 23) hx hb hts inlX8 hown hK hP 0 rfl rfl 0 (by decide) (hts _ mw_97) (fun _ h9 => h9) rfl dX8_runToLeave_24 ?_
  refine lv_bipush (v := 10) hx hb dX8_runToLeave_27 (by decide) ?_
  refine va_iald hx hb hK hP 1 1 rfl rfl (vp_in_nI (n := 10) (by decide) (by decide)) dX8_runToLeave_29 ?_
  refine my_topi (y := 0) (by exact hg.2.2.2 10 (by decide) (by decide)) ?_
  refine lv_istore_n (lv' := [(2, .int 0), (0, .ref h0), (1, .int (nI y))]) hx hb dX8_runToLeave_30 rfl hl (by decide) rfl (fun ls hl => ?_)
  refine lv_iconst (v := 1) hx hb dX8_runToLeave_31 (by decide) ?_
  refine lv_istore_n (lv' := [(3, .int 1), (2, .int 0), (0, .ref h0), (1, .int (nI y))]) hx hb dX8_runToLeave_32 rfl hl (by decide) rfl (fun ls hl => ?_)
  have hP := hP.sub (ws' := [(h0, .inr (8, [.ref a1, .ref a2, .ref a3, .ref a4, .ref a5, .int 1, .int 0, .ref a6, .int 0, .int 0, .int 0, .int 0, .int 0, .int 0, .int 0, .int 0, .int (-1), .ref a7, .ref a8, .int 0, .ref a9, .ref b0, .int 0])), (a1, .inl (cy 1, 1037, .inl g))]) [0, 1] rfl
  have hD := hD.sub (ws' := [(h0, .inr (8, [.ref a1, .ref a2, .ref a3, .ref a4, .ref a5, .int 1, .int 0, .ref a6, .int 0, .int 0, .int 0, .int 0, .int 0, .int 0, .int 0, .int 0, .int (-1), .ref a7, .ref a8, .int 0, .ref a9, .ref b0, .int 0])), (a1, .inl (cy 1, 1037, .inl g))]) [0, 1] (by decide) rfl
  have loop1 : ∀ (n k : Nat) (g3 : Nat → Int32) (H : Heap) (locs : List Loc) (ls : Array Slot), n + k = y → (FT k g3) → va_P (dC, dI) vwCl [(h0, .inr (8, [.ref a1, .ref a2, .ref a3, .ref a4, .ref a5, .int 1, .int 0, .ref a6, .int 0, .int 0, .int 0, .int 0, .int 0, .int 0, .int 0, .int 0, .int (-1), .ref a7, .ref a8, .int 0, .ref a9, .ref b0, .int 0])), (a1, .inl (cy 1, 1037, .inl g3))] H → va_D A [(h0, .inr (8, [.ref a1, .ref a2, .ref a3, .ref a4, .ref a5, .int 1, .int 0, .ref a6, .int 0, .int 0, .int 0, .int 0, .int 0, .int 0, .int 0, .int 0, .int (-1), .ref a7, .ref a8, .int 0, .ref a9, .ref b0, .int 0])), (a1, .inl (cy 1, 1037, .inl g3))] → va_S A s.heap H locs → lv_has ls 4 [(3, .int (nI (k + 1))), (2, .int 0), (0, .ref h0), (1, .int (nI y))] → W p l e (headSpec (wsg yX8_runToLeave cX8_runToLeave 4 (some .int)) ({ frames := 14, cells := 0, slots := 0, locals := 900 })).room s m ([.ref h0, .int (nI y)] : List Value).toArray below meth c H locs 0 0 Qn (F0 m 33 ls []) := by
    intro n
    induction n with
    | zero =>
      intro k g3 H locs ls hnk hg3 hP hD hS hl
      obtain rfl : y = k := by omega
      refine lv_iload_n hx hb dX8_runToLeave_33 rfl (lv_at hl 0 rfl) ?_
      refine lv_iload_n hx hb dX8_runToLeave_34 rfl (lv_at hl 3 rfl) ?_
      refine lv_icmp_gt (tgt := 61) hx hb dX8_runToLeave_35 (by decide) (fun c_35_1 => ?_) (fun c_35_1 => by exact absurd (nI_lt (a := y) (b := y + 1) (by omega) (by omega)) c_35_1)
      refine lv_iconst (v := (-1)) hx hb dX8_runToLeave_61 (by decide) ?_
      rw [hQ]
      have hP9 := hP.sub (ws' := [(h0, .inr (8, [.ref a1, .ref a2, .ref a3, .ref a4, .ref a5, .int 1, .int 0, .ref a6, .int 0, .int 0, .int 0, .int 0, .int 0, .int 0, .int 0, .int 0, .int (-1), .ref a7, .ref a8, .int 0, .ref a9, .ref b0, .int 0]))]) [0] rfl
      have hD9 := hD.sub (ws' := [(h0, .inr (8, [.ref a1, .ref a2, .ref a3, .ref a4, .ref a5, .int 1, .int 0, .ref a6, .int 0, .int 0, .int 0, .int 0, .int 0, .int 0, .int 0, .int 0, .int (-1), .ref a7, .ref a8, .int 0, .ref a9, .ref b0, .int 0]))]) [0] (by decide) rfl
      refine W.widen (k := 0) (n := 0) (by omega) (by omega) ?_
      exact W.iret (v := (-1)) hx hb hr (fun t ht hW => ⟨⟨(-1), (), rfl, rfl, by rw [ht]; exact hP9, hD9⟩, hS.F ht⟩) hS.2.2 dX8_runToLeave_62
    | succ n ih =>
      intro k g3 H locs ls hnk hg3 hP hD hS hl
      have hk : k < y := by omega
      refine lv_iload_n hx hb dX8_runToLeave_33 rfl (lv_at hl 0 rfl) ?_
      refine lv_iload_n hx hb dX8_runToLeave_34 rfl (lv_at hl 3 rfl) ?_
      refine lv_icmp_gt (tgt := 61) hx hb dX8_runToLeave_35 (by decide) (fun c_35_2 => by exact absurd c_35_2 (nI_nlt (a := y) (b := k + 1) (by omega) (by omega))) (fun c_35_2 => ?_)
      refine lv_aload_n hx hb dX8_runToLeave_38 rfl (lv_at hl 2 rfl) ?_
      have hPc := hP.sub (ws' := [(h0, .inr (8, [.ref a1, .ref a2, .ref a3, .ref a4, .ref a5, .int 1, .int 0, .ref a6, .int 0, .int 0, .int 0, .int 0, .int 0, .int 0, .int 0, .int 0, .int (-1), .ref a7, .ref a8, .int 0, .ref a9, .ref b0, .int 0])), (a1, .inl (cy 1, 1037, .inl g3))]) [0, 1] rfl
      have hDc := hD.sub (ws' := [(h0, .inr (8, [.ref a1, .ref a2, .ref a3, .ref a4, .ref a5, .int 1, .int 0, .ref a6, .int 0, .int 0, .int 0, .int 0, .int 0, .int 0, .int 0, .int 0, .int (-1), .ref a7, .ref a8, .int 0, .ref a9, .ref b0, .int 0])), (a1, .inl (cy 1, 1037, .inl g3))]) [0, 1] (by decide) rfl
      have hFc := va_free (wc := [(h0, .inr (8, [.ref a1, .ref a2, .ref a3, .ref a4, .ref a5, .int 1, .int 0, .ref a6, .int 0, .int 0, .int 0, .int 0, .int 0, .int 0, .int 0, .int 0, .int (-1), .ref a7, .ref a8, .int 0, .ref a9, .ref b0, .int 0])), (a1, .inl (cy 1, 1037, .inl g3))]) hD hS hA [0, 1] rfl
      refine va_callv (va_runV (As := []) (rest := []) ⟨hx, hb, hml, hown, hts⟩ (c_X8_passes l dC dI cy nb h0 a1 (.ref a2) (.ref a3) (.ref a4) (.ref a5) (.int 1) (.int 0) (.ref a6) (.int 0) (.int 0) (.int 0) (.int 0) (.int 0) (.int 0) (.int 0) (.int 0) (.int (-1)) (.ref a7) (.ref a8) (.int 0) (.ref a9) (.ref b0) (.int 0) g3 k H.size hg3) (cwV 0 hts (gV mw_1231 mw_1232 mw_1233 mw_5 mw_1234) rfl rfl rfl (by decide +kernel) ⟨Nat.le_of_ble_eq_true rfl, Nat.le_of_ble_eq_true rfl⟩) ⟨fun a U g mk q => by obtain ⟨q0, q1, qP, qK, qD, qE⟩ := q; exact ⟨q0, q1, qP, va_K.moved (u := U) (U := U.calling g mk a) (Vm.Alike.refl U.vm) qK, qD, GE.calling qE⟩, va_recv hK hP (ci := 8) (q0 := 0) rfl rfl, fun U hU hW => ⟨rfl, by rw [hU], by rw [hU]; exact hPc, va_K.moved hW.alike hK, hDc.weaken (fun _ _ _ _ => trivial), GE.call hE hS hFc hU hW⟩⟩ rfl rfl hl.1 rfl (lv_room (Nat.le_of_ble_eq_true rfl)) dX8_runToLeave_39 ⟨Nat.le_of_ble_eq_true rfl, Nat.le_of_ble_eq_true rfl⟩) hS (fun q _ h => hFc q h) hFc (fun u t H1 locs ht hvm hw6 hB hz1 hk1 hS => ?_)
      obtain ⟨g4, hg5, hP1, hD1⟩ := hB
      rw [ht] at hP1
      obtain ⟨hP, hD⟩ := va_join (wr := []) (w1 := [(h0, .inr (8, [.ref a1, .ref a2, .ref a3, .ref a4, .ref a5, .int 1, .int 0, .ref a6, .int 0, .int 0, .int 0, .int 0, .int 0, .int 0, .int 0, .int 0, .int (-1), .ref a7, .ref a8, .int 0, .ref a9, .ref b0, .int 0])), (a1, .inl (cy 1, 1037, .inl g4))]) hP hD [0, 1] [] rfl rfl (by decide) (by decide) hk1 hFc hP1 hD1
      generalize H1 = H at hP hS ⊢
      have hP : va_P (dC, dI) vwCl [(h0, .inr (8, [.ref a1, .ref a2, .ref a3, .ref a4, .ref a5, .int 1, .int 0, .ref a6, .int 0, .int 0, .int 0, .int 0, .int 0, .int 0, .int 0, .int 0, .int (-1), .ref a7, .ref a8, .int 0, .ref a9, .ref b0, .int 0])), (a1, .inl (cy 1, 1037, .inl g4))] H := hP
      have hD : va_D A [(h0, .inr (8, [.ref a1, .ref a2, .ref a3, .ref a4, .ref a5, .int 1, .int 0, .ref a6, .int 0, .int 0, .int 0, .int 0, .int 0, .int 0, .int 0, .int 0, .int (-1), .ref a7, .ref a8, .int 0, .ref a9, .ref b0, .int 0])), (a1, .inl (cy 1, 1037, .inl g4))] := hD
      refine W.widen (k := 0) (n := 0) (by omega) (by omega) ?_
      refine lv_aload_n hx hb dX8_runToLeave_42 rfl (lv_at hl 2 rfl) ?_
      refine va_get (D := (dC, dI)) (ci := 8) (v := .ref a1) (C := RX8) (T := TX8) (N := 23) hx hb hts inlX8 hown hK hP 0 rfl rfl 0 (by decide) (hts _ mw_97) (fun _ h9 => h9) rfl dX8_runToLeave_43 ?_
      refine lv_bipush (v := 10) hx hb dX8_runToLeave_46 (by decide) ?_
      refine va_iald hx hb hK hP 1 1 rfl rfl (vp_in_nI (n := 10) (by decide) (by decide)) dX8_runToLeave_48 ?_
      refine my_topi (y := 0) (by exact hg5.2.2.2.2.2.2) ?_
      refine lv_iload_n hx hb dX8_runToLeave_49 rfl (lv_at hl 1 rfl) ?_
      refine lv_icmp_le (tgt := 55) hx hb dX8_runToLeave_50 (by decide) (fun _ => ?_) (fun h => absurd (by decide) h)
      refine lv_iinc (v := (nI (k + 1 + 1))) (lv' := [(3, .int (nI (k + 1 + 1))), (2, .int 0), (0, .ref h0), (1, .int (nI y))]) hx hb dX8_runToLeave_55 hl (k := 0) rfl (by first | exact nI_1 _ | (rw [show k + 1 + 1 = (k + 1) + 1 by omega]; exact nI_1 _)) (by decide) rfl (fun ls hl => ?_)
      refine lv_goto (tgt := 33) hx hb dX8_runToLeave_58 (by decide) ?_
      exact ih (k + 1) _ _ _ _ (by omega) hg5 (hP.sub [0, 1] rfl) (hD.sub [0, 1] (by decide) rfl) hS (lv_sub hl [0, 1, 2, 3] rfl)
  exact loop1 y 0 _ _ _ _ (by omega) (FT_of hg) (hP.sub [0, 1] rfl) (hD.sub [0, 1] (by decide) rfl) hS (lv_sub hl [0, 1, 2, 3] rfl)
set_option maxHeartbeats 4000000 in
set_option maxRecDepth 100000 in
/-- X8_then -/
theorem c_X8_then_10 (l : Launch) (dC : Nat → ClassId) (dI : Nat → Nat → Nat) (cy : Nat → ClassId) (nb : Nat → Nat) (h0 : Nat) (a1 : Nat) (a2 : Nat) (a3 : Nat) (a4 : Nat) (a5 : Nat) (a6 : Nat) (a7 : Nat) (a8 : Nat) (a9 : Nat) (b0 : Nat) (x6 : Int32) (g : Nat → Int32) (ga : Nat → Int32) (y : Nat) (sz : Nat) (hg : FN g) (hy1 : 1 ≤ y) (hy2 : y ≤ 2000) : Met l yX8_then (wsg yX8_then cX8_then 4 (some .int)) ({ frames := 14, cells := 0, slots := 0, locals := 900 }) (va_Pc [.ref h0, .int 10, .int (nI y)] (fun U => U.heap.size = sz ∧ va_P (dC, dI) vwCl [(h0, .inr (8, [.ref a1, .ref a2, .ref a3, .ref a4, .ref a5, .int 0, .int x6, .ref a6, .int 0, .int 0, .int 0, .int 0, .int 0, .int 0, .int 0, .int 0, .int (-1), .ref a7, .ref a8, .int 0, .ref a9, .ref b0, .int 0])), (a1, .inl (cy 1, 1037, .inl g)), (a2, .inl (cy 1, 1037, .inl ga))] U.heap ∧ va_K (dC, dI) vwCl (tyL cy) U ∧ va_D (fun _ => True) [(h0, .inr (8, [.ref a1, .ref a2, .ref a3, .ref a4, .ref a5, .int 0, .int x6, .ref a6, .int 0, .int 0, .int 0, .int 0, .int 0, .int 0, .int 0, .int 0, .int (-1), .ref a7, .ref a8, .int 0, .ref a9, .ref b0, .int 0])), (a1, .inl (cy 1, 1037, .inl g)), (a2, .inl (cy 1, 1037, .inl ga))] ∧ GE nb (va_A [(h0, .inr (8, [.ref a1, .ref a2, .ref a3, .ref a4, .ref a5, .int 0, .int x6, .ref a6, .int 0, .int 0, .int 0, .int 0, .int 0, .int 0, .int 0, .int 0, .int (-1), .ref a7, .ref a8, .int 0, .ref a9, .ref b0, .int 0])), (a1, .inl (cy 1, 1037, .inl g)), (a2, .inl (cy 1, 1037, .inl ga))] sz) U)) (va_Qi (fun (r : Int32) (_ : Unit) => r = 0) (fun _ t => va_P (dC, dI) vwCl [(h0, .inr (8, [.ref a1, .ref a2, .ref a3, .ref a4, .ref a5, .int 0, .int x6, .ref a6, .int 0, .int 0, .int 0, .int 0, .int 0, .int 0, .int 0, .int 0, .int (-1), .ref a7, .ref a8, .int 0, .ref a9, .ref b0, .int 0]))] t.heap ∧ va_D (va_A [(h0, .inr (8, [.ref a1, .ref a2, .ref a3, .ref a4, .ref a5, .int 0, .int x6, .ref a6, .int 0, .int 0, .int 0, .int 0, .int 0, .int 0, .int 0, .int 0, .int (-1), .ref a7, .ref a8, .int 0, .ref a9, .ref b0, .int 0])), (a1, .inl (cy 1, 1037, .inl g)), (a2, .inl (cy 1, 1037, .inl ga))] sz) [(h0, .inr (8, [.ref a1, .ref a2, .ref a3, .ref a4, .ref a5, .int 0, .int x6, .ref a6, .int 0, .int 0, .int 0, .int 0, .int 0, .int 0, .int 0, .int 0, .int (-1), .ref a7, .ref a8, .int 0, .ref a9, .ref b0, .int 0]))]) (va_A [(h0, .inr (8, [.ref a1, .ref a2, .ref a3, .ref a4, .ref a5, .int 0, .int x6, .ref a6, .int 0, .int 0, .int 0, .int 0, .int 0, .int 0, .int 0, .int 0, .int (-1), .ref a7, .ref a8, .int 0, .ref a9, .ref b0, .int 0])), (a1, .inl (cy 1, 1037, .inl g)), (a2, .inl (cy 1, 1037, .inl ga))] sz)) 0 0 (va_A [(h0, .inr (8, [.ref a1, .ref a2, .ref a3, .ref a4, .ref a5, .int 0, .int x6, .ref a6, .int 0, .int 0, .int 0, .int 0, .int 0, .int 0, .int 0, .int 0, .int (-1), .ref a7, .ref a8, .int 0, .ref a9, .ref b0, .int 0])), (a1, .inl (cy 1, 1037, .inl g)), (a2, .inl (cy 1, 1037, .inl ga))] sz) := by
  refine Met.ofW (cc := cX8_then) (maxL := 4) (ret := (some .int)) (by decide) rfl ?_
  intro p e s m args below meth c s₁ B hml hv
  obtain ⟨rfl, hsz, hP, hK, hD0, hE⟩ := hv
  have hx := B.exec
  have hb := B.bytes
  have hr := B.returns
  have hts0 := atoms_spec (ws := (wsg yX8_then cX8_then 4 (some .int))) B.pre
  have hts : ∀ w ∈ wsL_law, w.before _ s = true := fun w h => hts0 w (List.mem_cons_of_mem _ h)
  have hown : s.vm.findClass RX8 = some m.cls := findClass_of_methodNamed B.named
  have hlocks := B.notSynchronized
  subst hsz
  have hD := hD0.self (sz := s.heap.size)
  generalize hAe : va_A [(h0, .inr (8, [.ref a1, .ref a2, .ref a3, .ref a4, .ref a5, .int 0, .int x6, .ref a6, .int 0, .int 0, .int 0, .int 0, .int 0, .int 0, .int 0, .int 0, .int (-1), .ref a7, .ref a8, .int 0, .ref a9, .ref b0, .int 0])), (a1, .inl (cy 1, 1037, .inl g)), (a2, .inl (cy 1, 1037, .inl ga))] s.heap.size = A at hD hE ⊢
  have hA : ∀ q : Nat, s.heap.size ≤ q → A q := fun q h => by rw [← hAe]; exact Or.inr h
  have hS : va_S A s.heap s.heap [] := va_S.rf
  have hP : va_P (dC, dI) vwCl [(h0, .inr (8, [.ref a1, .ref a2, .ref a3, .ref a4, .ref a5, .int 0, .int x6, .ref a6, .int 0, .int 0, .int 0, .int 0, .int 0, .int 0, .int 0, .int 0, .int (-1), .ref a7, .ref a8, .int 0, .ref a9, .ref b0, .int 0])), (a1, .inl (cy 1, 1037, .inl g)), (a2, .inl (cy 1, 1037, .inl ga))] s.heap := hP
  have hl := lv_entry ([.ref h0, .int 10, .int (nI y)]) (n := 4) (Nat.le_of_ble_eq_true rfl)
  rw [lg_entry_eq]
  generalize (lg_sl ([.ref h0, .int 10, .int (nI y)]) ++ List.replicate (4 - (lg_sl ([.ref h0, .int 10, .int (nI y)])).length) Slot.unset).toArray = ls at hl ⊢
  have hl : lv_has ls 4 [(0, .ref h0), (1, .int 10), (2, .int (nI y))] := hl
  generalize hHe : s.heap = H at hP hS ⊢
  have hS : va_S A s.heap H [] := by rw [hHe]; exact hS
  refine my_Q (fun Qn hQ => ?_)
  refine lv_aload_n hx hb dX8_then_0 rfl (lv_at hl 0 rfl) ?_
  refine va_get (D := (dC, dI)) (ci := 8) (v := .ref a1) (C := RX8) (T := TX8) (N := 23) hx hb hts inlX8 hown hK hP 0 rfl rfl 0 (by decide) (hts _ mw_97) (fun _ h9 => h9) rfl dX8_then_1 ?_
  refine lv_iconst (v := 0) hx hb dX8_then_4 (by decide) ?_
  refine lv_aload_n hx hb dX8_then_5 rfl (lv_at hl 0 rfl) ?_
  refine va_get (D := (dC, dI)) (ci := 8) (v := .ref a2) (C := RX8) (T := TX8) (N := 23) hx hb hts inlX8 hown hK hP 0 rfl rfl 1 (by decide) (hts _ mw_98) (fun _ h9 => h9) rfl dX8_then_6 ?_
  refine lv_iconst (v := 0) hx hb dX8_then_9 (by decide) ?_
  have hPc := hP.sub (ws' := [(a1, .inl (cy 1, 1037, .inl g)), (a2, .inl (cy 1, 1037, .inl ga))]) [1, 2] rfl
  have hDc := hD.sub (ws' := [(a1, .inl (cy 1, 1037, .inl g)), (a2, .inl (cy 1, 1037, .inl ga))]) [1, 2] (by decide) rfl
  have hFc := va_free (wc := [(a1, .inl (cy 1, 1037, .inl g)), (a2, .inl (cy 1, 1037, .inl ga))]) hD hS hA [1, 2] rfl
  refine va_callv (va_runS (As := [.ref a1, .int 0, .ref a2, .int 0]) (rest := []) ⟨hx, hb, hml, hown, hts⟩ (c_X8_copies l dC dI cy nb a1 a2 0 0 1037 1037 g ga H.size (by decide) (by decide) (by decide)) (va_cwS 4 hts (gS mw_423 mw_424 mw_5 mw_425) rfl rfl rfl (by decide +kernel) ⟨Nat.le_of_ble_eq_true rfl, Nat.le_of_ble_eq_true rfl⟩) ⟨fun a U g mk q => by obtain ⟨q0, q1, qP, qK, qD, qE⟩ := q; exact ⟨q0, q1, qP, va_K.moved (u := U) (U := U.calling g mk a) (Vm.Alike.refl U.vm) qK, qD, GE.calling qE⟩, fun U hU hW => ⟨rfl, by rw [hU], by rw [hU]; exact hPc, va_K.moved hW.alike hK, hDc.weaken (fun _ _ _ _ => trivial), GE.call hE hS hFc hU hW⟩⟩ rfl rfl hl.1 rfl (lv_room (Nat.le_of_ble_eq_true rfl)) dX8_then_10 ⟨Nat.le_of_ble_eq_true rfl, Nat.le_of_ble_eq_true rfl⟩) hS (fun q _ h => hFc q h) hFc (fun u t H1 locs ht hvm hw3 hB hz1 hk1 hS => ?_)
  obtain ⟨g1, hg2, hP1, hD1⟩ := hB
  rw [ht] at hP1
  obtain ⟨hP, hD⟩ := va_join (wr := [(h0, .inr (8, [.ref a1, .ref a2, .ref a3, .ref a4, .ref a5, .int 0, .int x6, .ref a6, .int 0, .int 0, .int 0, .int 0, .int 0, .int 0, .int 0, .int 0, .int (-1), .ref a7, .ref a8, .int 0, .ref a9, .ref b0, .int 0]))]) (w1 := [(a1, .inl (cy 1, 1037, .inl g)), (a2, .inl (cy 1, 1037, .inl g1))]) hP hD [1, 2] [0] rfl rfl (by decide) (by decide) hk1 hFc hP1 hD1
  generalize H1 = H at hP hS ⊢
  have hP : va_P (dC, dI) vwCl [(h0, .inr (8, [.ref a1, .ref a2, .ref a3, .ref a4, .ref a5, .int 0, .int x6, .ref a6, .int 0, .int 0, .int 0, .int 0, .int 0, .int 0, .int 0, .int 0, .int (-1), .ref a7, .ref a8, .int 0, .ref a9, .ref b0, .int 0])), (a1, .inl (cy 1, 1037, .inl g)), (a2, .inl (cy 1, 1037, .inl g1))] H := hP
  have hD : va_D A [(h0, .inr (8, [.ref a1, .ref a2, .ref a3, .ref a4, .ref a5, .int 0, .int x6, .ref a6, .int 0, .int 0, .int 0, .int 0, .int 0, .int 0, .int 0, .int 0, .int (-1), .ref a7, .ref a8, .int 0, .ref a9, .ref b0, .int 0])), (a1, .inl (cy 1, 1037, .inl g)), (a2, .inl (cy 1, 1037, .inl g1))] := hD
  refine W.widen (k := 0) (n := 0) (by omega) (by omega) ?_
  refine lv_iconst (v := 0) hx hb dX8_then_13 (by decide) ?_
  refine lv_istore_n (lv' := [(3, .int 0), (0, .ref h0), (1, .int 10), (2, .int (nI y))]) hx hb dX8_then_14 rfl hl (by decide) rfl (fun ls hl => ?_)
  have loop1 : ∀ (n k : Nat) (g3 : Nat → Int32) (H : Heap) (locs : List Loc) (ls : Array Slot), n + k = y → (FT k g3) → va_P (dC, dI) vwCl [(h0, .inr (8, [.ref a1, .ref a2, .ref a3, .ref a4, .ref a5, .int 0, .int x6, .ref a6, .int 0, .int 0, .int 0, .int 0, .int 0, .int 0, .int 0, .int 0, .int (-1), .ref a7, .ref a8, .int 0, .ref a9, .ref b0, .int 0])), (a1, .inl (cy 1, 1037, .inl g3)), (a2, .inl (cy 1, 1037, .inl g1))] H → va_D A [(h0, .inr (8, [.ref a1, .ref a2, .ref a3, .ref a4, .ref a5, .int 0, .int x6, .ref a6, .int 0, .int 0, .int 0, .int 0, .int 0, .int 0, .int 0, .int 0, .int (-1), .ref a7, .ref a8, .int 0, .ref a9, .ref b0, .int 0])), (a1, .inl (cy 1, 1037, .inl g3)), (a2, .inl (cy 1, 1037, .inl g1))] → va_S A s.heap H locs → lv_has ls 4 [(3, .int (nI k)), (0, .ref h0), (1, .int 10), (2, .int (nI y))] → W p l e (headSpec (wsg yX8_then cX8_then 4 (some .int)) ({ frames := 14, cells := 0, slots := 0, locals := 900 })).room s m ([.ref h0, .int 10, .int (nI y)] : List Value).toArray below meth c H locs 0 0 Qn (F0 m 15 ls []) := by
    intro n
    induction n with
    | zero =>
      intro k g3 H locs ls hnk hg3 hP hD hS hl
      obtain rfl : y = k := by omega
      refine lv_iload_n hx hb dX8_then_15 rfl (lv_at hl 0 rfl) ?_
      refine lv_iload_n hx hb dX8_then_16 rfl (lv_at hl 3 rfl) ?_
      refine lv_icmp_ge (tgt := 30) hx hb dX8_then_17 (by decide) (fun c_17_1 => ?_) (fun c_17_1 => by exact absurd (nI_le (Nat.le_refl y) (by omega)) c_17_1)
      refine lv_aload_n hx hb dX8_then_30 rfl (lv_at hl 1 rfl) ?_
      refine va_get (D := (dC, dI)) (ci := 8) (v := .ref a1) (C := RX8) (T := TX8) (N := 23) hx hb hts inlX8 hown hK hP 0 rfl rfl 0 (by decide) (hts _ mw_97) (fun _ h9 => h9) rfl dX8_then_31 ?_
      refine lv_iload_n hx hb dX8_then_34 rfl (lv_at hl 2 rfl) ?_
      refine va_iald hx hb hK hP 1 1 rfl rfl (vp_in_nI (n := 10) (by decide) (by decide)) dX8_then_35 ?_
      refine my_topi (y := 0) (by exact hg3.2.2.2.2.2.2) ?_
      refine lv_istore_n (lv' := [(3, .int 0), (0, .ref h0), (1, .int 10), (2, .int (nI y))]) hx hb dX8_then_36 rfl hl (by decide) rfl (fun ls hl => ?_)
      refine lv_aload_n hx hb dX8_then_37 rfl (lv_at hl 1 rfl) ?_
      refine va_get (D := (dC, dI)) (ci := 8) (v := .ref a2) (C := RX8) (T := TX8) (N := 23) hx hb hts inlX8 hown hK hP 0 rfl rfl 1 (by decide) (hts _ mw_98) (fun _ h9 => h9) rfl dX8_then_38 ?_
      refine lv_iconst (v := 0) hx hb dX8_then_41 (by decide) ?_
      refine lv_aload_n hx hb dX8_then_42 rfl (lv_at hl 1 rfl) ?_
      refine va_get (D := (dC, dI)) (ci := 8) (v := .ref a1) (C := RX8) (T := TX8) (N := 23) hx hb hts inlX8 hown hK hP 0 rfl rfl 0 (by decide) (hts _ mw_97) (fun _ h9 => h9) rfl dX8_then_43 ?_
      refine lv_iconst (v := 0) hx hb dX8_then_46 (by decide) ?_
      have hPc := hP.sub (ws' := [(a2, .inl (cy 1, 1037, .inl g1)), (a1, .inl (cy 1, 1037, .inl g3))]) [2, 1] rfl
      have hDc := hD.sub (ws' := [(a2, .inl (cy 1, 1037, .inl g1)), (a1, .inl (cy 1, 1037, .inl g3))]) [2, 1] (by decide) rfl
      have hFc := va_free (wc := [(a2, .inl (cy 1, 1037, .inl g1)), (a1, .inl (cy 1, 1037, .inl g3))]) hD hS hA [2, 1] rfl
      refine va_callv (va_runS (As := [.ref a2, .int 0, .ref a1, .int 0]) (rest := []) ⟨hx, hb, hml, hown, hts⟩ (c_X8_copies l dC dI cy nb a2 a1 0 0 1037 1037 g1 g3 H.size (by decide) (by decide) (by decide)) (va_cwS 4 hts (gS mw_423 mw_424 mw_5 mw_425) rfl rfl rfl (by decide +kernel) ⟨Nat.le_of_ble_eq_true rfl, Nat.le_of_ble_eq_true rfl⟩) ⟨fun a U g mk q => by obtain ⟨q0, q1, qP, qK, qD, qE⟩ := q; exact ⟨q0, q1, qP, va_K.moved (u := U) (U := U.calling g mk a) (Vm.Alike.refl U.vm) qK, qD, GE.calling qE⟩, fun U hU hW => ⟨rfl, by rw [hU], by rw [hU]; exact hPc, va_K.moved hW.alike hK, hDc.weaken (fun _ _ _ _ => trivial), GE.call hE hS hFc hU hW⟩⟩ rfl rfl hl.1 rfl (lv_room (Nat.le_of_ble_eq_true rfl)) dX8_then_47 ⟨Nat.le_of_ble_eq_true rfl, Nat.le_of_ble_eq_true rfl⟩) hS (fun q _ h => hFc q h) hFc (fun u t H1 locs ht hvm hw6 hB hz1 hk1 hS => ?_)
      obtain ⟨g4, hg5, hP1, hD1⟩ := hB
      rw [ht] at hP1
      obtain ⟨hP, hD⟩ := va_join (wr := [(h0, .inr (8, [.ref a1, .ref a2, .ref a3, .ref a4, .ref a5, .int 0, .int x6, .ref a6, .int 0, .int 0, .int 0, .int 0, .int 0, .int 0, .int 0, .int 0, .int (-1), .ref a7, .ref a8, .int 0, .ref a9, .ref b0, .int 0]))]) (w1 := [(a2, .inl (cy 1, 1037, .inl g1)), (a1, .inl (cy 1, 1037, .inl g4))]) hP hD [2, 1] [0] rfl rfl (by decide) (by decide) hk1 hFc hP1 hD1
      generalize H1 = H at hP hS ⊢
      have hP : va_P (dC, dI) vwCl [(h0, .inr (8, [.ref a1, .ref a2, .ref a3, .ref a4, .ref a5, .int 0, .int x6, .ref a6, .int 0, .int 0, .int 0, .int 0, .int 0, .int 0, .int 0, .int 0, .int (-1), .ref a7, .ref a8, .int 0, .ref a9, .ref b0, .int 0])), (a2, .inl (cy 1, 1037, .inl g1)), (a1, .inl (cy 1, 1037, .inl g4))] H := hP
      have hD : va_D A [(h0, .inr (8, [.ref a1, .ref a2, .ref a3, .ref a4, .ref a5, .int 0, .int x6, .ref a6, .int 0, .int 0, .int 0, .int 0, .int 0, .int 0, .int 0, .int 0, .int (-1), .ref a7, .ref a8, .int 0, .ref a9, .ref b0, .int 0])), (a2, .inl (cy 1, 1037, .inl g1)), (a1, .inl (cy 1, 1037, .inl g4))] := hD
      refine W.widen (k := 0) (n := 0) (by omega) (by omega) ?_
      refine lv_iload_n hx hb dX8_then_50 rfl (lv_at hl 0 rfl) ?_
      rw [hQ]
      have hP9 := hP.sub (ws' := [(h0, .inr (8, [.ref a1, .ref a2, .ref a3, .ref a4, .ref a5, .int 0, .int x6, .ref a6, .int 0, .int 0, .int 0, .int 0, .int 0, .int 0, .int 0, .int 0, .int (-1), .ref a7, .ref a8, .int 0, .ref a9, .ref b0, .int 0]))]) [0] rfl
      have hD9 := hD.sub (ws' := [(h0, .inr (8, [.ref a1, .ref a2, .ref a3, .ref a4, .ref a5, .int 0, .int x6, .ref a6, .int 0, .int 0, .int 0, .int 0, .int 0, .int 0, .int 0, .int 0, .int (-1), .ref a7, .ref a8, .int 0, .ref a9, .ref b0, .int 0]))]) [0] (by decide) rfl
      refine W.widen (k := 0) (n := 0) (by omega) (by omega) ?_
      exact W.iret (v := 0) hx hb hr (fun t ht hW => ⟨⟨0, (), rfl, rfl, by rw [ht]; exact hP9, hD9⟩, hS.F ht⟩) hS.2.2 dX8_then_51
    | succ n ih =>
      intro k g3 H locs ls hnk hg3 hP hD hS hl
      have hk : k < y := by omega
      refine lv_iload_n hx hb dX8_then_15 rfl (lv_at hl 0 rfl) ?_
      refine lv_iload_n hx hb dX8_then_16 rfl (lv_at hl 3 rfl) ?_
      refine lv_icmp_ge (tgt := 30) hx hb dX8_then_17 (by decide) (fun c_17_2 => by exact absurd c_17_2 (nI_ge (a := k) (b := y) hk (by omega))) (fun c_17_2 => ?_)
      refine lv_aload_n hx hb dX8_then_20 rfl (lv_at hl 1 rfl) ?_
      have hPc := hP.sub (ws' := [(h0, .inr (8, [.ref a1, .ref a2, .ref a3, .ref a4, .ref a5, .int 0, .int x6, .ref a6, .int 0, .int 0, .int 0, .int 0, .int 0, .int 0, .int 0, .int 0, .int (-1), .ref a7, .ref a8, .int 0, .ref a9, .ref b0, .int 0])), (a1, .inl (cy 1, 1037, .inl g3))]) [0, 1] rfl
      have hDc := hD.sub (ws' := [(h0, .inr (8, [.ref a1, .ref a2, .ref a3, .ref a4, .ref a5, .int 0, .int x6, .ref a6, .int 0, .int 0, .int 0, .int 0, .int 0, .int 0, .int 0, .int 0, .int (-1), .ref a7, .ref a8, .int 0, .ref a9, .ref b0, .int 0])), (a1, .inl (cy 1, 1037, .inl g3))]) [0, 1] (by decide) rfl
      have hFc := va_free (wc := [(h0, .inr (8, [.ref a1, .ref a2, .ref a3, .ref a4, .ref a5, .int 0, .int x6, .ref a6, .int 0, .int 0, .int 0, .int 0, .int 0, .int 0, .int 0, .int 0, .int (-1), .ref a7, .ref a8, .int 0, .ref a9, .ref b0, .int 0])), (a1, .inl (cy 1, 1037, .inl g3))]) hD hS hA [0, 1] rfl
      refine va_callv (va_runV (As := []) (rest := []) ⟨hx, hb, hml, hown, hts⟩ (c_X8_passes l dC dI cy nb h0 a1 (.ref a2) (.ref a3) (.ref a4) (.ref a5) (.int 0) (.int x6) (.ref a6) (.int 0) (.int 0) (.int 0) (.int 0) (.int 0) (.int 0) (.int 0) (.int 0) (.int (-1)) (.ref a7) (.ref a8) (.int 0) (.ref a9) (.ref b0) (.int 0) g3 k H.size hg3) (cwV 0 hts (gV mw_1231 mw_1232 mw_1233 mw_5 mw_1234) rfl rfl rfl (by decide +kernel) ⟨Nat.le_of_ble_eq_true rfl, Nat.le_of_ble_eq_true rfl⟩) ⟨fun a U g mk q => by obtain ⟨q0, q1, qP, qK, qD, qE⟩ := q; exact ⟨q0, q1, qP, va_K.moved (u := U) (U := U.calling g mk a) (Vm.Alike.refl U.vm) qK, qD, GE.calling qE⟩, va_recv hK hP (ci := 8) (q0 := 0) rfl rfl, fun U hU hW => ⟨rfl, by rw [hU], by rw [hU]; exact hPc, va_K.moved hW.alike hK, hDc.weaken (fun _ _ _ _ => trivial), GE.call hE hS hFc hU hW⟩⟩ rfl rfl hl.1 rfl (lv_room (Nat.le_of_ble_eq_true rfl)) dX8_then_21 ⟨Nat.le_of_ble_eq_true rfl, Nat.le_of_ble_eq_true rfl⟩) hS (fun q _ h => hFc q h) hFc (fun u t H1 locs ht hvm hw9 hB hz1 hk1 hS => ?_)
      obtain ⟨g7, hg8, hP1, hD1⟩ := hB
      rw [ht] at hP1
      obtain ⟨hP, hD⟩ := va_join (wr := [(a2, .inl (cy 1, 1037, .inl g1))]) (w1 := [(h0, .inr (8, [.ref a1, .ref a2, .ref a3, .ref a4, .ref a5, .int 0, .int x6, .ref a6, .int 0, .int 0, .int 0, .int 0, .int 0, .int 0, .int 0, .int 0, .int (-1), .ref a7, .ref a8, .int 0, .ref a9, .ref b0, .int 0])), (a1, .inl (cy 1, 1037, .inl g7))]) hP hD [0, 1] [2] rfl rfl (by decide) (by decide) hk1 hFc hP1 hD1
      generalize H1 = H at hP hS ⊢
      have hP : va_P (dC, dI) vwCl [(a2, .inl (cy 1, 1037, .inl g1)), (h0, .inr (8, [.ref a1, .ref a2, .ref a3, .ref a4, .ref a5, .int 0, .int x6, .ref a6, .int 0, .int 0, .int 0, .int 0, .int 0, .int 0, .int 0, .int 0, .int (-1), .ref a7, .ref a8, .int 0, .ref a9, .ref b0, .int 0])), (a1, .inl (cy 1, 1037, .inl g7))] H := hP
      have hD : va_D A [(a2, .inl (cy 1, 1037, .inl g1)), (h0, .inr (8, [.ref a1, .ref a2, .ref a3, .ref a4, .ref a5, .int 0, .int x6, .ref a6, .int 0, .int 0, .int 0, .int 0, .int 0, .int 0, .int 0, .int 0, .int (-1), .ref a7, .ref a8, .int 0, .ref a9, .ref b0, .int 0])), (a1, .inl (cy 1, 1037, .inl g7))] := hD
      refine W.widen (k := 0) (n := 0) (by omega) (by omega) ?_
      refine lv_iinc (v := nI (k + 1)) (lv' := [(3, .int (nI (k + 1))), (0, .ref h0), (1, .int 10), (2, .int (nI y))]) hx hb dX8_then_24 hl (k := 0) rfl (nI_1 k) (by decide) rfl (fun ls hl => ?_)
      refine lv_goto (tgt := 15) hx hb dX8_then_27 (by decide) ?_
      exact ih (k + 1) _ _ _ _ (by omega) hg8 (hP.sub [1, 2, 0] rfl) (hD.sub [1, 2, 0] (by decide) rfl) hS (lv_sub hl [0, 1, 2, 3] rfl)
  exact loop1 y 0 _ _ _ _ (by omega) (FT_of hg) (hP.sub [0, 1, 2] rfl) (hD.sub [0, 1, 2] (by decide) rfl) hS (lv_sub hl [0, 1, 2, 3] rfl)
set_option maxHeartbeats 4000000 in
set_option maxRecDepth 100000 in
/-- X8_then -/
theorem c_X8_then_5 (l : Launch) (dC : Nat → ClassId) (dI : Nat → Nat → Nat) (cy : Nat → ClassId) (nb : Nat → Nat) (h0 : Nat) (a1 : Nat) (a2 : Nat) (a3 : Nat) (a4 : Nat) (a5 : Nat) (a6 : Nat) (a7 : Nat) (a8 : Nat) (a9 : Nat) (b0 : Nat) (x6 : Int32) (g : Nat → Int32) (ga : Nat → Int32) (y : Nat) (sz : Nat) (hg : FN g) (hy1 : 1 ≤ y) (hy2 : y ≤ 2000) : Met l yX8_then (wsg yX8_then cX8_then 4 (some .int)) ({ frames := 14, cells := 0, slots := 0, locals := 900 }) (va_Pc [.ref h0, .int 5, .int (nI y)] (fun U => U.heap.size = sz ∧ va_P (dC, dI) vwCl [(h0, .inr (8, [.ref a1, .ref a2, .ref a3, .ref a4, .ref a5, .int 0, .int x6, .ref a6, .int 0, .int 0, .int 0, .int 0, .int 0, .int 0, .int 0, .int 0, .int (-1), .ref a7, .ref a8, .int 0, .ref a9, .ref b0, .int 0])), (a1, .inl (cy 1, 1037, .inl g)), (a2, .inl (cy 1, 1037, .inl ga))] U.heap ∧ va_K (dC, dI) vwCl (tyL cy) U ∧ va_D (fun _ => True) [(h0, .inr (8, [.ref a1, .ref a2, .ref a3, .ref a4, .ref a5, .int 0, .int x6, .ref a6, .int 0, .int 0, .int 0, .int 0, .int 0, .int 0, .int 0, .int 0, .int (-1), .ref a7, .ref a8, .int 0, .ref a9, .ref b0, .int 0])), (a1, .inl (cy 1, 1037, .inl g)), (a2, .inl (cy 1, 1037, .inl ga))] ∧ GE nb (va_A [(h0, .inr (8, [.ref a1, .ref a2, .ref a3, .ref a4, .ref a5, .int 0, .int x6, .ref a6, .int 0, .int 0, .int 0, .int 0, .int 0, .int 0, .int 0, .int 0, .int (-1), .ref a7, .ref a8, .int 0, .ref a9, .ref b0, .int 0])), (a1, .inl (cy 1, 1037, .inl g)), (a2, .inl (cy 1, 1037, .inl ga))] sz) U)) (va_Qi (fun (r : Int32) (_ : Unit) => r = 0) (fun _ t => va_P (dC, dI) vwCl [(h0, .inr (8, [.ref a1, .ref a2, .ref a3, .ref a4, .ref a5, .int 0, .int x6, .ref a6, .int 0, .int 0, .int 0, .int 0, .int 0, .int 0, .int 0, .int 0, .int (-1), .ref a7, .ref a8, .int 0, .ref a9, .ref b0, .int 0]))] t.heap ∧ va_D (va_A [(h0, .inr (8, [.ref a1, .ref a2, .ref a3, .ref a4, .ref a5, .int 0, .int x6, .ref a6, .int 0, .int 0, .int 0, .int 0, .int 0, .int 0, .int 0, .int 0, .int (-1), .ref a7, .ref a8, .int 0, .ref a9, .ref b0, .int 0])), (a1, .inl (cy 1, 1037, .inl g)), (a2, .inl (cy 1, 1037, .inl ga))] sz) [(h0, .inr (8, [.ref a1, .ref a2, .ref a3, .ref a4, .ref a5, .int 0, .int x6, .ref a6, .int 0, .int 0, .int 0, .int 0, .int 0, .int 0, .int 0, .int 0, .int (-1), .ref a7, .ref a8, .int 0, .ref a9, .ref b0, .int 0]))]) (va_A [(h0, .inr (8, [.ref a1, .ref a2, .ref a3, .ref a4, .ref a5, .int 0, .int x6, .ref a6, .int 0, .int 0, .int 0, .int 0, .int 0, .int 0, .int 0, .int 0, .int (-1), .ref a7, .ref a8, .int 0, .ref a9, .ref b0, .int 0])), (a1, .inl (cy 1, 1037, .inl g)), (a2, .inl (cy 1, 1037, .inl ga))] sz)) 0 0 (va_A [(h0, .inr (8, [.ref a1, .ref a2, .ref a3, .ref a4, .ref a5, .int 0, .int x6, .ref a6, .int 0, .int 0, .int 0, .int 0, .int 0, .int 0, .int 0, .int 0, .int (-1), .ref a7, .ref a8, .int 0, .ref a9, .ref b0, .int 0])), (a1, .inl (cy 1, 1037, .inl g)), (a2, .inl (cy 1, 1037, .inl ga))] sz) := by
  refine Met.ofW (cc := cX8_then) (maxL := 4) (ret := (some .int)) (by decide) rfl ?_
  intro p e s m args below meth c s₁ B hml hv
  obtain ⟨rfl, hsz, hP, hK, hD0, hE⟩ := hv
  have hx := B.exec
  have hb := B.bytes
  have hr := B.returns
  have hts0 := atoms_spec (ws := (wsg yX8_then cX8_then 4 (some .int))) B.pre
  have hts : ∀ w ∈ wsL_law, w.before _ s = true := fun w h => hts0 w (List.mem_cons_of_mem _ h)
  have hown : s.vm.findClass RX8 = some m.cls := findClass_of_methodNamed B.named
  have hlocks := B.notSynchronized
  subst hsz
  have hD := hD0.self (sz := s.heap.size)
  generalize hAe : va_A [(h0, .inr (8, [.ref a1, .ref a2, .ref a3, .ref a4, .ref a5, .int 0, .int x6, .ref a6, .int 0, .int 0, .int 0, .int 0, .int 0, .int 0, .int 0, .int 0, .int (-1), .ref a7, .ref a8, .int 0, .ref a9, .ref b0, .int 0])), (a1, .inl (cy 1, 1037, .inl g)), (a2, .inl (cy 1, 1037, .inl ga))] s.heap.size = A at hD hE ⊢
  have hA : ∀ q : Nat, s.heap.size ≤ q → A q := fun q h => by rw [← hAe]; exact Or.inr h
  have hS : va_S A s.heap s.heap [] := va_S.rf
  have hP : va_P (dC, dI) vwCl [(h0, .inr (8, [.ref a1, .ref a2, .ref a3, .ref a4, .ref a5, .int 0, .int x6, .ref a6, .int 0, .int 0, .int 0, .int 0, .int 0, .int 0, .int 0, .int 0, .int (-1), .ref a7, .ref a8, .int 0, .ref a9, .ref b0, .int 0])), (a1, .inl (cy 1, 1037, .inl g)), (a2, .inl (cy 1, 1037, .inl ga))] s.heap := hP
  have hl := lv_entry ([.ref h0, .int 5, .int (nI y)]) (n := 4) (Nat.le_of_ble_eq_true rfl)
  rw [lg_entry_eq]
  generalize (lg_sl ([.ref h0, .int 5, .int (nI y)]) ++ List.replicate (4 - (lg_sl ([.ref h0, .int 5, .int (nI y)])).length) Slot.unset).toArray = ls at hl ⊢
  have hl : lv_has ls 4 [(0, .ref h0), (1, .int 5), (2, .int (nI y))] := hl
  generalize hHe : s.heap = H at hP hS ⊢
  have hS : va_S A s.heap H [] := by rw [hHe]; exact hS
  refine my_Q (fun Qn hQ => ?_)
  refine lv_aload_n hx hb dX8_then_0 rfl (lv_at hl 0 rfl) ?_
  refine va_get (D := (dC, dI)) (ci := 8) (v := .ref a1) (C := RX8) (T := TX8) (N := 23) hx hb hts inlX8 hown hK hP 0 rfl rfl 0 (by decide) (hts _ mw_97) (fun _ h9 => h9) rfl dX8_then_1 ?_
  refine lv_iconst (v := 0) hx hb dX8_then_4 (by decide) ?_
  refine lv_aload_n hx hb dX8_then_5 rfl (lv_at hl 0 rfl) ?_
  refine va_get (D := (dC, dI)) (ci := 8) (v := .ref a2) (C := RX8) (T := TX8) (N := 23) hx hb hts inlX8 hown hK hP 0 rfl rfl 1 (by decide) (hts _ mw_98) (fun _ h9 => h9) rfl dX8_then_6 ?_
  refine lv_iconst (v := 0) hx hb dX8_then_9 (by decide) ?_
  have hPc := hP.sub (ws' := [(a1, .inl (cy 1, 1037, .inl g)), (a2, .inl (cy 1, 1037, .inl ga))]) [1, 2] rfl
  have hDc := hD.sub (ws' := [(a1, .inl (cy 1, 1037, .inl g)), (a2, .inl (cy 1, 1037, .inl ga))]) [1, 2] (by decide) rfl
  have hFc := va_free (wc := [(a1, .inl (cy 1, 1037, .inl g)), (a2, .inl (cy 1, 1037, .inl ga))]) hD hS hA [1, 2] rfl
  refine va_callv (va_runS (As := [.ref a1, .int 0, .ref a2, .int 0]) (rest := []) ⟨hx, hb, hml, hown, hts⟩ (c_X8_copies l dC dI cy nb a1 a2 0 0 1037 1037 g ga H.size (by decide) (by decide) (by decide)) (va_cwS 4 hts (gS mw_423 mw_424 mw_5 mw_425) rfl rfl rfl (by decide +kernel) ⟨Nat.le_of_ble_eq_true rfl, Nat.le_of_ble_eq_true rfl⟩) ⟨fun a U g mk q => by obtain ⟨q0, q1, qP, qK, qD, qE⟩ := q; exact ⟨q0, q1, qP, va_K.moved (u := U) (U := U.calling g mk a) (Vm.Alike.refl U.vm) qK, qD, GE.calling qE⟩, fun U hU hW => ⟨rfl, by rw [hU], by rw [hU]; exact hPc, va_K.moved hW.alike hK, hDc.weaken (fun _ _ _ _ => trivial), GE.call hE hS hFc hU hW⟩⟩ rfl rfl hl.1 rfl (lv_room (Nat.le_of_ble_eq_true rfl)) dX8_then_10 ⟨Nat.le_of_ble_eq_true rfl, Nat.le_of_ble_eq_true rfl⟩) hS (fun q _ h => hFc q h) hFc (fun u t H1 locs ht hvm hw3 hB hz1 hk1 hS => ?_)
  obtain ⟨g1, hg2, hP1, hD1⟩ := hB
  rw [ht] at hP1
  obtain ⟨hP, hD⟩ := va_join (wr := [(h0, .inr (8, [.ref a1, .ref a2, .ref a3, .ref a4, .ref a5, .int 0, .int x6, .ref a6, .int 0, .int 0, .int 0, .int 0, .int 0, .int 0, .int 0, .int 0, .int (-1), .ref a7, .ref a8, .int 0, .ref a9, .ref b0, .int 0]))]) (w1 := [(a1, .inl (cy 1, 1037, .inl g)), (a2, .inl (cy 1, 1037, .inl g1))]) hP hD [1, 2] [0] rfl rfl (by decide) (by decide) hk1 hFc hP1 hD1
  generalize H1 = H at hP hS ⊢
  have hP : va_P (dC, dI) vwCl [(h0, .inr (8, [.ref a1, .ref a2, .ref a3, .ref a4, .ref a5, .int 0, .int x6, .ref a6, .int 0, .int 0, .int 0, .int 0, .int 0, .int 0, .int 0, .int 0, .int (-1), .ref a7, .ref a8, .int 0, .ref a9, .ref b0, .int 0])), (a1, .inl (cy 1, 1037, .inl g)), (a2, .inl (cy 1, 1037, .inl g1))] H := hP
  have hD : va_D A [(h0, .inr (8, [.ref a1, .ref a2, .ref a3, .ref a4, .ref a5, .int 0, .int x6, .ref a6, .int 0, .int 0, .int 0, .int 0, .int 0, .int 0, .int 0, .int 0, .int (-1), .ref a7, .ref a8, .int 0, .ref a9, .ref b0, .int 0])), (a1, .inl (cy 1, 1037, .inl g)), (a2, .inl (cy 1, 1037, .inl g1))] := hD
  refine W.widen (k := 0) (n := 0) (by omega) (by omega) ?_
  refine lv_iconst (v := 0) hx hb dX8_then_13 (by decide) ?_
  refine lv_istore_n (lv' := [(3, .int 0), (0, .ref h0), (1, .int 5), (2, .int (nI y))]) hx hb dX8_then_14 rfl hl (by decide) rfl (fun ls hl => ?_)
  have loop1 : ∀ (n k : Nat) (g3 : Nat → Int32) (H : Heap) (locs : List Loc) (ls : Array Slot), n + k = y → (FT k g3) → va_P (dC, dI) vwCl [(h0, .inr (8, [.ref a1, .ref a2, .ref a3, .ref a4, .ref a5, .int 0, .int x6, .ref a6, .int 0, .int 0, .int 0, .int 0, .int 0, .int 0, .int 0, .int 0, .int (-1), .ref a7, .ref a8, .int 0, .ref a9, .ref b0, .int 0])), (a1, .inl (cy 1, 1037, .inl g3)), (a2, .inl (cy 1, 1037, .inl g1))] H → va_D A [(h0, .inr (8, [.ref a1, .ref a2, .ref a3, .ref a4, .ref a5, .int 0, .int x6, .ref a6, .int 0, .int 0, .int 0, .int 0, .int 0, .int 0, .int 0, .int 0, .int (-1), .ref a7, .ref a8, .int 0, .ref a9, .ref b0, .int 0])), (a1, .inl (cy 1, 1037, .inl g3)), (a2, .inl (cy 1, 1037, .inl g1))] → va_S A s.heap H locs → lv_has ls 4 [(3, .int (nI k)), (0, .ref h0), (1, .int 5), (2, .int (nI y))] → W p l e (headSpec (wsg yX8_then cX8_then 4 (some .int)) ({ frames := 14, cells := 0, slots := 0, locals := 900 })).room s m ([.ref h0, .int 5, .int (nI y)] : List Value).toArray below meth c H locs 0 0 Qn (F0 m 15 ls []) := by
    intro n
    induction n with
    | zero =>
      intro k g3 H locs ls hnk hg3 hP hD hS hl
      obtain rfl : y = k := by omega
      refine lv_iload_n hx hb dX8_then_15 rfl (lv_at hl 0 rfl) ?_
      refine lv_iload_n hx hb dX8_then_16 rfl (lv_at hl 3 rfl) ?_
      refine lv_icmp_ge (tgt := 30) hx hb dX8_then_17 (by decide) (fun c_17_1 => ?_) (fun c_17_1 => by exact absurd (nI_le (Nat.le_refl y) (by omega)) c_17_1)
      refine lv_aload_n hx hb dX8_then_30 rfl (lv_at hl 1 rfl) ?_
      refine va_get (D := (dC, dI)) (ci := 8) (v := .ref a1) (C := RX8) (T := TX8) (N := 23) hx hb hts inlX8 hown hK hP 0 rfl rfl 0 (by decide) (hts _ mw_97) (fun _ h9 => h9) rfl dX8_then_31 ?_
      refine lv_iload_n hx hb dX8_then_34 rfl (lv_at hl 2 rfl) ?_
      refine va_iald hx hb hK hP 1 1 rfl rfl (vp_in_nI (n := 5) (by decide) (by decide)) dX8_then_35 ?_
      refine my_topi (y := 0) (by exact hg3.2.1) ?_
      refine lv_istore_n (lv' := [(3, .int 0), (0, .ref h0), (1, .int 5), (2, .int (nI y))]) hx hb dX8_then_36 rfl hl (by decide) rfl (fun ls hl => ?_)
      refine lv_aload_n hx hb dX8_then_37 rfl (lv_at hl 1 rfl) ?_
      refine va_get (D := (dC, dI)) (ci := 8) (v := .ref a2) (C := RX8) (T := TX8) (N := 23) hx hb hts inlX8 hown hK hP 0 rfl rfl 1 (by decide) (hts _ mw_98) (fun _ h9 => h9) rfl dX8_then_38 ?_
      refine lv_iconst (v := 0) hx hb dX8_then_41 (by decide) ?_
      refine lv_aload_n hx hb dX8_then_42 rfl (lv_at hl 1 rfl) ?_
      refine va_get (D := (dC, dI)) (ci := 8) (v := .ref a1) (C := RX8) (T := TX8) (N := 23) hx hb hts inlX8 hown hK hP 0 rfl rfl 0 (by decide) (hts _ mw_97) (fun _ h9 => h9) rfl dX8_then_43 ?_
      refine lv_iconst (v := 0) hx hb dX8_then_46 (by decide) ?_
      have hPc := hP.sub (ws' := [(a2, .inl (cy 1, 1037, .inl g1)), (a1, .inl (cy 1, 1037, .inl g3))]) [2, 1] rfl
      have hDc := hD.sub (ws' := [(a2, .inl (cy 1, 1037, .inl g1)), (a1, .inl (cy 1, 1037, .inl g3))]) [2, 1] (by decide) rfl
      have hFc := va_free (wc := [(a2, .inl (cy 1, 1037, .inl g1)), (a1, .inl (cy 1, 1037, .inl g3))]) hD hS hA [2, 1] rfl
      refine va_callv (va_runS (As := [.ref a2, .int 0, .ref a1, .int 0]) (rest := []) ⟨hx, hb, hml, hown, hts⟩ (c_X8_copies l dC dI cy nb a2 a1 0 0 1037 1037 g1 g3 H.size (by decide) (by decide) (by decide)) (va_cwS 4 hts (gS mw_423 mw_424 mw_5 mw_425) rfl rfl rfl (by decide +kernel) ⟨Nat.le_of_ble_eq_true rfl, Nat.le_of_ble_eq_true rfl⟩) ⟨fun a U g mk q => by obtain ⟨q0, q1, qP, qK, qD, qE⟩ := q; exact ⟨q0, q1, qP, va_K.moved (u := U) (U := U.calling g mk a) (Vm.Alike.refl U.vm) qK, qD, GE.calling qE⟩, fun U hU hW => ⟨rfl, by rw [hU], by rw [hU]; exact hPc, va_K.moved hW.alike hK, hDc.weaken (fun _ _ _ _ => trivial), GE.call hE hS hFc hU hW⟩⟩ rfl rfl hl.1 rfl (lv_room (Nat.le_of_ble_eq_true rfl)) dX8_then_47 ⟨Nat.le_of_ble_eq_true rfl, Nat.le_of_ble_eq_true rfl⟩) hS (fun q _ h => hFc q h) hFc (fun u t H1 locs ht hvm hw6 hB hz1 hk1 hS => ?_)
      obtain ⟨g4, hg5, hP1, hD1⟩ := hB
      rw [ht] at hP1
      obtain ⟨hP, hD⟩ := va_join (wr := [(h0, .inr (8, [.ref a1, .ref a2, .ref a3, .ref a4, .ref a5, .int 0, .int x6, .ref a6, .int 0, .int 0, .int 0, .int 0, .int 0, .int 0, .int 0, .int 0, .int (-1), .ref a7, .ref a8, .int 0, .ref a9, .ref b0, .int 0]))]) (w1 := [(a2, .inl (cy 1, 1037, .inl g1)), (a1, .inl (cy 1, 1037, .inl g4))]) hP hD [2, 1] [0] rfl rfl (by decide) (by decide) hk1 hFc hP1 hD1
      generalize H1 = H at hP hS ⊢
      have hP : va_P (dC, dI) vwCl [(h0, .inr (8, [.ref a1, .ref a2, .ref a3, .ref a4, .ref a5, .int 0, .int x6, .ref a6, .int 0, .int 0, .int 0, .int 0, .int 0, .int 0, .int 0, .int 0, .int (-1), .ref a7, .ref a8, .int 0, .ref a9, .ref b0, .int 0])), (a2, .inl (cy 1, 1037, .inl g1)), (a1, .inl (cy 1, 1037, .inl g4))] H := hP
      have hD : va_D A [(h0, .inr (8, [.ref a1, .ref a2, .ref a3, .ref a4, .ref a5, .int 0, .int x6, .ref a6, .int 0, .int 0, .int 0, .int 0, .int 0, .int 0, .int 0, .int 0, .int (-1), .ref a7, .ref a8, .int 0, .ref a9, .ref b0, .int 0])), (a2, .inl (cy 1, 1037, .inl g1)), (a1, .inl (cy 1, 1037, .inl g4))] := hD
      refine W.widen (k := 0) (n := 0) (by omega) (by omega) ?_
      refine lv_iload_n hx hb dX8_then_50 rfl (lv_at hl 0 rfl) ?_
      rw [hQ]
      have hP9 := hP.sub (ws' := [(h0, .inr (8, [.ref a1, .ref a2, .ref a3, .ref a4, .ref a5, .int 0, .int x6, .ref a6, .int 0, .int 0, .int 0, .int 0, .int 0, .int 0, .int 0, .int 0, .int (-1), .ref a7, .ref a8, .int 0, .ref a9, .ref b0, .int 0]))]) [0] rfl
      have hD9 := hD.sub (ws' := [(h0, .inr (8, [.ref a1, .ref a2, .ref a3, .ref a4, .ref a5, .int 0, .int x6, .ref a6, .int 0, .int 0, .int 0, .int 0, .int 0, .int 0, .int 0, .int 0, .int (-1), .ref a7, .ref a8, .int 0, .ref a9, .ref b0, .int 0]))]) [0] (by decide) rfl
      refine W.widen (k := 0) (n := 0) (by omega) (by omega) ?_
      exact W.iret (v := 0) hx hb hr (fun t ht hW => ⟨⟨0, (), rfl, rfl, by rw [ht]; exact hP9, hD9⟩, hS.F ht⟩) hS.2.2 dX8_then_51
    | succ n ih =>
      intro k g3 H locs ls hnk hg3 hP hD hS hl
      have hk : k < y := by omega
      refine lv_iload_n hx hb dX8_then_15 rfl (lv_at hl 0 rfl) ?_
      refine lv_iload_n hx hb dX8_then_16 rfl (lv_at hl 3 rfl) ?_
      refine lv_icmp_ge (tgt := 30) hx hb dX8_then_17 (by decide) (fun c_17_2 => by exact absurd c_17_2 (nI_ge (a := k) (b := y) hk (by omega))) (fun c_17_2 => ?_)
      refine lv_aload_n hx hb dX8_then_20 rfl (lv_at hl 1 rfl) ?_
      have hPc := hP.sub (ws' := [(h0, .inr (8, [.ref a1, .ref a2, .ref a3, .ref a4, .ref a5, .int 0, .int x6, .ref a6, .int 0, .int 0, .int 0, .int 0, .int 0, .int 0, .int 0, .int 0, .int (-1), .ref a7, .ref a8, .int 0, .ref a9, .ref b0, .int 0])), (a1, .inl (cy 1, 1037, .inl g3))]) [0, 1] rfl
      have hDc := hD.sub (ws' := [(h0, .inr (8, [.ref a1, .ref a2, .ref a3, .ref a4, .ref a5, .int 0, .int x6, .ref a6, .int 0, .int 0, .int 0, .int 0, .int 0, .int 0, .int 0, .int 0, .int (-1), .ref a7, .ref a8, .int 0, .ref a9, .ref b0, .int 0])), (a1, .inl (cy 1, 1037, .inl g3))]) [0, 1] (by decide) rfl
      have hFc := va_free (wc := [(h0, .inr (8, [.ref a1, .ref a2, .ref a3, .ref a4, .ref a5, .int 0, .int x6, .ref a6, .int 0, .int 0, .int 0, .int 0, .int 0, .int 0, .int 0, .int 0, .int (-1), .ref a7, .ref a8, .int 0, .ref a9, .ref b0, .int 0])), (a1, .inl (cy 1, 1037, .inl g3))]) hD hS hA [0, 1] rfl
      refine va_callv (va_runV (As := []) (rest := []) ⟨hx, hb, hml, hown, hts⟩ (c_X8_passes l dC dI cy nb h0 a1 (.ref a2) (.ref a3) (.ref a4) (.ref a5) (.int 0) (.int x6) (.ref a6) (.int 0) (.int 0) (.int 0) (.int 0) (.int 0) (.int 0) (.int 0) (.int 0) (.int (-1)) (.ref a7) (.ref a8) (.int 0) (.ref a9) (.ref b0) (.int 0) g3 k H.size hg3) (cwV 0 hts (gV mw_1231 mw_1232 mw_1233 mw_5 mw_1234) rfl rfl rfl (by decide +kernel) ⟨Nat.le_of_ble_eq_true rfl, Nat.le_of_ble_eq_true rfl⟩) ⟨fun a U g mk q => by obtain ⟨q0, q1, qP, qK, qD, qE⟩ := q; exact ⟨q0, q1, qP, va_K.moved (u := U) (U := U.calling g mk a) (Vm.Alike.refl U.vm) qK, qD, GE.calling qE⟩, va_recv hK hP (ci := 8) (q0 := 0) rfl rfl, fun U hU hW => ⟨rfl, by rw [hU], by rw [hU]; exact hPc, va_K.moved hW.alike hK, hDc.weaken (fun _ _ _ _ => trivial), GE.call hE hS hFc hU hW⟩⟩ rfl rfl hl.1 rfl (lv_room (Nat.le_of_ble_eq_true rfl)) dX8_then_21 ⟨Nat.le_of_ble_eq_true rfl, Nat.le_of_ble_eq_true rfl⟩) hS (fun q _ h => hFc q h) hFc (fun u t H1 locs ht hvm hw9 hB hz1 hk1 hS => ?_)
      obtain ⟨g7, hg8, hP1, hD1⟩ := hB
      rw [ht] at hP1
      obtain ⟨hP, hD⟩ := va_join (wr := [(a2, .inl (cy 1, 1037, .inl g1))]) (w1 := [(h0, .inr (8, [.ref a1, .ref a2, .ref a3, .ref a4, .ref a5, .int 0, .int x6, .ref a6, .int 0, .int 0, .int 0, .int 0, .int 0, .int 0, .int 0, .int 0, .int (-1), .ref a7, .ref a8, .int 0, .ref a9, .ref b0, .int 0])), (a1, .inl (cy 1, 1037, .inl g7))]) hP hD [0, 1] [2] rfl rfl (by decide) (by decide) hk1 hFc hP1 hD1
      generalize H1 = H at hP hS ⊢
      have hP : va_P (dC, dI) vwCl [(a2, .inl (cy 1, 1037, .inl g1)), (h0, .inr (8, [.ref a1, .ref a2, .ref a3, .ref a4, .ref a5, .int 0, .int x6, .ref a6, .int 0, .int 0, .int 0, .int 0, .int 0, .int 0, .int 0, .int 0, .int (-1), .ref a7, .ref a8, .int 0, .ref a9, .ref b0, .int 0])), (a1, .inl (cy 1, 1037, .inl g7))] H := hP
      have hD : va_D A [(a2, .inl (cy 1, 1037, .inl g1)), (h0, .inr (8, [.ref a1, .ref a2, .ref a3, .ref a4, .ref a5, .int 0, .int x6, .ref a6, .int 0, .int 0, .int 0, .int 0, .int 0, .int 0, .int 0, .int 0, .int (-1), .ref a7, .ref a8, .int 0, .ref a9, .ref b0, .int 0])), (a1, .inl (cy 1, 1037, .inl g7))] := hD
      refine W.widen (k := 0) (n := 0) (by omega) (by omega) ?_
      refine lv_iinc (v := nI (k + 1)) (lv' := [(3, .int (nI (k + 1))), (0, .ref h0), (1, .int 5), (2, .int (nI y))]) hx hb dX8_then_24 hl (k := 0) rfl (nI_1 k) (by decide) rfl (fun ls hl => ?_)
      refine lv_goto (tgt := 15) hx hb dX8_then_27 (by decide) ?_
      exact ih (k + 1) _ _ _ _ (by omega) hg8 (hP.sub [1, 2, 0] rfl) (hD.sub [1, 2, 0] (by decide) rfl) hS (lv_sub hl [0, 1, 2, 3] rfl)
  exact loop1 y 0 _ _ _ _ (by omega) (FT_of hg) (hP.sub [0, 1, 2] rfl) (hD.sub [0, 1, 2] (by decide) rfl) hS (lv_sub hl [0, 1, 2, 3] rfl)
set_option maxHeartbeats 4000000 in
set_option maxRecDepth 100000 in
/-- X8_leftIn -/
theorem c_X8_leftIn (l : Launch) (dC : Nat → ClassId) (dI : Nat → Nat → Nat) (cy : Nat → ClassId) (nb : Nat → Nat) (h0 : Nat) (a1 : Nat) (a2 : Nat) (a3 : Nat) (a4 : Nat) (a5 : Nat) (a6 : Nat) (a7 : Nat) (a8 : Nat) (a9 : Nat) (b0 : Nat) (x6 : Int32) (g : Nat → Int32) (ga : Nat → Int32) (y : Nat) (sz : Nat) (hg : FN g) (hy1 : 1 ≤ y) (hy2 : y ≤ 2000) : Met l yX8_leftIn (wsg yX8_leftIn cX8_leftIn 2 (some .int)) ({ frames := 15, cells := 0, slots := 0, locals := 1000 }) (va_Pc [.ref h0, .int (nI y)] (fun U => U.heap.size = sz ∧ va_P (dC, dI) vwCl [(h0, .inr (8, [.ref a1, .ref a2, .ref a3, .ref a4, .ref a5, .int 0, .int x6, .ref a6, .int 0, .int 0, .int 0, .int 0, .int 0, .int 0, .int 0, .int 0, .int (-1), .ref a7, .ref a8, .int 0, .ref a9, .ref b0, .int 0])), (a1, .inl (cy 1, 1037, .inl g)), (a2, .inl (cy 1, 1037, .inl ga))] U.heap ∧ va_K (dC, dI) vwCl (tyL cy) U ∧ va_D (fun _ => True) [(h0, .inr (8, [.ref a1, .ref a2, .ref a3, .ref a4, .ref a5, .int 0, .int x6, .ref a6, .int 0, .int 0, .int 0, .int 0, .int 0, .int 0, .int 0, .int 0, .int (-1), .ref a7, .ref a8, .int 0, .ref a9, .ref b0, .int 0])), (a1, .inl (cy 1, 1037, .inl g)), (a2, .inl (cy 1, 1037, .inl ga))] ∧ GE nb (va_A [(h0, .inr (8, [.ref a1, .ref a2, .ref a3, .ref a4, .ref a5, .int 0, .int x6, .ref a6, .int 0, .int 0, .int 0, .int 0, .int 0, .int 0, .int 0, .int 0, .int (-1), .ref a7, .ref a8, .int 0, .ref a9, .ref b0, .int 0])), (a1, .inl (cy 1, 1037, .inl g)), (a2, .inl (cy 1, 1037, .inl ga))] sz) U)) (va_Qi (fun (r : Int32) (_ : Unit) => r = 0) (fun _ t => va_P (dC, dI) vwCl [(h0, .inr (8, [.ref a1, .ref a2, .ref a3, .ref a4, .ref a5, .int 0, .int 0, .ref a6, .int 0, .int 0, .int 0, .int 0, .int 0, .int 0, .int 0, .int 0, .int (-1), .ref a7, .ref a8, .int 0, .ref a9, .ref b0, .int 0]))] t.heap ∧ va_D (va_A [(h0, .inr (8, [.ref a1, .ref a2, .ref a3, .ref a4, .ref a5, .int 0, .int x6, .ref a6, .int 0, .int 0, .int 0, .int 0, .int 0, .int 0, .int 0, .int 0, .int (-1), .ref a7, .ref a8, .int 0, .ref a9, .ref b0, .int 0])), (a1, .inl (cy 1, 1037, .inl g)), (a2, .inl (cy 1, 1037, .inl ga))] sz) [(h0, .inr (8, [.ref a1, .ref a2, .ref a3, .ref a4, .ref a5, .int 0, .int 0, .ref a6, .int 0, .int 0, .int 0, .int 0, .int 0, .int 0, .int 0, .int 0, .int (-1), .ref a7, .ref a8, .int 0, .ref a9, .ref b0, .int 0]))]) (va_A [(h0, .inr (8, [.ref a1, .ref a2, .ref a3, .ref a4, .ref a5, .int 0, .int x6, .ref a6, .int 0, .int 0, .int 0, .int 0, .int 0, .int 0, .int 0, .int 0, .int (-1), .ref a7, .ref a8, .int 0, .ref a9, .ref b0, .int 0])), (a1, .inl (cy 1, 1037, .inl g)), (a2, .inl (cy 1, 1037, .inl ga))] sz)) 0 0 (va_A [(h0, .inr (8, [.ref a1, .ref a2, .ref a3, .ref a4, .ref a5, .int 0, .int x6, .ref a6, .int 0, .int 0, .int 0, .int 0, .int 0, .int 0, .int 0, .int 0, .int (-1), .ref a7, .ref a8, .int 0, .ref a9, .ref b0, .int 0])), (a1, .inl (cy 1, 1037, .inl g)), (a2, .inl (cy 1, 1037, .inl ga))] sz) := by
  refine Met.ofW (cc := cX8_leftIn) (maxL := 2) (ret := (some .int)) (by decide) rfl ?_
  intro p e s m args below meth c s₁ B hml hv
  obtain ⟨rfl, hsz, hP, hK, hD0, hE⟩ := hv
  have hx := B.exec
  have hb := B.bytes
  have hr := B.returns
  have hts0 := atoms_spec (ws := (wsg yX8_leftIn cX8_leftIn 2 (some .int))) B.pre
  have hts : ∀ w ∈ wsL_law, w.before _ s = true := fun w h => hts0 w (List.mem_cons_of_mem _ h)
  have hown : s.vm.findClass RX8 = some m.cls := findClass_of_methodNamed B.named
  have hlocks := B.notSynchronized
  subst hsz
  have hD := hD0.self (sz := s.heap.size)
  generalize hAe : va_A [(h0, .inr (8, [.ref a1, .ref a2, .ref a3, .ref a4, .ref a5, .int 0, .int x6, .ref a6, .int 0, .int 0, .int 0, .int 0, .int 0, .int 0, .int 0, .int 0, .int (-1), .ref a7, .ref a8, .int 0, .ref a9, .ref b0, .int 0])), (a1, .inl (cy 1, 1037, .inl g)), (a2, .inl (cy 1, 1037, .inl ga))] s.heap.size = A at hD hE ⊢
  have hA : ∀ q : Nat, s.heap.size ≤ q → A q := fun q h => by rw [← hAe]; exact Or.inr h
  have hS : va_S A s.heap s.heap [] := va_S.rf
  have hP : va_P (dC, dI) vwCl [(h0, .inr (8, [.ref a1, .ref a2, .ref a3, .ref a4, .ref a5, .int 0, .int x6, .ref a6, .int 0, .int 0, .int 0, .int 0, .int 0, .int 0, .int 0, .int 0, .int (-1), .ref a7, .ref a8, .int 0, .ref a9, .ref b0, .int 0])), (a1, .inl (cy 1, 1037, .inl g)), (a2, .inl (cy 1, 1037, .inl ga))] s.heap := hP
  have hl := lv_entry ([.ref h0, .int (nI y)]) (n := 2) (Nat.le_of_ble_eq_true rfl)
  rw [lg_entry_eq]
  generalize (lg_sl ([.ref h0, .int (nI y)]) ++ List.replicate (2 - (lg_sl ([.ref h0, .int (nI y)])).length) Slot.unset).toArray = ls at hl ⊢
  have hl : lv_has ls 2 [(0, .ref h0), (1, .int (nI y))] := hl
  generalize hHe : s.heap = H at hP hS ⊢
  have hS : va_S A s.heap H [] := by rw [hHe]; exact hS
  refine lv_aload_n hx hb dX8_leftIn_0 rfl (lv_at hl 0 rfl) ?_
  refine lv_iload_n hx hb dX8_leftIn_1 rfl (lv_at hl 1 rfl) ?_
  refine lv_i2l (v := ((nI y)).toInt64) hx hb dX8_leftIn_2 rfl ?_
  refine lv_lconst (v := 1) hx hb dX8_leftIn_3 (by decide) ?_
  refine lv_ldc2 hx hb hown (hts _ mw_1230) dX8_leftIn_4 ?_
  have hPc := hP.sub (ws' := []) [] rfl
  have hDc := hD.sub (ws' := []) [] (by decide) rfl
  have hFc := va_free (wc := []) hD hS hA [] rfl
  refine va_calli (va_runS (As := [.long ((nI y)).toInt64, .long 1, .long 2000]) (rest := [.ref h0]) ⟨hx, hb, hml, hown, hts⟩ (c_X8_in l dC dI cy nb ((nI y)).toInt64 1 2000 H.size) (va_cwS 3 hts (gS mw_445 mw_446 mw_5 mw_447) rfl rfl rfl (by decide +kernel) ⟨Nat.le_of_ble_eq_true rfl, Nat.le_of_ble_eq_true rfl⟩) ⟨fun a U g mk q => by obtain ⟨q0, q1, qP, qK, qD, qE⟩ := q; exact ⟨q0, q1, qP, va_K.moved (u := U) (U := U.calling g mk a) (Vm.Alike.refl U.vm) qK, qD, GE.calling qE⟩, fun U hU hW => ⟨rfl, by rw [hU], by rw [hU]; exact hPc, va_K.moved hW.alike hK, hDc.weaken (fun _ _ _ _ => trivial), GE.call hE hS hFc hU hW⟩⟩ rfl rfl hl.1 rfl (lv_room (Nat.le_of_ble_eq_true rfl)) dX8_leftIn_7 ⟨Nat.le_of_ble_eq_true rfl, Nat.le_of_ble_eq_true rfl⟩) hS (fun q _ h => hFc q h) hFc (fun r u t H1 locs ht hvm hw1 hB hz1 hk1 hS => ?_)
  obtain ⟨hP1, hD1⟩ := hB
  rw [ht] at hP1
  obtain ⟨hP, hD⟩ := va_join (wr := [(h0, .inr (8, [.ref a1, .ref a2, .ref a3, .ref a4, .ref a5, .int 0, .int x6, .ref a6, .int 0, .int 0, .int 0, .int 0, .int 0, .int 0, .int 0, .int 0, .int (-1), .ref a7, .ref a8, .int 0, .ref a9, .ref b0, .int 0])), (a1, .inl (cy 1, 1037, .inl g)), (a2, .inl (cy 1, 1037, .inl ga))]) (w1 := []) hP hD [] [0, 1, 2] rfl rfl (by decide) (by decide) hk1 hFc hP1 hD1
  generalize H1 = H at hP hS ⊢
  have hP : va_P (dC, dI) vwCl [(h0, .inr (8, [.ref a1, .ref a2, .ref a3, .ref a4, .ref a5, .int 0, .int x6, .ref a6, .int 0, .int 0, .int 0, .int 0, .int 0, .int 0, .int 0, .int 0, .int (-1), .ref a7, .ref a8, .int 0, .ref a9, .ref b0, .int 0])), (a1, .inl (cy 1, 1037, .inl g)), (a2, .inl (cy 1, 1037, .inl ga))] H := hP
  have hD : va_D A [(h0, .inr (8, [.ref a1, .ref a2, .ref a3, .ref a4, .ref a5, .int 0, .int x6, .ref a6, .int 0, .int 0, .int 0, .int 0, .int 0, .int 0, .int 0, .int 0, .int (-1), .ref a7, .ref a8, .int 0, .ref a9, .ref b0, .int 0])), (a1, .inl (cy 1, 1037, .inl g)), (a2, .inl (cy 1, 1037, .inl ga))] := hD
  obtain rfl := hw1
  refine my_topi (y := 1) (by exact inB_nI (a := 1) (b := 2000) hy1 hy2 (by decide)) ?_
  refine W.widen (k := 0) (n := 0) (by omega) (by omega) ?_
  refine lv_iconst (v := 1) hx hb dX8_leftIn_10 (by decide) ?_
  have hPc := hP.sub (ws' := [(h0, .inr (8, [.ref a1, .ref a2, .ref a3, .ref a4, .ref a5, .int 0, .int x6, .ref a6, .int 0, .int 0, .int 0, .int 0, .int 0, .int 0, .int 0, .int 0, .int (-1), .ref a7, .ref a8, .int 0, .ref a9, .ref b0, .int 0]))]) [0] rfl
  have hDc := hD.sub (ws' := [(h0, .inr (8, [.ref a1, .ref a2, .ref a3, .ref a4, .ref a5, .int 0, .int x6, .ref a6, .int 0, .int 0, .int 0, .int 0, .int 0, .int 0, .int 0, .int 0, .int (-1), .ref a7, .ref a8, .int 0, .ref a9, .ref b0, .int 0]))]) [0] (by decide) rfl
  have hFc := va_free (wc := [(h0, .inr (8, [.ref a1, .ref a2, .ref a3, .ref a4, .ref a5, .int 0, .int x6, .ref a6, .int 0, .int 0, .int 0, .int 0, .int 0, .int 0, .int 0, .int 0, .int (-1), .ref a7, .ref a8, .int 0, .ref a9, .ref b0, .int 0]))]) hD hS hA [0] rfl
  refine va_calli (va_runV (As := [.int 1, .int 1]) (rest := []) ⟨hx, hb, hml, hown, hts⟩ (c_X8_isThrown_1 l dC dI cy nb h0 (.ref a1) (.ref a2) (.ref a3) (.ref a4) (.ref a5) (.int 0) (.ref a6) (.int 0) (.int 0) (.int 0) (.int 0) (.int 0) (.int 0) (.int 0) (.int 0) (.int (-1)) (.ref a7) (.ref a8) (.int 0) (.ref a9) (.ref b0) (.int 0) x6 1 H.size) (cwV 2 hts (gV mw_580 mw_581 mw_582 mw_5 mw_583) rfl rfl rfl (by decide +kernel) ⟨Nat.le_of_ble_eq_true rfl, Nat.le_of_ble_eq_true rfl⟩) ⟨fun a U g mk q => by obtain ⟨q0, q1, qP, qK, qD, qE⟩ := q; exact ⟨q0, q1, qP, va_K.moved (u := U) (U := U.calling g mk a) (Vm.Alike.refl U.vm) qK, qD, GE.calling qE⟩, va_recv hK hP (ci := 8) (q0 := 0) rfl rfl, fun U hU hW => ⟨rfl, by rw [hU], by rw [hU]; exact hPc, va_K.moved hW.alike hK, hDc.weaken (fun _ _ _ _ => trivial), GE.call hE hS hFc hU hW⟩⟩ rfl rfl hl.1 rfl (lv_room (Nat.le_of_ble_eq_true rfl)) dX8_leftIn_11 ⟨Nat.le_of_ble_eq_true rfl, Nat.le_of_ble_eq_true rfl⟩) hS (fun q _ h => hFc q h) hFc (fun r u t H1 locs ht hvm hw2 hB hz1 hk1 hS => ?_)
  obtain ⟨hP1, hD1⟩ := hB
  rw [ht] at hP1
  obtain ⟨hP, hD⟩ := va_join (wr := [(a1, .inl (cy 1, 1037, .inl g)), (a2, .inl (cy 1, 1037, .inl ga))]) (w1 := [(h0, .inr (8, [.ref a1, .ref a2, .ref a3, .ref a4, .ref a5, .int 0, .int 0, .ref a6, .int 0, .int 0, .int 0, .int 0, .int 0, .int 0, .int 0, .int 0, .int (-1), .ref a7, .ref a8, .int 0, .ref a9, .ref b0, .int 0]))]) hP hD [0] [1, 2] rfl rfl (by decide) (by decide) hk1 hFc hP1 hD1
  generalize H1 = H at hP hS ⊢
  have hP : va_P (dC, dI) vwCl [(a1, .inl (cy 1, 1037, .inl g)), (a2, .inl (cy 1, 1037, .inl ga)), (h0, .inr (8, [.ref a1, .ref a2, .ref a3, .ref a4, .ref a5, .int 0, .int 0, .ref a6, .int 0, .int 0, .int 0, .int 0, .int 0, .int 0, .int 0, .int 0, .int (-1), .ref a7, .ref a8, .int 0, .ref a9, .ref b0, .int 0]))] H := hP
  have hD : va_D A [(a1, .inl (cy 1, 1037, .inl g)), (a2, .inl (cy 1, 1037, .inl ga)), (h0, .inr (8, [.ref a1, .ref a2, .ref a3, .ref a4, .ref a5, .int 0, .int 0, .ref a6, .int 0, .int 0, .int 0, .int 0, .int 0, .int 0, .int 0, .int 0, .int (-1), .ref a7, .ref a8, .int 0, .ref a9, .ref b0, .int 0]))] := hD
  obtain rfl := hw2
  refine W.widen (k := 0) (n := 0) (by omega) (by omega) ?_
  refine lv_if_eq (tgt := 21) hx hb dX8_leftIn_14 (by decide) (fun _ => ?_) (fun h => absurd (by decide) h)
  refine lv_aload_n hx hb dX8_leftIn_21 rfl (lv_at hl 0 rfl) ?_
  refine lv_bipush (v := 10) hx hb dX8_leftIn_22 (by decide) ?_
  refine lv_iload_n hx hb dX8_leftIn_24 rfl (lv_at hl 1 rfl) ?_
  have hPc := hP.sub (ws' := [(h0, .inr (8, [.ref a1, .ref a2, .ref a3, .ref a4, .ref a5, .int 0, .int 0, .ref a6, .int 0, .int 0, .int 0, .int 0, .int 0, .int 0, .int 0, .int 0, .int (-1), .ref a7, .ref a8, .int 0, .ref a9, .ref b0, .int 0])), (a1, .inl (cy 1, 1037, .inl g)), (a2, .inl (cy 1, 1037, .inl ga))]) [2, 0, 1] rfl
  have hDc := hD.sub (ws' := [(h0, .inr (8, [.ref a1, .ref a2, .ref a3, .ref a4, .ref a5, .int 0, .int 0, .ref a6, .int 0, .int 0, .int 0, .int 0, .int 0, .int 0, .int 0, .int 0, .int (-1), .ref a7, .ref a8, .int 0, .ref a9, .ref b0, .int 0])), (a1, .inl (cy 1, 1037, .inl g)), (a2, .inl (cy 1, 1037, .inl ga))]) [2, 0, 1] (by decide) rfl
  have hFc := va_free (wc := [(h0, .inr (8, [.ref a1, .ref a2, .ref a3, .ref a4, .ref a5, .int 0, .int 0, .ref a6, .int 0, .int 0, .int 0, .int 0, .int 0, .int 0, .int 0, .int 0, .int (-1), .ref a7, .ref a8, .int 0, .ref a9, .ref b0, .int 0])), (a1, .inl (cy 1, 1037, .inl g)), (a2, .inl (cy 1, 1037, .inl ga))]) hD hS hA [2, 0, 1] rfl
  refine va_calli (va_runV (As := [.int 10, .int (nI y)]) (rest := []) ⟨hx, hb, hml, hown, hts⟩ (c_X8_then_10 l dC dI cy nb h0 a1 a2 a3 a4 a5 a6 a7 a8 a9 b0 0 g ga y H.size hg hy1 hy2) (cwV 2 hts (gV mw_1382 mw_1383 mw_1384 mw_5 mw_1385) rfl rfl rfl (by decide +kernel) ⟨Nat.le_of_ble_eq_true rfl, Nat.le_of_ble_eq_true rfl⟩) ⟨fun a U g mk q => by obtain ⟨q0, q1, qP, qK, qD, qE⟩ := q; exact ⟨q0, q1, qP, va_K.moved (u := U) (U := U.calling g mk a) (Vm.Alike.refl U.vm) qK, qD, GE.calling qE⟩, va_recv hK hP (ci := 8) (q0 := 2) rfl rfl, fun U hU hW => ⟨rfl, by rw [hU], by rw [hU]; exact hPc, va_K.moved hW.alike hK, hDc.weaken (fun _ _ _ _ => trivial), GE.call hE hS hFc hU hW⟩⟩ rfl rfl hl.1 rfl (lv_room (Nat.le_of_ble_eq_true rfl)) dX8_leftIn_25 ⟨Nat.le_of_ble_eq_true rfl, Nat.le_of_ble_eq_true rfl⟩) hS (fun q _ h => hFc q h) hFc (fun r u t H1 locs ht hvm hw3 hB hz1 hk1 hS => ?_)
  obtain ⟨hP1, hD1⟩ := hB
  rw [ht] at hP1
  obtain ⟨hP, hD⟩ := va_join (wr := []) (w1 := [(h0, .inr (8, [.ref a1, .ref a2, .ref a3, .ref a4, .ref a5, .int 0, .int 0, .ref a6, .int 0, .int 0, .int 0, .int 0, .int 0, .int 0, .int 0, .int 0, .int (-1), .ref a7, .ref a8, .int 0, .ref a9, .ref b0, .int 0]))]) hP hD [2, 0, 1] [] rfl rfl (by decide) (by decide) hk1 hFc hP1 hD1
  generalize H1 = H at hP hS ⊢
  have hP : va_P (dC, dI) vwCl [(h0, .inr (8, [.ref a1, .ref a2, .ref a3, .ref a4, .ref a5, .int 0, .int 0, .ref a6, .int 0, .int 0, .int 0, .int 0, .int 0, .int 0, .int 0, .int 0, .int (-1), .ref a7, .ref a8, .int 0, .ref a9, .ref b0, .int 0]))] H := hP
  have hD : va_D A [(h0, .inr (8, [.ref a1, .ref a2, .ref a3, .ref a4, .ref a5, .int 0, .int 0, .ref a6, .int 0, .int 0, .int 0, .int 0, .int 0, .int 0, .int 0, .int 0, .int (-1), .ref a7, .ref a8, .int 0, .ref a9, .ref b0, .int 0]))] := hD
  obtain rfl := hw3
  refine W.widen (k := 0) (n := 0) (by omega) (by omega) ?_
  have hP9 := hP.sub (ws' := [(h0, .inr (8, [.ref a1, .ref a2, .ref a3, .ref a4, .ref a5, .int 0, .int 0, .ref a6, .int 0, .int 0, .int 0, .int 0, .int 0, .int 0, .int 0, .int 0, .int (-1), .ref a7, .ref a8, .int 0, .ref a9, .ref b0, .int 0]))]) [0] rfl
  have hD9 := hD.sub (ws' := [(h0, .inr (8, [.ref a1, .ref a2, .ref a3, .ref a4, .ref a5, .int 0, .int 0, .ref a6, .int 0, .int 0, .int 0, .int 0, .int 0, .int 0, .int 0, .int 0, .int (-1), .ref a7, .ref a8, .int 0, .ref a9, .ref b0, .int 0]))]) [0] (by decide) rfl
  refine W.widen (k := 0) (n := 0) (by omega) (by omega) ?_
  exact W.iret (v := 0) hx hb hr (fun t ht hW => ⟨⟨0, (), rfl, rfl, by rw [ht]; exact hP9, hD9⟩, hS.F ht⟩) hS.2.2 dX8_leftIn_28
set_option maxHeartbeats 4000000 in
set_option maxRecDepth 100000 in
/-- X8_blanksIn -/
theorem c_X8_blanksIn (l : Launch) (dC : Nat → ClassId) (dI : Nat → Nat → Nat) (cy : Nat → ClassId) (nb : Nat → Nat) (h0 : Nat) (a1 : Nat) (a2 : Nat) (a3 : Nat) (a4 : Nat) (a5 : Nat) (a6 : Nat) (a7 : Nat) (a8 : Nat) (a9 : Nat) (b0 : Nat) (x6 : Int32) (g : Nat → Int32) (ga : Nat → Int32) (y : Nat) (sz : Nat) (hg : FN g) (hy1 : 1 ≤ y) (hy2 : y ≤ 2000) : Met l yX8_blanksIn (wsg yX8_blanksIn cX8_blanksIn 2 (some .int)) ({ frames := 15, cells := 0, slots := 0, locals := 1000 }) (va_Pc [.ref h0, .int (nI y)] (fun U => U.heap.size = sz ∧ va_P (dC, dI) vwCl [(h0, .inr (8, [.ref a1, .ref a2, .ref a3, .ref a4, .ref a5, .int 0, .int x6, .ref a6, .int 0, .int 0, .int 0, .int 0, .int 0, .int 0, .int 0, .int 0, .int (-1), .ref a7, .ref a8, .int 0, .ref a9, .ref b0, .int 0])), (a1, .inl (cy 1, 1037, .inl g)), (a2, .inl (cy 1, 1037, .inl ga))] U.heap ∧ va_K (dC, dI) vwCl (tyL cy) U ∧ va_D (fun _ => True) [(h0, .inr (8, [.ref a1, .ref a2, .ref a3, .ref a4, .ref a5, .int 0, .int x6, .ref a6, .int 0, .int 0, .int 0, .int 0, .int 0, .int 0, .int 0, .int 0, .int (-1), .ref a7, .ref a8, .int 0, .ref a9, .ref b0, .int 0])), (a1, .inl (cy 1, 1037, .inl g)), (a2, .inl (cy 1, 1037, .inl ga))] ∧ GE nb (va_A [(h0, .inr (8, [.ref a1, .ref a2, .ref a3, .ref a4, .ref a5, .int 0, .int x6, .ref a6, .int 0, .int 0, .int 0, .int 0, .int 0, .int 0, .int 0, .int 0, .int (-1), .ref a7, .ref a8, .int 0, .ref a9, .ref b0, .int 0])), (a1, .inl (cy 1, 1037, .inl g)), (a2, .inl (cy 1, 1037, .inl ga))] sz) U)) (va_Qi (fun (r : Int32) (_ : Unit) => r = 0) (fun _ t => va_P (dC, dI) vwCl [(h0, .inr (8, [.ref a1, .ref a2, .ref a3, .ref a4, .ref a5, .int 0, .int 0, .ref a6, .int 0, .int 0, .int 0, .int 0, .int 0, .int 0, .int 0, .int 0, .int (-1), .ref a7, .ref a8, .int 0, .ref a9, .ref b0, .int 0]))] t.heap ∧ va_D (va_A [(h0, .inr (8, [.ref a1, .ref a2, .ref a3, .ref a4, .ref a5, .int 0, .int x6, .ref a6, .int 0, .int 0, .int 0, .int 0, .int 0, .int 0, .int 0, .int 0, .int (-1), .ref a7, .ref a8, .int 0, .ref a9, .ref b0, .int 0])), (a1, .inl (cy 1, 1037, .inl g)), (a2, .inl (cy 1, 1037, .inl ga))] sz) [(h0, .inr (8, [.ref a1, .ref a2, .ref a3, .ref a4, .ref a5, .int 0, .int 0, .ref a6, .int 0, .int 0, .int 0, .int 0, .int 0, .int 0, .int 0, .int 0, .int (-1), .ref a7, .ref a8, .int 0, .ref a9, .ref b0, .int 0]))]) (va_A [(h0, .inr (8, [.ref a1, .ref a2, .ref a3, .ref a4, .ref a5, .int 0, .int x6, .ref a6, .int 0, .int 0, .int 0, .int 0, .int 0, .int 0, .int 0, .int 0, .int (-1), .ref a7, .ref a8, .int 0, .ref a9, .ref b0, .int 0])), (a1, .inl (cy 1, 1037, .inl g)), (a2, .inl (cy 1, 1037, .inl ga))] sz)) 0 0 (va_A [(h0, .inr (8, [.ref a1, .ref a2, .ref a3, .ref a4, .ref a5, .int 0, .int x6, .ref a6, .int 0, .int 0, .int 0, .int 0, .int 0, .int 0, .int 0, .int 0, .int (-1), .ref a7, .ref a8, .int 0, .ref a9, .ref b0, .int 0])), (a1, .inl (cy 1, 1037, .inl g)), (a2, .inl (cy 1, 1037, .inl ga))] sz) := by
  refine Met.ofW (cc := cX8_blanksIn) (maxL := 2) (ret := (some .int)) (by decide) rfl ?_
  intro p e s m args below meth c s₁ B hml hv
  obtain ⟨rfl, hsz, hP, hK, hD0, hE⟩ := hv
  have hx := B.exec
  have hb := B.bytes
  have hr := B.returns
  have hts0 := atoms_spec (ws := (wsg yX8_blanksIn cX8_blanksIn 2 (some .int))) B.pre
  have hts : ∀ w ∈ wsL_law, w.before _ s = true := fun w h => hts0 w (List.mem_cons_of_mem _ h)
  have hown : s.vm.findClass RX8 = some m.cls := findClass_of_methodNamed B.named
  have hlocks := B.notSynchronized
  subst hsz
  have hD := hD0.self (sz := s.heap.size)
  generalize hAe : va_A [(h0, .inr (8, [.ref a1, .ref a2, .ref a3, .ref a4, .ref a5, .int 0, .int x6, .ref a6, .int 0, .int 0, .int 0, .int 0, .int 0, .int 0, .int 0, .int 0, .int (-1), .ref a7, .ref a8, .int 0, .ref a9, .ref b0, .int 0])), (a1, .inl (cy 1, 1037, .inl g)), (a2, .inl (cy 1, 1037, .inl ga))] s.heap.size = A at hD hE ⊢
  have hA : ∀ q : Nat, s.heap.size ≤ q → A q := fun q h => by rw [← hAe]; exact Or.inr h
  have hS : va_S A s.heap s.heap [] := va_S.rf
  have hP : va_P (dC, dI) vwCl [(h0, .inr (8, [.ref a1, .ref a2, .ref a3, .ref a4, .ref a5, .int 0, .int x6, .ref a6, .int 0, .int 0, .int 0, .int 0, .int 0, .int 0, .int 0, .int 0, .int (-1), .ref a7, .ref a8, .int 0, .ref a9, .ref b0, .int 0])), (a1, .inl (cy 1, 1037, .inl g)), (a2, .inl (cy 1, 1037, .inl ga))] s.heap := hP
  have hl := lv_entry ([.ref h0, .int (nI y)]) (n := 2) (Nat.le_of_ble_eq_true rfl)
  rw [lg_entry_eq]
  generalize (lg_sl ([.ref h0, .int (nI y)]) ++ List.replicate (2 - (lg_sl ([.ref h0, .int (nI y)])).length) Slot.unset).toArray = ls at hl ⊢
  have hl : lv_has ls 2 [(0, .ref h0), (1, .int (nI y))] := hl
  generalize hHe : s.heap = H at hP hS ⊢
  have hS : va_S A s.heap H [] := by rw [hHe]; exact hS
  refine lv_aload_n hx hb dX8_blanksIn_0 rfl (lv_at hl 0 rfl) ?_
  refine lv_iload_n hx hb dX8_blanksIn_1 rfl (lv_at hl 1 rfl) ?_
  refine lv_i2l (v := ((nI y)).toInt64) hx hb dX8_blanksIn_2 rfl ?_
  refine lv_lconst (v := 1) hx hb dX8_blanksIn_3 (by decide) ?_
  refine lv_ldc2 hx hb hown (hts _ mw_1230) dX8_blanksIn_4 ?_
  have hPc := hP.sub (ws' := []) [] rfl
  have hDc := hD.sub (ws' := []) [] (by decide) rfl
  have hFc := va_free (wc := []) hD hS hA [] rfl
  refine va_calli (va_runS (As := [.long ((nI y)).toInt64, .long 1, .long 2000]) (rest := [.ref h0]) ⟨hx, hb, hml, hown, hts⟩ (c_X8_in l dC dI cy nb ((nI y)).toInt64 1 2000 H.size) (va_cwS 3 hts (gS mw_445 mw_446 mw_5 mw_447) rfl rfl rfl (by decide +kernel) ⟨Nat.le_of_ble_eq_true rfl, Nat.le_of_ble_eq_true rfl⟩) ⟨fun a U g mk q => by obtain ⟨q0, q1, qP, qK, qD, qE⟩ := q; exact ⟨q0, q1, qP, va_K.moved (u := U) (U := U.calling g mk a) (Vm.Alike.refl U.vm) qK, qD, GE.calling qE⟩, fun U hU hW => ⟨rfl, by rw [hU], by rw [hU]; exact hPc, va_K.moved hW.alike hK, hDc.weaken (fun _ _ _ _ => trivial), GE.call hE hS hFc hU hW⟩⟩ rfl rfl hl.1 rfl (lv_room (Nat.le_of_ble_eq_true rfl)) dX8_blanksIn_7 ⟨Nat.le_of_ble_eq_true rfl, Nat.le_of_ble_eq_true rfl⟩) hS (fun q _ h => hFc q h) hFc (fun r u t H1 locs ht hvm hw1 hB hz1 hk1 hS => ?_)
  obtain ⟨hP1, hD1⟩ := hB
  rw [ht] at hP1
  obtain ⟨hP, hD⟩ := va_join (wr := [(h0, .inr (8, [.ref a1, .ref a2, .ref a3, .ref a4, .ref a5, .int 0, .int x6, .ref a6, .int 0, .int 0, .int 0, .int 0, .int 0, .int 0, .int 0, .int 0, .int (-1), .ref a7, .ref a8, .int 0, .ref a9, .ref b0, .int 0])), (a1, .inl (cy 1, 1037, .inl g)), (a2, .inl (cy 1, 1037, .inl ga))]) (w1 := []) hP hD [] [0, 1, 2] rfl rfl (by decide) (by decide) hk1 hFc hP1 hD1
  generalize H1 = H at hP hS ⊢
  have hP : va_P (dC, dI) vwCl [(h0, .inr (8, [.ref a1, .ref a2, .ref a3, .ref a4, .ref a5, .int 0, .int x6, .ref a6, .int 0, .int 0, .int 0, .int 0, .int 0, .int 0, .int 0, .int 0, .int (-1), .ref a7, .ref a8, .int 0, .ref a9, .ref b0, .int 0])), (a1, .inl (cy 1, 1037, .inl g)), (a2, .inl (cy 1, 1037, .inl ga))] H := hP
  have hD : va_D A [(h0, .inr (8, [.ref a1, .ref a2, .ref a3, .ref a4, .ref a5, .int 0, .int x6, .ref a6, .int 0, .int 0, .int 0, .int 0, .int 0, .int 0, .int 0, .int 0, .int (-1), .ref a7, .ref a8, .int 0, .ref a9, .ref b0, .int 0])), (a1, .inl (cy 1, 1037, .inl g)), (a2, .inl (cy 1, 1037, .inl ga))] := hD
  obtain rfl := hw1
  refine my_topi (y := 1) (by exact inB_nI (a := 1) (b := 2000) hy1 hy2 (by decide)) ?_
  refine W.widen (k := 0) (n := 0) (by omega) (by omega) ?_
  refine lv_iconst (v := 1) hx hb dX8_blanksIn_10 (by decide) ?_
  have hPc := hP.sub (ws' := [(h0, .inr (8, [.ref a1, .ref a2, .ref a3, .ref a4, .ref a5, .int 0, .int x6, .ref a6, .int 0, .int 0, .int 0, .int 0, .int 0, .int 0, .int 0, .int 0, .int (-1), .ref a7, .ref a8, .int 0, .ref a9, .ref b0, .int 0]))]) [0] rfl
  have hDc := hD.sub (ws' := [(h0, .inr (8, [.ref a1, .ref a2, .ref a3, .ref a4, .ref a5, .int 0, .int x6, .ref a6, .int 0, .int 0, .int 0, .int 0, .int 0, .int 0, .int 0, .int 0, .int (-1), .ref a7, .ref a8, .int 0, .ref a9, .ref b0, .int 0]))]) [0] (by decide) rfl
  have hFc := va_free (wc := [(h0, .inr (8, [.ref a1, .ref a2, .ref a3, .ref a4, .ref a5, .int 0, .int x6, .ref a6, .int 0, .int 0, .int 0, .int 0, .int 0, .int 0, .int 0, .int 0, .int (-1), .ref a7, .ref a8, .int 0, .ref a9, .ref b0, .int 0]))]) hD hS hA [0] rfl
  refine va_calli (va_runV (As := [.int 1, .int 1]) (rest := []) ⟨hx, hb, hml, hown, hts⟩ (c_X8_isThrown_1 l dC dI cy nb h0 (.ref a1) (.ref a2) (.ref a3) (.ref a4) (.ref a5) (.int 0) (.ref a6) (.int 0) (.int 0) (.int 0) (.int 0) (.int 0) (.int 0) (.int 0) (.int 0) (.int (-1)) (.ref a7) (.ref a8) (.int 0) (.ref a9) (.ref b0) (.int 0) x6 1 H.size) (cwV 2 hts (gV mw_580 mw_581 mw_582 mw_5 mw_583) rfl rfl rfl (by decide +kernel) ⟨Nat.le_of_ble_eq_true rfl, Nat.le_of_ble_eq_true rfl⟩) ⟨fun a U g mk q => by obtain ⟨q0, q1, qP, qK, qD, qE⟩ := q; exact ⟨q0, q1, qP, va_K.moved (u := U) (U := U.calling g mk a) (Vm.Alike.refl U.vm) qK, qD, GE.calling qE⟩, va_recv hK hP (ci := 8) (q0 := 0) rfl rfl, fun U hU hW => ⟨rfl, by rw [hU], by rw [hU]; exact hPc, va_K.moved hW.alike hK, hDc.weaken (fun _ _ _ _ => trivial), GE.call hE hS hFc hU hW⟩⟩ rfl rfl hl.1 rfl (lv_room (Nat.le_of_ble_eq_true rfl)) dX8_blanksIn_11 ⟨Nat.le_of_ble_eq_true rfl, Nat.le_of_ble_eq_true rfl⟩) hS (fun q _ h => hFc q h) hFc (fun r u t H1 locs ht hvm hw2 hB hz1 hk1 hS => ?_)
  obtain ⟨hP1, hD1⟩ := hB
  rw [ht] at hP1
  obtain ⟨hP, hD⟩ := va_join (wr := [(a1, .inl (cy 1, 1037, .inl g)), (a2, .inl (cy 1, 1037, .inl ga))]) (w1 := [(h0, .inr (8, [.ref a1, .ref a2, .ref a3, .ref a4, .ref a5, .int 0, .int 0, .ref a6, .int 0, .int 0, .int 0, .int 0, .int 0, .int 0, .int 0, .int 0, .int (-1), .ref a7, .ref a8, .int 0, .ref a9, .ref b0, .int 0]))]) hP hD [0] [1, 2] rfl rfl (by decide) (by decide) hk1 hFc hP1 hD1
  generalize H1 = H at hP hS ⊢
  have hP : va_P (dC, dI) vwCl [(a1, .inl (cy 1, 1037, .inl g)), (a2, .inl (cy 1, 1037, .inl ga)), (h0, .inr (8, [.ref a1, .ref a2, .ref a3, .ref a4, .ref a5, .int 0, .int 0, .ref a6, .int 0, .int 0, .int 0, .int 0, .int 0, .int 0, .int 0, .int 0, .int (-1), .ref a7, .ref a8, .int 0, .ref a9, .ref b0, .int 0]))] H := hP
  have hD : va_D A [(a1, .inl (cy 1, 1037, .inl g)), (a2, .inl (cy 1, 1037, .inl ga)), (h0, .inr (8, [.ref a1, .ref a2, .ref a3, .ref a4, .ref a5, .int 0, .int 0, .ref a6, .int 0, .int 0, .int 0, .int 0, .int 0, .int 0, .int 0, .int 0, .int (-1), .ref a7, .ref a8, .int 0, .ref a9, .ref b0, .int 0]))] := hD
  obtain rfl := hw2
  refine W.widen (k := 0) (n := 0) (by omega) (by omega) ?_
  refine lv_if_eq (tgt := 21) hx hb dX8_blanksIn_14 (by decide) (fun _ => ?_) (fun h => absurd (by decide) h)
  refine lv_aload_n hx hb dX8_blanksIn_21 rfl (lv_at hl 0 rfl) ?_
  refine lv_iconst (v := 5) hx hb dX8_blanksIn_22 (by decide) ?_
  refine lv_iload_n hx hb dX8_blanksIn_23 rfl (lv_at hl 1 rfl) ?_
  have hPc := hP.sub (ws' := [(h0, .inr (8, [.ref a1, .ref a2, .ref a3, .ref a4, .ref a5, .int 0, .int 0, .ref a6, .int 0, .int 0, .int 0, .int 0, .int 0, .int 0, .int 0, .int 0, .int (-1), .ref a7, .ref a8, .int 0, .ref a9, .ref b0, .int 0])), (a1, .inl (cy 1, 1037, .inl g)), (a2, .inl (cy 1, 1037, .inl ga))]) [2, 0, 1] rfl
  have hDc := hD.sub (ws' := [(h0, .inr (8, [.ref a1, .ref a2, .ref a3, .ref a4, .ref a5, .int 0, .int 0, .ref a6, .int 0, .int 0, .int 0, .int 0, .int 0, .int 0, .int 0, .int 0, .int (-1), .ref a7, .ref a8, .int 0, .ref a9, .ref b0, .int 0])), (a1, .inl (cy 1, 1037, .inl g)), (a2, .inl (cy 1, 1037, .inl ga))]) [2, 0, 1] (by decide) rfl
  have hFc := va_free (wc := [(h0, .inr (8, [.ref a1, .ref a2, .ref a3, .ref a4, .ref a5, .int 0, .int 0, .ref a6, .int 0, .int 0, .int 0, .int 0, .int 0, .int 0, .int 0, .int 0, .int (-1), .ref a7, .ref a8, .int 0, .ref a9, .ref b0, .int 0])), (a1, .inl (cy 1, 1037, .inl g)), (a2, .inl (cy 1, 1037, .inl ga))]) hD hS hA [2, 0, 1] rfl
  refine va_calli (va_runV (As := [.int 5, .int (nI y)]) (rest := []) ⟨hx, hb, hml, hown, hts⟩ (c_X8_then_5 l dC dI cy nb h0 a1 a2 a3 a4 a5 a6 a7 a8 a9 b0 0 g ga y H.size hg hy1 hy2) (cwV 2 hts (gV mw_1382 mw_1383 mw_1384 mw_5 mw_1385) rfl rfl rfl (by decide +kernel) ⟨Nat.le_of_ble_eq_true rfl, Nat.le_of_ble_eq_true rfl⟩) ⟨fun a U g mk q => by obtain ⟨q0, q1, qP, qK, qD, qE⟩ := q; exact ⟨q0, q1, qP, va_K.moved (u := U) (U := U.calling g mk a) (Vm.Alike.refl U.vm) qK, qD, GE.calling qE⟩, va_recv hK hP (ci := 8) (q0 := 2) rfl rfl, fun U hU hW => ⟨rfl, by rw [hU], by rw [hU]; exact hPc, va_K.moved hW.alike hK, hDc.weaken (fun _ _ _ _ => trivial), GE.call hE hS hFc hU hW⟩⟩ rfl rfl hl.1 rfl (lv_room (Nat.le_of_ble_eq_true rfl)) dX8_blanksIn_24 ⟨Nat.le_of_ble_eq_true rfl, Nat.le_of_ble_eq_true rfl⟩) hS (fun q _ h => hFc q h) hFc (fun r u t H1 locs ht hvm hw3 hB hz1 hk1 hS => ?_)
  obtain ⟨hP1, hD1⟩ := hB
  rw [ht] at hP1
  obtain ⟨hP, hD⟩ := va_join (wr := []) (w1 := [(h0, .inr (8, [.ref a1, .ref a2, .ref a3, .ref a4, .ref a5, .int 0, .int 0, .ref a6, .int 0, .int 0, .int 0, .int 0, .int 0, .int 0, .int 0, .int 0, .int (-1), .ref a7, .ref a8, .int 0, .ref a9, .ref b0, .int 0]))]) hP hD [2, 0, 1] [] rfl rfl (by decide) (by decide) hk1 hFc hP1 hD1
  generalize H1 = H at hP hS ⊢
  have hP : va_P (dC, dI) vwCl [(h0, .inr (8, [.ref a1, .ref a2, .ref a3, .ref a4, .ref a5, .int 0, .int 0, .ref a6, .int 0, .int 0, .int 0, .int 0, .int 0, .int 0, .int 0, .int 0, .int (-1), .ref a7, .ref a8, .int 0, .ref a9, .ref b0, .int 0]))] H := hP
  have hD : va_D A [(h0, .inr (8, [.ref a1, .ref a2, .ref a3, .ref a4, .ref a5, .int 0, .int 0, .ref a6, .int 0, .int 0, .int 0, .int 0, .int 0, .int 0, .int 0, .int 0, .int (-1), .ref a7, .ref a8, .int 0, .ref a9, .ref b0, .int 0]))] := hD
  obtain rfl := hw3
  refine W.widen (k := 0) (n := 0) (by omega) (by omega) ?_
  have hP9 := hP.sub (ws' := [(h0, .inr (8, [.ref a1, .ref a2, .ref a3, .ref a4, .ref a5, .int 0, .int 0, .ref a6, .int 0, .int 0, .int 0, .int 0, .int 0, .int 0, .int 0, .int 0, .int (-1), .ref a7, .ref a8, .int 0, .ref a9, .ref b0, .int 0]))]) [0] rfl
  have hD9 := hD.sub (ws' := [(h0, .inr (8, [.ref a1, .ref a2, .ref a3, .ref a4, .ref a5, .int 0, .int 0, .ref a6, .int 0, .int 0, .int 0, .int 0, .int 0, .int 0, .int 0, .int 0, .int (-1), .ref a7, .ref a8, .int 0, .ref a9, .ref b0, .int 0]))]) [0] (by decide) rfl
  refine W.widen (k := 0) (n := 0) (by omega) (by omega) ?_
  exact W.iret (v := 0) hx hb hr (fun t ht hW => ⟨⟨0, (), rfl, rfl, by rw [ht]; exact hP9, hD9⟩, hS.F ht⟩) hS.2.2 dX8_blanksIn_27
set_option maxHeartbeats 4000000 in
set_option maxRecDepth 100000 in
/-- X8_behind -/
theorem c_X8_behind (l : Launch) (dC : Nat → ClassId) (dI : Nat → Nat → Nat) (cy : Nat → ClassId) (nb : Nat → Nat) (h0 : Nat) (a1 : Nat) (a2 : Nat) (a3 : Nat) (a4 : Nat) (a5 : Nat) (a6 : Nat) (a7 : Nat) (a8 : Nat) (a9 : Nat) (b0 : Nat) (x6 : Int32) (g : Nat → Int32) (ga : Nat → Int32) (sz : Nat) (hg : FN g) : Met l yX8_behind (wsg yX8_behind cX8_behind 4 (some .int)) ({ frames := 14, cells := 0, slots := 0, locals := 900 }) (va_Pc [.ref h0, .int 2, .int (-1)] (fun U => U.heap.size = sz ∧ va_P (dC, dI) vwCl [(h0, .inr (8, [.ref a1, .ref a2, .ref a3, .ref a4, .ref a5, .int 0, .int x6, .ref a6, .int 0, .int 0, .int 0, .int 0, .int 0, .int 0, .int 0, .int 0, .int (-1), .ref a7, .ref a8, .int 0, .ref a9, .ref b0, .int 0])), (a1, .inl (cy 1, 1037, .inl g)), (a2, .inl (cy 1, 1037, .inl ga))] U.heap ∧ va_K (dC, dI) vwCl (tyL cy) U ∧ va_D (fun _ => True) [(h0, .inr (8, [.ref a1, .ref a2, .ref a3, .ref a4, .ref a5, .int 0, .int x6, .ref a6, .int 0, .int 0, .int 0, .int 0, .int 0, .int 0, .int 0, .int 0, .int (-1), .ref a7, .ref a8, .int 0, .ref a9, .ref b0, .int 0])), (a1, .inl (cy 1, 1037, .inl g)), (a2, .inl (cy 1, 1037, .inl ga))] ∧ GE nb (va_A [(h0, .inr (8, [.ref a1, .ref a2, .ref a3, .ref a4, .ref a5, .int 0, .int x6, .ref a6, .int 0, .int 0, .int 0, .int 0, .int 0, .int 0, .int 0, .int 0, .int (-1), .ref a7, .ref a8, .int 0, .ref a9, .ref b0, .int 0])), (a1, .inl (cy 1, 1037, .inl g)), (a2, .inl (cy 1, 1037, .inl ga))] sz) U)) (va_Qi (fun (r : Int32) (_ : Unit) => r = 0) (fun _ t => va_P (dC, dI) vwCl [(h0, .inr (8, [.ref a1, .ref a2, .ref a3, .ref a4, .ref a5, .int 0, .int x6, .ref a6, .int 0, .int 0, .int 0, .int 0, .int 0, .int 0, .int 0, .int 0, .int (-1), .ref a7, .ref a8, .int 0, .ref a9, .ref b0, .int 0]))] t.heap ∧ va_D (va_A [(h0, .inr (8, [.ref a1, .ref a2, .ref a3, .ref a4, .ref a5, .int 0, .int x6, .ref a6, .int 0, .int 0, .int 0, .int 0, .int 0, .int 0, .int 0, .int 0, .int (-1), .ref a7, .ref a8, .int 0, .ref a9, .ref b0, .int 0])), (a1, .inl (cy 1, 1037, .inl g)), (a2, .inl (cy 1, 1037, .inl ga))] sz) [(h0, .inr (8, [.ref a1, .ref a2, .ref a3, .ref a4, .ref a5, .int 0, .int x6, .ref a6, .int 0, .int 0, .int 0, .int 0, .int 0, .int 0, .int 0, .int 0, .int (-1), .ref a7, .ref a8, .int 0, .ref a9, .ref b0, .int 0]))]) (va_A [(h0, .inr (8, [.ref a1, .ref a2, .ref a3, .ref a4, .ref a5, .int 0, .int x6, .ref a6, .int 0, .int 0, .int 0, .int 0, .int 0, .int 0, .int 0, .int 0, .int (-1), .ref a7, .ref a8, .int 0, .ref a9, .ref b0, .int 0])), (a1, .inl (cy 1, 1037, .inl g)), (a2, .inl (cy 1, 1037, .inl ga))] sz)) 0 0 (va_A [(h0, .inr (8, [.ref a1, .ref a2, .ref a3, .ref a4, .ref a5, .int 0, .int x6, .ref a6, .int 0, .int 0, .int 0, .int 0, .int 0, .int 0, .int 0, .int 0, .int (-1), .ref a7, .ref a8, .int 0, .ref a9, .ref b0, .int 0])), (a1, .inl (cy 1, 1037, .inl g)), (a2, .inl (cy 1, 1037, .inl ga))] sz) := by
  refine Met.ofW (cc := cX8_behind) (maxL := 4) (ret := (some .int)) (by decide) rfl ?_
  intro p e s m args below meth c s₁ B hml hv
  obtain ⟨rfl, hsz, hP, hK, hD0, hE⟩ := hv
  have hx := B.exec
  have hb := B.bytes
  have hr := B.returns
  have hts0 := atoms_spec (ws := (wsg yX8_behind cX8_behind 4 (some .int))) B.pre
  have hts : ∀ w ∈ wsL_law, w.before _ s = true := fun w h => hts0 w (List.mem_cons_of_mem _ h)
  have hown : s.vm.findClass RX8 = some m.cls := findClass_of_methodNamed B.named
  have hlocks := B.notSynchronized
  subst hsz
  have hD := hD0.self (sz := s.heap.size)
  generalize hAe : va_A [(h0, .inr (8, [.ref a1, .ref a2, .ref a3, .ref a4, .ref a5, .int 0, .int x6, .ref a6, .int 0, .int 0, .int 0, .int 0, .int 0, .int 0, .int 0, .int 0, .int (-1), .ref a7, .ref a8, .int 0, .ref a9, .ref b0, .int 0])), (a1, .inl (cy 1, 1037, .inl g)), (a2, .inl (cy 1, 1037, .inl ga))] s.heap.size = A at hD hE ⊢
  have hA : ∀ q : Nat, s.heap.size ≤ q → A q := fun q h => by rw [← hAe]; exact Or.inr h
  have hS : va_S A s.heap s.heap [] := va_S.rf
  have hP : va_P (dC, dI) vwCl [(h0, .inr (8, [.ref a1, .ref a2, .ref a3, .ref a4, .ref a5, .int 0, .int x6, .ref a6, .int 0, .int 0, .int 0, .int 0, .int 0, .int 0, .int 0, .int 0, .int (-1), .ref a7, .ref a8, .int 0, .ref a9, .ref b0, .int 0])), (a1, .inl (cy 1, 1037, .inl g)), (a2, .inl (cy 1, 1037, .inl ga))] s.heap := hP
  have hl := lv_entry ([.ref h0, .int 2, .int (-1)]) (n := 4) (Nat.le_of_ble_eq_true rfl)
  rw [lg_entry_eq]
  generalize (lg_sl ([.ref h0, .int 2, .int (-1)]) ++ List.replicate (4 - (lg_sl ([.ref h0, .int 2, .int (-1)])).length) Slot.unset).toArray = ls at hl ⊢
  have hl : lv_has ls 4 [(0, .ref h0), (1, .int 2), (2, .int (-1))] := hl
  generalize hHe : s.heap = H at hP hS ⊢
  have hS : va_S A s.heap H [] := by rw [hHe]; exact hS
  refine lv_aload_n hx hb dX8_behind_0 rfl (lv_at hl 0 rfl) ?_
  refine va_get (D := (dC, dI)) (ci := 8) (v := .ref a1) (C := RX8) (T := TX8) (N := 23) hx hb hts inlX8 hown hK hP 0 rfl rfl 0 (by decide) (hts _ mw_97) (fun _ h9 => h9) rfl dX8_behind_1 ?_
  refine lv_iconst (v := 0) hx hb dX8_behind_4 (by decide) ?_
  refine lv_aload_n hx hb dX8_behind_5 rfl (lv_at hl 0 rfl) ?_
  refine va_get (D := (dC, dI)) (ci := 8) (v := .ref a2) (C := RX8) (T := TX8) (N := 23) hx hb hts inlX8 hown hK hP 0 rfl rfl 1 (by decide) (hts _ mw_98) (fun _ h9 => h9) rfl dX8_behind_6 ?_
  refine lv_iconst (v := 0) hx hb dX8_behind_9 (by decide) ?_
  have hPc := hP.sub (ws' := [(a1, .inl (cy 1, 1037, .inl g)), (a2, .inl (cy 1, 1037, .inl ga))]) [1, 2] rfl
  have hDc := hD.sub (ws' := [(a1, .inl (cy 1, 1037, .inl g)), (a2, .inl (cy 1, 1037, .inl ga))]) [1, 2] (by decide) rfl
  have hFc := va_free (wc := [(a1, .inl (cy 1, 1037, .inl g)), (a2, .inl (cy 1, 1037, .inl ga))]) hD hS hA [1, 2] rfl
  refine va_callv (va_runS (As := [.ref a1, .int 0, .ref a2, .int 0]) (rest := []) ⟨hx, hb, hml, hown, hts⟩ (c_X8_copies l dC dI cy nb a1 a2 0 0 1037 1037 g ga H.size (by decide) (by decide) (by decide)) (va_cwS 4 hts (gS mw_423 mw_424 mw_5 mw_425) rfl rfl rfl (by decide +kernel) ⟨Nat.le_of_ble_eq_true rfl, Nat.le_of_ble_eq_true rfl⟩) ⟨fun a U g mk q => by obtain ⟨q0, q1, qP, qK, qD, qE⟩ := q; exact ⟨q0, q1, qP, va_K.moved (u := U) (U := U.calling g mk a) (Vm.Alike.refl U.vm) qK, qD, GE.calling qE⟩, fun U hU hW => ⟨rfl, by rw [hU], by rw [hU]; exact hPc, va_K.moved hW.alike hK, hDc.weaken (fun _ _ _ _ => trivial), GE.call hE hS hFc hU hW⟩⟩ rfl rfl hl.1 rfl (lv_room (Nat.le_of_ble_eq_true rfl)) dX8_behind_10 ⟨Nat.le_of_ble_eq_true rfl, Nat.le_of_ble_eq_true rfl⟩) hS (fun q _ h => hFc q h) hFc (fun u t H1 locs ht hvm hw3 hB hz1 hk1 hS => ?_)
  obtain ⟨g1, hg2, hP1, hD1⟩ := hB
  rw [ht] at hP1
  obtain ⟨hP, hD⟩ := va_join (wr := [(h0, .inr (8, [.ref a1, .ref a2, .ref a3, .ref a4, .ref a5, .int 0, .int x6, .ref a6, .int 0, .int 0, .int 0, .int 0, .int 0, .int 0, .int 0, .int 0, .int (-1), .ref a7, .ref a8, .int 0, .ref a9, .ref b0, .int 0]))]) (w1 := [(a1, .inl (cy 1, 1037, .inl g)), (a2, .inl (cy 1, 1037, .inl g1))]) hP hD [1, 2] [0] rfl rfl (by decide) (by decide) hk1 hFc hP1 hD1
  generalize H1 = H at hP hS ⊢
  have hP : va_P (dC, dI) vwCl [(h0, .inr (8, [.ref a1, .ref a2, .ref a3, .ref a4, .ref a5, .int 0, .int x6, .ref a6, .int 0, .int 0, .int 0, .int 0, .int 0, .int 0, .int 0, .int 0, .int (-1), .ref a7, .ref a8, .int 0, .ref a9, .ref b0, .int 0])), (a1, .inl (cy 1, 1037, .inl g)), (a2, .inl (cy 1, 1037, .inl g1))] H := hP
  have hD : va_D A [(h0, .inr (8, [.ref a1, .ref a2, .ref a3, .ref a4, .ref a5, .int 0, .int x6, .ref a6, .int 0, .int 0, .int 0, .int 0, .int 0, .int 0, .int 0, .int 0, .int (-1), .ref a7, .ref a8, .int 0, .ref a9, .ref b0, .int 0])), (a1, .inl (cy 1, 1037, .inl g)), (a2, .inl (cy 1, 1037, .inl g1))] := hD
  refine W.widen (k := 0) (n := 0) (by omega) (by omega) ?_
  refine lv_aload_n hx hb dX8_behind_13 rfl (lv_at hl 0 rfl) ?_
  refine lv_iload_n hx hb dX8_behind_14 rfl (lv_at hl 1 rfl) ?_
  refine lv_iload_n hx hb dX8_behind_15 rfl (lv_at hl 2 rfl) ?_
  have hPc := hP.sub (ws' := [(h0, .inr (8, [.ref a1, .ref a2, .ref a3, .ref a4, .ref a5, .int 0, .int x6, .ref a6, .int 0, .int 0, .int 0, .int 0, .int 0, .int 0, .int 0, .int 0, .int (-1), .ref a7, .ref a8, .int 0, .ref a9, .ref b0, .int 0])), (a1, .inl (cy 1, 1037, .inl g))]) [0, 1] rfl
  have hDc := hD.sub (ws' := [(h0, .inr (8, [.ref a1, .ref a2, .ref a3, .ref a4, .ref a5, .int 0, .int x6, .ref a6, .int 0, .int 0, .int 0, .int 0, .int 0, .int 0, .int 0, .int 0, .int (-1), .ref a7, .ref a8, .int 0, .ref a9, .ref b0, .int 0])), (a1, .inl (cy 1, 1037, .inl g))]) [0, 1] (by decide) rfl
  have hFc := va_free (wc := [(h0, .inr (8, [.ref a1, .ref a2, .ref a3, .ref a4, .ref a5, .int 0, .int x6, .ref a6, .int 0, .int 0, .int 0, .int 0, .int 0, .int 0, .int 0, .int 0, .int (-1), .ref a7, .ref a8, .int 0, .ref a9, .ref b0, .int 0])), (a1, .inl (cy 1, 1037, .inl g))]) hD hS hA [0, 1] rfl
  refine va_calli (va_runV (As := [.int 2, .int (-1)]) (rest := []) ⟨hx, hb, hml, hown, hts⟩ (c_X8_goes l dC dI cy nb h0 a1 (.ref a2) (.ref a3) (.ref a4) (.ref a5) (.int 0) (.int x6) (.ref a6) (.int 0) (.int 0) (.int 0) (.int 0) (.int 0) (.int 0) (.int 0) (.int 0) (.int (-1)) (.ref a7) (.ref a8) (.int 0) (.ref a9) (.ref b0) (.int 0) g 0 H.size (FT_of hg)) (cwV 2 hts (gV mw_1334 mw_1335 mw_1336 mw_5 mw_1337) rfl rfl rfl (by decide +kernel) ⟨Nat.le_of_ble_eq_true rfl, Nat.le_of_ble_eq_true rfl⟩) ⟨fun a U g mk q => by obtain ⟨q0, q1, qP, qK, qD, qE⟩ := q; exact ⟨q0, q1, qP, va_K.moved (u := U) (U := U.calling g mk a) (Vm.Alike.refl U.vm) qK, qD, GE.calling qE⟩, va_recv hK hP (ci := 8) (q0 := 0) rfl rfl, fun U hU hW => ⟨rfl, by rw [hU], by rw [hU]; exact hPc, va_K.moved hW.alike hK, hDc.weaken (fun _ _ _ _ => trivial), GE.call hE hS hFc hU hW⟩⟩ rfl rfl hl.1 rfl (lv_room (Nat.le_of_ble_eq_true rfl)) dX8_behind_16 ⟨Nat.le_of_ble_eq_true rfl, Nat.le_of_ble_eq_true rfl⟩) hS (fun q _ h => hFc q h) hFc (fun r u t H1 locs ht hvm hw4 hB hz1 hk1 hS => ?_)
  obtain ⟨hP1, hD1⟩ := hB
  rw [ht] at hP1
  obtain ⟨hP, hD⟩ := va_join (wr := [(a2, .inl (cy 1, 1037, .inl g1))]) (w1 := [(h0, .inr (8, [.ref a1, .ref a2, .ref a3, .ref a4, .ref a5, .int 0, .int x6, .ref a6, .int 0, .int 0, .int 0, .int 0, .int 0, .int 0, .int 0, .int 0, .int (-1), .ref a7, .ref a8, .int 0, .ref a9, .ref b0, .int 0])), (a1, .inl (cy 1, 1037, .inl g))]) hP hD [0, 1] [2] rfl rfl (by decide) (by decide) hk1 hFc hP1 hD1
  generalize H1 = H at hP hS ⊢
  have hP : va_P (dC, dI) vwCl [(a2, .inl (cy 1, 1037, .inl g1)), (h0, .inr (8, [.ref a1, .ref a2, .ref a3, .ref a4, .ref a5, .int 0, .int x6, .ref a6, .int 0, .int 0, .int 0, .int 0, .int 0, .int 0, .int 0, .int 0, .int (-1), .ref a7, .ref a8, .int 0, .ref a9, .ref b0, .int 0])), (a1, .inl (cy 1, 1037, .inl g))] H := hP
  have hD : va_D A [(a2, .inl (cy 1, 1037, .inl g1)), (h0, .inr (8, [.ref a1, .ref a2, .ref a3, .ref a4, .ref a5, .int 0, .int x6, .ref a6, .int 0, .int 0, .int 0, .int 0, .int 0, .int 0, .int 0, .int 0, .int (-1), .ref a7, .ref a8, .int 0, .ref a9, .ref b0, .int 0])), (a1, .inl (cy 1, 1037, .inl g))] := hD
  obtain rfl := hw4
  refine W.widen (k := 0) (n := 0) (by omega) (by omega) ?_
  refine lv_istore_n (lv' := [(3, .int 0), (0, .ref h0), (1, .int 2), (2, .int (-1))]) hx hb dX8_behind_19 rfl hl (by decide) rfl (fun ls hl => ?_)
  refine lv_aload_n hx hb dX8_behind_20 rfl (lv_at hl 1 rfl) ?_
  refine va_get (D := (dC, dI)) (ci := 8) (v := .ref a2) (C := RX8) (T := TX8) (N := 23) hx hb hts inlX8 hown hK hP 1 rfl rfl 1 (by decide) (hts _ mw_98) (fun _ h9 => h9) rfl dX8_behind_21 ?_
  refine lv_iconst (v := 0) hx hb dX8_behind_24 (by decide) ?_
  refine lv_aload_n hx hb dX8_behind_25 rfl (lv_at hl 1 rfl) ?_
  refine va_get (D := (dC, dI)) (ci := 8) (v := .ref a1) (C := RX8) (T := TX8) (N := 23) hx hb hts inlX8 hown hK hP 1 rfl rfl 0 (by decide) (hts _ mw_97) (fun _ h9 => h9) rfl dX8_behind_26 ?_
  refine lv_iconst (v := 0) hx hb dX8_behind_29 (by decide) ?_
  have hPc := hP.sub (ws' := [(a2, .inl (cy 1, 1037, .inl g1)), (a1, .inl (cy 1, 1037, .inl g))]) [0, 2] rfl
  have hDc := hD.sub (ws' := [(a2, .inl (cy 1, 1037, .inl g1)), (a1, .inl (cy 1, 1037, .inl g))]) [0, 2] (by decide) rfl
  have hFc := va_free (wc := [(a2, .inl (cy 1, 1037, .inl g1)), (a1, .inl (cy 1, 1037, .inl g))]) hD hS hA [0, 2] rfl
  refine va_callv (va_runS (As := [.ref a2, .int 0, .ref a1, .int 0]) (rest := []) ⟨hx, hb, hml, hown, hts⟩ (c_X8_copies l dC dI cy nb a2 a1 0 0 1037 1037 g1 g H.size (by decide) (by decide) (by decide)) (va_cwS 4 hts (gS mw_423 mw_424 mw_5 mw_425) rfl rfl rfl (by decide +kernel) ⟨Nat.le_of_ble_eq_true rfl, Nat.le_of_ble_eq_true rfl⟩) ⟨fun a U g mk q => by obtain ⟨q0, q1, qP, qK, qD, qE⟩ := q; exact ⟨q0, q1, qP, va_K.moved (u := U) (U := U.calling g mk a) (Vm.Alike.refl U.vm) qK, qD, GE.calling qE⟩, fun U hU hW => ⟨rfl, by rw [hU], by rw [hU]; exact hPc, va_K.moved hW.alike hK, hDc.weaken (fun _ _ _ _ => trivial), GE.call hE hS hFc hU hW⟩⟩ rfl rfl hl.1 rfl (lv_room (Nat.le_of_ble_eq_true rfl)) dX8_behind_30 ⟨Nat.le_of_ble_eq_true rfl, Nat.le_of_ble_eq_true rfl⟩) hS (fun q _ h => hFc q h) hFc (fun u t H1 locs ht hvm hw7 hB hz1 hk1 hS => ?_)
  obtain ⟨g5, hg6, hP1, hD1⟩ := hB
  rw [ht] at hP1
  obtain ⟨hP, hD⟩ := va_join (wr := [(h0, .inr (8, [.ref a1, .ref a2, .ref a3, .ref a4, .ref a5, .int 0, .int x6, .ref a6, .int 0, .int 0, .int 0, .int 0, .int 0, .int 0, .int 0, .int 0, .int (-1), .ref a7, .ref a8, .int 0, .ref a9, .ref b0, .int 0]))]) (w1 := [(a2, .inl (cy 1, 1037, .inl g1)), (a1, .inl (cy 1, 1037, .inl g5))]) hP hD [0, 2] [1] rfl rfl (by decide) (by decide) hk1 hFc hP1 hD1
  generalize H1 = H at hP hS ⊢
  have hP : va_P (dC, dI) vwCl [(h0, .inr (8, [.ref a1, .ref a2, .ref a3, .ref a4, .ref a5, .int 0, .int x6, .ref a6, .int 0, .int 0, .int 0, .int 0, .int 0, .int 0, .int 0, .int 0, .int (-1), .ref a7, .ref a8, .int 0, .ref a9, .ref b0, .int 0])), (a2, .inl (cy 1, 1037, .inl g1)), (a1, .inl (cy 1, 1037, .inl g5))] H := hP
  have hD : va_D A [(h0, .inr (8, [.ref a1, .ref a2, .ref a3, .ref a4, .ref a5, .int 0, .int x6, .ref a6, .int 0, .int 0, .int 0, .int 0, .int 0, .int 0, .int 0, .int 0, .int (-1), .ref a7, .ref a8, .int 0, .ref a9, .ref b0, .int 0])), (a2, .inl (cy 1, 1037, .inl g1)), (a1, .inl (cy 1, 1037, .inl g5))] := hD
  refine W.widen (k := 0) (n := 0) (by omega) (by omega) ?_
  refine lv_iload_n hx hb dX8_behind_33 rfl (lv_at hl 0 rfl) ?_
  have hP9 := hP.sub (ws' := [(h0, .inr (8, [.ref a1, .ref a2, .ref a3, .ref a4, .ref a5, .int 0, .int x6, .ref a6, .int 0, .int 0, .int 0, .int 0, .int 0, .int 0, .int 0, .int 0, .int (-1), .ref a7, .ref a8, .int 0, .ref a9, .ref b0, .int 0]))]) [0] rfl
  have hD9 := hD.sub (ws' := [(h0, .inr (8, [.ref a1, .ref a2, .ref a3, .ref a4, .ref a5, .int 0, .int x6, .ref a6, .int 0, .int 0, .int 0, .int 0, .int 0, .int 0, .int 0, .int 0, .int (-1), .ref a7, .ref a8, .int 0, .ref a9, .ref b0, .int 0]))]) [0] (by decide) rfl
  refine W.widen (k := 0) (n := 0) (by omega) (by omega) ?_
  exact W.iret (v := 0) hx hb hr (fun t ht hW => ⟨⟨0, (), rfl, rfl, by rw [ht]; exact hP9, hD9⟩, hS.F ht⟩) hS.2.2 dX8_behind_34
set_option maxHeartbeats 4000000 in
set_option maxRecDepth 100000 in
/-- X8_allIn -/
theorem c_X8_allIn (l : Launch) (dC : Nat → ClassId) (dI : Nat → Nat → Nat) (cy : Nat → ClassId) (nb : Nat → Nat) (h0 : Nat) (a1 : Nat) (a2 : Nat) (a3 : Nat) (a4 : Nat) (a5 : Nat) (a6 : Nat) (a7 : Nat) (a8 : Nat) (a9 : Nat) (b0 : Nat) (x6 : Int32) (g : Nat → Int32) (ga : Nat → Int32) (sz : Nat) (hg : FN g) : Met l yX8_allIn (wsg yX8_allIn cX8_allIn 1 (some .int)) ({ frames := 15, cells := 0, slots := 0, locals := 1000 }) (va_Pc [.ref h0] (fun U => U.heap.size = sz ∧ va_P (dC, dI) vwCl [(h0, .inr (8, [.ref a1, .ref a2, .ref a3, .ref a4, .ref a5, .int 0, .int x6, .ref a6, .int 0, .int 0, .int 0, .int 0, .int 0, .int 0, .int 0, .int 0, .int (-1), .ref a7, .ref a8, .int 0, .ref a9, .ref b0, .int 0])), (a1, .inl (cy 1, 1037, .inl g)), (a2, .inl (cy 1, 1037, .inl ga))] U.heap ∧ va_K (dC, dI) vwCl (tyL cy) U ∧ va_D (fun _ => True) [(h0, .inr (8, [.ref a1, .ref a2, .ref a3, .ref a4, .ref a5, .int 0, .int x6, .ref a6, .int 0, .int 0, .int 0, .int 0, .int 0, .int 0, .int 0, .int 0, .int (-1), .ref a7, .ref a8, .int 0, .ref a9, .ref b0, .int 0])), (a1, .inl (cy 1, 1037, .inl g)), (a2, .inl (cy 1, 1037, .inl ga))] ∧ GE nb (va_A [(h0, .inr (8, [.ref a1, .ref a2, .ref a3, .ref a4, .ref a5, .int 0, .int x6, .ref a6, .int 0, .int 0, .int 0, .int 0, .int 0, .int 0, .int 0, .int 0, .int (-1), .ref a7, .ref a8, .int 0, .ref a9, .ref b0, .int 0])), (a1, .inl (cy 1, 1037, .inl g)), (a2, .inl (cy 1, 1037, .inl ga))] sz) U)) (va_Qi (fun (r : Int32) (_ : Unit) => r = 0) (fun _ t => va_P (dC, dI) vwCl [(h0, .inr (8, [.ref a1, .ref a2, .ref a3, .ref a4, .ref a5, .int 0, .int 0, .ref a6, .int 0, .int 0, .int 0, .int 0, .int 0, .int 0, .int 0, .int 0, .int (-1), .ref a7, .ref a8, .int 0, .ref a9, .ref b0, .int 0]))] t.heap ∧ va_D (va_A [(h0, .inr (8, [.ref a1, .ref a2, .ref a3, .ref a4, .ref a5, .int 0, .int x6, .ref a6, .int 0, .int 0, .int 0, .int 0, .int 0, .int 0, .int 0, .int 0, .int (-1), .ref a7, .ref a8, .int 0, .ref a9, .ref b0, .int 0])), (a1, .inl (cy 1, 1037, .inl g)), (a2, .inl (cy 1, 1037, .inl ga))] sz) [(h0, .inr (8, [.ref a1, .ref a2, .ref a3, .ref a4, .ref a5, .int 0, .int 0, .ref a6, .int 0, .int 0, .int 0, .int 0, .int 0, .int 0, .int 0, .int 0, .int (-1), .ref a7, .ref a8, .int 0, .ref a9, .ref b0, .int 0]))]) (va_A [(h0, .inr (8, [.ref a1, .ref a2, .ref a3, .ref a4, .ref a5, .int 0, .int x6, .ref a6, .int 0, .int 0, .int 0, .int 0, .int 0, .int 0, .int 0, .int 0, .int (-1), .ref a7, .ref a8, .int 0, .ref a9, .ref b0, .int 0])), (a1, .inl (cy 1, 1037, .inl g)), (a2, .inl (cy 1, 1037, .inl ga))] sz)) 0 0 (va_A [(h0, .inr (8, [.ref a1, .ref a2, .ref a3, .ref a4, .ref a5, .int 0, .int x6, .ref a6, .int 0, .int 0, .int 0, .int 0, .int 0, .int 0, .int 0, .int 0, .int (-1), .ref a7, .ref a8, .int 0, .ref a9, .ref b0, .int 0])), (a1, .inl (cy 1, 1037, .inl g)), (a2, .inl (cy 1, 1037, .inl ga))] sz) := by
  refine Met.ofW (cc := cX8_allIn) (maxL := 1) (ret := (some .int)) (by decide) rfl ?_
  intro p e s m args below meth c s₁ B hml hv
  obtain ⟨rfl, hsz, hP, hK, hD0, hE⟩ := hv
  have hx := B.exec
  have hb := B.bytes
  have hr := B.returns
  have hts0 := atoms_spec (ws := (wsg yX8_allIn cX8_allIn 1 (some .int))) B.pre
  have hts : ∀ w ∈ wsL_law, w.before _ s = true := fun w h => hts0 w (List.mem_cons_of_mem _ h)
  have hown : s.vm.findClass RX8 = some m.cls := findClass_of_methodNamed B.named
  have hlocks := B.notSynchronized
  subst hsz
  have hD := hD0.self (sz := s.heap.size)
  generalize hAe : va_A [(h0, .inr (8, [.ref a1, .ref a2, .ref a3, .ref a4, .ref a5, .int 0, .int x6, .ref a6, .int 0, .int 0, .int 0, .int 0, .int 0, .int 0, .int 0, .int 0, .int (-1), .ref a7, .ref a8, .int 0, .ref a9, .ref b0, .int 0])), (a1, .inl (cy 1, 1037, .inl g)), (a2, .inl (cy 1, 1037, .inl ga))] s.heap.size = A at hD hE ⊢
  have hA : ∀ q : Nat, s.heap.size ≤ q → A q := fun q h => by rw [← hAe]; exact Or.inr h
  have hS : va_S A s.heap s.heap [] := va_S.rf
  have hP : va_P (dC, dI) vwCl [(h0, .inr (8, [.ref a1, .ref a2, .ref a3, .ref a4, .ref a5, .int 0, .int x6, .ref a6, .int 0, .int 0, .int 0, .int 0, .int 0, .int 0, .int 0, .int 0, .int (-1), .ref a7, .ref a8, .int 0, .ref a9, .ref b0, .int 0])), (a1, .inl (cy 1, 1037, .inl g)), (a2, .inl (cy 1, 1037, .inl ga))] s.heap := hP
  have hl := lv_entry ([.ref h0]) (n := 1) (Nat.le_of_ble_eq_true rfl)
  rw [lg_entry_eq]
  generalize (lg_sl ([.ref h0]) ++ List.replicate (1 - (lg_sl ([.ref h0])).length) Slot.unset).toArray = ls at hl ⊢
  have hl : lv_has ls 1 [(0, .ref h0)] := hl
  generalize hHe : s.heap = H at hP hS ⊢
  have hS : va_S A s.heap H [] := by rw [hHe]; exact hS
  refine lv_aload_n hx hb dX8_allIn_0 rfl (lv_at hl 0 rfl) ?_
  refine lv_iconst (v := 0) hx hb dX8_allIn_1 (by decide) ?_
  refine va_put (D := (dC, dI)) (ci := 8) (v := .int 0) (ty := .int) (C := RX8) (T := TX8) (N := 23) hx hb hts inlX8 tyX8 tyX8_ok nmX8 hown hK hP hD hS 0 rfl rfl 6 (by decide) (hts _ mw_127) (fun _ h9 => h9) rfl (by decide +kernel) rfl rfl (Nat.le_of_ble_eq_true rfl) dX8_allIn_2 (fun H locs hP hD hS => ?_)
  have hP : va_P (dC, dI) vwCl [(h0, .inr (8, [.ref a1, .ref a2, .ref a3, .ref a4, .ref a5, .int 0, .int 0, .ref a6, .int 0, .int 0, .int 0, .int 0, .int 0, .int 0, .int 0, .int 0, .int (-1), .ref a7, .ref a8, .int 0, .ref a9, .ref b0, .int 0])), (a1, .inl (cy 1, 1037, .inl g)), (a2, .inl (cy 1, 1037, .inl ga))] H := hP
  have hD : va_D A [(h0, .inr (8, [.ref a1, .ref a2, .ref a3, .ref a4, .ref a5, .int 0, .int 0, .ref a6, .int 0, .int 0, .int 0, .int 0, .int 0, .int 0, .int 0, .int 0, .int (-1), .ref a7, .ref a8, .int 0, .ref a9, .ref b0, .int 0])), (a1, .inl (cy 1, 1037, .inl g)), (a2, .inl (cy 1, 1037, .inl ga))] := hD
  refine lv_aload_n hx hb dX8_allIn_5 rfl (lv_at hl 0 rfl) ?_
  refine lv_iconst (v := 2) hx hb dX8_allIn_6 (by decide) ?_
  refine lv_iconst (v := (-1)) hx hb dX8_allIn_7 (by decide) ?_
  have hPc := hP.sub (ws' := [(h0, .inr (8, [.ref a1, .ref a2, .ref a3, .ref a4, .ref a5, .int 0, .int 0, .ref a6, .int 0, .int 0, .int 0, .int 0, .int 0, .int 0, .int 0, .int 0, .int (-1), .ref a7, .ref a8, .int 0, .ref a9, .ref b0, .int 0])), (a1, .inl (cy 1, 1037, .inl g)), (a2, .inl (cy 1, 1037, .inl ga))]) [0, 1, 2] rfl
  have hDc := hD.sub (ws' := [(h0, .inr (8, [.ref a1, .ref a2, .ref a3, .ref a4, .ref a5, .int 0, .int 0, .ref a6, .int 0, .int 0, .int 0, .int 0, .int 0, .int 0, .int 0, .int 0, .int (-1), .ref a7, .ref a8, .int 0, .ref a9, .ref b0, .int 0])), (a1, .inl (cy 1, 1037, .inl g)), (a2, .inl (cy 1, 1037, .inl ga))]) [0, 1, 2] (by decide) rfl
  have hFc := va_free (wc := [(h0, .inr (8, [.ref a1, .ref a2, .ref a3, .ref a4, .ref a5, .int 0, .int 0, .ref a6, .int 0, .int 0, .int 0, .int 0, .int 0, .int 0, .int 0, .int 0, .int (-1), .ref a7, .ref a8, .int 0, .ref a9, .ref b0, .int 0])), (a1, .inl (cy 1, 1037, .inl g)), (a2, .inl (cy 1, 1037, .inl ga))]) hD hS hA [0, 1, 2] rfl
  refine va_calli (va_runV (As := [.int 2, .int (-1)]) (rest := []) ⟨hx, hb, hml, hown, hts⟩ (c_X8_behind l dC dI cy nb h0 a1 a2 a3 a4 a5 a6 a7 a8 a9 b0 0 g ga H.size hg) (cwV 2 hts (gV mw_1330 mw_1331 mw_1332 mw_5 mw_1333) rfl rfl rfl (by decide +kernel) ⟨Nat.le_of_ble_eq_true rfl, Nat.le_of_ble_eq_true rfl⟩) ⟨fun a U g mk q => by obtain ⟨q0, q1, qP, qK, qD, qE⟩ := q; exact ⟨q0, q1, qP, va_K.moved (u := U) (U := U.calling g mk a) (Vm.Alike.refl U.vm) qK, qD, GE.calling qE⟩, va_recv hK hP (ci := 8) (q0 := 0) rfl rfl, fun U hU hW => ⟨rfl, by rw [hU], by rw [hU]; exact hPc, va_K.moved hW.alike hK, hDc.weaken (fun _ _ _ _ => trivial), GE.call hE hS hFc hU hW⟩⟩ rfl rfl hl.1 rfl (lv_room (Nat.le_of_ble_eq_true rfl)) dX8_allIn_8 ⟨Nat.le_of_ble_eq_true rfl, Nat.le_of_ble_eq_true rfl⟩) hS (fun q _ h => hFc q h) hFc (fun r u t H1 locs ht hvm hw1 hB hz1 hk1 hS => ?_)
  obtain ⟨hP1, hD1⟩ := hB
  rw [ht] at hP1
  obtain ⟨hP, hD⟩ := va_join (wr := []) (w1 := [(h0, .inr (8, [.ref a1, .ref a2, .ref a3, .ref a4, .ref a5, .int 0, .int 0, .ref a6, .int 0, .int 0, .int 0, .int 0, .int 0, .int 0, .int 0, .int 0, .int (-1), .ref a7, .ref a8, .int 0, .ref a9, .ref b0, .int 0]))]) hP hD [0, 1, 2] [] rfl rfl (by decide) (by decide) hk1 hFc hP1 hD1
  generalize H1 = H at hP hS ⊢
  have hP : va_P (dC, dI) vwCl [(h0, .inr (8, [.ref a1, .ref a2, .ref a3, .ref a4, .ref a5, .int 0, .int 0, .ref a6, .int 0, .int 0, .int 0, .int 0, .int 0, .int 0, .int 0, .int 0, .int (-1), .ref a7, .ref a8, .int 0, .ref a9, .ref b0, .int 0]))] H := hP
  have hD : va_D A [(h0, .inr (8, [.ref a1, .ref a2, .ref a3, .ref a4, .ref a5, .int 0, .int 0, .ref a6, .int 0, .int 0, .int 0, .int 0, .int 0, .int 0, .int 0, .int 0, .int (-1), .ref a7, .ref a8, .int 0, .ref a9, .ref b0, .int 0]))] := hD
  obtain rfl := hw1
  refine W.widen (k := 0) (n := 0) (by omega) (by omega) ?_
  have hP9 := hP.sub (ws' := [(h0, .inr (8, [.ref a1, .ref a2, .ref a3, .ref a4, .ref a5, .int 0, .int 0, .ref a6, .int 0, .int 0, .int 0, .int 0, .int 0, .int 0, .int 0, .int 0, .int (-1), .ref a7, .ref a8, .int 0, .ref a9, .ref b0, .int 0]))]) [0] rfl
  have hD9 := hD.sub (ws' := [(h0, .inr (8, [.ref a1, .ref a2, .ref a3, .ref a4, .ref a5, .int 0, .int 0, .ref a6, .int 0, .int 0, .int 0, .int 0, .int 0, .int 0, .int 0, .int 0, .int (-1), .ref a7, .ref a8, .int 0, .ref a9, .ref b0, .int 0]))]) [0] (by decide) rfl
  refine W.widen (k := 0) (n := 0) (by omega) (by omega) ?_
  exact W.iret (v := 0) hx hb hr (fun t ht hW => ⟨⟨0, (), rfl, rfl, by rw [ht]; exact hP9, hD9⟩, hS.F ht⟩) hS.2.2 dX8_allIn_11
set_option maxHeartbeats 4000000 in
set_option maxRecDepth 100000 in
/-- X8_bestOf -/
theorem c_X8_bestOf (l : Launch) (dC : Nat → ClassId) (dI : Nat → Nat → Nat) (cy : Nat → ClassId) (nb : Nat → Nat) (h0 : Nat) (a1 : Nat) (a2 : Nat) (a3 : Nat) (a4 : Nat) (a5 : Nat) (a6 : Nat) (a7 : Nat) (a8 : Nat) (a9 : Nat) (b0 : Nat) (x6 : Int32) (g : Nat → Int32) (ga : Nat → Int32) (sz : Nat) (hg : FN g) : Met l yX8_bestOf (wsg yX8_bestOf cX8_bestOf 10 (some .int)) ({ frames := 14, cells := 0, slots := 0, locals := 900 }) (va_Pc [.ref h0, .int 1, .int 1, .int 20, .int 2, .int (-1)] (fun U => U.heap.size = sz ∧ va_P (dC, dI) vwCl [(h0, .inr (8, [.ref a1, .ref a2, .ref a3, .ref a4, .ref a5, .int 0, .int x6, .ref a6, .int 0, .int 0, .int 0, .int 0, .int 0, .int 0, .int 0, .int 0, .int (-1), .ref a7, .ref a8, .int 0, .ref a9, .ref b0, .int 0])), (a1, .inl (cy 1, 1037, .inl g)), (a2, .inl (cy 1, 1037, .inl ga))] U.heap ∧ va_K (dC, dI) vwCl (tyL cy) U ∧ va_D (fun _ => True) [(h0, .inr (8, [.ref a1, .ref a2, .ref a3, .ref a4, .ref a5, .int 0, .int x6, .ref a6, .int 0, .int 0, .int 0, .int 0, .int 0, .int 0, .int 0, .int 0, .int (-1), .ref a7, .ref a8, .int 0, .ref a9, .ref b0, .int 0])), (a1, .inl (cy 1, 1037, .inl g)), (a2, .inl (cy 1, 1037, .inl ga))] ∧ GE nb (va_A [(h0, .inr (8, [.ref a1, .ref a2, .ref a3, .ref a4, .ref a5, .int 0, .int x6, .ref a6, .int 0, .int 0, .int 0, .int 0, .int 0, .int 0, .int 0, .int 0, .int (-1), .ref a7, .ref a8, .int 0, .ref a9, .ref b0, .int 0])), (a1, .inl (cy 1, 1037, .inl g)), (a2, .inl (cy 1, 1037, .inl ga))] sz) U)) (va_Qi (fun (r : Int32) (_ : Unit) => r = 1) (fun _ t => va_P (dC, dI) vwCl [(h0, .inr (8, [.ref a1, .ref a2, .ref a3, .ref a4, .ref a5, .int 0, .int x6, .ref a6, .int 0, .int 0, .int 0, .int 0, .int 0, .int 0, .int 0, .int 0, .int (-1), .ref a7, .ref a8, .int 0, .ref a9, .ref b0, .int 0]))] t.heap ∧ va_D (va_A [(h0, .inr (8, [.ref a1, .ref a2, .ref a3, .ref a4, .ref a5, .int 0, .int x6, .ref a6, .int 0, .int 0, .int 0, .int 0, .int 0, .int 0, .int 0, .int 0, .int (-1), .ref a7, .ref a8, .int 0, .ref a9, .ref b0, .int 0])), (a1, .inl (cy 1, 1037, .inl g)), (a2, .inl (cy 1, 1037, .inl ga))] sz) [(h0, .inr (8, [.ref a1, .ref a2, .ref a3, .ref a4, .ref a5, .int 0, .int x6, .ref a6, .int 0, .int 0, .int 0, .int 0, .int 0, .int 0, .int 0, .int 0, .int (-1), .ref a7, .ref a8, .int 0, .ref a9, .ref b0, .int 0]))]) (va_A [(h0, .inr (8, [.ref a1, .ref a2, .ref a3, .ref a4, .ref a5, .int 0, .int x6, .ref a6, .int 0, .int 0, .int 0, .int 0, .int 0, .int 0, .int 0, .int 0, .int (-1), .ref a7, .ref a8, .int 0, .ref a9, .ref b0, .int 0])), (a1, .inl (cy 1, 1037, .inl g)), (a2, .inl (cy 1, 1037, .inl ga))] sz)) 0 0 (va_A [(h0, .inr (8, [.ref a1, .ref a2, .ref a3, .ref a4, .ref a5, .int 0, .int x6, .ref a6, .int 0, .int 0, .int 0, .int 0, .int 0, .int 0, .int 0, .int 0, .int (-1), .ref a7, .ref a8, .int 0, .ref a9, .ref b0, .int 0])), (a1, .inl (cy 1, 1037, .inl g)), (a2, .inl (cy 1, 1037, .inl ga))] sz) := by
  refine Met.ofW (cc := cX8_bestOf) (maxL := 10) (ret := (some .int)) (by decide) rfl ?_
  intro p e s m args below meth c s₁ B hml hv
  obtain ⟨rfl, hsz, hP, hK, hD0, hE⟩ := hv
  have hx := B.exec
  have hb := B.bytes
  have hr := B.returns
  have hts0 := atoms_spec (ws := (wsg yX8_bestOf cX8_bestOf 10 (some .int))) B.pre
  have hts : ∀ w ∈ wsL_law, w.before _ s = true := fun w h => hts0 w (List.mem_cons_of_mem _ h)
  have hown : s.vm.findClass RX8 = some m.cls := findClass_of_methodNamed B.named
  have hlocks := B.notSynchronized
  subst hsz
  have hD := hD0.self (sz := s.heap.size)
  generalize hAe : va_A [(h0, .inr (8, [.ref a1, .ref a2, .ref a3, .ref a4, .ref a5, .int 0, .int x6, .ref a6, .int 0, .int 0, .int 0, .int 0, .int 0, .int 0, .int 0, .int 0, .int (-1), .ref a7, .ref a8, .int 0, .ref a9, .ref b0, .int 0])), (a1, .inl (cy 1, 1037, .inl g)), (a2, .inl (cy 1, 1037, .inl ga))] s.heap.size = A at hD hE ⊢
  have hA : ∀ q : Nat, s.heap.size ≤ q → A q := fun q h => by rw [← hAe]; exact Or.inr h
  have hS : va_S A s.heap s.heap [] := va_S.rf
  have hP : va_P (dC, dI) vwCl [(h0, .inr (8, [.ref a1, .ref a2, .ref a3, .ref a4, .ref a5, .int 0, .int x6, .ref a6, .int 0, .int 0, .int 0, .int 0, .int 0, .int 0, .int 0, .int 0, .int (-1), .ref a7, .ref a8, .int 0, .ref a9, .ref b0, .int 0])), (a1, .inl (cy 1, 1037, .inl g)), (a2, .inl (cy 1, 1037, .inl ga))] s.heap := hP
  have hl := lv_entry ([.ref h0, .int 1, .int 1, .int 20, .int 2, .int (-1)]) (n := 10) (Nat.le_of_ble_eq_true rfl)
  rw [lg_entry_eq]
  generalize (lg_sl ([.ref h0, .int 1, .int 1, .int 20, .int 2, .int (-1)]) ++ List.replicate (10 - (lg_sl ([.ref h0, .int 1, .int 1, .int 20, .int 2, .int (-1)])).length) Slot.unset).toArray = ls at hl ⊢
  have hl : lv_has ls 10 [(0, .ref h0), (1, .int 1), (2, .int 1), (3, .int 20), (4, .int 2), (5, .int (-1))] := hl
  generalize hHe : s.heap = H at hP hS ⊢
  have hS : va_S A s.heap H [] := by rw [hHe]; exact hS
  refine lv_aload_n hx hb dX8_bestOf_0 rfl (lv_at hl 0 rfl) ?_
  refine va_get (D := (dC, dI)) (ci := 8) (v := .ref a1) (C := RX8) (T := TX8) (N := 23) hx hb hts inlX8 hown hK hP 0 rfl rfl 0 (by decide) (hts _ mw_97) (fun _ h9 => h9) rfl dX8_bestOf_1 ?_
  refine lv_iconst (v := 0) hx hb dX8_bestOf_4 (by decide) ?_
  refine lv_aload_n hx hb dX8_bestOf_5 rfl (lv_at hl 0 rfl) ?_
  refine va_get (D := (dC, dI)) (ci := 8) (v := .ref a2) (C := RX8) (T := TX8) (N := 23) hx hb hts inlX8 hown hK hP 0 rfl rfl 1 (by decide) (hts _ mw_98) (fun _ h9 => h9) rfl dX8_bestOf_6 ?_
  refine lv_iconst (v := 0) hx hb dX8_bestOf_9 (by decide) ?_
  have hPc := hP.sub (ws' := [(a1, .inl (cy 1, 1037, .inl g)), (a2, .inl (cy 1, 1037, .inl ga))]) [1, 2] rfl
  have hDc := hD.sub (ws' := [(a1, .inl (cy 1, 1037, .inl g)), (a2, .inl (cy 1, 1037, .inl ga))]) [1, 2] (by decide) rfl
  have hFc := va_free (wc := [(a1, .inl (cy 1, 1037, .inl g)), (a2, .inl (cy 1, 1037, .inl ga))]) hD hS hA [1, 2] rfl
  refine va_callv (va_runS (As := [.ref a1, .int 0, .ref a2, .int 0]) (rest := []) ⟨hx, hb, hml, hown, hts⟩ (c_X8_copies l dC dI cy nb a1 a2 0 0 1037 1037 g ga H.size (by decide) (by decide) (by decide)) (va_cwS 4 hts (gS mw_423 mw_424 mw_5 mw_425) rfl rfl rfl (by decide +kernel) ⟨Nat.le_of_ble_eq_true rfl, Nat.le_of_ble_eq_true rfl⟩) ⟨fun a U g mk q => by obtain ⟨q0, q1, qP, qK, qD, qE⟩ := q; exact ⟨q0, q1, qP, va_K.moved (u := U) (U := U.calling g mk a) (Vm.Alike.refl U.vm) qK, qD, GE.calling qE⟩, fun U hU hW => ⟨rfl, by rw [hU], by rw [hU]; exact hPc, va_K.moved hW.alike hK, hDc.weaken (fun _ _ _ _ => trivial), GE.call hE hS hFc hU hW⟩⟩ rfl rfl hl.1 rfl (lv_room (Nat.le_of_ble_eq_true rfl)) dX8_bestOf_10 ⟨Nat.le_of_ble_eq_true rfl, Nat.le_of_ble_eq_true rfl⟩) hS (fun q _ h => hFc q h) hFc (fun u t H1 locs ht hvm hw3 hB hz1 hk1 hS => ?_)
  obtain ⟨g1, hg2, hP1, hD1⟩ := hB
  rw [ht] at hP1
  obtain ⟨hP, hD⟩ := va_join (wr := [(h0, .inr (8, [.ref a1, .ref a2, .ref a3, .ref a4, .ref a5, .int 0, .int x6, .ref a6, .int 0, .int 0, .int 0, .int 0, .int 0, .int 0, .int 0, .int 0, .int (-1), .ref a7, .ref a8, .int 0, .ref a9, .ref b0, .int 0]))]) (w1 := [(a1, .inl (cy 1, 1037, .inl g)), (a2, .inl (cy 1, 1037, .inl g1))]) hP hD [1, 2] [0] rfl rfl (by decide) (by decide) hk1 hFc hP1 hD1
  generalize H1 = H at hP hS ⊢
  have hP : va_P (dC, dI) vwCl [(h0, .inr (8, [.ref a1, .ref a2, .ref a3, .ref a4, .ref a5, .int 0, .int x6, .ref a6, .int 0, .int 0, .int 0, .int 0, .int 0, .int 0, .int 0, .int 0, .int (-1), .ref a7, .ref a8, .int 0, .ref a9, .ref b0, .int 0])), (a1, .inl (cy 1, 1037, .inl g)), (a2, .inl (cy 1, 1037, .inl g1))] H := hP
  have hD : va_D A [(h0, .inr (8, [.ref a1, .ref a2, .ref a3, .ref a4, .ref a5, .int 0, .int x6, .ref a6, .int 0, .int 0, .int 0, .int 0, .int 0, .int 0, .int 0, .int 0, .int (-1), .ref a7, .ref a8, .int 0, .ref a9, .ref b0, .int 0])), (a1, .inl (cy 1, 1037, .inl g)), (a2, .inl (cy 1, 1037, .inl g1))] := hD
  refine W.widen (k := 0) (n := 0) (by omega) (by omega) ?_
  have hfa : FT 0 g1 := FT_cp hg2 (FT_of hg)
  refine lv_iconst (v := (-1)) hx hb dX8_bestOf_13 (by decide) ?_
  refine lv_istore (lv' := [(6, .int (-1)), (0, .ref h0), (1, .int 1), (2, .int 1), (3, .int 20), (4, .int 2), (5, .int (-1))]) hx hb dX8_bestOf_14 hl (by decide) rfl (fun ls hl => ?_)
  refine lv_sipush (v := 2001) hx hb dX8_bestOf_16 (by decide) ?_
  refine lv_istore (lv' := [(7, .int 2001), (6, .int (-1)), (0, .ref h0), (1, .int 1), (2, .int 1), (3, .int 20), (4, .int 2), (5, .int (-1))]) hx hb dX8_bestOf_19 hl (by decide) rfl (fun ls hl => ?_)
  refine lv_iload_n hx hb dX8_bestOf_21 rfl (lv_at hl 4 rfl) ?_
  refine lv_istore (lv' := [(8, .int 1), (7, .int 2001), (6, .int (-1)), (0, .ref h0), (1, .int 1), (2, .int 1), (3, .int 20), (4, .int 2), (5, .int (-1))]) hx hb dX8_bestOf_22 hl (by decide) rfl (fun ls hl => ?_)
  refine lv_iload hx hb dX8_bestOf_24 (lv_at hl 0 rfl) ?_
  refine lv_iload_n hx hb dX8_bestOf_26 rfl (lv_at hl 6 rfl) ?_
  refine lv_icmp_gt (tgt := 88) hx hb dX8_bestOf_27 (by decide) (fun h => absurd h (by decide)) (fun _ => ?_)
  refine lv_aload_n hx hb dX8_bestOf_30 rfl (lv_at hl 3 rfl) ?_
  refine va_get (D := (dC, dI)) (ci := 8) (v := .ref a1) (C := RX8) (T := TX8) (N := 23) hx hb hts inlX8 hown hK hP 0 rfl rfl 0 (by decide) (hts _ mw_97) (fun _ h9 => h9) rfl dX8_bestOf_31 ?_
  refine lv_iload_n hx hb dX8_bestOf_34 rfl (lv_at hl 4 rfl) ?_
  refine lv_iload hx hb dX8_bestOf_35 (lv_at hl 0 rfl) ?_
  refine va_iast hx hb hK hP hD hS 1 1 rfl rfl (vp_in_nI (n := 1) (by decide) (by decide)) dX8_bestOf_37 (fun H locs hP hD hS => ?_)
  have hP : va_P (dC, dI) vwCl [(h0, .inr (8, [.ref a1, .ref a2, .ref a3, .ref a4, .ref a5, .int 0, .int x6, .ref a6, .int 0, .int 0, .int 0, .int 0, .int 0, .int 0, .int 0, .int 0, .int (-1), .ref a7, .ref a8, .int 0, .ref a9, .ref b0, .int 0])), (a1, .inl (cy 1, 1037, .inl (upd g ((1 : Int32).toNatClampNeg) 1))), (a2, .inl (cy 1, 1037, .inl g1))] H := hP
  have hD : va_D A [(h0, .inr (8, [.ref a1, .ref a2, .ref a3, .ref a4, .ref a5, .int 0, .int x6, .ref a6, .int 0, .int 0, .int 0, .int 0, .int 0, .int 0, .int 0, .int 0, .int (-1), .ref a7, .ref a8, .int 0, .ref a9, .ref b0, .int 0])), (a1, .inl (cy 1, 1037, .inl (upd g ((1 : Int32).toNatClampNeg) 1))), (a2, .inl (cy 1, 1037, .inl g1))] := hD
  have hf5 : FT 0 (upd g ((1 : Int32).toNatClampNeg) 1) := FT_up (FT_of hg) (Or.inr (by decide))
  generalize (upd g ((1 : Int32).toNatClampNeg) 1) = g4 at hP hD hf5
  refine lv_aload_n hx hb dX8_bestOf_38 rfl (lv_at hl 3 rfl) ?_
  refine lv_iload hx hb dX8_bestOf_39 (lv_at hl 7 rfl) ?_
  refine lv_iload hx hb dX8_bestOf_41 (lv_at hl 8 rfl) ?_
  have hPc := hP.sub (ws' := [(h0, .inr (8, [.ref a1, .ref a2, .ref a3, .ref a4, .ref a5, .int 0, .int x6, .ref a6, .int 0, .int 0, .int 0, .int 0, .int 0, .int 0, .int 0, .int 0, .int (-1), .ref a7, .ref a8, .int 0, .ref a9, .ref b0, .int 0])), (a1, .inl (cy 1, 1037, .inl g4))]) [0, 1] rfl
  have hDc := hD.sub (ws' := [(h0, .inr (8, [.ref a1, .ref a2, .ref a3, .ref a4, .ref a5, .int 0, .int x6, .ref a6, .int 0, .int 0, .int 0, .int 0, .int 0, .int 0, .int 0, .int 0, .int (-1), .ref a7, .ref a8, .int 0, .ref a9, .ref b0, .int 0])), (a1, .inl (cy 1, 1037, .inl g4))]) [0, 1] (by decide) rfl
  have hFc := va_free (wc := [(h0, .inr (8, [.ref a1, .ref a2, .ref a3, .ref a4, .ref a5, .int 0, .int x6, .ref a6, .int 0, .int 0, .int 0, .int 0, .int 0, .int 0, .int 0, .int 0, .int (-1), .ref a7, .ref a8, .int 0, .ref a9, .ref b0, .int 0])), (a1, .inl (cy 1, 1037, .inl g4))]) hD hS hA [0, 1] rfl
  refine va_calli (va_runV (As := [.int 2, .int (-1)]) (rest := []) ⟨hx, hb, hml, hown, hts⟩ (c_X8_goes l dC dI cy nb h0 a1 (.ref a2) (.ref a3) (.ref a4) (.ref a5) (.int 0) (.int x6) (.ref a6) (.int 0) (.int 0) (.int 0) (.int 0) (.int 0) (.int 0) (.int 0) (.int 0) (.int (-1)) (.ref a7) (.ref a8) (.int 0) (.ref a9) (.ref b0) (.int 0) g4 0 H.size hf5) (cwV 2 hts (gV mw_1334 mw_1335 mw_1336 mw_5 mw_1337) rfl rfl rfl (by decide +kernel) ⟨Nat.le_of_ble_eq_true rfl, Nat.le_of_ble_eq_true rfl⟩) ⟨fun a U g mk q => by obtain ⟨q0, q1, qP, qK, qD, qE⟩ := q; exact ⟨q0, q1, qP, va_K.moved (u := U) (U := U.calling g mk a) (Vm.Alike.refl U.vm) qK, qD, GE.calling qE⟩, va_recv hK hP (ci := 8) (q0 := 0) rfl rfl, fun U hU hW => ⟨rfl, by rw [hU], by rw [hU]; exact hPc, va_K.moved hW.alike hK, hDc.weaken (fun _ _ _ _ => trivial), GE.call hE hS hFc hU hW⟩⟩ rfl rfl hl.1 rfl (lv_room (Nat.le_of_ble_eq_true rfl)) dX8_bestOf_43 ⟨Nat.le_of_ble_eq_true rfl, Nat.le_of_ble_eq_true rfl⟩) hS (fun q _ h => hFc q h) hFc (fun r u t H1 locs ht hvm hw6 hB hz1 hk1 hS => ?_)
  obtain ⟨hP1, hD1⟩ := hB
  rw [ht] at hP1
  obtain ⟨hP, hD⟩ := va_join (wr := [(a2, .inl (cy 1, 1037, .inl g1))]) (w1 := [(h0, .inr (8, [.ref a1, .ref a2, .ref a3, .ref a4, .ref a5, .int 0, .int x6, .ref a6, .int 0, .int 0, .int 0, .int 0, .int 0, .int 0, .int 0, .int 0, .int (-1), .ref a7, .ref a8, .int 0, .ref a9, .ref b0, .int 0])), (a1, .inl (cy 1, 1037, .inl g4))]) hP hD [0, 1] [2] rfl rfl (by decide) (by decide) hk1 hFc hP1 hD1
  generalize H1 = H at hP hS ⊢
  have hP : va_P (dC, dI) vwCl [(a2, .inl (cy 1, 1037, .inl g1)), (h0, .inr (8, [.ref a1, .ref a2, .ref a3, .ref a4, .ref a5, .int 0, .int x6, .ref a6, .int 0, .int 0, .int 0, .int 0, .int 0, .int 0, .int 0, .int 0, .int (-1), .ref a7, .ref a8, .int 0, .ref a9, .ref b0, .int 0])), (a1, .inl (cy 1, 1037, .inl g4))] H := hP
  have hD : va_D A [(a2, .inl (cy 1, 1037, .inl g1)), (h0, .inr (8, [.ref a1, .ref a2, .ref a3, .ref a4, .ref a5, .int 0, .int x6, .ref a6, .int 0, .int 0, .int 0, .int 0, .int 0, .int 0, .int 0, .int 0, .int (-1), .ref a7, .ref a8, .int 0, .ref a9, .ref b0, .int 0])), (a1, .inl (cy 1, 1037, .inl g4))] := hD
  obtain rfl := hw6
  refine W.widen (k := 0) (n := 0) (by omega) (by omega) ?_
  refine lv_istore (lv' := [(9, .int 0), (8, .int 1), (7, .int 2001), (6, .int (-1)), (0, .ref h0), (1, .int 1), (2, .int 1), (3, .int 20), (4, .int 2), (5, .int (-1))]) hx hb dX8_bestOf_46 hl (by decide) rfl (fun ls hl => ?_)
  refine lv_iload hx hb dX8_bestOf_48 (lv_at hl 0 rfl) ?_
  refine lv_iconst (v := (-1)) hx hb dX8_bestOf_50 (by decide) ?_
  refine lv_icmp_eq (tgt := 69) hx hb dX8_bestOf_51 (by decide) (fun h => absurd h (by decide)) (fun _ => ?_)
  refine lv_iload hx hb dX8_bestOf_54 (lv_at hl 0 rfl) ?_
  refine lv_iload hx hb dX8_bestOf_56 (lv_at hl 2 rfl) ?_
  refine lv_icmp_ge (tgt := 69) hx hb dX8_bestOf_58 (by decide) (fun h => absurd h (by decide)) (fun _ => ?_)
  refine lv_iload hx hb dX8_bestOf_61 (lv_at hl 1 rfl) ?_
  refine lv_istore (lv' := [(6, .int 1), (9, .int 0), (8, .int 1), (7, .int 2001), (0, .ref h0), (1, .int 1), (2, .int 1), (3, .int 20), (4, .int 2), (5, .int (-1))]) hx hb dX8_bestOf_63 hl (by decide) rfl (fun ls hl => ?_)
  refine lv_iload hx hb dX8_bestOf_65 (lv_at hl 1 rfl) ?_
  refine lv_istore (lv' := [(7, .int 0), (6, .int 1), (9, .int 0), (8, .int 1), (0, .ref h0), (1, .int 1), (2, .int 1), (3, .int 20), (4, .int 2), (5, .int (-1))]) hx hb dX8_bestOf_67 hl (by decide) rfl (fun ls hl => ?_)
  refine lv_aload_n hx hb dX8_bestOf_69 rfl (lv_at hl 4 rfl) ?_
  refine va_get (D := (dC, dI)) (ci := 8) (v := .ref a2) (C := RX8) (T := TX8) (N := 23) hx hb hts inlX8 hown hK hP 1 rfl rfl 1 (by decide) (hts _ mw_98) (fun _ h9 => h9) rfl dX8_bestOf_70 ?_
  refine lv_iconst (v := 0) hx hb dX8_bestOf_73 (by decide) ?_
  refine lv_aload_n hx hb dX8_bestOf_74 rfl (lv_at hl 4 rfl) ?_
  refine va_get (D := (dC, dI)) (ci := 8) (v := .ref a1) (C := RX8) (T := TX8) (N := 23) hx hb hts inlX8 hown hK hP 1 rfl rfl 0 (by decide) (hts _ mw_97) (fun _ h9 => h9) rfl dX8_bestOf_75 ?_
  refine lv_iconst (v := 0) hx hb dX8_bestOf_78 (by decide) ?_
  have hPc := hP.sub (ws' := [(a2, .inl (cy 1, 1037, .inl g1)), (a1, .inl (cy 1, 1037, .inl g4))]) [0, 2] rfl
  have hDc := hD.sub (ws' := [(a2, .inl (cy 1, 1037, .inl g1)), (a1, .inl (cy 1, 1037, .inl g4))]) [0, 2] (by decide) rfl
  have hFc := va_free (wc := [(a2, .inl (cy 1, 1037, .inl g1)), (a1, .inl (cy 1, 1037, .inl g4))]) hD hS hA [0, 2] rfl
  refine va_callv (va_runS (As := [.ref a2, .int 0, .ref a1, .int 0]) (rest := []) ⟨hx, hb, hml, hown, hts⟩ (c_X8_copies l dC dI cy nb a2 a1 0 0 1037 1037 g1 g4 H.size (by decide) (by decide) (by decide)) (va_cwS 4 hts (gS mw_423 mw_424 mw_5 mw_425) rfl rfl rfl (by decide +kernel) ⟨Nat.le_of_ble_eq_true rfl, Nat.le_of_ble_eq_true rfl⟩) ⟨fun a U g mk q => by obtain ⟨q0, q1, qP, qK, qD, qE⟩ := q; exact ⟨q0, q1, qP, va_K.moved (u := U) (U := U.calling g mk a) (Vm.Alike.refl U.vm) qK, qD, GE.calling qE⟩, fun U hU hW => ⟨rfl, by rw [hU], by rw [hU]; exact hPc, va_K.moved hW.alike hK, hDc.weaken (fun _ _ _ _ => trivial), GE.call hE hS hFc hU hW⟩⟩ rfl rfl hl.1 rfl (lv_room (Nat.le_of_ble_eq_true rfl)) dX8_bestOf_79 ⟨Nat.le_of_ble_eq_true rfl, Nat.le_of_ble_eq_true rfl⟩) hS (fun q _ h => hFc q h) hFc (fun u t H1 locs ht hvm hw9 hB hz1 hk1 hS => ?_)
  obtain ⟨g7, hg8, hP1, hD1⟩ := hB
  rw [ht] at hP1
  obtain ⟨hP, hD⟩ := va_join (wr := [(h0, .inr (8, [.ref a1, .ref a2, .ref a3, .ref a4, .ref a5, .int 0, .int x6, .ref a6, .int 0, .int 0, .int 0, .int 0, .int 0, .int 0, .int 0, .int 0, .int (-1), .ref a7, .ref a8, .int 0, .ref a9, .ref b0, .int 0]))]) (w1 := [(a2, .inl (cy 1, 1037, .inl g1)), (a1, .inl (cy 1, 1037, .inl g7))]) hP hD [0, 2] [1] rfl rfl (by decide) (by decide) hk1 hFc hP1 hD1
  generalize H1 = H at hP hS ⊢
  have hP : va_P (dC, dI) vwCl [(h0, .inr (8, [.ref a1, .ref a2, .ref a3, .ref a4, .ref a5, .int 0, .int x6, .ref a6, .int 0, .int 0, .int 0, .int 0, .int 0, .int 0, .int 0, .int 0, .int (-1), .ref a7, .ref a8, .int 0, .ref a9, .ref b0, .int 0])), (a2, .inl (cy 1, 1037, .inl g1)), (a1, .inl (cy 1, 1037, .inl g7))] H := hP
  have hD : va_D A [(h0, .inr (8, [.ref a1, .ref a2, .ref a3, .ref a4, .ref a5, .int 0, .int x6, .ref a6, .int 0, .int 0, .int 0, .int 0, .int 0, .int 0, .int 0, .int 0, .int (-1), .ref a7, .ref a8, .int 0, .ref a9, .ref b0, .int 0])), (a2, .inl (cy 1, 1037, .inl g1)), (a1, .inl (cy 1, 1037, .inl g7))] := hD
  refine W.widen (k := 0) (n := 0) (by omega) (by omega) ?_
  have hz10 : FT 0 g7 := FT_cp hg8 hfa
  refine lv_iinc (v := 2) (lv' := [(8, .int 2), (7, .int 0), (6, .int 1), (9, .int 0), (0, .ref h0), (1, .int 1), (2, .int 1), (3, .int 20), (4, .int 2), (5, .int (-1))]) hx hb dX8_bestOf_82 hl (k := 3) rfl (by decide) (by decide) rfl (fun ls hl => ?_)
  refine lv_goto (tgt := 24) hx hb dX8_bestOf_85 (by decide) ?_
  refine lv_iload hx hb dX8_bestOf_24 (lv_at hl 0 rfl) ?_
  refine lv_iload_n hx hb dX8_bestOf_26 rfl (lv_at hl 7 rfl) ?_
  refine lv_icmp_gt (tgt := 88) hx hb dX8_bestOf_27 (by decide) (fun h => absurd h (by decide)) (fun _ => ?_)
  refine lv_aload_n hx hb dX8_bestOf_30 rfl (lv_at hl 4 rfl) ?_
  refine va_get (D := (dC, dI)) (ci := 8) (v := .ref a1) (C := RX8) (T := TX8) (N := 23) hx hb hts inlX8 hown hK hP 0 rfl rfl 0 (by decide) (hts _ mw_97) (fun _ h9 => h9) rfl dX8_bestOf_31 ?_
  refine lv_iload_n hx hb dX8_bestOf_34 rfl (lv_at hl 5 rfl) ?_
  refine lv_iload hx hb dX8_bestOf_35 (lv_at hl 0 rfl) ?_
  refine va_iast hx hb hK hP hD hS 2 1 rfl rfl (vp_in_nI (n := 1) (by decide) (by decide)) dX8_bestOf_37 (fun H locs hP hD hS => ?_)
  have hP : va_P (dC, dI) vwCl [(h0, .inr (8, [.ref a1, .ref a2, .ref a3, .ref a4, .ref a5, .int 0, .int x6, .ref a6, .int 0, .int 0, .int 0, .int 0, .int 0, .int 0, .int 0, .int 0, .int (-1), .ref a7, .ref a8, .int 0, .ref a9, .ref b0, .int 0])), (a2, .inl (cy 1, 1037, .inl g1)), (a1, .inl (cy 1, 1037, .inl (upd g7 ((1 : Int32).toNatClampNeg) 2)))] H := hP
  have hD : va_D A [(h0, .inr (8, [.ref a1, .ref a2, .ref a3, .ref a4, .ref a5, .int 0, .int x6, .ref a6, .int 0, .int 0, .int 0, .int 0, .int 0, .int 0, .int 0, .int 0, .int (-1), .ref a7, .ref a8, .int 0, .ref a9, .ref b0, .int 0])), (a2, .inl (cy 1, 1037, .inl g1)), (a1, .inl (cy 1, 1037, .inl (upd g7 ((1 : Int32).toNatClampNeg) 2)))] := hD
  have hf12 : FT 0 (upd g7 ((1 : Int32).toNatClampNeg) 2) := FT_up hz10 (Or.inr (by decide))
  generalize (upd g7 ((1 : Int32).toNatClampNeg) 2) = g11 at hP hD hf12
  refine lv_aload_n hx hb dX8_bestOf_38 rfl (lv_at hl 4 rfl) ?_
  refine lv_iload hx hb dX8_bestOf_39 (lv_at hl 8 rfl) ?_
  refine lv_iload hx hb dX8_bestOf_41 (lv_at hl 9 rfl) ?_
  have hPc := hP.sub (ws' := [(h0, .inr (8, [.ref a1, .ref a2, .ref a3, .ref a4, .ref a5, .int 0, .int x6, .ref a6, .int 0, .int 0, .int 0, .int 0, .int 0, .int 0, .int 0, .int 0, .int (-1), .ref a7, .ref a8, .int 0, .ref a9, .ref b0, .int 0])), (a1, .inl (cy 1, 1037, .inl g11))]) [0, 2] rfl
  have hDc := hD.sub (ws' := [(h0, .inr (8, [.ref a1, .ref a2, .ref a3, .ref a4, .ref a5, .int 0, .int x6, .ref a6, .int 0, .int 0, .int 0, .int 0, .int 0, .int 0, .int 0, .int 0, .int (-1), .ref a7, .ref a8, .int 0, .ref a9, .ref b0, .int 0])), (a1, .inl (cy 1, 1037, .inl g11))]) [0, 2] (by decide) rfl
  have hFc := va_free (wc := [(h0, .inr (8, [.ref a1, .ref a2, .ref a3, .ref a4, .ref a5, .int 0, .int x6, .ref a6, .int 0, .int 0, .int 0, .int 0, .int 0, .int 0, .int 0, .int 0, .int (-1), .ref a7, .ref a8, .int 0, .ref a9, .ref b0, .int 0])), (a1, .inl (cy 1, 1037, .inl g11))]) hD hS hA [0, 2] rfl
  refine va_calli (va_runV (As := [.int 2, .int (-1)]) (rest := []) ⟨hx, hb, hml, hown, hts⟩ (c_X8_goes l dC dI cy nb h0 a1 (.ref a2) (.ref a3) (.ref a4) (.ref a5) (.int 0) (.int x6) (.ref a6) (.int 0) (.int 0) (.int 0) (.int 0) (.int 0) (.int 0) (.int 0) (.int 0) (.int (-1)) (.ref a7) (.ref a8) (.int 0) (.ref a9) (.ref b0) (.int 0) g11 0 H.size hf12) (cwV 2 hts (gV mw_1334 mw_1335 mw_1336 mw_5 mw_1337) rfl rfl rfl (by decide +kernel) ⟨Nat.le_of_ble_eq_true rfl, Nat.le_of_ble_eq_true rfl⟩) ⟨fun a U g mk q => by obtain ⟨q0, q1, qP, qK, qD, qE⟩ := q; exact ⟨q0, q1, qP, va_K.moved (u := U) (U := U.calling g mk a) (Vm.Alike.refl U.vm) qK, qD, GE.calling qE⟩, va_recv hK hP (ci := 8) (q0 := 0) rfl rfl, fun U hU hW => ⟨rfl, by rw [hU], by rw [hU]; exact hPc, va_K.moved hW.alike hK, hDc.weaken (fun _ _ _ _ => trivial), GE.call hE hS hFc hU hW⟩⟩ rfl rfl hl.1 rfl (lv_room (Nat.le_of_ble_eq_true rfl)) dX8_bestOf_43 ⟨Nat.le_of_ble_eq_true rfl, Nat.le_of_ble_eq_true rfl⟩) hS (fun q _ h => hFc q h) hFc (fun r u t H1 locs ht hvm hw13 hB hz1 hk1 hS => ?_)
  obtain ⟨hP1, hD1⟩ := hB
  rw [ht] at hP1
  obtain ⟨hP, hD⟩ := va_join (wr := [(a2, .inl (cy 1, 1037, .inl g1))]) (w1 := [(h0, .inr (8, [.ref a1, .ref a2, .ref a3, .ref a4, .ref a5, .int 0, .int x6, .ref a6, .int 0, .int 0, .int 0, .int 0, .int 0, .int 0, .int 0, .int 0, .int (-1), .ref a7, .ref a8, .int 0, .ref a9, .ref b0, .int 0])), (a1, .inl (cy 1, 1037, .inl g11))]) hP hD [0, 2] [1] rfl rfl (by decide) (by decide) hk1 hFc hP1 hD1
  generalize H1 = H at hP hS ⊢
  have hP : va_P (dC, dI) vwCl [(a2, .inl (cy 1, 1037, .inl g1)), (h0, .inr (8, [.ref a1, .ref a2, .ref a3, .ref a4, .ref a5, .int 0, .int x6, .ref a6, .int 0, .int 0, .int 0, .int 0, .int 0, .int 0, .int 0, .int 0, .int (-1), .ref a7, .ref a8, .int 0, .ref a9, .ref b0, .int 0])), (a1, .inl (cy 1, 1037, .inl g11))] H := hP
  have hD : va_D A [(a2, .inl (cy 1, 1037, .inl g1)), (h0, .inr (8, [.ref a1, .ref a2, .ref a3, .ref a4, .ref a5, .int 0, .int x6, .ref a6, .int 0, .int 0, .int 0, .int 0, .int 0, .int 0, .int 0, .int 0, .int (-1), .ref a7, .ref a8, .int 0, .ref a9, .ref b0, .int 0])), (a1, .inl (cy 1, 1037, .inl g11))] := hD
  obtain rfl := hw13
  refine W.widen (k := 0) (n := 0) (by omega) (by omega) ?_
  refine lv_istore (lv' := [(9, .int 0), (8, .int 2), (7, .int 0), (6, .int 1), (0, .ref h0), (1, .int 1), (2, .int 1), (3, .int 20), (4, .int 2), (5, .int (-1))]) hx hb dX8_bestOf_46 hl (by decide) rfl (fun ls hl => ?_)
  refine lv_iload hx hb dX8_bestOf_48 (lv_at hl 0 rfl) ?_
  refine lv_iconst (v := (-1)) hx hb dX8_bestOf_50 (by decide) ?_
  refine lv_icmp_eq (tgt := 69) hx hb dX8_bestOf_51 (by decide) (fun h => absurd h (by decide)) (fun _ => ?_)
  refine lv_iload hx hb dX8_bestOf_54 (lv_at hl 0 rfl) ?_
  refine lv_iload hx hb dX8_bestOf_56 (lv_at hl 2 rfl) ?_
  refine lv_icmp_ge (tgt := 69) hx hb dX8_bestOf_58 (by decide) (fun _ => ?_) (fun h => absurd (by decide) h)
  refine lv_aload_n hx hb dX8_bestOf_69 rfl (lv_at hl 4 rfl) ?_
  refine va_get (D := (dC, dI)) (ci := 8) (v := .ref a2) (C := RX8) (T := TX8) (N := 23) hx hb hts inlX8 hown hK hP 1 rfl rfl 1 (by decide) (hts _ mw_98) (fun _ h9 => h9) rfl dX8_bestOf_70 ?_
  refine lv_iconst (v := 0) hx hb dX8_bestOf_73 (by decide) ?_
  refine lv_aload_n hx hb dX8_bestOf_74 rfl (lv_at hl 4 rfl) ?_
  refine va_get (D := (dC, dI)) (ci := 8) (v := .ref a1) (C := RX8) (T := TX8) (N := 23) hx hb hts inlX8 hown hK hP 1 rfl rfl 0 (by decide) (hts _ mw_97) (fun _ h9 => h9) rfl dX8_bestOf_75 ?_
  refine lv_iconst (v := 0) hx hb dX8_bestOf_78 (by decide) ?_
  have hPc := hP.sub (ws' := [(a2, .inl (cy 1, 1037, .inl g1)), (a1, .inl (cy 1, 1037, .inl g11))]) [0, 2] rfl
  have hDc := hD.sub (ws' := [(a2, .inl (cy 1, 1037, .inl g1)), (a1, .inl (cy 1, 1037, .inl g11))]) [0, 2] (by decide) rfl
  have hFc := va_free (wc := [(a2, .inl (cy 1, 1037, .inl g1)), (a1, .inl (cy 1, 1037, .inl g11))]) hD hS hA [0, 2] rfl
  refine va_callv (va_runS (As := [.ref a2, .int 0, .ref a1, .int 0]) (rest := []) ⟨hx, hb, hml, hown, hts⟩ (c_X8_copies l dC dI cy nb a2 a1 0 0 1037 1037 g1 g11 H.size (by decide) (by decide) (by decide)) (va_cwS 4 hts (gS mw_423 mw_424 mw_5 mw_425) rfl rfl rfl (by decide +kernel) ⟨Nat.le_of_ble_eq_true rfl, Nat.le_of_ble_eq_true rfl⟩) ⟨fun a U g mk q => by obtain ⟨q0, q1, qP, qK, qD, qE⟩ := q; exact ⟨q0, q1, qP, va_K.moved (u := U) (U := U.calling g mk a) (Vm.Alike.refl U.vm) qK, qD, GE.calling qE⟩, fun U hU hW => ⟨rfl, by rw [hU], by rw [hU]; exact hPc, va_K.moved hW.alike hK, hDc.weaken (fun _ _ _ _ => trivial), GE.call hE hS hFc hU hW⟩⟩ rfl rfl hl.1 rfl (lv_room (Nat.le_of_ble_eq_true rfl)) dX8_bestOf_79 ⟨Nat.le_of_ble_eq_true rfl, Nat.le_of_ble_eq_true rfl⟩) hS (fun q _ h => hFc q h) hFc (fun u t H1 locs ht hvm hw16 hB hz1 hk1 hS => ?_)
  obtain ⟨g14, hg15, hP1, hD1⟩ := hB
  rw [ht] at hP1
  obtain ⟨hP, hD⟩ := va_join (wr := [(h0, .inr (8, [.ref a1, .ref a2, .ref a3, .ref a4, .ref a5, .int 0, .int x6, .ref a6, .int 0, .int 0, .int 0, .int 0, .int 0, .int 0, .int 0, .int 0, .int (-1), .ref a7, .ref a8, .int 0, .ref a9, .ref b0, .int 0]))]) (w1 := [(a2, .inl (cy 1, 1037, .inl g1)), (a1, .inl (cy 1, 1037, .inl g14))]) hP hD [0, 2] [1] rfl rfl (by decide) (by decide) hk1 hFc hP1 hD1
  generalize H1 = H at hP hS ⊢
  have hP : va_P (dC, dI) vwCl [(h0, .inr (8, [.ref a1, .ref a2, .ref a3, .ref a4, .ref a5, .int 0, .int x6, .ref a6, .int 0, .int 0, .int 0, .int 0, .int 0, .int 0, .int 0, .int 0, .int (-1), .ref a7, .ref a8, .int 0, .ref a9, .ref b0, .int 0])), (a2, .inl (cy 1, 1037, .inl g1)), (a1, .inl (cy 1, 1037, .inl g14))] H := hP
  have hD : va_D A [(h0, .inr (8, [.ref a1, .ref a2, .ref a3, .ref a4, .ref a5, .int 0, .int x6, .ref a6, .int 0, .int 0, .int 0, .int 0, .int 0, .int 0, .int 0, .int 0, .int (-1), .ref a7, .ref a8, .int 0, .ref a9, .ref b0, .int 0])), (a2, .inl (cy 1, 1037, .inl g1)), (a1, .inl (cy 1, 1037, .inl g14))] := hD
  refine W.widen (k := 0) (n := 0) (by omega) (by omega) ?_
  have hz17 : FT 0 g14 := FT_cp hg15 hfa
  refine lv_iinc (v := 3) (lv' := [(8, .int 3), (9, .int 0), (7, .int 0), (6, .int 1), (0, .ref h0), (1, .int 1), (2, .int 1), (3, .int 20), (4, .int 2), (5, .int (-1))]) hx hb dX8_bestOf_82 hl (k := 1) rfl (by decide) (by decide) rfl (fun ls hl => ?_)
  refine lv_goto (tgt := 24) hx hb dX8_bestOf_85 (by decide) ?_
  refine lv_iload hx hb dX8_bestOf_24 (lv_at hl 0 rfl) ?_
  refine lv_iload_n hx hb dX8_bestOf_26 rfl (lv_at hl 7 rfl) ?_
  refine lv_icmp_gt (tgt := 88) hx hb dX8_bestOf_27 (by decide) (fun h => absurd h (by decide)) (fun _ => ?_)
  refine lv_aload_n hx hb dX8_bestOf_30 rfl (lv_at hl 4 rfl) ?_
  refine va_get (D := (dC, dI)) (ci := 8) (v := .ref a1) (C := RX8) (T := TX8) (N := 23) hx hb hts inlX8 hown hK hP 0 rfl rfl 0 (by decide) (hts _ mw_97) (fun _ h9 => h9) rfl dX8_bestOf_31 ?_
  refine lv_iload_n hx hb dX8_bestOf_34 rfl (lv_at hl 5 rfl) ?_
  refine lv_iload hx hb dX8_bestOf_35 (lv_at hl 0 rfl) ?_
  refine va_iast hx hb hK hP hD hS 2 1 rfl rfl (vp_in_nI (n := 1) (by decide) (by decide)) dX8_bestOf_37 (fun H locs hP hD hS => ?_)
  have hP : va_P (dC, dI) vwCl [(h0, .inr (8, [.ref a1, .ref a2, .ref a3, .ref a4, .ref a5, .int 0, .int x6, .ref a6, .int 0, .int 0, .int 0, .int 0, .int 0, .int 0, .int 0, .int 0, .int (-1), .ref a7, .ref a8, .int 0, .ref a9, .ref b0, .int 0])), (a2, .inl (cy 1, 1037, .inl g1)), (a1, .inl (cy 1, 1037, .inl (upd g14 ((1 : Int32).toNatClampNeg) 3)))] H := hP
  have hD : va_D A [(h0, .inr (8, [.ref a1, .ref a2, .ref a3, .ref a4, .ref a5, .int 0, .int x6, .ref a6, .int 0, .int 0, .int 0, .int 0, .int 0, .int 0, .int 0, .int 0, .int (-1), .ref a7, .ref a8, .int 0, .ref a9, .ref b0, .int 0])), (a2, .inl (cy 1, 1037, .inl g1)), (a1, .inl (cy 1, 1037, .inl (upd g14 ((1 : Int32).toNatClampNeg) 3)))] := hD
  have hf19 : FT 0 (upd g14 ((1 : Int32).toNatClampNeg) 3) := FT_up hz17 (Or.inr (by decide))
  generalize (upd g14 ((1 : Int32).toNatClampNeg) 3) = g18 at hP hD hf19
  refine lv_aload_n hx hb dX8_bestOf_38 rfl (lv_at hl 4 rfl) ?_
  refine lv_iload hx hb dX8_bestOf_39 (lv_at hl 8 rfl) ?_
  refine lv_iload hx hb dX8_bestOf_41 (lv_at hl 9 rfl) ?_
  have hPc := hP.sub (ws' := [(h0, .inr (8, [.ref a1, .ref a2, .ref a3, .ref a4, .ref a5, .int 0, .int x6, .ref a6, .int 0, .int 0, .int 0, .int 0, .int 0, .int 0, .int 0, .int 0, .int (-1), .ref a7, .ref a8, .int 0, .ref a9, .ref b0, .int 0])), (a1, .inl (cy 1, 1037, .inl g18))]) [0, 2] rfl
  have hDc := hD.sub (ws' := [(h0, .inr (8, [.ref a1, .ref a2, .ref a3, .ref a4, .ref a5, .int 0, .int x6, .ref a6, .int 0, .int 0, .int 0, .int 0, .int 0, .int 0, .int 0, .int 0, .int (-1), .ref a7, .ref a8, .int 0, .ref a9, .ref b0, .int 0])), (a1, .inl (cy 1, 1037, .inl g18))]) [0, 2] (by decide) rfl
  have hFc := va_free (wc := [(h0, .inr (8, [.ref a1, .ref a2, .ref a3, .ref a4, .ref a5, .int 0, .int x6, .ref a6, .int 0, .int 0, .int 0, .int 0, .int 0, .int 0, .int 0, .int 0, .int (-1), .ref a7, .ref a8, .int 0, .ref a9, .ref b0, .int 0])), (a1, .inl (cy 1, 1037, .inl g18))]) hD hS hA [0, 2] rfl
  refine va_calli (va_runV (As := [.int 2, .int (-1)]) (rest := []) ⟨hx, hb, hml, hown, hts⟩ (c_X8_goes l dC dI cy nb h0 a1 (.ref a2) (.ref a3) (.ref a4) (.ref a5) (.int 0) (.int x6) (.ref a6) (.int 0) (.int 0) (.int 0) (.int 0) (.int 0) (.int 0) (.int 0) (.int 0) (.int (-1)) (.ref a7) (.ref a8) (.int 0) (.ref a9) (.ref b0) (.int 0) g18 0 H.size hf19) (cwV 2 hts (gV mw_1334 mw_1335 mw_1336 mw_5 mw_1337) rfl rfl rfl (by decide +kernel) ⟨Nat.le_of_ble_eq_true rfl, Nat.le_of_ble_eq_true rfl⟩) ⟨fun a U g mk q => by obtain ⟨q0, q1, qP, qK, qD, qE⟩ := q; exact ⟨q0, q1, qP, va_K.moved (u := U) (U := U.calling g mk a) (Vm.Alike.refl U.vm) qK, qD, GE.calling qE⟩, va_recv hK hP (ci := 8) (q0 := 0) rfl rfl, fun U hU hW => ⟨rfl, by rw [hU], by rw [hU]; exact hPc, va_K.moved hW.alike hK, hDc.weaken (fun _ _ _ _ => trivial), GE.call hE hS hFc hU hW⟩⟩ rfl rfl hl.1 rfl (lv_room (Nat.le_of_ble_eq_true rfl)) dX8_bestOf_43 ⟨Nat.le_of_ble_eq_true rfl, Nat.le_of_ble_eq_true rfl⟩) hS (fun q _ h => hFc q h) hFc (fun r u t H1 locs ht hvm hw20 hB hz1 hk1 hS => ?_)
  obtain ⟨hP1, hD1⟩ := hB
  rw [ht] at hP1
  obtain ⟨hP, hD⟩ := va_join (wr := [(a2, .inl (cy 1, 1037, .inl g1))]) (w1 := [(h0, .inr (8, [.ref a1, .ref a2, .ref a3, .ref a4, .ref a5, .int 0, .int x6, .ref a6, .int 0, .int 0, .int 0, .int 0, .int 0, .int 0, .int 0, .int 0, .int (-1), .ref a7, .ref a8, .int 0, .ref a9, .ref b0, .int 0])), (a1, .inl (cy 1, 1037, .inl g18))]) hP hD [0, 2] [1] rfl rfl (by decide) (by decide) hk1 hFc hP1 hD1
  generalize H1 = H at hP hS ⊢
  have hP : va_P (dC, dI) vwCl [(a2, .inl (cy 1, 1037, .inl g1)), (h0, .inr (8, [.ref a1, .ref a2, .ref a3, .ref a4, .ref a5, .int 0, .int x6, .ref a6, .int 0, .int 0, .int 0, .int 0, .int 0, .int 0, .int 0, .int 0, .int (-1), .ref a7, .ref a8, .int 0, .ref a9, .ref b0, .int 0])), (a1, .inl (cy 1, 1037, .inl g18))] H := hP
  have hD : va_D A [(a2, .inl (cy 1, 1037, .inl g1)), (h0, .inr (8, [.ref a1, .ref a2, .ref a3, .ref a4, .ref a5, .int 0, .int x6, .ref a6, .int 0, .int 0, .int 0, .int 0, .int 0, .int 0, .int 0, .int 0, .int (-1), .ref a7, .ref a8, .int 0, .ref a9, .ref b0, .int 0])), (a1, .inl (cy 1, 1037, .inl g18))] := hD
  obtain rfl := hw20
  refine W.widen (k := 0) (n := 0) (by omega) (by omega) ?_
  refine lv_istore (lv' := [(9, .int 0), (8, .int 3), (7, .int 0), (6, .int 1), (0, .ref h0), (1, .int 1), (2, .int 1), (3, .int 20), (4, .int 2), (5, .int (-1))]) hx hb dX8_bestOf_46 hl (by decide) rfl (fun ls hl => ?_)
  refine lv_iload hx hb dX8_bestOf_48 (lv_at hl 0 rfl) ?_
  refine lv_iconst (v := (-1)) hx hb dX8_bestOf_50 (by decide) ?_
  refine lv_icmp_eq (tgt := 69) hx hb dX8_bestOf_51 (by decide) (fun h => absurd h (by decide)) (fun _ => ?_)
  refine lv_iload hx hb dX8_bestOf_54 (lv_at hl 0 rfl) ?_
  refine lv_iload hx hb dX8_bestOf_56 (lv_at hl 2 rfl) ?_
  refine lv_icmp_ge (tgt := 69) hx hb dX8_bestOf_58 (by decide) (fun _ => ?_) (fun h => absurd (by decide) h)
  refine lv_aload_n hx hb dX8_bestOf_69 rfl (lv_at hl 4 rfl) ?_
  refine va_get (D := (dC, dI)) (ci := 8) (v := .ref a2) (C := RX8) (T := TX8) (N := 23) hx hb hts inlX8 hown hK hP 1 rfl rfl 1 (by decide) (hts _ mw_98) (fun _ h9 => h9) rfl dX8_bestOf_70 ?_
  refine lv_iconst (v := 0) hx hb dX8_bestOf_73 (by decide) ?_
  refine lv_aload_n hx hb dX8_bestOf_74 rfl (lv_at hl 4 rfl) ?_
  refine va_get (D := (dC, dI)) (ci := 8) (v := .ref a1) (C := RX8) (T := TX8) (N := 23) hx hb hts inlX8 hown hK hP 1 rfl rfl 0 (by decide) (hts _ mw_97) (fun _ h9 => h9) rfl dX8_bestOf_75 ?_
  refine lv_iconst (v := 0) hx hb dX8_bestOf_78 (by decide) ?_
  have hPc := hP.sub (ws' := [(a2, .inl (cy 1, 1037, .inl g1)), (a1, .inl (cy 1, 1037, .inl g18))]) [0, 2] rfl
  have hDc := hD.sub (ws' := [(a2, .inl (cy 1, 1037, .inl g1)), (a1, .inl (cy 1, 1037, .inl g18))]) [0, 2] (by decide) rfl
  have hFc := va_free (wc := [(a2, .inl (cy 1, 1037, .inl g1)), (a1, .inl (cy 1, 1037, .inl g18))]) hD hS hA [0, 2] rfl
  refine va_callv (va_runS (As := [.ref a2, .int 0, .ref a1, .int 0]) (rest := []) ⟨hx, hb, hml, hown, hts⟩ (c_X8_copies l dC dI cy nb a2 a1 0 0 1037 1037 g1 g18 H.size (by decide) (by decide) (by decide)) (va_cwS 4 hts (gS mw_423 mw_424 mw_5 mw_425) rfl rfl rfl (by decide +kernel) ⟨Nat.le_of_ble_eq_true rfl, Nat.le_of_ble_eq_true rfl⟩) ⟨fun a U g mk q => by obtain ⟨q0, q1, qP, qK, qD, qE⟩ := q; exact ⟨q0, q1, qP, va_K.moved (u := U) (U := U.calling g mk a) (Vm.Alike.refl U.vm) qK, qD, GE.calling qE⟩, fun U hU hW => ⟨rfl, by rw [hU], by rw [hU]; exact hPc, va_K.moved hW.alike hK, hDc.weaken (fun _ _ _ _ => trivial), GE.call hE hS hFc hU hW⟩⟩ rfl rfl hl.1 rfl (lv_room (Nat.le_of_ble_eq_true rfl)) dX8_bestOf_79 ⟨Nat.le_of_ble_eq_true rfl, Nat.le_of_ble_eq_true rfl⟩) hS (fun q _ h => hFc q h) hFc (fun u t H1 locs ht hvm hw23 hB hz1 hk1 hS => ?_)
  obtain ⟨g21, hg22, hP1, hD1⟩ := hB
  rw [ht] at hP1
  obtain ⟨hP, hD⟩ := va_join (wr := [(h0, .inr (8, [.ref a1, .ref a2, .ref a3, .ref a4, .ref a5, .int 0, .int x6, .ref a6, .int 0, .int 0, .int 0, .int 0, .int 0, .int 0, .int 0, .int 0, .int (-1), .ref a7, .ref a8, .int 0, .ref a9, .ref b0, .int 0]))]) (w1 := [(a2, .inl (cy 1, 1037, .inl g1)), (a1, .inl (cy 1, 1037, .inl g21))]) hP hD [0, 2] [1] rfl rfl (by decide) (by decide) hk1 hFc hP1 hD1
  generalize H1 = H at hP hS ⊢
  have hP : va_P (dC, dI) vwCl [(h0, .inr (8, [.ref a1, .ref a2, .ref a3, .ref a4, .ref a5, .int 0, .int x6, .ref a6, .int 0, .int 0, .int 0, .int 0, .int 0, .int 0, .int 0, .int 0, .int (-1), .ref a7, .ref a8, .int 0, .ref a9, .ref b0, .int 0])), (a2, .inl (cy 1, 1037, .inl g1)), (a1, .inl (cy 1, 1037, .inl g21))] H := hP
  have hD : va_D A [(h0, .inr (8, [.ref a1, .ref a2, .ref a3, .ref a4, .ref a5, .int 0, .int x6, .ref a6, .int 0, .int 0, .int 0, .int 0, .int 0, .int 0, .int 0, .int 0, .int (-1), .ref a7, .ref a8, .int 0, .ref a9, .ref b0, .int 0])), (a2, .inl (cy 1, 1037, .inl g1)), (a1, .inl (cy 1, 1037, .inl g21))] := hD
  refine W.widen (k := 0) (n := 0) (by omega) (by omega) ?_
  have hz24 : FT 0 g21 := FT_cp hg22 hfa
  refine lv_iinc (v := 4) (lv' := [(8, .int 4), (9, .int 0), (7, .int 0), (6, .int 1), (0, .ref h0), (1, .int 1), (2, .int 1), (3, .int 20), (4, .int 2), (5, .int (-1))]) hx hb dX8_bestOf_82 hl (k := 1) rfl (by decide) (by decide) rfl (fun ls hl => ?_)
  refine lv_goto (tgt := 24) hx hb dX8_bestOf_85 (by decide) ?_
  refine lv_iload hx hb dX8_bestOf_24 (lv_at hl 0 rfl) ?_
  refine lv_iload_n hx hb dX8_bestOf_26 rfl (lv_at hl 7 rfl) ?_
  refine lv_icmp_gt (tgt := 88) hx hb dX8_bestOf_27 (by decide) (fun h => absurd h (by decide)) (fun _ => ?_)
  refine lv_aload_n hx hb dX8_bestOf_30 rfl (lv_at hl 4 rfl) ?_
  refine va_get (D := (dC, dI)) (ci := 8) (v := .ref a1) (C := RX8) (T := TX8) (N := 23) hx hb hts inlX8 hown hK hP 0 rfl rfl 0 (by decide) (hts _ mw_97) (fun _ h9 => h9) rfl dX8_bestOf_31 ?_
  refine lv_iload_n hx hb dX8_bestOf_34 rfl (lv_at hl 5 rfl) ?_
  refine lv_iload hx hb dX8_bestOf_35 (lv_at hl 0 rfl) ?_
  refine va_iast hx hb hK hP hD hS 2 1 rfl rfl (vp_in_nI (n := 1) (by decide) (by decide)) dX8_bestOf_37 (fun H locs hP hD hS => ?_)
  have hP : va_P (dC, dI) vwCl [(h0, .inr (8, [.ref a1, .ref a2, .ref a3, .ref a4, .ref a5, .int 0, .int x6, .ref a6, .int 0, .int 0, .int 0, .int 0, .int 0, .int 0, .int 0, .int 0, .int (-1), .ref a7, .ref a8, .int 0, .ref a9, .ref b0, .int 0])), (a2, .inl (cy 1, 1037, .inl g1)), (a1, .inl (cy 1, 1037, .inl (upd g21 ((1 : Int32).toNatClampNeg) 4)))] H := hP
  have hD : va_D A [(h0, .inr (8, [.ref a1, .ref a2, .ref a3, .ref a4, .ref a5, .int 0, .int x6, .ref a6, .int 0, .int 0, .int 0, .int 0, .int 0, .int 0, .int 0, .int 0, .int (-1), .ref a7, .ref a8, .int 0, .ref a9, .ref b0, .int 0])), (a2, .inl (cy 1, 1037, .inl g1)), (a1, .inl (cy 1, 1037, .inl (upd g21 ((1 : Int32).toNatClampNeg) 4)))] := hD
  have hf26 : FT 0 (upd g21 ((1 : Int32).toNatClampNeg) 4) := FT_up hz24 (Or.inr (by decide))
  generalize (upd g21 ((1 : Int32).toNatClampNeg) 4) = g25 at hP hD hf26
  refine lv_aload_n hx hb dX8_bestOf_38 rfl (lv_at hl 4 rfl) ?_
  refine lv_iload hx hb dX8_bestOf_39 (lv_at hl 8 rfl) ?_
  refine lv_iload hx hb dX8_bestOf_41 (lv_at hl 9 rfl) ?_
  have hPc := hP.sub (ws' := [(h0, .inr (8, [.ref a1, .ref a2, .ref a3, .ref a4, .ref a5, .int 0, .int x6, .ref a6, .int 0, .int 0, .int 0, .int 0, .int 0, .int 0, .int 0, .int 0, .int (-1), .ref a7, .ref a8, .int 0, .ref a9, .ref b0, .int 0])), (a1, .inl (cy 1, 1037, .inl g25))]) [0, 2] rfl
  have hDc := hD.sub (ws' := [(h0, .inr (8, [.ref a1, .ref a2, .ref a3, .ref a4, .ref a5, .int 0, .int x6, .ref a6, .int 0, .int 0, .int 0, .int 0, .int 0, .int 0, .int 0, .int 0, .int (-1), .ref a7, .ref a8, .int 0, .ref a9, .ref b0, .int 0])), (a1, .inl (cy 1, 1037, .inl g25))]) [0, 2] (by decide) rfl
  have hFc := va_free (wc := [(h0, .inr (8, [.ref a1, .ref a2, .ref a3, .ref a4, .ref a5, .int 0, .int x6, .ref a6, .int 0, .int 0, .int 0, .int 0, .int 0, .int 0, .int 0, .int 0, .int (-1), .ref a7, .ref a8, .int 0, .ref a9, .ref b0, .int 0])), (a1, .inl (cy 1, 1037, .inl g25))]) hD hS hA [0, 2] rfl
  refine va_calli (va_runV (As := [.int 2, .int (-1)]) (rest := []) ⟨hx, hb, hml, hown, hts⟩ (c_X8_goes l dC dI cy nb h0 a1 (.ref a2) (.ref a3) (.ref a4) (.ref a5) (.int 0) (.int x6) (.ref a6) (.int 0) (.int 0) (.int 0) (.int 0) (.int 0) (.int 0) (.int 0) (.int 0) (.int (-1)) (.ref a7) (.ref a8) (.int 0) (.ref a9) (.ref b0) (.int 0) g25 0 H.size hf26) (cwV 2 hts (gV mw_1334 mw_1335 mw_1336 mw_5 mw_1337) rfl rfl rfl (by decide +kernel) ⟨Nat.le_of_ble_eq_true rfl, Nat.le_of_ble_eq_true rfl⟩) ⟨fun a U g mk q => by obtain ⟨q0, q1, qP, qK, qD, qE⟩ := q; exact ⟨q0, q1, qP, va_K.moved (u := U) (U := U.calling g mk a) (Vm.Alike.refl U.vm) qK, qD, GE.calling qE⟩, va_recv hK hP (ci := 8) (q0 := 0) rfl rfl, fun U hU hW => ⟨rfl, by rw [hU], by rw [hU]; exact hPc, va_K.moved hW.alike hK, hDc.weaken (fun _ _ _ _ => trivial), GE.call hE hS hFc hU hW⟩⟩ rfl rfl hl.1 rfl (lv_room (Nat.le_of_ble_eq_true rfl)) dX8_bestOf_43 ⟨Nat.le_of_ble_eq_true rfl, Nat.le_of_ble_eq_true rfl⟩) hS (fun q _ h => hFc q h) hFc (fun r u t H1 locs ht hvm hw27 hB hz1 hk1 hS => ?_)
  obtain ⟨hP1, hD1⟩ := hB
  rw [ht] at hP1
  obtain ⟨hP, hD⟩ := va_join (wr := [(a2, .inl (cy 1, 1037, .inl g1))]) (w1 := [(h0, .inr (8, [.ref a1, .ref a2, .ref a3, .ref a4, .ref a5, .int 0, .int x6, .ref a6, .int 0, .int 0, .int 0, .int 0, .int 0, .int 0, .int 0, .int 0, .int (-1), .ref a7, .ref a8, .int 0, .ref a9, .ref b0, .int 0])), (a1, .inl (cy 1, 1037, .inl g25))]) hP hD [0, 2] [1] rfl rfl (by decide) (by decide) hk1 hFc hP1 hD1
  generalize H1 = H at hP hS ⊢
  have hP : va_P (dC, dI) vwCl [(a2, .inl (cy 1, 1037, .inl g1)), (h0, .inr (8, [.ref a1, .ref a2, .ref a3, .ref a4, .ref a5, .int 0, .int x6, .ref a6, .int 0, .int 0, .int 0, .int 0, .int 0, .int 0, .int 0, .int 0, .int (-1), .ref a7, .ref a8, .int 0, .ref a9, .ref b0, .int 0])), (a1, .inl (cy 1, 1037, .inl g25))] H := hP
  have hD : va_D A [(a2, .inl (cy 1, 1037, .inl g1)), (h0, .inr (8, [.ref a1, .ref a2, .ref a3, .ref a4, .ref a5, .int 0, .int x6, .ref a6, .int 0, .int 0, .int 0, .int 0, .int 0, .int 0, .int 0, .int 0, .int (-1), .ref a7, .ref a8, .int 0, .ref a9, .ref b0, .int 0])), (a1, .inl (cy 1, 1037, .inl g25))] := hD
  obtain rfl := hw27
  refine W.widen (k := 0) (n := 0) (by omega) (by omega) ?_
  refine lv_istore (lv' := [(9, .int 0), (8, .int 4), (7, .int 0), (6, .int 1), (0, .ref h0), (1, .int 1), (2, .int 1), (3, .int 20), (4, .int 2), (5, .int (-1))]) hx hb dX8_bestOf_46 hl (by decide) rfl (fun ls hl => ?_)
  refine lv_iload hx hb dX8_bestOf_48 (lv_at hl 0 rfl) ?_
  refine lv_iconst (v := (-1)) hx hb dX8_bestOf_50 (by decide) ?_
  refine lv_icmp_eq (tgt := 69) hx hb dX8_bestOf_51 (by decide) (fun h => absurd h (by decide)) (fun _ => ?_)
  refine lv_iload hx hb dX8_bestOf_54 (lv_at hl 0 rfl) ?_
  refine lv_iload hx hb dX8_bestOf_56 (lv_at hl 2 rfl) ?_
  refine lv_icmp_ge (tgt := 69) hx hb dX8_bestOf_58 (by decide) (fun _ => ?_) (fun h => absurd (by decide) h)
  refine lv_aload_n hx hb dX8_bestOf_69 rfl (lv_at hl 4 rfl) ?_
  refine va_get (D := (dC, dI)) (ci := 8) (v := .ref a2) (C := RX8) (T := TX8) (N := 23) hx hb hts inlX8 hown hK hP 1 rfl rfl 1 (by decide) (hts _ mw_98) (fun _ h9 => h9) rfl dX8_bestOf_70 ?_
  refine lv_iconst (v := 0) hx hb dX8_bestOf_73 (by decide) ?_
  refine lv_aload_n hx hb dX8_bestOf_74 rfl (lv_at hl 4 rfl) ?_
  refine va_get (D := (dC, dI)) (ci := 8) (v := .ref a1) (C := RX8) (T := TX8) (N := 23) hx hb hts inlX8 hown hK hP 1 rfl rfl 0 (by decide) (hts _ mw_97) (fun _ h9 => h9) rfl dX8_bestOf_75 ?_
  refine lv_iconst (v := 0) hx hb dX8_bestOf_78 (by decide) ?_
  have hPc := hP.sub (ws' := [(a2, .inl (cy 1, 1037, .inl g1)), (a1, .inl (cy 1, 1037, .inl g25))]) [0, 2] rfl
  have hDc := hD.sub (ws' := [(a2, .inl (cy 1, 1037, .inl g1)), (a1, .inl (cy 1, 1037, .inl g25))]) [0, 2] (by decide) rfl
  have hFc := va_free (wc := [(a2, .inl (cy 1, 1037, .inl g1)), (a1, .inl (cy 1, 1037, .inl g25))]) hD hS hA [0, 2] rfl
  refine va_callv (va_runS (As := [.ref a2, .int 0, .ref a1, .int 0]) (rest := []) ⟨hx, hb, hml, hown, hts⟩ (c_X8_copies l dC dI cy nb a2 a1 0 0 1037 1037 g1 g25 H.size (by decide) (by decide) (by decide)) (va_cwS 4 hts (gS mw_423 mw_424 mw_5 mw_425) rfl rfl rfl (by decide +kernel) ⟨Nat.le_of_ble_eq_true rfl, Nat.le_of_ble_eq_true rfl⟩) ⟨fun a U g mk q => by obtain ⟨q0, q1, qP, qK, qD, qE⟩ := q; exact ⟨q0, q1, qP, va_K.moved (u := U) (U := U.calling g mk a) (Vm.Alike.refl U.vm) qK, qD, GE.calling qE⟩, fun U hU hW => ⟨rfl, by rw [hU], by rw [hU]; exact hPc, va_K.moved hW.alike hK, hDc.weaken (fun _ _ _ _ => trivial), GE.call hE hS hFc hU hW⟩⟩ rfl rfl hl.1 rfl (lv_room (Nat.le_of_ble_eq_true rfl)) dX8_bestOf_79 ⟨Nat.le_of_ble_eq_true rfl, Nat.le_of_ble_eq_true rfl⟩) hS (fun q _ h => hFc q h) hFc (fun u t H1 locs ht hvm hw30 hB hz1 hk1 hS => ?_)
  obtain ⟨g28, hg29, hP1, hD1⟩ := hB
  rw [ht] at hP1
  obtain ⟨hP, hD⟩ := va_join (wr := [(h0, .inr (8, [.ref a1, .ref a2, .ref a3, .ref a4, .ref a5, .int 0, .int x6, .ref a6, .int 0, .int 0, .int 0, .int 0, .int 0, .int 0, .int 0, .int 0, .int (-1), .ref a7, .ref a8, .int 0, .ref a9, .ref b0, .int 0]))]) (w1 := [(a2, .inl (cy 1, 1037, .inl g1)), (a1, .inl (cy 1, 1037, .inl g28))]) hP hD [0, 2] [1] rfl rfl (by decide) (by decide) hk1 hFc hP1 hD1
  generalize H1 = H at hP hS ⊢
  have hP : va_P (dC, dI) vwCl [(h0, .inr (8, [.ref a1, .ref a2, .ref a3, .ref a4, .ref a5, .int 0, .int x6, .ref a6, .int 0, .int 0, .int 0, .int 0, .int 0, .int 0, .int 0, .int 0, .int (-1), .ref a7, .ref a8, .int 0, .ref a9, .ref b0, .int 0])), (a2, .inl (cy 1, 1037, .inl g1)), (a1, .inl (cy 1, 1037, .inl g28))] H := hP
  have hD : va_D A [(h0, .inr (8, [.ref a1, .ref a2, .ref a3, .ref a4, .ref a5, .int 0, .int x6, .ref a6, .int 0, .int 0, .int 0, .int 0, .int 0, .int 0, .int 0, .int 0, .int (-1), .ref a7, .ref a8, .int 0, .ref a9, .ref b0, .int 0])), (a2, .inl (cy 1, 1037, .inl g1)), (a1, .inl (cy 1, 1037, .inl g28))] := hD
  refine W.widen (k := 0) (n := 0) (by omega) (by omega) ?_
  have hz31 : FT 0 g28 := FT_cp hg29 hfa
  refine lv_iinc (v := 5) (lv' := [(8, .int 5), (9, .int 0), (7, .int 0), (6, .int 1), (0, .ref h0), (1, .int 1), (2, .int 1), (3, .int 20), (4, .int 2), (5, .int (-1))]) hx hb dX8_bestOf_82 hl (k := 1) rfl (by decide) (by decide) rfl (fun ls hl => ?_)
  refine lv_goto (tgt := 24) hx hb dX8_bestOf_85 (by decide) ?_
  refine lv_iload hx hb dX8_bestOf_24 (lv_at hl 0 rfl) ?_
  refine lv_iload_n hx hb dX8_bestOf_26 rfl (lv_at hl 7 rfl) ?_
  refine lv_icmp_gt (tgt := 88) hx hb dX8_bestOf_27 (by decide) (fun h => absurd h (by decide)) (fun _ => ?_)
  refine lv_aload_n hx hb dX8_bestOf_30 rfl (lv_at hl 4 rfl) ?_
  refine va_get (D := (dC, dI)) (ci := 8) (v := .ref a1) (C := RX8) (T := TX8) (N := 23) hx hb hts inlX8 hown hK hP 0 rfl rfl 0 (by decide) (hts _ mw_97) (fun _ h9 => h9) rfl dX8_bestOf_31 ?_
  refine lv_iload_n hx hb dX8_bestOf_34 rfl (lv_at hl 5 rfl) ?_
  refine lv_iload hx hb dX8_bestOf_35 (lv_at hl 0 rfl) ?_
  refine va_iast hx hb hK hP hD hS 2 1 rfl rfl (vp_in_nI (n := 1) (by decide) (by decide)) dX8_bestOf_37 (fun H locs hP hD hS => ?_)
  have hP : va_P (dC, dI) vwCl [(h0, .inr (8, [.ref a1, .ref a2, .ref a3, .ref a4, .ref a5, .int 0, .int x6, .ref a6, .int 0, .int 0, .int 0, .int 0, .int 0, .int 0, .int 0, .int 0, .int (-1), .ref a7, .ref a8, .int 0, .ref a9, .ref b0, .int 0])), (a2, .inl (cy 1, 1037, .inl g1)), (a1, .inl (cy 1, 1037, .inl (upd g28 ((1 : Int32).toNatClampNeg) 5)))] H := hP
  have hD : va_D A [(h0, .inr (8, [.ref a1, .ref a2, .ref a3, .ref a4, .ref a5, .int 0, .int x6, .ref a6, .int 0, .int 0, .int 0, .int 0, .int 0, .int 0, .int 0, .int 0, .int (-1), .ref a7, .ref a8, .int 0, .ref a9, .ref b0, .int 0])), (a2, .inl (cy 1, 1037, .inl g1)), (a1, .inl (cy 1, 1037, .inl (upd g28 ((1 : Int32).toNatClampNeg) 5)))] := hD
  have hf33 : FT 0 (upd g28 ((1 : Int32).toNatClampNeg) 5) := FT_up hz31 (Or.inr (by decide))
  generalize (upd g28 ((1 : Int32).toNatClampNeg) 5) = g32 at hP hD hf33
  refine lv_aload_n hx hb dX8_bestOf_38 rfl (lv_at hl 4 rfl) ?_
  refine lv_iload hx hb dX8_bestOf_39 (lv_at hl 8 rfl) ?_
  refine lv_iload hx hb dX8_bestOf_41 (lv_at hl 9 rfl) ?_
  have hPc := hP.sub (ws' := [(h0, .inr (8, [.ref a1, .ref a2, .ref a3, .ref a4, .ref a5, .int 0, .int x6, .ref a6, .int 0, .int 0, .int 0, .int 0, .int 0, .int 0, .int 0, .int 0, .int (-1), .ref a7, .ref a8, .int 0, .ref a9, .ref b0, .int 0])), (a1, .inl (cy 1, 1037, .inl g32))]) [0, 2] rfl
  have hDc := hD.sub (ws' := [(h0, .inr (8, [.ref a1, .ref a2, .ref a3, .ref a4, .ref a5, .int 0, .int x6, .ref a6, .int 0, .int 0, .int 0, .int 0, .int 0, .int 0, .int 0, .int 0, .int (-1), .ref a7, .ref a8, .int 0, .ref a9, .ref b0, .int 0])), (a1, .inl (cy 1, 1037, .inl g32))]) [0, 2] (by decide) rfl
  have hFc := va_free (wc := [(h0, .inr (8, [.ref a1, .ref a2, .ref a3, .ref a4, .ref a5, .int 0, .int x6, .ref a6, .int 0, .int 0, .int 0, .int 0, .int 0, .int 0, .int 0, .int 0, .int (-1), .ref a7, .ref a8, .int 0, .ref a9, .ref b0, .int 0])), (a1, .inl (cy 1, 1037, .inl g32))]) hD hS hA [0, 2] rfl
  refine va_calli (va_runV (As := [.int 2, .int (-1)]) (rest := []) ⟨hx, hb, hml, hown, hts⟩ (c_X8_goes l dC dI cy nb h0 a1 (.ref a2) (.ref a3) (.ref a4) (.ref a5) (.int 0) (.int x6) (.ref a6) (.int 0) (.int 0) (.int 0) (.int 0) (.int 0) (.int 0) (.int 0) (.int 0) (.int (-1)) (.ref a7) (.ref a8) (.int 0) (.ref a9) (.ref b0) (.int 0) g32 0 H.size hf33) (cwV 2 hts (gV mw_1334 mw_1335 mw_1336 mw_5 mw_1337) rfl rfl rfl (by decide +kernel) ⟨Nat.le_of_ble_eq_true rfl, Nat.le_of_ble_eq_true rfl⟩) ⟨fun a U g mk q => by obtain ⟨q0, q1, qP, qK, qD, qE⟩ := q; exact ⟨q0, q1, qP, va_K.moved (u := U) (U := U.calling g mk a) (Vm.Alike.refl U.vm) qK, qD, GE.calling qE⟩, va_recv hK hP (ci := 8) (q0 := 0) rfl rfl, fun U hU hW => ⟨rfl, by rw [hU], by rw [hU]; exact hPc, va_K.moved hW.alike hK, hDc.weaken (fun _ _ _ _ => trivial), GE.call hE hS hFc hU hW⟩⟩ rfl rfl hl.1 rfl (lv_room (Nat.le_of_ble_eq_true rfl)) dX8_bestOf_43 ⟨Nat.le_of_ble_eq_true rfl, Nat.le_of_ble_eq_true rfl⟩) hS (fun q _ h => hFc q h) hFc (fun r u t H1 locs ht hvm hw34 hB hz1 hk1 hS => ?_)
  obtain ⟨hP1, hD1⟩ := hB
  rw [ht] at hP1
  obtain ⟨hP, hD⟩ := va_join (wr := [(a2, .inl (cy 1, 1037, .inl g1))]) (w1 := [(h0, .inr (8, [.ref a1, .ref a2, .ref a3, .ref a4, .ref a5, .int 0, .int x6, .ref a6, .int 0, .int 0, .int 0, .int 0, .int 0, .int 0, .int 0, .int 0, .int (-1), .ref a7, .ref a8, .int 0, .ref a9, .ref b0, .int 0])), (a1, .inl (cy 1, 1037, .inl g32))]) hP hD [0, 2] [1] rfl rfl (by decide) (by decide) hk1 hFc hP1 hD1
  generalize H1 = H at hP hS ⊢
  have hP : va_P (dC, dI) vwCl [(a2, .inl (cy 1, 1037, .inl g1)), (h0, .inr (8, [.ref a1, .ref a2, .ref a3, .ref a4, .ref a5, .int 0, .int x6, .ref a6, .int 0, .int 0, .int 0, .int 0, .int 0, .int 0, .int 0, .int 0, .int (-1), .ref a7, .ref a8, .int 0, .ref a9, .ref b0, .int 0])), (a1, .inl (cy 1, 1037, .inl g32))] H := hP
  have hD : va_D A [(a2, .inl (cy 1, 1037, .inl g1)), (h0, .inr (8, [.ref a1, .ref a2, .ref a3, .ref a4, .ref a5, .int 0, .int x6, .ref a6, .int 0, .int 0, .int 0, .int 0, .int 0, .int 0, .int 0, .int 0, .int (-1), .ref a7, .ref a8, .int 0, .ref a9, .ref b0, .int 0])), (a1, .inl (cy 1, 1037, .inl g32))] := hD
  obtain rfl := hw34
  refine W.widen (k := 0) (n := 0) (by omega) (by omega) ?_
  refine lv_istore (lv' := [(9, .int 0), (8, .int 5), (7, .int 0), (6, .int 1), (0, .ref h0), (1, .int 1), (2, .int 1), (3, .int 20), (4, .int 2), (5, .int (-1))]) hx hb dX8_bestOf_46 hl (by decide) rfl (fun ls hl => ?_)
  refine lv_iload hx hb dX8_bestOf_48 (lv_at hl 0 rfl) ?_
  refine lv_iconst (v := (-1)) hx hb dX8_bestOf_50 (by decide) ?_
  refine lv_icmp_eq (tgt := 69) hx hb dX8_bestOf_51 (by decide) (fun h => absurd h (by decide)) (fun _ => ?_)
  refine lv_iload hx hb dX8_bestOf_54 (lv_at hl 0 rfl) ?_
  refine lv_iload hx hb dX8_bestOf_56 (lv_at hl 2 rfl) ?_
  refine lv_icmp_ge (tgt := 69) hx hb dX8_bestOf_58 (by decide) (fun _ => ?_) (fun h => absurd (by decide) h)
  refine lv_aload_n hx hb dX8_bestOf_69 rfl (lv_at hl 4 rfl) ?_
  refine va_get (D := (dC, dI)) (ci := 8) (v := .ref a2) (C := RX8) (T := TX8) (N := 23) hx hb hts inlX8 hown hK hP 1 rfl rfl 1 (by decide) (hts _ mw_98) (fun _ h9 => h9) rfl dX8_bestOf_70 ?_
  refine lv_iconst (v := 0) hx hb dX8_bestOf_73 (by decide) ?_
  refine lv_aload_n hx hb dX8_bestOf_74 rfl (lv_at hl 4 rfl) ?_
  refine va_get (D := (dC, dI)) (ci := 8) (v := .ref a1) (C := RX8) (T := TX8) (N := 23) hx hb hts inlX8 hown hK hP 1 rfl rfl 0 (by decide) (hts _ mw_97) (fun _ h9 => h9) rfl dX8_bestOf_75 ?_
  refine lv_iconst (v := 0) hx hb dX8_bestOf_78 (by decide) ?_
  have hPc := hP.sub (ws' := [(a2, .inl (cy 1, 1037, .inl g1)), (a1, .inl (cy 1, 1037, .inl g32))]) [0, 2] rfl
  have hDc := hD.sub (ws' := [(a2, .inl (cy 1, 1037, .inl g1)), (a1, .inl (cy 1, 1037, .inl g32))]) [0, 2] (by decide) rfl
  have hFc := va_free (wc := [(a2, .inl (cy 1, 1037, .inl g1)), (a1, .inl (cy 1, 1037, .inl g32))]) hD hS hA [0, 2] rfl
  refine va_callv (va_runS (As := [.ref a2, .int 0, .ref a1, .int 0]) (rest := []) ⟨hx, hb, hml, hown, hts⟩ (c_X8_copies l dC dI cy nb a2 a1 0 0 1037 1037 g1 g32 H.size (by decide) (by decide) (by decide)) (va_cwS 4 hts (gS mw_423 mw_424 mw_5 mw_425) rfl rfl rfl (by decide +kernel) ⟨Nat.le_of_ble_eq_true rfl, Nat.le_of_ble_eq_true rfl⟩) ⟨fun a U g mk q => by obtain ⟨q0, q1, qP, qK, qD, qE⟩ := q; exact ⟨q0, q1, qP, va_K.moved (u := U) (U := U.calling g mk a) (Vm.Alike.refl U.vm) qK, qD, GE.calling qE⟩, fun U hU hW => ⟨rfl, by rw [hU], by rw [hU]; exact hPc, va_K.moved hW.alike hK, hDc.weaken (fun _ _ _ _ => trivial), GE.call hE hS hFc hU hW⟩⟩ rfl rfl hl.1 rfl (lv_room (Nat.le_of_ble_eq_true rfl)) dX8_bestOf_79 ⟨Nat.le_of_ble_eq_true rfl, Nat.le_of_ble_eq_true rfl⟩) hS (fun q _ h => hFc q h) hFc (fun u t H1 locs ht hvm hw37 hB hz1 hk1 hS => ?_)
  obtain ⟨g35, hg36, hP1, hD1⟩ := hB
  rw [ht] at hP1
  obtain ⟨hP, hD⟩ := va_join (wr := [(h0, .inr (8, [.ref a1, .ref a2, .ref a3, .ref a4, .ref a5, .int 0, .int x6, .ref a6, .int 0, .int 0, .int 0, .int 0, .int 0, .int 0, .int 0, .int 0, .int (-1), .ref a7, .ref a8, .int 0, .ref a9, .ref b0, .int 0]))]) (w1 := [(a2, .inl (cy 1, 1037, .inl g1)), (a1, .inl (cy 1, 1037, .inl g35))]) hP hD [0, 2] [1] rfl rfl (by decide) (by decide) hk1 hFc hP1 hD1
  generalize H1 = H at hP hS ⊢
  have hP : va_P (dC, dI) vwCl [(h0, .inr (8, [.ref a1, .ref a2, .ref a3, .ref a4, .ref a5, .int 0, .int x6, .ref a6, .int 0, .int 0, .int 0, .int 0, .int 0, .int 0, .int 0, .int 0, .int (-1), .ref a7, .ref a8, .int 0, .ref a9, .ref b0, .int 0])), (a2, .inl (cy 1, 1037, .inl g1)), (a1, .inl (cy 1, 1037, .inl g35))] H := hP
  have hD : va_D A [(h0, .inr (8, [.ref a1, .ref a2, .ref a3, .ref a4, .ref a5, .int 0, .int x6, .ref a6, .int 0, .int 0, .int 0, .int 0, .int 0, .int 0, .int 0, .int 0, .int (-1), .ref a7, .ref a8, .int 0, .ref a9, .ref b0, .int 0])), (a2, .inl (cy 1, 1037, .inl g1)), (a1, .inl (cy 1, 1037, .inl g35))] := hD
  refine W.widen (k := 0) (n := 0) (by omega) (by omega) ?_
  have hz38 : FT 0 g35 := FT_cp hg36 hfa
  refine lv_iinc (v := 6) (lv' := [(8, .int 6), (9, .int 0), (7, .int 0), (6, .int 1), (0, .ref h0), (1, .int 1), (2, .int 1), (3, .int 20), (4, .int 2), (5, .int (-1))]) hx hb dX8_bestOf_82 hl (k := 1) rfl (by decide) (by decide) rfl (fun ls hl => ?_)
  refine lv_goto (tgt := 24) hx hb dX8_bestOf_85 (by decide) ?_
  refine lv_iload hx hb dX8_bestOf_24 (lv_at hl 0 rfl) ?_
  refine lv_iload_n hx hb dX8_bestOf_26 rfl (lv_at hl 7 rfl) ?_
  refine lv_icmp_gt (tgt := 88) hx hb dX8_bestOf_27 (by decide) (fun h => absurd h (by decide)) (fun _ => ?_)
  refine lv_aload_n hx hb dX8_bestOf_30 rfl (lv_at hl 4 rfl) ?_
  refine va_get (D := (dC, dI)) (ci := 8) (v := .ref a1) (C := RX8) (T := TX8) (N := 23) hx hb hts inlX8 hown hK hP 0 rfl rfl 0 (by decide) (hts _ mw_97) (fun _ h9 => h9) rfl dX8_bestOf_31 ?_
  refine lv_iload_n hx hb dX8_bestOf_34 rfl (lv_at hl 5 rfl) ?_
  refine lv_iload hx hb dX8_bestOf_35 (lv_at hl 0 rfl) ?_
  refine va_iast hx hb hK hP hD hS 2 1 rfl rfl (vp_in_nI (n := 1) (by decide) (by decide)) dX8_bestOf_37 (fun H locs hP hD hS => ?_)
  have hP : va_P (dC, dI) vwCl [(h0, .inr (8, [.ref a1, .ref a2, .ref a3, .ref a4, .ref a5, .int 0, .int x6, .ref a6, .int 0, .int 0, .int 0, .int 0, .int 0, .int 0, .int 0, .int 0, .int (-1), .ref a7, .ref a8, .int 0, .ref a9, .ref b0, .int 0])), (a2, .inl (cy 1, 1037, .inl g1)), (a1, .inl (cy 1, 1037, .inl (upd g35 ((1 : Int32).toNatClampNeg) 6)))] H := hP
  have hD : va_D A [(h0, .inr (8, [.ref a1, .ref a2, .ref a3, .ref a4, .ref a5, .int 0, .int x6, .ref a6, .int 0, .int 0, .int 0, .int 0, .int 0, .int 0, .int 0, .int 0, .int (-1), .ref a7, .ref a8, .int 0, .ref a9, .ref b0, .int 0])), (a2, .inl (cy 1, 1037, .inl g1)), (a1, .inl (cy 1, 1037, .inl (upd g35 ((1 : Int32).toNatClampNeg) 6)))] := hD
  have hf40 : FT 0 (upd g35 ((1 : Int32).toNatClampNeg) 6) := FT_up hz38 (Or.inr (by decide))
  generalize (upd g35 ((1 : Int32).toNatClampNeg) 6) = g39 at hP hD hf40
  refine lv_aload_n hx hb dX8_bestOf_38 rfl (lv_at hl 4 rfl) ?_
  refine lv_iload hx hb dX8_bestOf_39 (lv_at hl 8 rfl) ?_
  refine lv_iload hx hb dX8_bestOf_41 (lv_at hl 9 rfl) ?_
  have hPc := hP.sub (ws' := [(h0, .inr (8, [.ref a1, .ref a2, .ref a3, .ref a4, .ref a5, .int 0, .int x6, .ref a6, .int 0, .int 0, .int 0, .int 0, .int 0, .int 0, .int 0, .int 0, .int (-1), .ref a7, .ref a8, .int 0, .ref a9, .ref b0, .int 0])), (a1, .inl (cy 1, 1037, .inl g39))]) [0, 2] rfl
  have hDc := hD.sub (ws' := [(h0, .inr (8, [.ref a1, .ref a2, .ref a3, .ref a4, .ref a5, .int 0, .int x6, .ref a6, .int 0, .int 0, .int 0, .int 0, .int 0, .int 0, .int 0, .int 0, .int (-1), .ref a7, .ref a8, .int 0, .ref a9, .ref b0, .int 0])), (a1, .inl (cy 1, 1037, .inl g39))]) [0, 2] (by decide) rfl
  have hFc := va_free (wc := [(h0, .inr (8, [.ref a1, .ref a2, .ref a3, .ref a4, .ref a5, .int 0, .int x6, .ref a6, .int 0, .int 0, .int 0, .int 0, .int 0, .int 0, .int 0, .int 0, .int (-1), .ref a7, .ref a8, .int 0, .ref a9, .ref b0, .int 0])), (a1, .inl (cy 1, 1037, .inl g39))]) hD hS hA [0, 2] rfl
  refine va_calli (va_runV (As := [.int 2, .int (-1)]) (rest := []) ⟨hx, hb, hml, hown, hts⟩ (c_X8_goes l dC dI cy nb h0 a1 (.ref a2) (.ref a3) (.ref a4) (.ref a5) (.int 0) (.int x6) (.ref a6) (.int 0) (.int 0) (.int 0) (.int 0) (.int 0) (.int 0) (.int 0) (.int 0) (.int (-1)) (.ref a7) (.ref a8) (.int 0) (.ref a9) (.ref b0) (.int 0) g39 0 H.size hf40) (cwV 2 hts (gV mw_1334 mw_1335 mw_1336 mw_5 mw_1337) rfl rfl rfl (by decide +kernel) ⟨Nat.le_of_ble_eq_true rfl, Nat.le_of_ble_eq_true rfl⟩) ⟨fun a U g mk q => by obtain ⟨q0, q1, qP, qK, qD, qE⟩ := q; exact ⟨q0, q1, qP, va_K.moved (u := U) (U := U.calling g mk a) (Vm.Alike.refl U.vm) qK, qD, GE.calling qE⟩, va_recv hK hP (ci := 8) (q0 := 0) rfl rfl, fun U hU hW => ⟨rfl, by rw [hU], by rw [hU]; exact hPc, va_K.moved hW.alike hK, hDc.weaken (fun _ _ _ _ => trivial), GE.call hE hS hFc hU hW⟩⟩ rfl rfl hl.1 rfl (lv_room (Nat.le_of_ble_eq_true rfl)) dX8_bestOf_43 ⟨Nat.le_of_ble_eq_true rfl, Nat.le_of_ble_eq_true rfl⟩) hS (fun q _ h => hFc q h) hFc (fun r u t H1 locs ht hvm hw41 hB hz1 hk1 hS => ?_)
  obtain ⟨hP1, hD1⟩ := hB
  rw [ht] at hP1
  obtain ⟨hP, hD⟩ := va_join (wr := [(a2, .inl (cy 1, 1037, .inl g1))]) (w1 := [(h0, .inr (8, [.ref a1, .ref a2, .ref a3, .ref a4, .ref a5, .int 0, .int x6, .ref a6, .int 0, .int 0, .int 0, .int 0, .int 0, .int 0, .int 0, .int 0, .int (-1), .ref a7, .ref a8, .int 0, .ref a9, .ref b0, .int 0])), (a1, .inl (cy 1, 1037, .inl g39))]) hP hD [0, 2] [1] rfl rfl (by decide) (by decide) hk1 hFc hP1 hD1
  generalize H1 = H at hP hS ⊢
  have hP : va_P (dC, dI) vwCl [(a2, .inl (cy 1, 1037, .inl g1)), (h0, .inr (8, [.ref a1, .ref a2, .ref a3, .ref a4, .ref a5, .int 0, .int x6, .ref a6, .int 0, .int 0, .int 0, .int 0, .int 0, .int 0, .int 0, .int 0, .int (-1), .ref a7, .ref a8, .int 0, .ref a9, .ref b0, .int 0])), (a1, .inl (cy 1, 1037, .inl g39))] H := hP
  have hD : va_D A [(a2, .inl (cy 1, 1037, .inl g1)), (h0, .inr (8, [.ref a1, .ref a2, .ref a3, .ref a4, .ref a5, .int 0, .int x6, .ref a6, .int 0, .int 0, .int 0, .int 0, .int 0, .int 0, .int 0, .int 0, .int (-1), .ref a7, .ref a8, .int 0, .ref a9, .ref b0, .int 0])), (a1, .inl (cy 1, 1037, .inl g39))] := hD
  obtain rfl := hw41
  refine W.widen (k := 0) (n := 0) (by omega) (by omega) ?_
  refine lv_istore (lv' := [(9, .int 0), (8, .int 6), (7, .int 0), (6, .int 1), (0, .ref h0), (1, .int 1), (2, .int 1), (3, .int 20), (4, .int 2), (5, .int (-1))]) hx hb dX8_bestOf_46 hl (by decide) rfl (fun ls hl => ?_)
  refine lv_iload hx hb dX8_bestOf_48 (lv_at hl 0 rfl) ?_
  refine lv_iconst (v := (-1)) hx hb dX8_bestOf_50 (by decide) ?_
  refine lv_icmp_eq (tgt := 69) hx hb dX8_bestOf_51 (by decide) (fun h => absurd h (by decide)) (fun _ => ?_)
  refine lv_iload hx hb dX8_bestOf_54 (lv_at hl 0 rfl) ?_
  refine lv_iload hx hb dX8_bestOf_56 (lv_at hl 2 rfl) ?_
  refine lv_icmp_ge (tgt := 69) hx hb dX8_bestOf_58 (by decide) (fun _ => ?_) (fun h => absurd (by decide) h)
  refine lv_aload_n hx hb dX8_bestOf_69 rfl (lv_at hl 4 rfl) ?_
  refine va_get (D := (dC, dI)) (ci := 8) (v := .ref a2) (C := RX8) (T := TX8) (N := 23) hx hb hts inlX8 hown hK hP 1 rfl rfl 1 (by decide) (hts _ mw_98) (fun _ h9 => h9) rfl dX8_bestOf_70 ?_
  refine lv_iconst (v := 0) hx hb dX8_bestOf_73 (by decide) ?_
  refine lv_aload_n hx hb dX8_bestOf_74 rfl (lv_at hl 4 rfl) ?_
  refine va_get (D := (dC, dI)) (ci := 8) (v := .ref a1) (C := RX8) (T := TX8) (N := 23) hx hb hts inlX8 hown hK hP 1 rfl rfl 0 (by decide) (hts _ mw_97) (fun _ h9 => h9) rfl dX8_bestOf_75 ?_
  refine lv_iconst (v := 0) hx hb dX8_bestOf_78 (by decide) ?_
  have hPc := hP.sub (ws' := [(a2, .inl (cy 1, 1037, .inl g1)), (a1, .inl (cy 1, 1037, .inl g39))]) [0, 2] rfl
  have hDc := hD.sub (ws' := [(a2, .inl (cy 1, 1037, .inl g1)), (a1, .inl (cy 1, 1037, .inl g39))]) [0, 2] (by decide) rfl
  have hFc := va_free (wc := [(a2, .inl (cy 1, 1037, .inl g1)), (a1, .inl (cy 1, 1037, .inl g39))]) hD hS hA [0, 2] rfl
  refine va_callv (va_runS (As := [.ref a2, .int 0, .ref a1, .int 0]) (rest := []) ⟨hx, hb, hml, hown, hts⟩ (c_X8_copies l dC dI cy nb a2 a1 0 0 1037 1037 g1 g39 H.size (by decide) (by decide) (by decide)) (va_cwS 4 hts (gS mw_423 mw_424 mw_5 mw_425) rfl rfl rfl (by decide +kernel) ⟨Nat.le_of_ble_eq_true rfl, Nat.le_of_ble_eq_true rfl⟩) ⟨fun a U g mk q => by obtain ⟨q0, q1, qP, qK, qD, qE⟩ := q; exact ⟨q0, q1, qP, va_K.moved (u := U) (U := U.calling g mk a) (Vm.Alike.refl U.vm) qK, qD, GE.calling qE⟩, fun U hU hW => ⟨rfl, by rw [hU], by rw [hU]; exact hPc, va_K.moved hW.alike hK, hDc.weaken (fun _ _ _ _ => trivial), GE.call hE hS hFc hU hW⟩⟩ rfl rfl hl.1 rfl (lv_room (Nat.le_of_ble_eq_true rfl)) dX8_bestOf_79 ⟨Nat.le_of_ble_eq_true rfl, Nat.le_of_ble_eq_true rfl⟩) hS (fun q _ h => hFc q h) hFc (fun u t H1 locs ht hvm hw44 hB hz1 hk1 hS => ?_)
  obtain ⟨g42, hg43, hP1, hD1⟩ := hB
  rw [ht] at hP1
  obtain ⟨hP, hD⟩ := va_join (wr := [(h0, .inr (8, [.ref a1, .ref a2, .ref a3, .ref a4, .ref a5, .int 0, .int x6, .ref a6, .int 0, .int 0, .int 0, .int 0, .int 0, .int 0, .int 0, .int 0, .int (-1), .ref a7, .ref a8, .int 0, .ref a9, .ref b0, .int 0]))]) (w1 := [(a2, .inl (cy 1, 1037, .inl g1)), (a1, .inl (cy 1, 1037, .inl g42))]) hP hD [0, 2] [1] rfl rfl (by decide) (by decide) hk1 hFc hP1 hD1
  generalize H1 = H at hP hS ⊢
  have hP : va_P (dC, dI) vwCl [(h0, .inr (8, [.ref a1, .ref a2, .ref a3, .ref a4, .ref a5, .int 0, .int x6, .ref a6, .int 0, .int 0, .int 0, .int 0, .int 0, .int 0, .int 0, .int 0, .int (-1), .ref a7, .ref a8, .int 0, .ref a9, .ref b0, .int 0])), (a2, .inl (cy 1, 1037, .inl g1)), (a1, .inl (cy 1, 1037, .inl g42))] H := hP
  have hD : va_D A [(h0, .inr (8, [.ref a1, .ref a2, .ref a3, .ref a4, .ref a5, .int 0, .int x6, .ref a6, .int 0, .int 0, .int 0, .int 0, .int 0, .int 0, .int 0, .int 0, .int (-1), .ref a7, .ref a8, .int 0, .ref a9, .ref b0, .int 0])), (a2, .inl (cy 1, 1037, .inl g1)), (a1, .inl (cy 1, 1037, .inl g42))] := hD
  refine W.widen (k := 0) (n := 0) (by omega) (by omega) ?_
  have hz45 : FT 0 g42 := FT_cp hg43 hfa
  refine lv_iinc (v := 7) (lv' := [(8, .int 7), (9, .int 0), (7, .int 0), (6, .int 1), (0, .ref h0), (1, .int 1), (2, .int 1), (3, .int 20), (4, .int 2), (5, .int (-1))]) hx hb dX8_bestOf_82 hl (k := 1) rfl (by decide) (by decide) rfl (fun ls hl => ?_)
  refine lv_goto (tgt := 24) hx hb dX8_bestOf_85 (by decide) ?_
  refine lv_iload hx hb dX8_bestOf_24 (lv_at hl 0 rfl) ?_
  refine lv_iload_n hx hb dX8_bestOf_26 rfl (lv_at hl 7 rfl) ?_
  refine lv_icmp_gt (tgt := 88) hx hb dX8_bestOf_27 (by decide) (fun h => absurd h (by decide)) (fun _ => ?_)
  refine lv_aload_n hx hb dX8_bestOf_30 rfl (lv_at hl 4 rfl) ?_
  refine va_get (D := (dC, dI)) (ci := 8) (v := .ref a1) (C := RX8) (T := TX8) (N := 23) hx hb hts inlX8 hown hK hP 0 rfl rfl 0 (by decide) (hts _ mw_97) (fun _ h9 => h9) rfl dX8_bestOf_31 ?_
  refine lv_iload_n hx hb dX8_bestOf_34 rfl (lv_at hl 5 rfl) ?_
  refine lv_iload hx hb dX8_bestOf_35 (lv_at hl 0 rfl) ?_
  refine va_iast hx hb hK hP hD hS 2 1 rfl rfl (vp_in_nI (n := 1) (by decide) (by decide)) dX8_bestOf_37 (fun H locs hP hD hS => ?_)
  have hP : va_P (dC, dI) vwCl [(h0, .inr (8, [.ref a1, .ref a2, .ref a3, .ref a4, .ref a5, .int 0, .int x6, .ref a6, .int 0, .int 0, .int 0, .int 0, .int 0, .int 0, .int 0, .int 0, .int (-1), .ref a7, .ref a8, .int 0, .ref a9, .ref b0, .int 0])), (a2, .inl (cy 1, 1037, .inl g1)), (a1, .inl (cy 1, 1037, .inl (upd g42 ((1 : Int32).toNatClampNeg) 7)))] H := hP
  have hD : va_D A [(h0, .inr (8, [.ref a1, .ref a2, .ref a3, .ref a4, .ref a5, .int 0, .int x6, .ref a6, .int 0, .int 0, .int 0, .int 0, .int 0, .int 0, .int 0, .int 0, .int (-1), .ref a7, .ref a8, .int 0, .ref a9, .ref b0, .int 0])), (a2, .inl (cy 1, 1037, .inl g1)), (a1, .inl (cy 1, 1037, .inl (upd g42 ((1 : Int32).toNatClampNeg) 7)))] := hD
  have hf47 : FT 0 (upd g42 ((1 : Int32).toNatClampNeg) 7) := FT_up hz45 (Or.inr (by decide))
  generalize (upd g42 ((1 : Int32).toNatClampNeg) 7) = g46 at hP hD hf47
  refine lv_aload_n hx hb dX8_bestOf_38 rfl (lv_at hl 4 rfl) ?_
  refine lv_iload hx hb dX8_bestOf_39 (lv_at hl 8 rfl) ?_
  refine lv_iload hx hb dX8_bestOf_41 (lv_at hl 9 rfl) ?_
  have hPc := hP.sub (ws' := [(h0, .inr (8, [.ref a1, .ref a2, .ref a3, .ref a4, .ref a5, .int 0, .int x6, .ref a6, .int 0, .int 0, .int 0, .int 0, .int 0, .int 0, .int 0, .int 0, .int (-1), .ref a7, .ref a8, .int 0, .ref a9, .ref b0, .int 0])), (a1, .inl (cy 1, 1037, .inl g46))]) [0, 2] rfl
  have hDc := hD.sub (ws' := [(h0, .inr (8, [.ref a1, .ref a2, .ref a3, .ref a4, .ref a5, .int 0, .int x6, .ref a6, .int 0, .int 0, .int 0, .int 0, .int 0, .int 0, .int 0, .int 0, .int (-1), .ref a7, .ref a8, .int 0, .ref a9, .ref b0, .int 0])), (a1, .inl (cy 1, 1037, .inl g46))]) [0, 2] (by decide) rfl
  have hFc := va_free (wc := [(h0, .inr (8, [.ref a1, .ref a2, .ref a3, .ref a4, .ref a5, .int 0, .int x6, .ref a6, .int 0, .int 0, .int 0, .int 0, .int 0, .int 0, .int 0, .int 0, .int (-1), .ref a7, .ref a8, .int 0, .ref a9, .ref b0, .int 0])), (a1, .inl (cy 1, 1037, .inl g46))]) hD hS hA [0, 2] rfl
  refine va_calli (va_runV (As := [.int 2, .int (-1)]) (rest := []) ⟨hx, hb, hml, hown, hts⟩ (c_X8_goes l dC dI cy nb h0 a1 (.ref a2) (.ref a3) (.ref a4) (.ref a5) (.int 0) (.int x6) (.ref a6) (.int 0) (.int 0) (.int 0) (.int 0) (.int 0) (.int 0) (.int 0) (.int 0) (.int (-1)) (.ref a7) (.ref a8) (.int 0) (.ref a9) (.ref b0) (.int 0) g46 0 H.size hf47) (cwV 2 hts (gV mw_1334 mw_1335 mw_1336 mw_5 mw_1337) rfl rfl rfl (by decide +kernel) ⟨Nat.le_of_ble_eq_true rfl, Nat.le_of_ble_eq_true rfl⟩) ⟨fun a U g mk q => by obtain ⟨q0, q1, qP, qK, qD, qE⟩ := q; exact ⟨q0, q1, qP, va_K.moved (u := U) (U := U.calling g mk a) (Vm.Alike.refl U.vm) qK, qD, GE.calling qE⟩, va_recv hK hP (ci := 8) (q0 := 0) rfl rfl, fun U hU hW => ⟨rfl, by rw [hU], by rw [hU]; exact hPc, va_K.moved hW.alike hK, hDc.weaken (fun _ _ _ _ => trivial), GE.call hE hS hFc hU hW⟩⟩ rfl rfl hl.1 rfl (lv_room (Nat.le_of_ble_eq_true rfl)) dX8_bestOf_43 ⟨Nat.le_of_ble_eq_true rfl, Nat.le_of_ble_eq_true rfl⟩) hS (fun q _ h => hFc q h) hFc (fun r u t H1 locs ht hvm hw48 hB hz1 hk1 hS => ?_)
  obtain ⟨hP1, hD1⟩ := hB
  rw [ht] at hP1
  obtain ⟨hP, hD⟩ := va_join (wr := [(a2, .inl (cy 1, 1037, .inl g1))]) (w1 := [(h0, .inr (8, [.ref a1, .ref a2, .ref a3, .ref a4, .ref a5, .int 0, .int x6, .ref a6, .int 0, .int 0, .int 0, .int 0, .int 0, .int 0, .int 0, .int 0, .int (-1), .ref a7, .ref a8, .int 0, .ref a9, .ref b0, .int 0])), (a1, .inl (cy 1, 1037, .inl g46))]) hP hD [0, 2] [1] rfl rfl (by decide) (by decide) hk1 hFc hP1 hD1
  generalize H1 = H at hP hS ⊢
  have hP : va_P (dC, dI) vwCl [(a2, .inl (cy 1, 1037, .inl g1)), (h0, .inr (8, [.ref a1, .ref a2, .ref a3, .ref a4, .ref a5, .int 0, .int x6, .ref a6, .int 0, .int 0, .int 0, .int 0, .int 0, .int 0, .int 0, .int 0, .int (-1), .ref a7, .ref a8, .int 0, .ref a9, .ref b0, .int 0])), (a1, .inl (cy 1, 1037, .inl g46))] H := hP
  have hD : va_D A [(a2, .inl (cy 1, 1037, .inl g1)), (h0, .inr (8, [.ref a1, .ref a2, .ref a3, .ref a4, .ref a5, .int 0, .int x6, .ref a6, .int 0, .int 0, .int 0, .int 0, .int 0, .int 0, .int 0, .int 0, .int (-1), .ref a7, .ref a8, .int 0, .ref a9, .ref b0, .int 0])), (a1, .inl (cy 1, 1037, .inl g46))] := hD
  obtain rfl := hw48
  refine W.widen (k := 0) (n := 0) (by omega) (by omega) ?_
  refine lv_istore (lv' := [(9, .int 0), (8, .int 7), (7, .int 0), (6, .int 1), (0, .ref h0), (1, .int 1), (2, .int 1), (3, .int 20), (4, .int 2), (5, .int (-1))]) hx hb dX8_bestOf_46 hl (by decide) rfl (fun ls hl => ?_)
  refine lv_iload hx hb dX8_bestOf_48 (lv_at hl 0 rfl) ?_
  refine lv_iconst (v := (-1)) hx hb dX8_bestOf_50 (by decide) ?_
  refine lv_icmp_eq (tgt := 69) hx hb dX8_bestOf_51 (by decide) (fun h => absurd h (by decide)) (fun _ => ?_)
  refine lv_iload hx hb dX8_bestOf_54 (lv_at hl 0 rfl) ?_
  refine lv_iload hx hb dX8_bestOf_56 (lv_at hl 2 rfl) ?_
  refine lv_icmp_ge (tgt := 69) hx hb dX8_bestOf_58 (by decide) (fun _ => ?_) (fun h => absurd (by decide) h)
  refine lv_aload_n hx hb dX8_bestOf_69 rfl (lv_at hl 4 rfl) ?_
  refine va_get (D := (dC, dI)) (ci := 8) (v := .ref a2) (C := RX8) (T := TX8) (N := 23) hx hb hts inlX8 hown hK hP 1 rfl rfl 1 (by decide) (hts _ mw_98) (fun _ h9 => h9) rfl dX8_bestOf_70 ?_
  refine lv_iconst (v := 0) hx hb dX8_bestOf_73 (by decide) ?_
  refine lv_aload_n hx hb dX8_bestOf_74 rfl (lv_at hl 4 rfl) ?_
  refine va_get (D := (dC, dI)) (ci := 8) (v := .ref a1) (C := RX8) (T := TX8) (N := 23) hx hb hts inlX8 hown hK hP 1 rfl rfl 0 (by decide) (hts _ mw_97) (fun _ h9 => h9) rfl dX8_bestOf_75 ?_
  refine lv_iconst (v := 0) hx hb dX8_bestOf_78 (by decide) ?_
  have hPc := hP.sub (ws' := [(a2, .inl (cy 1, 1037, .inl g1)), (a1, .inl (cy 1, 1037, .inl g46))]) [0, 2] rfl
  have hDc := hD.sub (ws' := [(a2, .inl (cy 1, 1037, .inl g1)), (a1, .inl (cy 1, 1037, .inl g46))]) [0, 2] (by decide) rfl
  have hFc := va_free (wc := [(a2, .inl (cy 1, 1037, .inl g1)), (a1, .inl (cy 1, 1037, .inl g46))]) hD hS hA [0, 2] rfl
  refine va_callv (va_runS (As := [.ref a2, .int 0, .ref a1, .int 0]) (rest := []) ⟨hx, hb, hml, hown, hts⟩ (c_X8_copies l dC dI cy nb a2 a1 0 0 1037 1037 g1 g46 H.size (by decide) (by decide) (by decide)) (va_cwS 4 hts (gS mw_423 mw_424 mw_5 mw_425) rfl rfl rfl (by decide +kernel) ⟨Nat.le_of_ble_eq_true rfl, Nat.le_of_ble_eq_true rfl⟩) ⟨fun a U g mk q => by obtain ⟨q0, q1, qP, qK, qD, qE⟩ := q; exact ⟨q0, q1, qP, va_K.moved (u := U) (U := U.calling g mk a) (Vm.Alike.refl U.vm) qK, qD, GE.calling qE⟩, fun U hU hW => ⟨rfl, by rw [hU], by rw [hU]; exact hPc, va_K.moved hW.alike hK, hDc.weaken (fun _ _ _ _ => trivial), GE.call hE hS hFc hU hW⟩⟩ rfl rfl hl.1 rfl (lv_room (Nat.le_of_ble_eq_true rfl)) dX8_bestOf_79 ⟨Nat.le_of_ble_eq_true rfl, Nat.le_of_ble_eq_true rfl⟩) hS (fun q _ h => hFc q h) hFc (fun u t H1 locs ht hvm hw51 hB hz1 hk1 hS => ?_)
  obtain ⟨g49, hg50, hP1, hD1⟩ := hB
  rw [ht] at hP1
  obtain ⟨hP, hD⟩ := va_join (wr := [(h0, .inr (8, [.ref a1, .ref a2, .ref a3, .ref a4, .ref a5, .int 0, .int x6, .ref a6, .int 0, .int 0, .int 0, .int 0, .int 0, .int 0, .int 0, .int 0, .int (-1), .ref a7, .ref a8, .int 0, .ref a9, .ref b0, .int 0]))]) (w1 := [(a2, .inl (cy 1, 1037, .inl g1)), (a1, .inl (cy 1, 1037, .inl g49))]) hP hD [0, 2] [1] rfl rfl (by decide) (by decide) hk1 hFc hP1 hD1
  generalize H1 = H at hP hS ⊢
  have hP : va_P (dC, dI) vwCl [(h0, .inr (8, [.ref a1, .ref a2, .ref a3, .ref a4, .ref a5, .int 0, .int x6, .ref a6, .int 0, .int 0, .int 0, .int 0, .int 0, .int 0, .int 0, .int 0, .int (-1), .ref a7, .ref a8, .int 0, .ref a9, .ref b0, .int 0])), (a2, .inl (cy 1, 1037, .inl g1)), (a1, .inl (cy 1, 1037, .inl g49))] H := hP
  have hD : va_D A [(h0, .inr (8, [.ref a1, .ref a2, .ref a3, .ref a4, .ref a5, .int 0, .int x6, .ref a6, .int 0, .int 0, .int 0, .int 0, .int 0, .int 0, .int 0, .int 0, .int (-1), .ref a7, .ref a8, .int 0, .ref a9, .ref b0, .int 0])), (a2, .inl (cy 1, 1037, .inl g1)), (a1, .inl (cy 1, 1037, .inl g49))] := hD
  refine W.widen (k := 0) (n := 0) (by omega) (by omega) ?_
  have hz52 : FT 0 g49 := FT_cp hg50 hfa
  refine lv_iinc (v := 8) (lv' := [(8, .int 8), (9, .int 0), (7, .int 0), (6, .int 1), (0, .ref h0), (1, .int 1), (2, .int 1), (3, .int 20), (4, .int 2), (5, .int (-1))]) hx hb dX8_bestOf_82 hl (k := 1) rfl (by decide) (by decide) rfl (fun ls hl => ?_)
  refine lv_goto (tgt := 24) hx hb dX8_bestOf_85 (by decide) ?_
  refine lv_iload hx hb dX8_bestOf_24 (lv_at hl 0 rfl) ?_
  refine lv_iload_n hx hb dX8_bestOf_26 rfl (lv_at hl 7 rfl) ?_
  refine lv_icmp_gt (tgt := 88) hx hb dX8_bestOf_27 (by decide) (fun h => absurd h (by decide)) (fun _ => ?_)
  refine lv_aload_n hx hb dX8_bestOf_30 rfl (lv_at hl 4 rfl) ?_
  refine va_get (D := (dC, dI)) (ci := 8) (v := .ref a1) (C := RX8) (T := TX8) (N := 23) hx hb hts inlX8 hown hK hP 0 rfl rfl 0 (by decide) (hts _ mw_97) (fun _ h9 => h9) rfl dX8_bestOf_31 ?_
  refine lv_iload_n hx hb dX8_bestOf_34 rfl (lv_at hl 5 rfl) ?_
  refine lv_iload hx hb dX8_bestOf_35 (lv_at hl 0 rfl) ?_
  refine va_iast hx hb hK hP hD hS 2 1 rfl rfl (vp_in_nI (n := 1) (by decide) (by decide)) dX8_bestOf_37 (fun H locs hP hD hS => ?_)
  have hP : va_P (dC, dI) vwCl [(h0, .inr (8, [.ref a1, .ref a2, .ref a3, .ref a4, .ref a5, .int 0, .int x6, .ref a6, .int 0, .int 0, .int 0, .int 0, .int 0, .int 0, .int 0, .int 0, .int (-1), .ref a7, .ref a8, .int 0, .ref a9, .ref b0, .int 0])), (a2, .inl (cy 1, 1037, .inl g1)), (a1, .inl (cy 1, 1037, .inl (upd g49 ((1 : Int32).toNatClampNeg) 8)))] H := hP
  have hD : va_D A [(h0, .inr (8, [.ref a1, .ref a2, .ref a3, .ref a4, .ref a5, .int 0, .int x6, .ref a6, .int 0, .int 0, .int 0, .int 0, .int 0, .int 0, .int 0, .int 0, .int (-1), .ref a7, .ref a8, .int 0, .ref a9, .ref b0, .int 0])), (a2, .inl (cy 1, 1037, .inl g1)), (a1, .inl (cy 1, 1037, .inl (upd g49 ((1 : Int32).toNatClampNeg) 8)))] := hD
  have hf54 : FT 0 (upd g49 ((1 : Int32).toNatClampNeg) 8) := FT_up hz52 (Or.inr (by decide))
  generalize (upd g49 ((1 : Int32).toNatClampNeg) 8) = g53 at hP hD hf54
  refine lv_aload_n hx hb dX8_bestOf_38 rfl (lv_at hl 4 rfl) ?_
  refine lv_iload hx hb dX8_bestOf_39 (lv_at hl 8 rfl) ?_
  refine lv_iload hx hb dX8_bestOf_41 (lv_at hl 9 rfl) ?_
  have hPc := hP.sub (ws' := [(h0, .inr (8, [.ref a1, .ref a2, .ref a3, .ref a4, .ref a5, .int 0, .int x6, .ref a6, .int 0, .int 0, .int 0, .int 0, .int 0, .int 0, .int 0, .int 0, .int (-1), .ref a7, .ref a8, .int 0, .ref a9, .ref b0, .int 0])), (a1, .inl (cy 1, 1037, .inl g53))]) [0, 2] rfl
  have hDc := hD.sub (ws' := [(h0, .inr (8, [.ref a1, .ref a2, .ref a3, .ref a4, .ref a5, .int 0, .int x6, .ref a6, .int 0, .int 0, .int 0, .int 0, .int 0, .int 0, .int 0, .int 0, .int (-1), .ref a7, .ref a8, .int 0, .ref a9, .ref b0, .int 0])), (a1, .inl (cy 1, 1037, .inl g53))]) [0, 2] (by decide) rfl
  have hFc := va_free (wc := [(h0, .inr (8, [.ref a1, .ref a2, .ref a3, .ref a4, .ref a5, .int 0, .int x6, .ref a6, .int 0, .int 0, .int 0, .int 0, .int 0, .int 0, .int 0, .int 0, .int (-1), .ref a7, .ref a8, .int 0, .ref a9, .ref b0, .int 0])), (a1, .inl (cy 1, 1037, .inl g53))]) hD hS hA [0, 2] rfl
  refine va_calli (va_runV (As := [.int 2, .int (-1)]) (rest := []) ⟨hx, hb, hml, hown, hts⟩ (c_X8_goes l dC dI cy nb h0 a1 (.ref a2) (.ref a3) (.ref a4) (.ref a5) (.int 0) (.int x6) (.ref a6) (.int 0) (.int 0) (.int 0) (.int 0) (.int 0) (.int 0) (.int 0) (.int 0) (.int (-1)) (.ref a7) (.ref a8) (.int 0) (.ref a9) (.ref b0) (.int 0) g53 0 H.size hf54) (cwV 2 hts (gV mw_1334 mw_1335 mw_1336 mw_5 mw_1337) rfl rfl rfl (by decide +kernel) ⟨Nat.le_of_ble_eq_true rfl, Nat.le_of_ble_eq_true rfl⟩) ⟨fun a U g mk q => by obtain ⟨q0, q1, qP, qK, qD, qE⟩ := q; exact ⟨q0, q1, qP, va_K.moved (u := U) (U := U.calling g mk a) (Vm.Alike.refl U.vm) qK, qD, GE.calling qE⟩, va_recv hK hP (ci := 8) (q0 := 0) rfl rfl, fun U hU hW => ⟨rfl, by rw [hU], by rw [hU]; exact hPc, va_K.moved hW.alike hK, hDc.weaken (fun _ _ _ _ => trivial), GE.call hE hS hFc hU hW⟩⟩ rfl rfl hl.1 rfl (lv_room (Nat.le_of_ble_eq_true rfl)) dX8_bestOf_43 ⟨Nat.le_of_ble_eq_true rfl, Nat.le_of_ble_eq_true rfl⟩) hS (fun q _ h => hFc q h) hFc (fun r u t H1 locs ht hvm hw55 hB hz1 hk1 hS => ?_)
  obtain ⟨hP1, hD1⟩ := hB
  rw [ht] at hP1
  obtain ⟨hP, hD⟩ := va_join (wr := [(a2, .inl (cy 1, 1037, .inl g1))]) (w1 := [(h0, .inr (8, [.ref a1, .ref a2, .ref a3, .ref a4, .ref a5, .int 0, .int x6, .ref a6, .int 0, .int 0, .int 0, .int 0, .int 0, .int 0, .int 0, .int 0, .int (-1), .ref a7, .ref a8, .int 0, .ref a9, .ref b0, .int 0])), (a1, .inl (cy 1, 1037, .inl g53))]) hP hD [0, 2] [1] rfl rfl (by decide) (by decide) hk1 hFc hP1 hD1
  generalize H1 = H at hP hS ⊢
  have hP : va_P (dC, dI) vwCl [(a2, .inl (cy 1, 1037, .inl g1)), (h0, .inr (8, [.ref a1, .ref a2, .ref a3, .ref a4, .ref a5, .int 0, .int x6, .ref a6, .int 0, .int 0, .int 0, .int 0, .int 0, .int 0, .int 0, .int 0, .int (-1), .ref a7, .ref a8, .int 0, .ref a9, .ref b0, .int 0])), (a1, .inl (cy 1, 1037, .inl g53))] H := hP
  have hD : va_D A [(a2, .inl (cy 1, 1037, .inl g1)), (h0, .inr (8, [.ref a1, .ref a2, .ref a3, .ref a4, .ref a5, .int 0, .int x6, .ref a6, .int 0, .int 0, .int 0, .int 0, .int 0, .int 0, .int 0, .int 0, .int (-1), .ref a7, .ref a8, .int 0, .ref a9, .ref b0, .int 0])), (a1, .inl (cy 1, 1037, .inl g53))] := hD
  obtain rfl := hw55
  refine W.widen (k := 0) (n := 0) (by omega) (by omega) ?_
  refine lv_istore (lv' := [(9, .int 0), (8, .int 8), (7, .int 0), (6, .int 1), (0, .ref h0), (1, .int 1), (2, .int 1), (3, .int 20), (4, .int 2), (5, .int (-1))]) hx hb dX8_bestOf_46 hl (by decide) rfl (fun ls hl => ?_)
  refine lv_iload hx hb dX8_bestOf_48 (lv_at hl 0 rfl) ?_
  refine lv_iconst (v := (-1)) hx hb dX8_bestOf_50 (by decide) ?_
  refine lv_icmp_eq (tgt := 69) hx hb dX8_bestOf_51 (by decide) (fun h => absurd h (by decide)) (fun _ => ?_)
  refine lv_iload hx hb dX8_bestOf_54 (lv_at hl 0 rfl) ?_
  refine lv_iload hx hb dX8_bestOf_56 (lv_at hl 2 rfl) ?_
  refine lv_icmp_ge (tgt := 69) hx hb dX8_bestOf_58 (by decide) (fun _ => ?_) (fun h => absurd (by decide) h)
  refine lv_aload_n hx hb dX8_bestOf_69 rfl (lv_at hl 4 rfl) ?_
  refine va_get (D := (dC, dI)) (ci := 8) (v := .ref a2) (C := RX8) (T := TX8) (N := 23) hx hb hts inlX8 hown hK hP 1 rfl rfl 1 (by decide) (hts _ mw_98) (fun _ h9 => h9) rfl dX8_bestOf_70 ?_
  refine lv_iconst (v := 0) hx hb dX8_bestOf_73 (by decide) ?_
  refine lv_aload_n hx hb dX8_bestOf_74 rfl (lv_at hl 4 rfl) ?_
  refine va_get (D := (dC, dI)) (ci := 8) (v := .ref a1) (C := RX8) (T := TX8) (N := 23) hx hb hts inlX8 hown hK hP 1 rfl rfl 0 (by decide) (hts _ mw_97) (fun _ h9 => h9) rfl dX8_bestOf_75 ?_
  refine lv_iconst (v := 0) hx hb dX8_bestOf_78 (by decide) ?_
  have hPc := hP.sub (ws' := [(a2, .inl (cy 1, 1037, .inl g1)), (a1, .inl (cy 1, 1037, .inl g53))]) [0, 2] rfl
  have hDc := hD.sub (ws' := [(a2, .inl (cy 1, 1037, .inl g1)), (a1, .inl (cy 1, 1037, .inl g53))]) [0, 2] (by decide) rfl
  have hFc := va_free (wc := [(a2, .inl (cy 1, 1037, .inl g1)), (a1, .inl (cy 1, 1037, .inl g53))]) hD hS hA [0, 2] rfl
  refine va_callv (va_runS (As := [.ref a2, .int 0, .ref a1, .int 0]) (rest := []) ⟨hx, hb, hml, hown, hts⟩ (c_X8_copies l dC dI cy nb a2 a1 0 0 1037 1037 g1 g53 H.size (by decide) (by decide) (by decide)) (va_cwS 4 hts (gS mw_423 mw_424 mw_5 mw_425) rfl rfl rfl (by decide +kernel) ⟨Nat.le_of_ble_eq_true rfl, Nat.le_of_ble_eq_true rfl⟩) ⟨fun a U g mk q => by obtain ⟨q0, q1, qP, qK, qD, qE⟩ := q; exact ⟨q0, q1, qP, va_K.moved (u := U) (U := U.calling g mk a) (Vm.Alike.refl U.vm) qK, qD, GE.calling qE⟩, fun U hU hW => ⟨rfl, by rw [hU], by rw [hU]; exact hPc, va_K.moved hW.alike hK, hDc.weaken (fun _ _ _ _ => trivial), GE.call hE hS hFc hU hW⟩⟩ rfl rfl hl.1 rfl (lv_room (Nat.le_of_ble_eq_true rfl)) dX8_bestOf_79 ⟨Nat.le_of_ble_eq_true rfl, Nat.le_of_ble_eq_true rfl⟩) hS (fun q _ h => hFc q h) hFc (fun u t H1 locs ht hvm hw58 hB hz1 hk1 hS => ?_)
  obtain ⟨g56, hg57, hP1, hD1⟩ := hB
  rw [ht] at hP1
  obtain ⟨hP, hD⟩ := va_join (wr := [(h0, .inr (8, [.ref a1, .ref a2, .ref a3, .ref a4, .ref a5, .int 0, .int x6, .ref a6, .int 0, .int 0, .int 0, .int 0, .int 0, .int 0, .int 0, .int 0, .int (-1), .ref a7, .ref a8, .int 0, .ref a9, .ref b0, .int 0]))]) (w1 := [(a2, .inl (cy 1, 1037, .inl g1)), (a1, .inl (cy 1, 1037, .inl g56))]) hP hD [0, 2] [1] rfl rfl (by decide) (by decide) hk1 hFc hP1 hD1
  generalize H1 = H at hP hS ⊢
  have hP : va_P (dC, dI) vwCl [(h0, .inr (8, [.ref a1, .ref a2, .ref a3, .ref a4, .ref a5, .int 0, .int x6, .ref a6, .int 0, .int 0, .int 0, .int 0, .int 0, .int 0, .int 0, .int 0, .int (-1), .ref a7, .ref a8, .int 0, .ref a9, .ref b0, .int 0])), (a2, .inl (cy 1, 1037, .inl g1)), (a1, .inl (cy 1, 1037, .inl g56))] H := hP
  have hD : va_D A [(h0, .inr (8, [.ref a1, .ref a2, .ref a3, .ref a4, .ref a5, .int 0, .int x6, .ref a6, .int 0, .int 0, .int 0, .int 0, .int 0, .int 0, .int 0, .int 0, .int (-1), .ref a7, .ref a8, .int 0, .ref a9, .ref b0, .int 0])), (a2, .inl (cy 1, 1037, .inl g1)), (a1, .inl (cy 1, 1037, .inl g56))] := hD
  refine W.widen (k := 0) (n := 0) (by omega) (by omega) ?_
  have hz59 : FT 0 g56 := FT_cp hg57 hfa
  refine lv_iinc (v := 9) (lv' := [(8, .int 9), (9, .int 0), (7, .int 0), (6, .int 1), (0, .ref h0), (1, .int 1), (2, .int 1), (3, .int 20), (4, .int 2), (5, .int (-1))]) hx hb dX8_bestOf_82 hl (k := 1) rfl (by decide) (by decide) rfl (fun ls hl => ?_)
  refine lv_goto (tgt := 24) hx hb dX8_bestOf_85 (by decide) ?_
  refine lv_iload hx hb dX8_bestOf_24 (lv_at hl 0 rfl) ?_
  refine lv_iload_n hx hb dX8_bestOf_26 rfl (lv_at hl 7 rfl) ?_
  refine lv_icmp_gt (tgt := 88) hx hb dX8_bestOf_27 (by decide) (fun h => absurd h (by decide)) (fun _ => ?_)
  refine lv_aload_n hx hb dX8_bestOf_30 rfl (lv_at hl 4 rfl) ?_
  refine va_get (D := (dC, dI)) (ci := 8) (v := .ref a1) (C := RX8) (T := TX8) (N := 23) hx hb hts inlX8 hown hK hP 0 rfl rfl 0 (by decide) (hts _ mw_97) (fun _ h9 => h9) rfl dX8_bestOf_31 ?_
  refine lv_iload_n hx hb dX8_bestOf_34 rfl (lv_at hl 5 rfl) ?_
  refine lv_iload hx hb dX8_bestOf_35 (lv_at hl 0 rfl) ?_
  refine va_iast hx hb hK hP hD hS 2 1 rfl rfl (vp_in_nI (n := 1) (by decide) (by decide)) dX8_bestOf_37 (fun H locs hP hD hS => ?_)
  have hP : va_P (dC, dI) vwCl [(h0, .inr (8, [.ref a1, .ref a2, .ref a3, .ref a4, .ref a5, .int 0, .int x6, .ref a6, .int 0, .int 0, .int 0, .int 0, .int 0, .int 0, .int 0, .int 0, .int (-1), .ref a7, .ref a8, .int 0, .ref a9, .ref b0, .int 0])), (a2, .inl (cy 1, 1037, .inl g1)), (a1, .inl (cy 1, 1037, .inl (upd g56 ((1 : Int32).toNatClampNeg) 9)))] H := hP
  have hD : va_D A [(h0, .inr (8, [.ref a1, .ref a2, .ref a3, .ref a4, .ref a5, .int 0, .int x6, .ref a6, .int 0, .int 0, .int 0, .int 0, .int 0, .int 0, .int 0, .int 0, .int (-1), .ref a7, .ref a8, .int 0, .ref a9, .ref b0, .int 0])), (a2, .inl (cy 1, 1037, .inl g1)), (a1, .inl (cy 1, 1037, .inl (upd g56 ((1 : Int32).toNatClampNeg) 9)))] := hD
  have hf61 : FT 0 (upd g56 ((1 : Int32).toNatClampNeg) 9) := FT_up hz59 (Or.inr (by decide))
  generalize (upd g56 ((1 : Int32).toNatClampNeg) 9) = g60 at hP hD hf61
  refine lv_aload_n hx hb dX8_bestOf_38 rfl (lv_at hl 4 rfl) ?_
  refine lv_iload hx hb dX8_bestOf_39 (lv_at hl 8 rfl) ?_
  refine lv_iload hx hb dX8_bestOf_41 (lv_at hl 9 rfl) ?_
  have hPc := hP.sub (ws' := [(h0, .inr (8, [.ref a1, .ref a2, .ref a3, .ref a4, .ref a5, .int 0, .int x6, .ref a6, .int 0, .int 0, .int 0, .int 0, .int 0, .int 0, .int 0, .int 0, .int (-1), .ref a7, .ref a8, .int 0, .ref a9, .ref b0, .int 0])), (a1, .inl (cy 1, 1037, .inl g60))]) [0, 2] rfl
  have hDc := hD.sub (ws' := [(h0, .inr (8, [.ref a1, .ref a2, .ref a3, .ref a4, .ref a5, .int 0, .int x6, .ref a6, .int 0, .int 0, .int 0, .int 0, .int 0, .int 0, .int 0, .int 0, .int (-1), .ref a7, .ref a8, .int 0, .ref a9, .ref b0, .int 0])), (a1, .inl (cy 1, 1037, .inl g60))]) [0, 2] (by decide) rfl
  have hFc := va_free (wc := [(h0, .inr (8, [.ref a1, .ref a2, .ref a3, .ref a4, .ref a5, .int 0, .int x6, .ref a6, .int 0, .int 0, .int 0, .int 0, .int 0, .int 0, .int 0, .int 0, .int (-1), .ref a7, .ref a8, .int 0, .ref a9, .ref b0, .int 0])), (a1, .inl (cy 1, 1037, .inl g60))]) hD hS hA [0, 2] rfl
  refine va_calli (va_runV (As := [.int 2, .int (-1)]) (rest := []) ⟨hx, hb, hml, hown, hts⟩ (c_X8_goes l dC dI cy nb h0 a1 (.ref a2) (.ref a3) (.ref a4) (.ref a5) (.int 0) (.int x6) (.ref a6) (.int 0) (.int 0) (.int 0) (.int 0) (.int 0) (.int 0) (.int 0) (.int 0) (.int (-1)) (.ref a7) (.ref a8) (.int 0) (.ref a9) (.ref b0) (.int 0) g60 0 H.size hf61) (cwV 2 hts (gV mw_1334 mw_1335 mw_1336 mw_5 mw_1337) rfl rfl rfl (by decide +kernel) ⟨Nat.le_of_ble_eq_true rfl, Nat.le_of_ble_eq_true rfl⟩) ⟨fun a U g mk q => by obtain ⟨q0, q1, qP, qK, qD, qE⟩ := q; exact ⟨q0, q1, qP, va_K.moved (u := U) (U := U.calling g mk a) (Vm.Alike.refl U.vm) qK, qD, GE.calling qE⟩, va_recv hK hP (ci := 8) (q0 := 0) rfl rfl, fun U hU hW => ⟨rfl, by rw [hU], by rw [hU]; exact hPc, va_K.moved hW.alike hK, hDc.weaken (fun _ _ _ _ => trivial), GE.call hE hS hFc hU hW⟩⟩ rfl rfl hl.1 rfl (lv_room (Nat.le_of_ble_eq_true rfl)) dX8_bestOf_43 ⟨Nat.le_of_ble_eq_true rfl, Nat.le_of_ble_eq_true rfl⟩) hS (fun q _ h => hFc q h) hFc (fun r u t H1 locs ht hvm hw62 hB hz1 hk1 hS => ?_)
  obtain ⟨hP1, hD1⟩ := hB
  rw [ht] at hP1
  obtain ⟨hP, hD⟩ := va_join (wr := [(a2, .inl (cy 1, 1037, .inl g1))]) (w1 := [(h0, .inr (8, [.ref a1, .ref a2, .ref a3, .ref a4, .ref a5, .int 0, .int x6, .ref a6, .int 0, .int 0, .int 0, .int 0, .int 0, .int 0, .int 0, .int 0, .int (-1), .ref a7, .ref a8, .int 0, .ref a9, .ref b0, .int 0])), (a1, .inl (cy 1, 1037, .inl g60))]) hP hD [0, 2] [1] rfl rfl (by decide) (by decide) hk1 hFc hP1 hD1
  generalize H1 = H at hP hS ⊢
  have hP : va_P (dC, dI) vwCl [(a2, .inl (cy 1, 1037, .inl g1)), (h0, .inr (8, [.ref a1, .ref a2, .ref a3, .ref a4, .ref a5, .int 0, .int x6, .ref a6, .int 0, .int 0, .int 0, .int 0, .int 0, .int 0, .int 0, .int 0, .int (-1), .ref a7, .ref a8, .int 0, .ref a9, .ref b0, .int 0])), (a1, .inl (cy 1, 1037, .inl g60))] H := hP
  have hD : va_D A [(a2, .inl (cy 1, 1037, .inl g1)), (h0, .inr (8, [.ref a1, .ref a2, .ref a3, .ref a4, .ref a5, .int 0, .int x6, .ref a6, .int 0, .int 0, .int 0, .int 0, .int 0, .int 0, .int 0, .int 0, .int (-1), .ref a7, .ref a8, .int 0, .ref a9, .ref b0, .int 0])), (a1, .inl (cy 1, 1037, .inl g60))] := hD
  obtain rfl := hw62
  refine W.widen (k := 0) (n := 0) (by omega) (by omega) ?_
  refine lv_istore (lv' := [(9, .int 0), (8, .int 9), (7, .int 0), (6, .int 1), (0, .ref h0), (1, .int 1), (2, .int 1), (3, .int 20), (4, .int 2), (5, .int (-1))]) hx hb dX8_bestOf_46 hl (by decide) rfl (fun ls hl => ?_)
  refine lv_iload hx hb dX8_bestOf_48 (lv_at hl 0 rfl) ?_
  refine lv_iconst (v := (-1)) hx hb dX8_bestOf_50 (by decide) ?_
  refine lv_icmp_eq (tgt := 69) hx hb dX8_bestOf_51 (by decide) (fun h => absurd h (by decide)) (fun _ => ?_)
  refine lv_iload hx hb dX8_bestOf_54 (lv_at hl 0 rfl) ?_
  refine lv_iload hx hb dX8_bestOf_56 (lv_at hl 2 rfl) ?_
  refine lv_icmp_ge (tgt := 69) hx hb dX8_bestOf_58 (by decide) (fun _ => ?_) (fun h => absurd (by decide) h)
  refine lv_aload_n hx hb dX8_bestOf_69 rfl (lv_at hl 4 rfl) ?_
  refine va_get (D := (dC, dI)) (ci := 8) (v := .ref a2) (C := RX8) (T := TX8) (N := 23) hx hb hts inlX8 hown hK hP 1 rfl rfl 1 (by decide) (hts _ mw_98) (fun _ h9 => h9) rfl dX8_bestOf_70 ?_
  refine lv_iconst (v := 0) hx hb dX8_bestOf_73 (by decide) ?_
  refine lv_aload_n hx hb dX8_bestOf_74 rfl (lv_at hl 4 rfl) ?_
  refine va_get (D := (dC, dI)) (ci := 8) (v := .ref a1) (C := RX8) (T := TX8) (N := 23) hx hb hts inlX8 hown hK hP 1 rfl rfl 0 (by decide) (hts _ mw_97) (fun _ h9 => h9) rfl dX8_bestOf_75 ?_
  refine lv_iconst (v := 0) hx hb dX8_bestOf_78 (by decide) ?_
  have hPc := hP.sub (ws' := [(a2, .inl (cy 1, 1037, .inl g1)), (a1, .inl (cy 1, 1037, .inl g60))]) [0, 2] rfl
  have hDc := hD.sub (ws' := [(a2, .inl (cy 1, 1037, .inl g1)), (a1, .inl (cy 1, 1037, .inl g60))]) [0, 2] (by decide) rfl
  have hFc := va_free (wc := [(a2, .inl (cy 1, 1037, .inl g1)), (a1, .inl (cy 1, 1037, .inl g60))]) hD hS hA [0, 2] rfl
  refine va_callv (va_runS (As := [.ref a2, .int 0, .ref a1, .int 0]) (rest := []) ⟨hx, hb, hml, hown, hts⟩ (c_X8_copies l dC dI cy nb a2 a1 0 0 1037 1037 g1 g60 H.size (by decide) (by decide) (by decide)) (va_cwS 4 hts (gS mw_423 mw_424 mw_5 mw_425) rfl rfl rfl (by decide +kernel) ⟨Nat.le_of_ble_eq_true rfl, Nat.le_of_ble_eq_true rfl⟩) ⟨fun a U g mk q => by obtain ⟨q0, q1, qP, qK, qD, qE⟩ := q; exact ⟨q0, q1, qP, va_K.moved (u := U) (U := U.calling g mk a) (Vm.Alike.refl U.vm) qK, qD, GE.calling qE⟩, fun U hU hW => ⟨rfl, by rw [hU], by rw [hU]; exact hPc, va_K.moved hW.alike hK, hDc.weaken (fun _ _ _ _ => trivial), GE.call hE hS hFc hU hW⟩⟩ rfl rfl hl.1 rfl (lv_room (Nat.le_of_ble_eq_true rfl)) dX8_bestOf_79 ⟨Nat.le_of_ble_eq_true rfl, Nat.le_of_ble_eq_true rfl⟩) hS (fun q _ h => hFc q h) hFc (fun u t H1 locs ht hvm hw65 hB hz1 hk1 hS => ?_)
  obtain ⟨g63, hg64, hP1, hD1⟩ := hB
  rw [ht] at hP1
  obtain ⟨hP, hD⟩ := va_join (wr := [(h0, .inr (8, [.ref a1, .ref a2, .ref a3, .ref a4, .ref a5, .int 0, .int x6, .ref a6, .int 0, .int 0, .int 0, .int 0, .int 0, .int 0, .int 0, .int 0, .int (-1), .ref a7, .ref a8, .int 0, .ref a9, .ref b0, .int 0]))]) (w1 := [(a2, .inl (cy 1, 1037, .inl g1)), (a1, .inl (cy 1, 1037, .inl g63))]) hP hD [0, 2] [1] rfl rfl (by decide) (by decide) hk1 hFc hP1 hD1
  generalize H1 = H at hP hS ⊢
  have hP : va_P (dC, dI) vwCl [(h0, .inr (8, [.ref a1, .ref a2, .ref a3, .ref a4, .ref a5, .int 0, .int x6, .ref a6, .int 0, .int 0, .int 0, .int 0, .int 0, .int 0, .int 0, .int 0, .int (-1), .ref a7, .ref a8, .int 0, .ref a9, .ref b0, .int 0])), (a2, .inl (cy 1, 1037, .inl g1)), (a1, .inl (cy 1, 1037, .inl g63))] H := hP
  have hD : va_D A [(h0, .inr (8, [.ref a1, .ref a2, .ref a3, .ref a4, .ref a5, .int 0, .int x6, .ref a6, .int 0, .int 0, .int 0, .int 0, .int 0, .int 0, .int 0, .int 0, .int (-1), .ref a7, .ref a8, .int 0, .ref a9, .ref b0, .int 0])), (a2, .inl (cy 1, 1037, .inl g1)), (a1, .inl (cy 1, 1037, .inl g63))] := hD
  refine W.widen (k := 0) (n := 0) (by omega) (by omega) ?_
  have hz66 : FT 0 g63 := FT_cp hg64 hfa
  refine lv_iinc (v := 10) (lv' := [(8, .int 10), (9, .int 0), (7, .int 0), (6, .int 1), (0, .ref h0), (1, .int 1), (2, .int 1), (3, .int 20), (4, .int 2), (5, .int (-1))]) hx hb dX8_bestOf_82 hl (k := 1) rfl (by decide) (by decide) rfl (fun ls hl => ?_)
  refine lv_goto (tgt := 24) hx hb dX8_bestOf_85 (by decide) ?_
  refine lv_iload hx hb dX8_bestOf_24 (lv_at hl 0 rfl) ?_
  refine lv_iload_n hx hb dX8_bestOf_26 rfl (lv_at hl 7 rfl) ?_
  refine lv_icmp_gt (tgt := 88) hx hb dX8_bestOf_27 (by decide) (fun h => absurd h (by decide)) (fun _ => ?_)
  refine lv_aload_n hx hb dX8_bestOf_30 rfl (lv_at hl 4 rfl) ?_
  refine va_get (D := (dC, dI)) (ci := 8) (v := .ref a1) (C := RX8) (T := TX8) (N := 23) hx hb hts inlX8 hown hK hP 0 rfl rfl 0 (by decide) (hts _ mw_97) (fun _ h9 => h9) rfl dX8_bestOf_31 ?_
  refine lv_iload_n hx hb dX8_bestOf_34 rfl (lv_at hl 5 rfl) ?_
  refine lv_iload hx hb dX8_bestOf_35 (lv_at hl 0 rfl) ?_
  refine va_iast hx hb hK hP hD hS 2 1 rfl rfl (vp_in_nI (n := 1) (by decide) (by decide)) dX8_bestOf_37 (fun H locs hP hD hS => ?_)
  have hP : va_P (dC, dI) vwCl [(h0, .inr (8, [.ref a1, .ref a2, .ref a3, .ref a4, .ref a5, .int 0, .int x6, .ref a6, .int 0, .int 0, .int 0, .int 0, .int 0, .int 0, .int 0, .int 0, .int (-1), .ref a7, .ref a8, .int 0, .ref a9, .ref b0, .int 0])), (a2, .inl (cy 1, 1037, .inl g1)), (a1, .inl (cy 1, 1037, .inl (upd g63 ((1 : Int32).toNatClampNeg) 10)))] H := hP
  have hD : va_D A [(h0, .inr (8, [.ref a1, .ref a2, .ref a3, .ref a4, .ref a5, .int 0, .int x6, .ref a6, .int 0, .int 0, .int 0, .int 0, .int 0, .int 0, .int 0, .int 0, .int (-1), .ref a7, .ref a8, .int 0, .ref a9, .ref b0, .int 0])), (a2, .inl (cy 1, 1037, .inl g1)), (a1, .inl (cy 1, 1037, .inl (upd g63 ((1 : Int32).toNatClampNeg) 10)))] := hD
  have hf68 : FT 0 (upd g63 ((1 : Int32).toNatClampNeg) 10) := FT_up hz66 (Or.inr (by decide))
  generalize (upd g63 ((1 : Int32).toNatClampNeg) 10) = g67 at hP hD hf68
  refine lv_aload_n hx hb dX8_bestOf_38 rfl (lv_at hl 4 rfl) ?_
  refine lv_iload hx hb dX8_bestOf_39 (lv_at hl 8 rfl) ?_
  refine lv_iload hx hb dX8_bestOf_41 (lv_at hl 9 rfl) ?_
  have hPc := hP.sub (ws' := [(h0, .inr (8, [.ref a1, .ref a2, .ref a3, .ref a4, .ref a5, .int 0, .int x6, .ref a6, .int 0, .int 0, .int 0, .int 0, .int 0, .int 0, .int 0, .int 0, .int (-1), .ref a7, .ref a8, .int 0, .ref a9, .ref b0, .int 0])), (a1, .inl (cy 1, 1037, .inl g67))]) [0, 2] rfl
  have hDc := hD.sub (ws' := [(h0, .inr (8, [.ref a1, .ref a2, .ref a3, .ref a4, .ref a5, .int 0, .int x6, .ref a6, .int 0, .int 0, .int 0, .int 0, .int 0, .int 0, .int 0, .int 0, .int (-1), .ref a7, .ref a8, .int 0, .ref a9, .ref b0, .int 0])), (a1, .inl (cy 1, 1037, .inl g67))]) [0, 2] (by decide) rfl
  have hFc := va_free (wc := [(h0, .inr (8, [.ref a1, .ref a2, .ref a3, .ref a4, .ref a5, .int 0, .int x6, .ref a6, .int 0, .int 0, .int 0, .int 0, .int 0, .int 0, .int 0, .int 0, .int (-1), .ref a7, .ref a8, .int 0, .ref a9, .ref b0, .int 0])), (a1, .inl (cy 1, 1037, .inl g67))]) hD hS hA [0, 2] rfl
  refine va_calli (va_runV (As := [.int 2, .int (-1)]) (rest := []) ⟨hx, hb, hml, hown, hts⟩ (c_X8_goes l dC dI cy nb h0 a1 (.ref a2) (.ref a3) (.ref a4) (.ref a5) (.int 0) (.int x6) (.ref a6) (.int 0) (.int 0) (.int 0) (.int 0) (.int 0) (.int 0) (.int 0) (.int 0) (.int (-1)) (.ref a7) (.ref a8) (.int 0) (.ref a9) (.ref b0) (.int 0) g67 0 H.size hf68) (cwV 2 hts (gV mw_1334 mw_1335 mw_1336 mw_5 mw_1337) rfl rfl rfl (by decide +kernel) ⟨Nat.le_of_ble_eq_true rfl, Nat.le_of_ble_eq_true rfl⟩) ⟨fun a U g mk q => by obtain ⟨q0, q1, qP, qK, qD, qE⟩ := q; exact ⟨q0, q1, qP, va_K.moved (u := U) (U := U.calling g mk a) (Vm.Alike.refl U.vm) qK, qD, GE.calling qE⟩, va_recv hK hP (ci := 8) (q0 := 0) rfl rfl, fun U hU hW => ⟨rfl, by rw [hU], by rw [hU]; exact hPc, va_K.moved hW.alike hK, hDc.weaken (fun _ _ _ _ => trivial), GE.call hE hS hFc hU hW⟩⟩ rfl rfl hl.1 rfl (lv_room (Nat.le_of_ble_eq_true rfl)) dX8_bestOf_43 ⟨Nat.le_of_ble_eq_true rfl, Nat.le_of_ble_eq_true rfl⟩) hS (fun q _ h => hFc q h) hFc (fun r u t H1 locs ht hvm hw69 hB hz1 hk1 hS => ?_)
  obtain ⟨hP1, hD1⟩ := hB
  rw [ht] at hP1
  obtain ⟨hP, hD⟩ := va_join (wr := [(a2, .inl (cy 1, 1037, .inl g1))]) (w1 := [(h0, .inr (8, [.ref a1, .ref a2, .ref a3, .ref a4, .ref a5, .int 0, .int x6, .ref a6, .int 0, .int 0, .int 0, .int 0, .int 0, .int 0, .int 0, .int 0, .int (-1), .ref a7, .ref a8, .int 0, .ref a9, .ref b0, .int 0])), (a1, .inl (cy 1, 1037, .inl g67))]) hP hD [0, 2] [1] rfl rfl (by decide) (by decide) hk1 hFc hP1 hD1
  generalize H1 = H at hP hS ⊢
  have hP : va_P (dC, dI) vwCl [(a2, .inl (cy 1, 1037, .inl g1)), (h0, .inr (8, [.ref a1, .ref a2, .ref a3, .ref a4, .ref a5, .int 0, .int x6, .ref a6, .int 0, .int 0, .int 0, .int 0, .int 0, .int 0, .int 0, .int 0, .int (-1), .ref a7, .ref a8, .int 0, .ref a9, .ref b0, .int 0])), (a1, .inl (cy 1, 1037, .inl g67))] H := hP
  have hD : va_D A [(a2, .inl (cy 1, 1037, .inl g1)), (h0, .inr (8, [.ref a1, .ref a2, .ref a3, .ref a4, .ref a5, .int 0, .int x6, .ref a6, .int 0, .int 0, .int 0, .int 0, .int 0, .int 0, .int 0, .int 0, .int (-1), .ref a7, .ref a8, .int 0, .ref a9, .ref b0, .int 0])), (a1, .inl (cy 1, 1037, .inl g67))] := hD
  obtain rfl := hw69
  refine W.widen (k := 0) (n := 0) (by omega) (by omega) ?_
  refine lv_istore (lv' := [(9, .int 0), (8, .int 10), (7, .int 0), (6, .int 1), (0, .ref h0), (1, .int 1), (2, .int 1), (3, .int 20), (4, .int 2), (5, .int (-1))]) hx hb dX8_bestOf_46 hl (by decide) rfl (fun ls hl => ?_)
  refine lv_iload hx hb dX8_bestOf_48 (lv_at hl 0 rfl) ?_
  refine lv_iconst (v := (-1)) hx hb dX8_bestOf_50 (by decide) ?_
  refine lv_icmp_eq (tgt := 69) hx hb dX8_bestOf_51 (by decide) (fun h => absurd h (by decide)) (fun _ => ?_)
  refine lv_iload hx hb dX8_bestOf_54 (lv_at hl 0 rfl) ?_
  refine lv_iload hx hb dX8_bestOf_56 (lv_at hl 2 rfl) ?_
  refine lv_icmp_ge (tgt := 69) hx hb dX8_bestOf_58 (by decide) (fun _ => ?_) (fun h => absurd (by decide) h)
  refine lv_aload_n hx hb dX8_bestOf_69 rfl (lv_at hl 4 rfl) ?_
  refine va_get (D := (dC, dI)) (ci := 8) (v := .ref a2) (C := RX8) (T := TX8) (N := 23) hx hb hts inlX8 hown hK hP 1 rfl rfl 1 (by decide) (hts _ mw_98) (fun _ h9 => h9) rfl dX8_bestOf_70 ?_
  refine lv_iconst (v := 0) hx hb dX8_bestOf_73 (by decide) ?_
  refine lv_aload_n hx hb dX8_bestOf_74 rfl (lv_at hl 4 rfl) ?_
  refine va_get (D := (dC, dI)) (ci := 8) (v := .ref a1) (C := RX8) (T := TX8) (N := 23) hx hb hts inlX8 hown hK hP 1 rfl rfl 0 (by decide) (hts _ mw_97) (fun _ h9 => h9) rfl dX8_bestOf_75 ?_
  refine lv_iconst (v := 0) hx hb dX8_bestOf_78 (by decide) ?_
  have hPc := hP.sub (ws' := [(a2, .inl (cy 1, 1037, .inl g1)), (a1, .inl (cy 1, 1037, .inl g67))]) [0, 2] rfl
  have hDc := hD.sub (ws' := [(a2, .inl (cy 1, 1037, .inl g1)), (a1, .inl (cy 1, 1037, .inl g67))]) [0, 2] (by decide) rfl
  have hFc := va_free (wc := [(a2, .inl (cy 1, 1037, .inl g1)), (a1, .inl (cy 1, 1037, .inl g67))]) hD hS hA [0, 2] rfl
  refine va_callv (va_runS (As := [.ref a2, .int 0, .ref a1, .int 0]) (rest := []) ⟨hx, hb, hml, hown, hts⟩ (c_X8_copies l dC dI cy nb a2 a1 0 0 1037 1037 g1 g67 H.size (by decide) (by decide) (by decide)) (va_cwS 4 hts (gS mw_423 mw_424 mw_5 mw_425) rfl rfl rfl (by decide +kernel) ⟨Nat.le_of_ble_eq_true rfl, Nat.le_of_ble_eq_true rfl⟩) ⟨fun a U g mk q => by obtain ⟨q0, q1, qP, qK, qD, qE⟩ := q; exact ⟨q0, q1, qP, va_K.moved (u := U) (U := U.calling g mk a) (Vm.Alike.refl U.vm) qK, qD, GE.calling qE⟩, fun U hU hW => ⟨rfl, by rw [hU], by rw [hU]; exact hPc, va_K.moved hW.alike hK, hDc.weaken (fun _ _ _ _ => trivial), GE.call hE hS hFc hU hW⟩⟩ rfl rfl hl.1 rfl (lv_room (Nat.le_of_ble_eq_true rfl)) dX8_bestOf_79 ⟨Nat.le_of_ble_eq_true rfl, Nat.le_of_ble_eq_true rfl⟩) hS (fun q _ h => hFc q h) hFc (fun u t H1 locs ht hvm hw72 hB hz1 hk1 hS => ?_)
  obtain ⟨g70, hg71, hP1, hD1⟩ := hB
  rw [ht] at hP1
  obtain ⟨hP, hD⟩ := va_join (wr := [(h0, .inr (8, [.ref a1, .ref a2, .ref a3, .ref a4, .ref a5, .int 0, .int x6, .ref a6, .int 0, .int 0, .int 0, .int 0, .int 0, .int 0, .int 0, .int 0, .int (-1), .ref a7, .ref a8, .int 0, .ref a9, .ref b0, .int 0]))]) (w1 := [(a2, .inl (cy 1, 1037, .inl g1)), (a1, .inl (cy 1, 1037, .inl g70))]) hP hD [0, 2] [1] rfl rfl (by decide) (by decide) hk1 hFc hP1 hD1
  generalize H1 = H at hP hS ⊢
  have hP : va_P (dC, dI) vwCl [(h0, .inr (8, [.ref a1, .ref a2, .ref a3, .ref a4, .ref a5, .int 0, .int x6, .ref a6, .int 0, .int 0, .int 0, .int 0, .int 0, .int 0, .int 0, .int 0, .int (-1), .ref a7, .ref a8, .int 0, .ref a9, .ref b0, .int 0])), (a2, .inl (cy 1, 1037, .inl g1)), (a1, .inl (cy 1, 1037, .inl g70))] H := hP
  have hD : va_D A [(h0, .inr (8, [.ref a1, .ref a2, .ref a3, .ref a4, .ref a5, .int 0, .int x6, .ref a6, .int 0, .int 0, .int 0, .int 0, .int 0, .int 0, .int 0, .int 0, .int (-1), .ref a7, .ref a8, .int 0, .ref a9, .ref b0, .int 0])), (a2, .inl (cy 1, 1037, .inl g1)), (a1, .inl (cy 1, 1037, .inl g70))] := hD
  refine W.widen (k := 0) (n := 0) (by omega) (by omega) ?_
  have hz73 : FT 0 g70 := FT_cp hg71 hfa
  refine lv_iinc (v := 11) (lv' := [(8, .int 11), (9, .int 0), (7, .int 0), (6, .int 1), (0, .ref h0), (1, .int 1), (2, .int 1), (3, .int 20), (4, .int 2), (5, .int (-1))]) hx hb dX8_bestOf_82 hl (k := 1) rfl (by decide) (by decide) rfl (fun ls hl => ?_)
  refine lv_goto (tgt := 24) hx hb dX8_bestOf_85 (by decide) ?_
  refine lv_iload hx hb dX8_bestOf_24 (lv_at hl 0 rfl) ?_
  refine lv_iload_n hx hb dX8_bestOf_26 rfl (lv_at hl 7 rfl) ?_
  refine lv_icmp_gt (tgt := 88) hx hb dX8_bestOf_27 (by decide) (fun h => absurd h (by decide)) (fun _ => ?_)
  refine lv_aload_n hx hb dX8_bestOf_30 rfl (lv_at hl 4 rfl) ?_
  refine va_get (D := (dC, dI)) (ci := 8) (v := .ref a1) (C := RX8) (T := TX8) (N := 23) hx hb hts inlX8 hown hK hP 0 rfl rfl 0 (by decide) (hts _ mw_97) (fun _ h9 => h9) rfl dX8_bestOf_31 ?_
  refine lv_iload_n hx hb dX8_bestOf_34 rfl (lv_at hl 5 rfl) ?_
  refine lv_iload hx hb dX8_bestOf_35 (lv_at hl 0 rfl) ?_
  refine va_iast hx hb hK hP hD hS 2 1 rfl rfl (vp_in_nI (n := 1) (by decide) (by decide)) dX8_bestOf_37 (fun H locs hP hD hS => ?_)
  have hP : va_P (dC, dI) vwCl [(h0, .inr (8, [.ref a1, .ref a2, .ref a3, .ref a4, .ref a5, .int 0, .int x6, .ref a6, .int 0, .int 0, .int 0, .int 0, .int 0, .int 0, .int 0, .int 0, .int (-1), .ref a7, .ref a8, .int 0, .ref a9, .ref b0, .int 0])), (a2, .inl (cy 1, 1037, .inl g1)), (a1, .inl (cy 1, 1037, .inl (upd g70 ((1 : Int32).toNatClampNeg) 11)))] H := hP
  have hD : va_D A [(h0, .inr (8, [.ref a1, .ref a2, .ref a3, .ref a4, .ref a5, .int 0, .int x6, .ref a6, .int 0, .int 0, .int 0, .int 0, .int 0, .int 0, .int 0, .int 0, .int (-1), .ref a7, .ref a8, .int 0, .ref a9, .ref b0, .int 0])), (a2, .inl (cy 1, 1037, .inl g1)), (a1, .inl (cy 1, 1037, .inl (upd g70 ((1 : Int32).toNatClampNeg) 11)))] := hD
  have hf75 : FT 0 (upd g70 ((1 : Int32).toNatClampNeg) 11) := FT_up hz73 (Or.inr (by decide))
  generalize (upd g70 ((1 : Int32).toNatClampNeg) 11) = g74 at hP hD hf75
  refine lv_aload_n hx hb dX8_bestOf_38 rfl (lv_at hl 4 rfl) ?_
  refine lv_iload hx hb dX8_bestOf_39 (lv_at hl 8 rfl) ?_
  refine lv_iload hx hb dX8_bestOf_41 (lv_at hl 9 rfl) ?_
  have hPc := hP.sub (ws' := [(h0, .inr (8, [.ref a1, .ref a2, .ref a3, .ref a4, .ref a5, .int 0, .int x6, .ref a6, .int 0, .int 0, .int 0, .int 0, .int 0, .int 0, .int 0, .int 0, .int (-1), .ref a7, .ref a8, .int 0, .ref a9, .ref b0, .int 0])), (a1, .inl (cy 1, 1037, .inl g74))]) [0, 2] rfl
  have hDc := hD.sub (ws' := [(h0, .inr (8, [.ref a1, .ref a2, .ref a3, .ref a4, .ref a5, .int 0, .int x6, .ref a6, .int 0, .int 0, .int 0, .int 0, .int 0, .int 0, .int 0, .int 0, .int (-1), .ref a7, .ref a8, .int 0, .ref a9, .ref b0, .int 0])), (a1, .inl (cy 1, 1037, .inl g74))]) [0, 2] (by decide) rfl
  have hFc := va_free (wc := [(h0, .inr (8, [.ref a1, .ref a2, .ref a3, .ref a4, .ref a5, .int 0, .int x6, .ref a6, .int 0, .int 0, .int 0, .int 0, .int 0, .int 0, .int 0, .int 0, .int (-1), .ref a7, .ref a8, .int 0, .ref a9, .ref b0, .int 0])), (a1, .inl (cy 1, 1037, .inl g74))]) hD hS hA [0, 2] rfl
  refine va_calli (va_runV (As := [.int 2, .int (-1)]) (rest := []) ⟨hx, hb, hml, hown, hts⟩ (c_X8_goes l dC dI cy nb h0 a1 (.ref a2) (.ref a3) (.ref a4) (.ref a5) (.int 0) (.int x6) (.ref a6) (.int 0) (.int 0) (.int 0) (.int 0) (.int 0) (.int 0) (.int 0) (.int 0) (.int (-1)) (.ref a7) (.ref a8) (.int 0) (.ref a9) (.ref b0) (.int 0) g74 0 H.size hf75) (cwV 2 hts (gV mw_1334 mw_1335 mw_1336 mw_5 mw_1337) rfl rfl rfl (by decide +kernel) ⟨Nat.le_of_ble_eq_true rfl, Nat.le_of_ble_eq_true rfl⟩) ⟨fun a U g mk q => by obtain ⟨q0, q1, qP, qK, qD, qE⟩ := q; exact ⟨q0, q1, qP, va_K.moved (u := U) (U := U.calling g mk a) (Vm.Alike.refl U.vm) qK, qD, GE.calling qE⟩, va_recv hK hP (ci := 8) (q0 := 0) rfl rfl, fun U hU hW => ⟨rfl, by rw [hU], by rw [hU]; exact hPc, va_K.moved hW.alike hK, hDc.weaken (fun _ _ _ _ => trivial), GE.call hE hS hFc hU hW⟩⟩ rfl rfl hl.1 rfl (lv_room (Nat.le_of_ble_eq_true rfl)) dX8_bestOf_43 ⟨Nat.le_of_ble_eq_true rfl, Nat.le_of_ble_eq_true rfl⟩) hS (fun q _ h => hFc q h) hFc (fun r u t H1 locs ht hvm hw76 hB hz1 hk1 hS => ?_)
  obtain ⟨hP1, hD1⟩ := hB
  rw [ht] at hP1
  obtain ⟨hP, hD⟩ := va_join (wr := [(a2, .inl (cy 1, 1037, .inl g1))]) (w1 := [(h0, .inr (8, [.ref a1, .ref a2, .ref a3, .ref a4, .ref a5, .int 0, .int x6, .ref a6, .int 0, .int 0, .int 0, .int 0, .int 0, .int 0, .int 0, .int 0, .int (-1), .ref a7, .ref a8, .int 0, .ref a9, .ref b0, .int 0])), (a1, .inl (cy 1, 1037, .inl g74))]) hP hD [0, 2] [1] rfl rfl (by decide) (by decide) hk1 hFc hP1 hD1
  generalize H1 = H at hP hS ⊢
  have hP : va_P (dC, dI) vwCl [(a2, .inl (cy 1, 1037, .inl g1)), (h0, .inr (8, [.ref a1, .ref a2, .ref a3, .ref a4, .ref a5, .int 0, .int x6, .ref a6, .int 0, .int 0, .int 0, .int 0, .int 0, .int 0, .int 0, .int 0, .int (-1), .ref a7, .ref a8, .int 0, .ref a9, .ref b0, .int 0])), (a1, .inl (cy 1, 1037, .inl g74))] H := hP
  have hD : va_D A [(a2, .inl (cy 1, 1037, .inl g1)), (h0, .inr (8, [.ref a1, .ref a2, .ref a3, .ref a4, .ref a5, .int 0, .int x6, .ref a6, .int 0, .int 0, .int 0, .int 0, .int 0, .int 0, .int 0, .int 0, .int (-1), .ref a7, .ref a8, .int 0, .ref a9, .ref b0, .int 0])), (a1, .inl (cy 1, 1037, .inl g74))] := hD
  obtain rfl := hw76
  refine W.widen (k := 0) (n := 0) (by omega) (by omega) ?_
  refine lv_istore (lv' := [(9, .int 0), (8, .int 11), (7, .int 0), (6, .int 1), (0, .ref h0), (1, .int 1), (2, .int 1), (3, .int 20), (4, .int 2), (5, .int (-1))]) hx hb dX8_bestOf_46 hl (by decide) rfl (fun ls hl => ?_)
  refine lv_iload hx hb dX8_bestOf_48 (lv_at hl 0 rfl) ?_
  refine lv_iconst (v := (-1)) hx hb dX8_bestOf_50 (by decide) ?_
  refine lv_icmp_eq (tgt := 69) hx hb dX8_bestOf_51 (by decide) (fun h => absurd h (by decide)) (fun _ => ?_)
  refine lv_iload hx hb dX8_bestOf_54 (lv_at hl 0 rfl) ?_
  refine lv_iload hx hb dX8_bestOf_56 (lv_at hl 2 rfl) ?_
  refine lv_icmp_ge (tgt := 69) hx hb dX8_bestOf_58 (by decide) (fun _ => ?_) (fun h => absurd (by decide) h)
  refine lv_aload_n hx hb dX8_bestOf_69 rfl (lv_at hl 4 rfl) ?_
  refine va_get (D := (dC, dI)) (ci := 8) (v := .ref a2) (C := RX8) (T := TX8) (N := 23) hx hb hts inlX8 hown hK hP 1 rfl rfl 1 (by decide) (hts _ mw_98) (fun _ h9 => h9) rfl dX8_bestOf_70 ?_
  refine lv_iconst (v := 0) hx hb dX8_bestOf_73 (by decide) ?_
  refine lv_aload_n hx hb dX8_bestOf_74 rfl (lv_at hl 4 rfl) ?_
  refine va_get (D := (dC, dI)) (ci := 8) (v := .ref a1) (C := RX8) (T := TX8) (N := 23) hx hb hts inlX8 hown hK hP 1 rfl rfl 0 (by decide) (hts _ mw_97) (fun _ h9 => h9) rfl dX8_bestOf_75 ?_
  refine lv_iconst (v := 0) hx hb dX8_bestOf_78 (by decide) ?_
  have hPc := hP.sub (ws' := [(a2, .inl (cy 1, 1037, .inl g1)), (a1, .inl (cy 1, 1037, .inl g74))]) [0, 2] rfl
  have hDc := hD.sub (ws' := [(a2, .inl (cy 1, 1037, .inl g1)), (a1, .inl (cy 1, 1037, .inl g74))]) [0, 2] (by decide) rfl
  have hFc := va_free (wc := [(a2, .inl (cy 1, 1037, .inl g1)), (a1, .inl (cy 1, 1037, .inl g74))]) hD hS hA [0, 2] rfl
  refine va_callv (va_runS (As := [.ref a2, .int 0, .ref a1, .int 0]) (rest := []) ⟨hx, hb, hml, hown, hts⟩ (c_X8_copies l dC dI cy nb a2 a1 0 0 1037 1037 g1 g74 H.size (by decide) (by decide) (by decide)) (va_cwS 4 hts (gS mw_423 mw_424 mw_5 mw_425) rfl rfl rfl (by decide +kernel) ⟨Nat.le_of_ble_eq_true rfl, Nat.le_of_ble_eq_true rfl⟩) ⟨fun a U g mk q => by obtain ⟨q0, q1, qP, qK, qD, qE⟩ := q; exact ⟨q0, q1, qP, va_K.moved (u := U) (U := U.calling g mk a) (Vm.Alike.refl U.vm) qK, qD, GE.calling qE⟩, fun U hU hW => ⟨rfl, by rw [hU], by rw [hU]; exact hPc, va_K.moved hW.alike hK, hDc.weaken (fun _ _ _ _ => trivial), GE.call hE hS hFc hU hW⟩⟩ rfl rfl hl.1 rfl (lv_room (Nat.le_of_ble_eq_true rfl)) dX8_bestOf_79 ⟨Nat.le_of_ble_eq_true rfl, Nat.le_of_ble_eq_true rfl⟩) hS (fun q _ h => hFc q h) hFc (fun u t H1 locs ht hvm hw79 hB hz1 hk1 hS => ?_)
  obtain ⟨g77, hg78, hP1, hD1⟩ := hB
  rw [ht] at hP1
  obtain ⟨hP, hD⟩ := va_join (wr := [(h0, .inr (8, [.ref a1, .ref a2, .ref a3, .ref a4, .ref a5, .int 0, .int x6, .ref a6, .int 0, .int 0, .int 0, .int 0, .int 0, .int 0, .int 0, .int 0, .int (-1), .ref a7, .ref a8, .int 0, .ref a9, .ref b0, .int 0]))]) (w1 := [(a2, .inl (cy 1, 1037, .inl g1)), (a1, .inl (cy 1, 1037, .inl g77))]) hP hD [0, 2] [1] rfl rfl (by decide) (by decide) hk1 hFc hP1 hD1
  generalize H1 = H at hP hS ⊢
  have hP : va_P (dC, dI) vwCl [(h0, .inr (8, [.ref a1, .ref a2, .ref a3, .ref a4, .ref a5, .int 0, .int x6, .ref a6, .int 0, .int 0, .int 0, .int 0, .int 0, .int 0, .int 0, .int 0, .int (-1), .ref a7, .ref a8, .int 0, .ref a9, .ref b0, .int 0])), (a2, .inl (cy 1, 1037, .inl g1)), (a1, .inl (cy 1, 1037, .inl g77))] H := hP
  have hD : va_D A [(h0, .inr (8, [.ref a1, .ref a2, .ref a3, .ref a4, .ref a5, .int 0, .int x6, .ref a6, .int 0, .int 0, .int 0, .int 0, .int 0, .int 0, .int 0, .int 0, .int (-1), .ref a7, .ref a8, .int 0, .ref a9, .ref b0, .int 0])), (a2, .inl (cy 1, 1037, .inl g1)), (a1, .inl (cy 1, 1037, .inl g77))] := hD
  refine W.widen (k := 0) (n := 0) (by omega) (by omega) ?_
  have hz80 : FT 0 g77 := FT_cp hg78 hfa
  refine lv_iinc (v := 12) (lv' := [(8, .int 12), (9, .int 0), (7, .int 0), (6, .int 1), (0, .ref h0), (1, .int 1), (2, .int 1), (3, .int 20), (4, .int 2), (5, .int (-1))]) hx hb dX8_bestOf_82 hl (k := 1) rfl (by decide) (by decide) rfl (fun ls hl => ?_)
  refine lv_goto (tgt := 24) hx hb dX8_bestOf_85 (by decide) ?_
  refine lv_iload hx hb dX8_bestOf_24 (lv_at hl 0 rfl) ?_
  refine lv_iload_n hx hb dX8_bestOf_26 rfl (lv_at hl 7 rfl) ?_
  refine lv_icmp_gt (tgt := 88) hx hb dX8_bestOf_27 (by decide) (fun h => absurd h (by decide)) (fun _ => ?_)
  refine lv_aload_n hx hb dX8_bestOf_30 rfl (lv_at hl 4 rfl) ?_
  refine va_get (D := (dC, dI)) (ci := 8) (v := .ref a1) (C := RX8) (T := TX8) (N := 23) hx hb hts inlX8 hown hK hP 0 rfl rfl 0 (by decide) (hts _ mw_97) (fun _ h9 => h9) rfl dX8_bestOf_31 ?_
  refine lv_iload_n hx hb dX8_bestOf_34 rfl (lv_at hl 5 rfl) ?_
  refine lv_iload hx hb dX8_bestOf_35 (lv_at hl 0 rfl) ?_
  refine va_iast hx hb hK hP hD hS 2 1 rfl rfl (vp_in_nI (n := 1) (by decide) (by decide)) dX8_bestOf_37 (fun H locs hP hD hS => ?_)
  have hP : va_P (dC, dI) vwCl [(h0, .inr (8, [.ref a1, .ref a2, .ref a3, .ref a4, .ref a5, .int 0, .int x6, .ref a6, .int 0, .int 0, .int 0, .int 0, .int 0, .int 0, .int 0, .int 0, .int (-1), .ref a7, .ref a8, .int 0, .ref a9, .ref b0, .int 0])), (a2, .inl (cy 1, 1037, .inl g1)), (a1, .inl (cy 1, 1037, .inl (upd g77 ((1 : Int32).toNatClampNeg) 12)))] H := hP
  have hD : va_D A [(h0, .inr (8, [.ref a1, .ref a2, .ref a3, .ref a4, .ref a5, .int 0, .int x6, .ref a6, .int 0, .int 0, .int 0, .int 0, .int 0, .int 0, .int 0, .int 0, .int (-1), .ref a7, .ref a8, .int 0, .ref a9, .ref b0, .int 0])), (a2, .inl (cy 1, 1037, .inl g1)), (a1, .inl (cy 1, 1037, .inl (upd g77 ((1 : Int32).toNatClampNeg) 12)))] := hD
  have hf82 : FT 0 (upd g77 ((1 : Int32).toNatClampNeg) 12) := FT_up hz80 (Or.inr (by decide))
  generalize (upd g77 ((1 : Int32).toNatClampNeg) 12) = g81 at hP hD hf82
  refine lv_aload_n hx hb dX8_bestOf_38 rfl (lv_at hl 4 rfl) ?_
  refine lv_iload hx hb dX8_bestOf_39 (lv_at hl 8 rfl) ?_
  refine lv_iload hx hb dX8_bestOf_41 (lv_at hl 9 rfl) ?_
  have hPc := hP.sub (ws' := [(h0, .inr (8, [.ref a1, .ref a2, .ref a3, .ref a4, .ref a5, .int 0, .int x6, .ref a6, .int 0, .int 0, .int 0, .int 0, .int 0, .int 0, .int 0, .int 0, .int (-1), .ref a7, .ref a8, .int 0, .ref a9, .ref b0, .int 0])), (a1, .inl (cy 1, 1037, .inl g81))]) [0, 2] rfl
  have hDc := hD.sub (ws' := [(h0, .inr (8, [.ref a1, .ref a2, .ref a3, .ref a4, .ref a5, .int 0, .int x6, .ref a6, .int 0, .int 0, .int 0, .int 0, .int 0, .int 0, .int 0, .int 0, .int (-1), .ref a7, .ref a8, .int 0, .ref a9, .ref b0, .int 0])), (a1, .inl (cy 1, 1037, .inl g81))]) [0, 2] (by decide) rfl
  have hFc := va_free (wc := [(h0, .inr (8, [.ref a1, .ref a2, .ref a3, .ref a4, .ref a5, .int 0, .int x6, .ref a6, .int 0, .int 0, .int 0, .int 0, .int 0, .int 0, .int 0, .int 0, .int (-1), .ref a7, .ref a8, .int 0, .ref a9, .ref b0, .int 0])), (a1, .inl (cy 1, 1037, .inl g81))]) hD hS hA [0, 2] rfl
  refine va_calli (va_runV (As := [.int 2, .int (-1)]) (rest := []) ⟨hx, hb, hml, hown, hts⟩ (c_X8_goes l dC dI cy nb h0 a1 (.ref a2) (.ref a3) (.ref a4) (.ref a5) (.int 0) (.int x6) (.ref a6) (.int 0) (.int 0) (.int 0) (.int 0) (.int 0) (.int 0) (.int 0) (.int 0) (.int (-1)) (.ref a7) (.ref a8) (.int 0) (.ref a9) (.ref b0) (.int 0) g81 0 H.size hf82) (cwV 2 hts (gV mw_1334 mw_1335 mw_1336 mw_5 mw_1337) rfl rfl rfl (by decide +kernel) ⟨Nat.le_of_ble_eq_true rfl, Nat.le_of_ble_eq_true rfl⟩) ⟨fun a U g mk q => by obtain ⟨q0, q1, qP, qK, qD, qE⟩ := q; exact ⟨q0, q1, qP, va_K.moved (u := U) (U := U.calling g mk a) (Vm.Alike.refl U.vm) qK, qD, GE.calling qE⟩, va_recv hK hP (ci := 8) (q0 := 0) rfl rfl, fun U hU hW => ⟨rfl, by rw [hU], by rw [hU]; exact hPc, va_K.moved hW.alike hK, hDc.weaken (fun _ _ _ _ => trivial), GE.call hE hS hFc hU hW⟩⟩ rfl rfl hl.1 rfl (lv_room (Nat.le_of_ble_eq_true rfl)) dX8_bestOf_43 ⟨Nat.le_of_ble_eq_true rfl, Nat.le_of_ble_eq_true rfl⟩) hS (fun q _ h => hFc q h) hFc (fun r u t H1 locs ht hvm hw83 hB hz1 hk1 hS => ?_)
  obtain ⟨hP1, hD1⟩ := hB
  rw [ht] at hP1
  obtain ⟨hP, hD⟩ := va_join (wr := [(a2, .inl (cy 1, 1037, .inl g1))]) (w1 := [(h0, .inr (8, [.ref a1, .ref a2, .ref a3, .ref a4, .ref a5, .int 0, .int x6, .ref a6, .int 0, .int 0, .int 0, .int 0, .int 0, .int 0, .int 0, .int 0, .int (-1), .ref a7, .ref a8, .int 0, .ref a9, .ref b0, .int 0])), (a1, .inl (cy 1, 1037, .inl g81))]) hP hD [0, 2] [1] rfl rfl (by decide) (by decide) hk1 hFc hP1 hD1
  generalize H1 = H at hP hS ⊢
  have hP : va_P (dC, dI) vwCl [(a2, .inl (cy 1, 1037, .inl g1)), (h0, .inr (8, [.ref a1, .ref a2, .ref a3, .ref a4, .ref a5, .int 0, .int x6, .ref a6, .int 0, .int 0, .int 0, .int 0, .int 0, .int 0, .int 0, .int 0, .int (-1), .ref a7, .ref a8, .int 0, .ref a9, .ref b0, .int 0])), (a1, .inl (cy 1, 1037, .inl g81))] H := hP
  have hD : va_D A [(a2, .inl (cy 1, 1037, .inl g1)), (h0, .inr (8, [.ref a1, .ref a2, .ref a3, .ref a4, .ref a5, .int 0, .int x6, .ref a6, .int 0, .int 0, .int 0, .int 0, .int 0, .int 0, .int 0, .int 0, .int (-1), .ref a7, .ref a8, .int 0, .ref a9, .ref b0, .int 0])), (a1, .inl (cy 1, 1037, .inl g81))] := hD
  obtain rfl := hw83
  refine W.widen (k := 0) (n := 0) (by omega) (by omega) ?_
  refine lv_istore (lv' := [(9, .int 0), (8, .int 12), (7, .int 0), (6, .int 1), (0, .ref h0), (1, .int 1), (2, .int 1), (3, .int 20), (4, .int 2), (5, .int (-1))]) hx hb dX8_bestOf_46 hl (by decide) rfl (fun ls hl => ?_)
  refine lv_iload hx hb dX8_bestOf_48 (lv_at hl 0 rfl) ?_
  refine lv_iconst (v := (-1)) hx hb dX8_bestOf_50 (by decide) ?_
  refine lv_icmp_eq (tgt := 69) hx hb dX8_bestOf_51 (by decide) (fun h => absurd h (by decide)) (fun _ => ?_)
  refine lv_iload hx hb dX8_bestOf_54 (lv_at hl 0 rfl) ?_
  refine lv_iload hx hb dX8_bestOf_56 (lv_at hl 2 rfl) ?_
  refine lv_icmp_ge (tgt := 69) hx hb dX8_bestOf_58 (by decide) (fun _ => ?_) (fun h => absurd (by decide) h)
  refine lv_aload_n hx hb dX8_bestOf_69 rfl (lv_at hl 4 rfl) ?_
  refine va_get (D := (dC, dI)) (ci := 8) (v := .ref a2) (C := RX8) (T := TX8) (N := 23) hx hb hts inlX8 hown hK hP 1 rfl rfl 1 (by decide) (hts _ mw_98) (fun _ h9 => h9) rfl dX8_bestOf_70 ?_
  refine lv_iconst (v := 0) hx hb dX8_bestOf_73 (by decide) ?_
  refine lv_aload_n hx hb dX8_bestOf_74 rfl (lv_at hl 4 rfl) ?_
  refine va_get (D := (dC, dI)) (ci := 8) (v := .ref a1) (C := RX8) (T := TX8) (N := 23) hx hb hts inlX8 hown hK hP 1 rfl rfl 0 (by decide) (hts _ mw_97) (fun _ h9 => h9) rfl dX8_bestOf_75 ?_
  refine lv_iconst (v := 0) hx hb dX8_bestOf_78 (by decide) ?_
  have hPc := hP.sub (ws' := [(a2, .inl (cy 1, 1037, .inl g1)), (a1, .inl (cy 1, 1037, .inl g81))]) [0, 2] rfl
  have hDc := hD.sub (ws' := [(a2, .inl (cy 1, 1037, .inl g1)), (a1, .inl (cy 1, 1037, .inl g81))]) [0, 2] (by decide) rfl
  have hFc := va_free (wc := [(a2, .inl (cy 1, 1037, .inl g1)), (a1, .inl (cy 1, 1037, .inl g81))]) hD hS hA [0, 2] rfl
  refine va_callv (va_runS (As := [.ref a2, .int 0, .ref a1, .int 0]) (rest := []) ⟨hx, hb, hml, hown, hts⟩ (c_X8_copies l dC dI cy nb a2 a1 0 0 1037 1037 g1 g81 H.size (by decide) (by decide) (by decide)) (va_cwS 4 hts (gS mw_423 mw_424 mw_5 mw_425) rfl rfl rfl (by decide +kernel) ⟨Nat.le_of_ble_eq_true rfl, Nat.le_of_ble_eq_true rfl⟩) ⟨fun a U g mk q => by obtain ⟨q0, q1, qP, qK, qD, qE⟩ := q; exact ⟨q0, q1, qP, va_K.moved (u := U) (U := U.calling g mk a) (Vm.Alike.refl U.vm) qK, qD, GE.calling qE⟩, fun U hU hW => ⟨rfl, by rw [hU], by rw [hU]; exact hPc, va_K.moved hW.alike hK, hDc.weaken (fun _ _ _ _ => trivial), GE.call hE hS hFc hU hW⟩⟩ rfl rfl hl.1 rfl (lv_room (Nat.le_of_ble_eq_true rfl)) dX8_bestOf_79 ⟨Nat.le_of_ble_eq_true rfl, Nat.le_of_ble_eq_true rfl⟩) hS (fun q _ h => hFc q h) hFc (fun u t H1 locs ht hvm hw86 hB hz1 hk1 hS => ?_)
  obtain ⟨g84, hg85, hP1, hD1⟩ := hB
  rw [ht] at hP1
  obtain ⟨hP, hD⟩ := va_join (wr := [(h0, .inr (8, [.ref a1, .ref a2, .ref a3, .ref a4, .ref a5, .int 0, .int x6, .ref a6, .int 0, .int 0, .int 0, .int 0, .int 0, .int 0, .int 0, .int 0, .int (-1), .ref a7, .ref a8, .int 0, .ref a9, .ref b0, .int 0]))]) (w1 := [(a2, .inl (cy 1, 1037, .inl g1)), (a1, .inl (cy 1, 1037, .inl g84))]) hP hD [0, 2] [1] rfl rfl (by decide) (by decide) hk1 hFc hP1 hD1
  generalize H1 = H at hP hS ⊢
  have hP : va_P (dC, dI) vwCl [(h0, .inr (8, [.ref a1, .ref a2, .ref a3, .ref a4, .ref a5, .int 0, .int x6, .ref a6, .int 0, .int 0, .int 0, .int 0, .int 0, .int 0, .int 0, .int 0, .int (-1), .ref a7, .ref a8, .int 0, .ref a9, .ref b0, .int 0])), (a2, .inl (cy 1, 1037, .inl g1)), (a1, .inl (cy 1, 1037, .inl g84))] H := hP
  have hD : va_D A [(h0, .inr (8, [.ref a1, .ref a2, .ref a3, .ref a4, .ref a5, .int 0, .int x6, .ref a6, .int 0, .int 0, .int 0, .int 0, .int 0, .int 0, .int 0, .int 0, .int (-1), .ref a7, .ref a8, .int 0, .ref a9, .ref b0, .int 0])), (a2, .inl (cy 1, 1037, .inl g1)), (a1, .inl (cy 1, 1037, .inl g84))] := hD
  refine W.widen (k := 0) (n := 0) (by omega) (by omega) ?_
  have hz87 : FT 0 g84 := FT_cp hg85 hfa
  refine lv_iinc (v := 13) (lv' := [(8, .int 13), (9, .int 0), (7, .int 0), (6, .int 1), (0, .ref h0), (1, .int 1), (2, .int 1), (3, .int 20), (4, .int 2), (5, .int (-1))]) hx hb dX8_bestOf_82 hl (k := 1) rfl (by decide) (by decide) rfl (fun ls hl => ?_)
  refine lv_goto (tgt := 24) hx hb dX8_bestOf_85 (by decide) ?_
  refine lv_iload hx hb dX8_bestOf_24 (lv_at hl 0 rfl) ?_
  refine lv_iload_n hx hb dX8_bestOf_26 rfl (lv_at hl 7 rfl) ?_
  refine lv_icmp_gt (tgt := 88) hx hb dX8_bestOf_27 (by decide) (fun h => absurd h (by decide)) (fun _ => ?_)
  refine lv_aload_n hx hb dX8_bestOf_30 rfl (lv_at hl 4 rfl) ?_
  refine va_get (D := (dC, dI)) (ci := 8) (v := .ref a1) (C := RX8) (T := TX8) (N := 23) hx hb hts inlX8 hown hK hP 0 rfl rfl 0 (by decide) (hts _ mw_97) (fun _ h9 => h9) rfl dX8_bestOf_31 ?_
  refine lv_iload_n hx hb dX8_bestOf_34 rfl (lv_at hl 5 rfl) ?_
  refine lv_iload hx hb dX8_bestOf_35 (lv_at hl 0 rfl) ?_
  refine va_iast hx hb hK hP hD hS 2 1 rfl rfl (vp_in_nI (n := 1) (by decide) (by decide)) dX8_bestOf_37 (fun H locs hP hD hS => ?_)
  have hP : va_P (dC, dI) vwCl [(h0, .inr (8, [.ref a1, .ref a2, .ref a3, .ref a4, .ref a5, .int 0, .int x6, .ref a6, .int 0, .int 0, .int 0, .int 0, .int 0, .int 0, .int 0, .int 0, .int (-1), .ref a7, .ref a8, .int 0, .ref a9, .ref b0, .int 0])), (a2, .inl (cy 1, 1037, .inl g1)), (a1, .inl (cy 1, 1037, .inl (upd g84 ((1 : Int32).toNatClampNeg) 13)))] H := hP
  have hD : va_D A [(h0, .inr (8, [.ref a1, .ref a2, .ref a3, .ref a4, .ref a5, .int 0, .int x6, .ref a6, .int 0, .int 0, .int 0, .int 0, .int 0, .int 0, .int 0, .int 0, .int (-1), .ref a7, .ref a8, .int 0, .ref a9, .ref b0, .int 0])), (a2, .inl (cy 1, 1037, .inl g1)), (a1, .inl (cy 1, 1037, .inl (upd g84 ((1 : Int32).toNatClampNeg) 13)))] := hD
  have hf89 : FT 0 (upd g84 ((1 : Int32).toNatClampNeg) 13) := FT_up hz87 (Or.inr (by decide))
  generalize (upd g84 ((1 : Int32).toNatClampNeg) 13) = g88 at hP hD hf89
  refine lv_aload_n hx hb dX8_bestOf_38 rfl (lv_at hl 4 rfl) ?_
  refine lv_iload hx hb dX8_bestOf_39 (lv_at hl 8 rfl) ?_
  refine lv_iload hx hb dX8_bestOf_41 (lv_at hl 9 rfl) ?_
  have hPc := hP.sub (ws' := [(h0, .inr (8, [.ref a1, .ref a2, .ref a3, .ref a4, .ref a5, .int 0, .int x6, .ref a6, .int 0, .int 0, .int 0, .int 0, .int 0, .int 0, .int 0, .int 0, .int (-1), .ref a7, .ref a8, .int 0, .ref a9, .ref b0, .int 0])), (a1, .inl (cy 1, 1037, .inl g88))]) [0, 2] rfl
  have hDc := hD.sub (ws' := [(h0, .inr (8, [.ref a1, .ref a2, .ref a3, .ref a4, .ref a5, .int 0, .int x6, .ref a6, .int 0, .int 0, .int 0, .int 0, .int 0, .int 0, .int 0, .int 0, .int (-1), .ref a7, .ref a8, .int 0, .ref a9, .ref b0, .int 0])), (a1, .inl (cy 1, 1037, .inl g88))]) [0, 2] (by decide) rfl
  have hFc := va_free (wc := [(h0, .inr (8, [.ref a1, .ref a2, .ref a3, .ref a4, .ref a5, .int 0, .int x6, .ref a6, .int 0, .int 0, .int 0, .int 0, .int 0, .int 0, .int 0, .int 0, .int (-1), .ref a7, .ref a8, .int 0, .ref a9, .ref b0, .int 0])), (a1, .inl (cy 1, 1037, .inl g88))]) hD hS hA [0, 2] rfl
  refine va_calli (va_runV (As := [.int 2, .int (-1)]) (rest := []) ⟨hx, hb, hml, hown, hts⟩ (c_X8_goes l dC dI cy nb h0 a1 (.ref a2) (.ref a3) (.ref a4) (.ref a5) (.int 0) (.int x6) (.ref a6) (.int 0) (.int 0) (.int 0) (.int 0) (.int 0) (.int 0) (.int 0) (.int 0) (.int (-1)) (.ref a7) (.ref a8) (.int 0) (.ref a9) (.ref b0) (.int 0) g88 0 H.size hf89) (cwV 2 hts (gV mw_1334 mw_1335 mw_1336 mw_5 mw_1337) rfl rfl rfl (by decide +kernel) ⟨Nat.le_of_ble_eq_true rfl, Nat.le_of_ble_eq_true rfl⟩) ⟨fun a U g mk q => by obtain ⟨q0, q1, qP, qK, qD, qE⟩ := q; exact ⟨q0, q1, qP, va_K.moved (u := U) (U := U.calling g mk a) (Vm.Alike.refl U.vm) qK, qD, GE.calling qE⟩, va_recv hK hP (ci := 8) (q0 := 0) rfl rfl, fun U hU hW => ⟨rfl, by rw [hU], by rw [hU]; exact hPc, va_K.moved hW.alike hK, hDc.weaken (fun _ _ _ _ => trivial), GE.call hE hS hFc hU hW⟩⟩ rfl rfl hl.1 rfl (lv_room (Nat.le_of_ble_eq_true rfl)) dX8_bestOf_43 ⟨Nat.le_of_ble_eq_true rfl, Nat.le_of_ble_eq_true rfl⟩) hS (fun q _ h => hFc q h) hFc (fun r u t H1 locs ht hvm hw90 hB hz1 hk1 hS => ?_)
  obtain ⟨hP1, hD1⟩ := hB
  rw [ht] at hP1
  obtain ⟨hP, hD⟩ := va_join (wr := [(a2, .inl (cy 1, 1037, .inl g1))]) (w1 := [(h0, .inr (8, [.ref a1, .ref a2, .ref a3, .ref a4, .ref a5, .int 0, .int x6, .ref a6, .int 0, .int 0, .int 0, .int 0, .int 0, .int 0, .int 0, .int 0, .int (-1), .ref a7, .ref a8, .int 0, .ref a9, .ref b0, .int 0])), (a1, .inl (cy 1, 1037, .inl g88))]) hP hD [0, 2] [1] rfl rfl (by decide) (by decide) hk1 hFc hP1 hD1
  generalize H1 = H at hP hS ⊢
  have hP : va_P (dC, dI) vwCl [(a2, .inl (cy 1, 1037, .inl g1)), (h0, .inr (8, [.ref a1, .ref a2, .ref a3, .ref a4, .ref a5, .int 0, .int x6, .ref a6, .int 0, .int 0, .int 0, .int 0, .int 0, .int 0, .int 0, .int 0, .int (-1), .ref a7, .ref a8, .int 0, .ref a9, .ref b0, .int 0])), (a1, .inl (cy 1, 1037, .inl g88))] H := hP
  have hD : va_D A [(a2, .inl (cy 1, 1037, .inl g1)), (h0, .inr (8, [.ref a1, .ref a2, .ref a3, .ref a4, .ref a5, .int 0, .int x6, .ref a6, .int 0, .int 0, .int 0, .int 0, .int 0, .int 0, .int 0, .int 0, .int (-1), .ref a7, .ref a8, .int 0, .ref a9, .ref b0, .int 0])), (a1, .inl (cy 1, 1037, .inl g88))] := hD
  obtain rfl := hw90
  refine W.widen (k := 0) (n := 0) (by omega) (by omega) ?_
  refine lv_istore (lv' := [(9, .int 0), (8, .int 13), (7, .int 0), (6, .int 1), (0, .ref h0), (1, .int 1), (2, .int 1), (3, .int 20), (4, .int 2), (5, .int (-1))]) hx hb dX8_bestOf_46 hl (by decide) rfl (fun ls hl => ?_)
  refine lv_iload hx hb dX8_bestOf_48 (lv_at hl 0 rfl) ?_
  refine lv_iconst (v := (-1)) hx hb dX8_bestOf_50 (by decide) ?_
  refine lv_icmp_eq (tgt := 69) hx hb dX8_bestOf_51 (by decide) (fun h => absurd h (by decide)) (fun _ => ?_)
  refine lv_iload hx hb dX8_bestOf_54 (lv_at hl 0 rfl) ?_
  refine lv_iload hx hb dX8_bestOf_56 (lv_at hl 2 rfl) ?_
  refine lv_icmp_ge (tgt := 69) hx hb dX8_bestOf_58 (by decide) (fun _ => ?_) (fun h => absurd (by decide) h)
  refine lv_aload_n hx hb dX8_bestOf_69 rfl (lv_at hl 4 rfl) ?_
  refine va_get (D := (dC, dI)) (ci := 8) (v := .ref a2) (C := RX8) (T := TX8) (N := 23) hx hb hts inlX8 hown hK hP 1 rfl rfl 1 (by decide) (hts _ mw_98) (fun _ h9 => h9) rfl dX8_bestOf_70 ?_
  refine lv_iconst (v := 0) hx hb dX8_bestOf_73 (by decide) ?_
  refine lv_aload_n hx hb dX8_bestOf_74 rfl (lv_at hl 4 rfl) ?_
  refine va_get (D := (dC, dI)) (ci := 8) (v := .ref a1) (C := RX8) (T := TX8) (N := 23) hx hb hts inlX8 hown hK hP 1 rfl rfl 0 (by decide) (hts _ mw_97) (fun _ h9 => h9) rfl dX8_bestOf_75 ?_
  refine lv_iconst (v := 0) hx hb dX8_bestOf_78 (by decide) ?_
  have hPc := hP.sub (ws' := [(a2, .inl (cy 1, 1037, .inl g1)), (a1, .inl (cy 1, 1037, .inl g88))]) [0, 2] rfl
  have hDc := hD.sub (ws' := [(a2, .inl (cy 1, 1037, .inl g1)), (a1, .inl (cy 1, 1037, .inl g88))]) [0, 2] (by decide) rfl
  have hFc := va_free (wc := [(a2, .inl (cy 1, 1037, .inl g1)), (a1, .inl (cy 1, 1037, .inl g88))]) hD hS hA [0, 2] rfl
  refine va_callv (va_runS (As := [.ref a2, .int 0, .ref a1, .int 0]) (rest := []) ⟨hx, hb, hml, hown, hts⟩ (c_X8_copies l dC dI cy nb a2 a1 0 0 1037 1037 g1 g88 H.size (by decide) (by decide) (by decide)) (va_cwS 4 hts (gS mw_423 mw_424 mw_5 mw_425) rfl rfl rfl (by decide +kernel) ⟨Nat.le_of_ble_eq_true rfl, Nat.le_of_ble_eq_true rfl⟩) ⟨fun a U g mk q => by obtain ⟨q0, q1, qP, qK, qD, qE⟩ := q; exact ⟨q0, q1, qP, va_K.moved (u := U) (U := U.calling g mk a) (Vm.Alike.refl U.vm) qK, qD, GE.calling qE⟩, fun U hU hW => ⟨rfl, by rw [hU], by rw [hU]; exact hPc, va_K.moved hW.alike hK, hDc.weaken (fun _ _ _ _ => trivial), GE.call hE hS hFc hU hW⟩⟩ rfl rfl hl.1 rfl (lv_room (Nat.le_of_ble_eq_true rfl)) dX8_bestOf_79 ⟨Nat.le_of_ble_eq_true rfl, Nat.le_of_ble_eq_true rfl⟩) hS (fun q _ h => hFc q h) hFc (fun u t H1 locs ht hvm hw93 hB hz1 hk1 hS => ?_)
  obtain ⟨g91, hg92, hP1, hD1⟩ := hB
  rw [ht] at hP1
  obtain ⟨hP, hD⟩ := va_join (wr := [(h0, .inr (8, [.ref a1, .ref a2, .ref a3, .ref a4, .ref a5, .int 0, .int x6, .ref a6, .int 0, .int 0, .int 0, .int 0, .int 0, .int 0, .int 0, .int 0, .int (-1), .ref a7, .ref a8, .int 0, .ref a9, .ref b0, .int 0]))]) (w1 := [(a2, .inl (cy 1, 1037, .inl g1)), (a1, .inl (cy 1, 1037, .inl g91))]) hP hD [0, 2] [1] rfl rfl (by decide) (by decide) hk1 hFc hP1 hD1
  generalize H1 = H at hP hS ⊢
  have hP : va_P (dC, dI) vwCl [(h0, .inr (8, [.ref a1, .ref a2, .ref a3, .ref a4, .ref a5, .int 0, .int x6, .ref a6, .int 0, .int 0, .int 0, .int 0, .int 0, .int 0, .int 0, .int 0, .int (-1), .ref a7, .ref a8, .int 0, .ref a9, .ref b0, .int 0])), (a2, .inl (cy 1, 1037, .inl g1)), (a1, .inl (cy 1, 1037, .inl g91))] H := hP
  have hD : va_D A [(h0, .inr (8, [.ref a1, .ref a2, .ref a3, .ref a4, .ref a5, .int 0, .int x6, .ref a6, .int 0, .int 0, .int 0, .int 0, .int 0, .int 0, .int 0, .int 0, .int (-1), .ref a7, .ref a8, .int 0, .ref a9, .ref b0, .int 0])), (a2, .inl (cy 1, 1037, .inl g1)), (a1, .inl (cy 1, 1037, .inl g91))] := hD
  refine W.widen (k := 0) (n := 0) (by omega) (by omega) ?_
  have hz94 : FT 0 g91 := FT_cp hg92 hfa
  refine lv_iinc (v := 14) (lv' := [(8, .int 14), (9, .int 0), (7, .int 0), (6, .int 1), (0, .ref h0), (1, .int 1), (2, .int 1), (3, .int 20), (4, .int 2), (5, .int (-1))]) hx hb dX8_bestOf_82 hl (k := 1) rfl (by decide) (by decide) rfl (fun ls hl => ?_)
  refine lv_goto (tgt := 24) hx hb dX8_bestOf_85 (by decide) ?_
  refine lv_iload hx hb dX8_bestOf_24 (lv_at hl 0 rfl) ?_
  refine lv_iload_n hx hb dX8_bestOf_26 rfl (lv_at hl 7 rfl) ?_
  refine lv_icmp_gt (tgt := 88) hx hb dX8_bestOf_27 (by decide) (fun h => absurd h (by decide)) (fun _ => ?_)
  refine lv_aload_n hx hb dX8_bestOf_30 rfl (lv_at hl 4 rfl) ?_
  refine va_get (D := (dC, dI)) (ci := 8) (v := .ref a1) (C := RX8) (T := TX8) (N := 23) hx hb hts inlX8 hown hK hP 0 rfl rfl 0 (by decide) (hts _ mw_97) (fun _ h9 => h9) rfl dX8_bestOf_31 ?_
  refine lv_iload_n hx hb dX8_bestOf_34 rfl (lv_at hl 5 rfl) ?_
  refine lv_iload hx hb dX8_bestOf_35 (lv_at hl 0 rfl) ?_
  refine va_iast hx hb hK hP hD hS 2 1 rfl rfl (vp_in_nI (n := 1) (by decide) (by decide)) dX8_bestOf_37 (fun H locs hP hD hS => ?_)
  have hP : va_P (dC, dI) vwCl [(h0, .inr (8, [.ref a1, .ref a2, .ref a3, .ref a4, .ref a5, .int 0, .int x6, .ref a6, .int 0, .int 0, .int 0, .int 0, .int 0, .int 0, .int 0, .int 0, .int (-1), .ref a7, .ref a8, .int 0, .ref a9, .ref b0, .int 0])), (a2, .inl (cy 1, 1037, .inl g1)), (a1, .inl (cy 1, 1037, .inl (upd g91 ((1 : Int32).toNatClampNeg) 14)))] H := hP
  have hD : va_D A [(h0, .inr (8, [.ref a1, .ref a2, .ref a3, .ref a4, .ref a5, .int 0, .int x6, .ref a6, .int 0, .int 0, .int 0, .int 0, .int 0, .int 0, .int 0, .int 0, .int (-1), .ref a7, .ref a8, .int 0, .ref a9, .ref b0, .int 0])), (a2, .inl (cy 1, 1037, .inl g1)), (a1, .inl (cy 1, 1037, .inl (upd g91 ((1 : Int32).toNatClampNeg) 14)))] := hD
  have hf96 : FT 0 (upd g91 ((1 : Int32).toNatClampNeg) 14) := FT_up hz94 (Or.inr (by decide))
  generalize (upd g91 ((1 : Int32).toNatClampNeg) 14) = g95 at hP hD hf96
  refine lv_aload_n hx hb dX8_bestOf_38 rfl (lv_at hl 4 rfl) ?_
  refine lv_iload hx hb dX8_bestOf_39 (lv_at hl 8 rfl) ?_
  refine lv_iload hx hb dX8_bestOf_41 (lv_at hl 9 rfl) ?_
  have hPc := hP.sub (ws' := [(h0, .inr (8, [.ref a1, .ref a2, .ref a3, .ref a4, .ref a5, .int 0, .int x6, .ref a6, .int 0, .int 0, .int 0, .int 0, .int 0, .int 0, .int 0, .int 0, .int (-1), .ref a7, .ref a8, .int 0, .ref a9, .ref b0, .int 0])), (a1, .inl (cy 1, 1037, .inl g95))]) [0, 2] rfl
  have hDc := hD.sub (ws' := [(h0, .inr (8, [.ref a1, .ref a2, .ref a3, .ref a4, .ref a5, .int 0, .int x6, .ref a6, .int 0, .int 0, .int 0, .int 0, .int 0, .int 0, .int 0, .int 0, .int (-1), .ref a7, .ref a8, .int 0, .ref a9, .ref b0, .int 0])), (a1, .inl (cy 1, 1037, .inl g95))]) [0, 2] (by decide) rfl
  have hFc := va_free (wc := [(h0, .inr (8, [.ref a1, .ref a2, .ref a3, .ref a4, .ref a5, .int 0, .int x6, .ref a6, .int 0, .int 0, .int 0, .int 0, .int 0, .int 0, .int 0, .int 0, .int (-1), .ref a7, .ref a8, .int 0, .ref a9, .ref b0, .int 0])), (a1, .inl (cy 1, 1037, .inl g95))]) hD hS hA [0, 2] rfl
  refine va_calli (va_runV (As := [.int 2, .int (-1)]) (rest := []) ⟨hx, hb, hml, hown, hts⟩ (c_X8_goes l dC dI cy nb h0 a1 (.ref a2) (.ref a3) (.ref a4) (.ref a5) (.int 0) (.int x6) (.ref a6) (.int 0) (.int 0) (.int 0) (.int 0) (.int 0) (.int 0) (.int 0) (.int 0) (.int (-1)) (.ref a7) (.ref a8) (.int 0) (.ref a9) (.ref b0) (.int 0) g95 0 H.size hf96) (cwV 2 hts (gV mw_1334 mw_1335 mw_1336 mw_5 mw_1337) rfl rfl rfl (by decide +kernel) ⟨Nat.le_of_ble_eq_true rfl, Nat.le_of_ble_eq_true rfl⟩) ⟨fun a U g mk q => by obtain ⟨q0, q1, qP, qK, qD, qE⟩ := q; exact ⟨q0, q1, qP, va_K.moved (u := U) (U := U.calling g mk a) (Vm.Alike.refl U.vm) qK, qD, GE.calling qE⟩, va_recv hK hP (ci := 8) (q0 := 0) rfl rfl, fun U hU hW => ⟨rfl, by rw [hU], by rw [hU]; exact hPc, va_K.moved hW.alike hK, hDc.weaken (fun _ _ _ _ => trivial), GE.call hE hS hFc hU hW⟩⟩ rfl rfl hl.1 rfl (lv_room (Nat.le_of_ble_eq_true rfl)) dX8_bestOf_43 ⟨Nat.le_of_ble_eq_true rfl, Nat.le_of_ble_eq_true rfl⟩) hS (fun q _ h => hFc q h) hFc (fun r u t H1 locs ht hvm hw97 hB hz1 hk1 hS => ?_)
  obtain ⟨hP1, hD1⟩ := hB
  rw [ht] at hP1
  obtain ⟨hP, hD⟩ := va_join (wr := [(a2, .inl (cy 1, 1037, .inl g1))]) (w1 := [(h0, .inr (8, [.ref a1, .ref a2, .ref a3, .ref a4, .ref a5, .int 0, .int x6, .ref a6, .int 0, .int 0, .int 0, .int 0, .int 0, .int 0, .int 0, .int 0, .int (-1), .ref a7, .ref a8, .int 0, .ref a9, .ref b0, .int 0])), (a1, .inl (cy 1, 1037, .inl g95))]) hP hD [0, 2] [1] rfl rfl (by decide) (by decide) hk1 hFc hP1 hD1
  generalize H1 = H at hP hS ⊢
  have hP : va_P (dC, dI) vwCl [(a2, .inl (cy 1, 1037, .inl g1)), (h0, .inr (8, [.ref a1, .ref a2, .ref a3, .ref a4, .ref a5, .int 0, .int x6, .ref a6, .int 0, .int 0, .int 0, .int 0, .int 0, .int 0, .int 0, .int 0, .int (-1), .ref a7, .ref a8, .int 0, .ref a9, .ref b0, .int 0])), (a1, .inl (cy 1, 1037, .inl g95))] H := hP
  have hD : va_D A [(a2, .inl (cy 1, 1037, .inl g1)), (h0, .inr (8, [.ref a1, .ref a2, .ref a3, .ref a4, .ref a5, .int 0, .int x6, .ref a6, .int 0, .int 0, .int 0, .int 0, .int 0, .int 0, .int 0, .int 0, .int (-1), .ref a7, .ref a8, .int 0, .ref a9, .ref b0, .int 0])), (a1, .inl (cy 1, 1037, .inl g95))] := hD
  obtain rfl := hw97
  refine W.widen (k := 0) (n := 0) (by omega) (by omega) ?_
  refine lv_istore (lv' := [(9, .int 0), (8, .int 14), (7, .int 0), (6, .int 1), (0, .ref h0), (1, .int 1), (2, .int 1), (3, .int 20), (4, .int 2), (5, .int (-1))]) hx hb dX8_bestOf_46 hl (by decide) rfl (fun ls hl => ?_)
  refine lv_iload hx hb dX8_bestOf_48 (lv_at hl 0 rfl) ?_
  refine lv_iconst (v := (-1)) hx hb dX8_bestOf_50 (by decide) ?_
  refine lv_icmp_eq (tgt := 69) hx hb dX8_bestOf_51 (by decide) (fun h => absurd h (by decide)) (fun _ => ?_)
  refine lv_iload hx hb dX8_bestOf_54 (lv_at hl 0 rfl) ?_
  refine lv_iload hx hb dX8_bestOf_56 (lv_at hl 2 rfl) ?_
  refine lv_icmp_ge (tgt := 69) hx hb dX8_bestOf_58 (by decide) (fun _ => ?_) (fun h => absurd (by decide) h)
  refine lv_aload_n hx hb dX8_bestOf_69 rfl (lv_at hl 4 rfl) ?_
  refine va_get (D := (dC, dI)) (ci := 8) (v := .ref a2) (C := RX8) (T := TX8) (N := 23) hx hb hts inlX8 hown hK hP 1 rfl rfl 1 (by decide) (hts _ mw_98) (fun _ h9 => h9) rfl dX8_bestOf_70 ?_
  refine lv_iconst (v := 0) hx hb dX8_bestOf_73 (by decide) ?_
  refine lv_aload_n hx hb dX8_bestOf_74 rfl (lv_at hl 4 rfl) ?_
  refine va_get (D := (dC, dI)) (ci := 8) (v := .ref a1) (C := RX8) (T := TX8) (N := 23) hx hb hts inlX8 hown hK hP 1 rfl rfl 0 (by decide) (hts _ mw_97) (fun _ h9 => h9) rfl dX8_bestOf_75 ?_
  refine lv_iconst (v := 0) hx hb dX8_bestOf_78 (by decide) ?_
  have hPc := hP.sub (ws' := [(a2, .inl (cy 1, 1037, .inl g1)), (a1, .inl (cy 1, 1037, .inl g95))]) [0, 2] rfl
  have hDc := hD.sub (ws' := [(a2, .inl (cy 1, 1037, .inl g1)), (a1, .inl (cy 1, 1037, .inl g95))]) [0, 2] (by decide) rfl
  have hFc := va_free (wc := [(a2, .inl (cy 1, 1037, .inl g1)), (a1, .inl (cy 1, 1037, .inl g95))]) hD hS hA [0, 2] rfl
  refine va_callv (va_runS (As := [.ref a2, .int 0, .ref a1, .int 0]) (rest := []) ⟨hx, hb, hml, hown, hts⟩ (c_X8_copies l dC dI cy nb a2 a1 0 0 1037 1037 g1 g95 H.size (by decide) (by decide) (by decide)) (va_cwS 4 hts (gS mw_423 mw_424 mw_5 mw_425) rfl rfl rfl (by decide +kernel) ⟨Nat.le_of_ble_eq_true rfl, Nat.le_of_ble_eq_true rfl⟩) ⟨fun a U g mk q => by obtain ⟨q0, q1, qP, qK, qD, qE⟩ := q; exact ⟨q0, q1, qP, va_K.moved (u := U) (U := U.calling g mk a) (Vm.Alike.refl U.vm) qK, qD, GE.calling qE⟩, fun U hU hW => ⟨rfl, by rw [hU], by rw [hU]; exact hPc, va_K.moved hW.alike hK, hDc.weaken (fun _ _ _ _ => trivial), GE.call hE hS hFc hU hW⟩⟩ rfl rfl hl.1 rfl (lv_room (Nat.le_of_ble_eq_true rfl)) dX8_bestOf_79 ⟨Nat.le_of_ble_eq_true rfl, Nat.le_of_ble_eq_true rfl⟩) hS (fun q _ h => hFc q h) hFc (fun u t H1 locs ht hvm hw100 hB hz1 hk1 hS => ?_)
  obtain ⟨g98, hg99, hP1, hD1⟩ := hB
  rw [ht] at hP1
  obtain ⟨hP, hD⟩ := va_join (wr := [(h0, .inr (8, [.ref a1, .ref a2, .ref a3, .ref a4, .ref a5, .int 0, .int x6, .ref a6, .int 0, .int 0, .int 0, .int 0, .int 0, .int 0, .int 0, .int 0, .int (-1), .ref a7, .ref a8, .int 0, .ref a9, .ref b0, .int 0]))]) (w1 := [(a2, .inl (cy 1, 1037, .inl g1)), (a1, .inl (cy 1, 1037, .inl g98))]) hP hD [0, 2] [1] rfl rfl (by decide) (by decide) hk1 hFc hP1 hD1
  generalize H1 = H at hP hS ⊢
  have hP : va_P (dC, dI) vwCl [(h0, .inr (8, [.ref a1, .ref a2, .ref a3, .ref a4, .ref a5, .int 0, .int x6, .ref a6, .int 0, .int 0, .int 0, .int 0, .int 0, .int 0, .int 0, .int 0, .int (-1), .ref a7, .ref a8, .int 0, .ref a9, .ref b0, .int 0])), (a2, .inl (cy 1, 1037, .inl g1)), (a1, .inl (cy 1, 1037, .inl g98))] H := hP
  have hD : va_D A [(h0, .inr (8, [.ref a1, .ref a2, .ref a3, .ref a4, .ref a5, .int 0, .int x6, .ref a6, .int 0, .int 0, .int 0, .int 0, .int 0, .int 0, .int 0, .int 0, .int (-1), .ref a7, .ref a8, .int 0, .ref a9, .ref b0, .int 0])), (a2, .inl (cy 1, 1037, .inl g1)), (a1, .inl (cy 1, 1037, .inl g98))] := hD
  refine W.widen (k := 0) (n := 0) (by omega) (by omega) ?_
  have hz101 : FT 0 g98 := FT_cp hg99 hfa
  refine lv_iinc (v := 15) (lv' := [(8, .int 15), (9, .int 0), (7, .int 0), (6, .int 1), (0, .ref h0), (1, .int 1), (2, .int 1), (3, .int 20), (4, .int 2), (5, .int (-1))]) hx hb dX8_bestOf_82 hl (k := 1) rfl (by decide) (by decide) rfl (fun ls hl => ?_)
  refine lv_goto (tgt := 24) hx hb dX8_bestOf_85 (by decide) ?_
  refine lv_iload hx hb dX8_bestOf_24 (lv_at hl 0 rfl) ?_
  refine lv_iload_n hx hb dX8_bestOf_26 rfl (lv_at hl 7 rfl) ?_
  refine lv_icmp_gt (tgt := 88) hx hb dX8_bestOf_27 (by decide) (fun h => absurd h (by decide)) (fun _ => ?_)
  refine lv_aload_n hx hb dX8_bestOf_30 rfl (lv_at hl 4 rfl) ?_
  refine va_get (D := (dC, dI)) (ci := 8) (v := .ref a1) (C := RX8) (T := TX8) (N := 23) hx hb hts inlX8 hown hK hP 0 rfl rfl 0 (by decide) (hts _ mw_97) (fun _ h9 => h9) rfl dX8_bestOf_31 ?_
  refine lv_iload_n hx hb dX8_bestOf_34 rfl (lv_at hl 5 rfl) ?_
  refine lv_iload hx hb dX8_bestOf_35 (lv_at hl 0 rfl) ?_
  refine va_iast hx hb hK hP hD hS 2 1 rfl rfl (vp_in_nI (n := 1) (by decide) (by decide)) dX8_bestOf_37 (fun H locs hP hD hS => ?_)
  have hP : va_P (dC, dI) vwCl [(h0, .inr (8, [.ref a1, .ref a2, .ref a3, .ref a4, .ref a5, .int 0, .int x6, .ref a6, .int 0, .int 0, .int 0, .int 0, .int 0, .int 0, .int 0, .int 0, .int (-1), .ref a7, .ref a8, .int 0, .ref a9, .ref b0, .int 0])), (a2, .inl (cy 1, 1037, .inl g1)), (a1, .inl (cy 1, 1037, .inl (upd g98 ((1 : Int32).toNatClampNeg) 15)))] H := hP
  have hD : va_D A [(h0, .inr (8, [.ref a1, .ref a2, .ref a3, .ref a4, .ref a5, .int 0, .int x6, .ref a6, .int 0, .int 0, .int 0, .int 0, .int 0, .int 0, .int 0, .int 0, .int (-1), .ref a7, .ref a8, .int 0, .ref a9, .ref b0, .int 0])), (a2, .inl (cy 1, 1037, .inl g1)), (a1, .inl (cy 1, 1037, .inl (upd g98 ((1 : Int32).toNatClampNeg) 15)))] := hD
  have hf103 : FT 0 (upd g98 ((1 : Int32).toNatClampNeg) 15) := FT_up hz101 (Or.inr (by decide))
  generalize (upd g98 ((1 : Int32).toNatClampNeg) 15) = g102 at hP hD hf103
  refine lv_aload_n hx hb dX8_bestOf_38 rfl (lv_at hl 4 rfl) ?_
  refine lv_iload hx hb dX8_bestOf_39 (lv_at hl 8 rfl) ?_
  refine lv_iload hx hb dX8_bestOf_41 (lv_at hl 9 rfl) ?_
  have hPc := hP.sub (ws' := [(h0, .inr (8, [.ref a1, .ref a2, .ref a3, .ref a4, .ref a5, .int 0, .int x6, .ref a6, .int 0, .int 0, .int 0, .int 0, .int 0, .int 0, .int 0, .int 0, .int (-1), .ref a7, .ref a8, .int 0, .ref a9, .ref b0, .int 0])), (a1, .inl (cy 1, 1037, .inl g102))]) [0, 2] rfl
  have hDc := hD.sub (ws' := [(h0, .inr (8, [.ref a1, .ref a2, .ref a3, .ref a4, .ref a5, .int 0, .int x6, .ref a6, .int 0, .int 0, .int 0, .int 0, .int 0, .int 0, .int 0, .int 0, .int (-1), .ref a7, .ref a8, .int 0, .ref a9, .ref b0, .int 0])), (a1, .inl (cy 1, 1037, .inl g102))]) [0, 2] (by decide) rfl
  have hFc := va_free (wc := [(h0, .inr (8, [.ref a1, .ref a2, .ref a3, .ref a4, .ref a5, .int 0, .int x6, .ref a6, .int 0, .int 0, .int 0, .int 0, .int 0, .int 0, .int 0, .int 0, .int (-1), .ref a7, .ref a8, .int 0, .ref a9, .ref b0, .int 0])), (a1, .inl (cy 1, 1037, .inl g102))]) hD hS hA [0, 2] rfl
  refine va_calli (va_runV (As := [.int 2, .int (-1)]) (rest := []) ⟨hx, hb, hml, hown, hts⟩ (c_X8_goes l dC dI cy nb h0 a1 (.ref a2) (.ref a3) (.ref a4) (.ref a5) (.int 0) (.int x6) (.ref a6) (.int 0) (.int 0) (.int 0) (.int 0) (.int 0) (.int 0) (.int 0) (.int 0) (.int (-1)) (.ref a7) (.ref a8) (.int 0) (.ref a9) (.ref b0) (.int 0) g102 0 H.size hf103) (cwV 2 hts (gV mw_1334 mw_1335 mw_1336 mw_5 mw_1337) rfl rfl rfl (by decide +kernel) ⟨Nat.le_of_ble_eq_true rfl, Nat.le_of_ble_eq_true rfl⟩) ⟨fun a U g mk q => by obtain ⟨q0, q1, qP, qK, qD, qE⟩ := q; exact ⟨q0, q1, qP, va_K.moved (u := U) (U := U.calling g mk a) (Vm.Alike.refl U.vm) qK, qD, GE.calling qE⟩, va_recv hK hP (ci := 8) (q0 := 0) rfl rfl, fun U hU hW => ⟨rfl, by rw [hU], by rw [hU]; exact hPc, va_K.moved hW.alike hK, hDc.weaken (fun _ _ _ _ => trivial), GE.call hE hS hFc hU hW⟩⟩ rfl rfl hl.1 rfl (lv_room (Nat.le_of_ble_eq_true rfl)) dX8_bestOf_43 ⟨Nat.le_of_ble_eq_true rfl, Nat.le_of_ble_eq_true rfl⟩) hS (fun q _ h => hFc q h) hFc (fun r u t H1 locs ht hvm hw104 hB hz1 hk1 hS => ?_)
  obtain ⟨hP1, hD1⟩ := hB
  rw [ht] at hP1
  obtain ⟨hP, hD⟩ := va_join (wr := [(a2, .inl (cy 1, 1037, .inl g1))]) (w1 := [(h0, .inr (8, [.ref a1, .ref a2, .ref a3, .ref a4, .ref a5, .int 0, .int x6, .ref a6, .int 0, .int 0, .int 0, .int 0, .int 0, .int 0, .int 0, .int 0, .int (-1), .ref a7, .ref a8, .int 0, .ref a9, .ref b0, .int 0])), (a1, .inl (cy 1, 1037, .inl g102))]) hP hD [0, 2] [1] rfl rfl (by decide) (by decide) hk1 hFc hP1 hD1
  generalize H1 = H at hP hS ⊢
  have hP : va_P (dC, dI) vwCl [(a2, .inl (cy 1, 1037, .inl g1)), (h0, .inr (8, [.ref a1, .ref a2, .ref a3, .ref a4, .ref a5, .int 0, .int x6, .ref a6, .int 0, .int 0, .int 0, .int 0, .int 0, .int 0, .int 0, .int 0, .int (-1), .ref a7, .ref a8, .int 0, .ref a9, .ref b0, .int 0])), (a1, .inl (cy 1, 1037, .inl g102))] H := hP
  have hD : va_D A [(a2, .inl (cy 1, 1037, .inl g1)), (h0, .inr (8, [.ref a1, .ref a2, .ref a3, .ref a4, .ref a5, .int 0, .int x6, .ref a6, .int 0, .int 0, .int 0, .int 0, .int 0, .int 0, .int 0, .int 0, .int (-1), .ref a7, .ref a8, .int 0, .ref a9, .ref b0, .int 0])), (a1, .inl (cy 1, 1037, .inl g102))] := hD
  obtain rfl := hw104
  refine W.widen (k := 0) (n := 0) (by omega) (by omega) ?_
  refine lv_istore (lv' := [(9, .int 0), (8, .int 15), (7, .int 0), (6, .int 1), (0, .ref h0), (1, .int 1), (2, .int 1), (3, .int 20), (4, .int 2), (5, .int (-1))]) hx hb dX8_bestOf_46 hl (by decide) rfl (fun ls hl => ?_)
  refine lv_iload hx hb dX8_bestOf_48 (lv_at hl 0 rfl) ?_
  refine lv_iconst (v := (-1)) hx hb dX8_bestOf_50 (by decide) ?_
  refine lv_icmp_eq (tgt := 69) hx hb dX8_bestOf_51 (by decide) (fun h => absurd h (by decide)) (fun _ => ?_)
  refine lv_iload hx hb dX8_bestOf_54 (lv_at hl 0 rfl) ?_
  refine lv_iload hx hb dX8_bestOf_56 (lv_at hl 2 rfl) ?_
  refine lv_icmp_ge (tgt := 69) hx hb dX8_bestOf_58 (by decide) (fun _ => ?_) (fun h => absurd (by decide) h)
  refine lv_aload_n hx hb dX8_bestOf_69 rfl (lv_at hl 4 rfl) ?_
  refine va_get (D := (dC, dI)) (ci := 8) (v := .ref a2) (C := RX8) (T := TX8) (N := 23) hx hb hts inlX8 hown hK hP 1 rfl rfl 1 (by decide) (hts _ mw_98) (fun _ h9 => h9) rfl dX8_bestOf_70 ?_
  refine lv_iconst (v := 0) hx hb dX8_bestOf_73 (by decide) ?_
  refine lv_aload_n hx hb dX8_bestOf_74 rfl (lv_at hl 4 rfl) ?_
  refine va_get (D := (dC, dI)) (ci := 8) (v := .ref a1) (C := RX8) (T := TX8) (N := 23) hx hb hts inlX8 hown hK hP 1 rfl rfl 0 (by decide) (hts _ mw_97) (fun _ h9 => h9) rfl dX8_bestOf_75 ?_
  refine lv_iconst (v := 0) hx hb dX8_bestOf_78 (by decide) ?_
  have hPc := hP.sub (ws' := [(a2, .inl (cy 1, 1037, .inl g1)), (a1, .inl (cy 1, 1037, .inl g102))]) [0, 2] rfl
  have hDc := hD.sub (ws' := [(a2, .inl (cy 1, 1037, .inl g1)), (a1, .inl (cy 1, 1037, .inl g102))]) [0, 2] (by decide) rfl
  have hFc := va_free (wc := [(a2, .inl (cy 1, 1037, .inl g1)), (a1, .inl (cy 1, 1037, .inl g102))]) hD hS hA [0, 2] rfl
  refine va_callv (va_runS (As := [.ref a2, .int 0, .ref a1, .int 0]) (rest := []) ⟨hx, hb, hml, hown, hts⟩ (c_X8_copies l dC dI cy nb a2 a1 0 0 1037 1037 g1 g102 H.size (by decide) (by decide) (by decide)) (va_cwS 4 hts (gS mw_423 mw_424 mw_5 mw_425) rfl rfl rfl (by decide +kernel) ⟨Nat.le_of_ble_eq_true rfl, Nat.le_of_ble_eq_true rfl⟩) ⟨fun a U g mk q => by obtain ⟨q0, q1, qP, qK, qD, qE⟩ := q; exact ⟨q0, q1, qP, va_K.moved (u := U) (U := U.calling g mk a) (Vm.Alike.refl U.vm) qK, qD, GE.calling qE⟩, fun U hU hW => ⟨rfl, by rw [hU], by rw [hU]; exact hPc, va_K.moved hW.alike hK, hDc.weaken (fun _ _ _ _ => trivial), GE.call hE hS hFc hU hW⟩⟩ rfl rfl hl.1 rfl (lv_room (Nat.le_of_ble_eq_true rfl)) dX8_bestOf_79 ⟨Nat.le_of_ble_eq_true rfl, Nat.le_of_ble_eq_true rfl⟩) hS (fun q _ h => hFc q h) hFc (fun u t H1 locs ht hvm hw107 hB hz1 hk1 hS => ?_)
  obtain ⟨g105, hg106, hP1, hD1⟩ := hB
  rw [ht] at hP1
  obtain ⟨hP, hD⟩ := va_join (wr := [(h0, .inr (8, [.ref a1, .ref a2, .ref a3, .ref a4, .ref a5, .int 0, .int x6, .ref a6, .int 0, .int 0, .int 0, .int 0, .int 0, .int 0, .int 0, .int 0, .int (-1), .ref a7, .ref a8, .int 0, .ref a9, .ref b0, .int 0]))]) (w1 := [(a2, .inl (cy 1, 1037, .inl g1)), (a1, .inl (cy 1, 1037, .inl g105))]) hP hD [0, 2] [1] rfl rfl (by decide) (by decide) hk1 hFc hP1 hD1
  generalize H1 = H at hP hS ⊢
  have hP : va_P (dC, dI) vwCl [(h0, .inr (8, [.ref a1, .ref a2, .ref a3, .ref a4, .ref a5, .int 0, .int x6, .ref a6, .int 0, .int 0, .int 0, .int 0, .int 0, .int 0, .int 0, .int 0, .int (-1), .ref a7, .ref a8, .int 0, .ref a9, .ref b0, .int 0])), (a2, .inl (cy 1, 1037, .inl g1)), (a1, .inl (cy 1, 1037, .inl g105))] H := hP
  have hD : va_D A [(h0, .inr (8, [.ref a1, .ref a2, .ref a3, .ref a4, .ref a5, .int 0, .int x6, .ref a6, .int 0, .int 0, .int 0, .int 0, .int 0, .int 0, .int 0, .int 0, .int (-1), .ref a7, .ref a8, .int 0, .ref a9, .ref b0, .int 0])), (a2, .inl (cy 1, 1037, .inl g1)), (a1, .inl (cy 1, 1037, .inl g105))] := hD
  refine W.widen (k := 0) (n := 0) (by omega) (by omega) ?_
  have hz108 : FT 0 g105 := FT_cp hg106 hfa
  refine lv_iinc (v := 16) (lv' := [(8, .int 16), (9, .int 0), (7, .int 0), (6, .int 1), (0, .ref h0), (1, .int 1), (2, .int 1), (3, .int 20), (4, .int 2), (5, .int (-1))]) hx hb dX8_bestOf_82 hl (k := 1) rfl (by decide) (by decide) rfl (fun ls hl => ?_)
  refine lv_goto (tgt := 24) hx hb dX8_bestOf_85 (by decide) ?_
  refine lv_iload hx hb dX8_bestOf_24 (lv_at hl 0 rfl) ?_
  refine lv_iload_n hx hb dX8_bestOf_26 rfl (lv_at hl 7 rfl) ?_
  refine lv_icmp_gt (tgt := 88) hx hb dX8_bestOf_27 (by decide) (fun h => absurd h (by decide)) (fun _ => ?_)
  refine lv_aload_n hx hb dX8_bestOf_30 rfl (lv_at hl 4 rfl) ?_
  refine va_get (D := (dC, dI)) (ci := 8) (v := .ref a1) (C := RX8) (T := TX8) (N := 23) hx hb hts inlX8 hown hK hP 0 rfl rfl 0 (by decide) (hts _ mw_97) (fun _ h9 => h9) rfl dX8_bestOf_31 ?_
  refine lv_iload_n hx hb dX8_bestOf_34 rfl (lv_at hl 5 rfl) ?_
  refine lv_iload hx hb dX8_bestOf_35 (lv_at hl 0 rfl) ?_
  refine va_iast hx hb hK hP hD hS 2 1 rfl rfl (vp_in_nI (n := 1) (by decide) (by decide)) dX8_bestOf_37 (fun H locs hP hD hS => ?_)
  have hP : va_P (dC, dI) vwCl [(h0, .inr (8, [.ref a1, .ref a2, .ref a3, .ref a4, .ref a5, .int 0, .int x6, .ref a6, .int 0, .int 0, .int 0, .int 0, .int 0, .int 0, .int 0, .int 0, .int (-1), .ref a7, .ref a8, .int 0, .ref a9, .ref b0, .int 0])), (a2, .inl (cy 1, 1037, .inl g1)), (a1, .inl (cy 1, 1037, .inl (upd g105 ((1 : Int32).toNatClampNeg) 16)))] H := hP
  have hD : va_D A [(h0, .inr (8, [.ref a1, .ref a2, .ref a3, .ref a4, .ref a5, .int 0, .int x6, .ref a6, .int 0, .int 0, .int 0, .int 0, .int 0, .int 0, .int 0, .int 0, .int (-1), .ref a7, .ref a8, .int 0, .ref a9, .ref b0, .int 0])), (a2, .inl (cy 1, 1037, .inl g1)), (a1, .inl (cy 1, 1037, .inl (upd g105 ((1 : Int32).toNatClampNeg) 16)))] := hD
  have hf110 : FT 0 (upd g105 ((1 : Int32).toNatClampNeg) 16) := FT_up hz108 (Or.inr (by decide))
  generalize (upd g105 ((1 : Int32).toNatClampNeg) 16) = g109 at hP hD hf110
  refine lv_aload_n hx hb dX8_bestOf_38 rfl (lv_at hl 4 rfl) ?_
  refine lv_iload hx hb dX8_bestOf_39 (lv_at hl 8 rfl) ?_
  refine lv_iload hx hb dX8_bestOf_41 (lv_at hl 9 rfl) ?_
  have hPc := hP.sub (ws' := [(h0, .inr (8, [.ref a1, .ref a2, .ref a3, .ref a4, .ref a5, .int 0, .int x6, .ref a6, .int 0, .int 0, .int 0, .int 0, .int 0, .int 0, .int 0, .int 0, .int (-1), .ref a7, .ref a8, .int 0, .ref a9, .ref b0, .int 0])), (a1, .inl (cy 1, 1037, .inl g109))]) [0, 2] rfl
  have hDc := hD.sub (ws' := [(h0, .inr (8, [.ref a1, .ref a2, .ref a3, .ref a4, .ref a5, .int 0, .int x6, .ref a6, .int 0, .int 0, .int 0, .int 0, .int 0, .int 0, .int 0, .int 0, .int (-1), .ref a7, .ref a8, .int 0, .ref a9, .ref b0, .int 0])), (a1, .inl (cy 1, 1037, .inl g109))]) [0, 2] (by decide) rfl
  have hFc := va_free (wc := [(h0, .inr (8, [.ref a1, .ref a2, .ref a3, .ref a4, .ref a5, .int 0, .int x6, .ref a6, .int 0, .int 0, .int 0, .int 0, .int 0, .int 0, .int 0, .int 0, .int (-1), .ref a7, .ref a8, .int 0, .ref a9, .ref b0, .int 0])), (a1, .inl (cy 1, 1037, .inl g109))]) hD hS hA [0, 2] rfl
  refine va_calli (va_runV (As := [.int 2, .int (-1)]) (rest := []) ⟨hx, hb, hml, hown, hts⟩ (c_X8_goes l dC dI cy nb h0 a1 (.ref a2) (.ref a3) (.ref a4) (.ref a5) (.int 0) (.int x6) (.ref a6) (.int 0) (.int 0) (.int 0) (.int 0) (.int 0) (.int 0) (.int 0) (.int 0) (.int (-1)) (.ref a7) (.ref a8) (.int 0) (.ref a9) (.ref b0) (.int 0) g109 0 H.size hf110) (cwV 2 hts (gV mw_1334 mw_1335 mw_1336 mw_5 mw_1337) rfl rfl rfl (by decide +kernel) ⟨Nat.le_of_ble_eq_true rfl, Nat.le_of_ble_eq_true rfl⟩) ⟨fun a U g mk q => by obtain ⟨q0, q1, qP, qK, qD, qE⟩ := q; exact ⟨q0, q1, qP, va_K.moved (u := U) (U := U.calling g mk a) (Vm.Alike.refl U.vm) qK, qD, GE.calling qE⟩, va_recv hK hP (ci := 8) (q0 := 0) rfl rfl, fun U hU hW => ⟨rfl, by rw [hU], by rw [hU]; exact hPc, va_K.moved hW.alike hK, hDc.weaken (fun _ _ _ _ => trivial), GE.call hE hS hFc hU hW⟩⟩ rfl rfl hl.1 rfl (lv_room (Nat.le_of_ble_eq_true rfl)) dX8_bestOf_43 ⟨Nat.le_of_ble_eq_true rfl, Nat.le_of_ble_eq_true rfl⟩) hS (fun q _ h => hFc q h) hFc (fun r u t H1 locs ht hvm hw111 hB hz1 hk1 hS => ?_)
  obtain ⟨hP1, hD1⟩ := hB
  rw [ht] at hP1
  obtain ⟨hP, hD⟩ := va_join (wr := [(a2, .inl (cy 1, 1037, .inl g1))]) (w1 := [(h0, .inr (8, [.ref a1, .ref a2, .ref a3, .ref a4, .ref a5, .int 0, .int x6, .ref a6, .int 0, .int 0, .int 0, .int 0, .int 0, .int 0, .int 0, .int 0, .int (-1), .ref a7, .ref a8, .int 0, .ref a9, .ref b0, .int 0])), (a1, .inl (cy 1, 1037, .inl g109))]) hP hD [0, 2] [1] rfl rfl (by decide) (by decide) hk1 hFc hP1 hD1
  generalize H1 = H at hP hS ⊢
  have hP : va_P (dC, dI) vwCl [(a2, .inl (cy 1, 1037, .inl g1)), (h0, .inr (8, [.ref a1, .ref a2, .ref a3, .ref a4, .ref a5, .int 0, .int x6, .ref a6, .int 0, .int 0, .int 0, .int 0, .int 0, .int 0, .int 0, .int 0, .int (-1), .ref a7, .ref a8, .int 0, .ref a9, .ref b0, .int 0])), (a1, .inl (cy 1, 1037, .inl g109))] H := hP
  have hD : va_D A [(a2, .inl (cy 1, 1037, .inl g1)), (h0, .inr (8, [.ref a1, .ref a2, .ref a3, .ref a4, .ref a5, .int 0, .int x6, .ref a6, .int 0, .int 0, .int 0, .int 0, .int 0, .int 0, .int 0, .int 0, .int (-1), .ref a7, .ref a8, .int 0, .ref a9, .ref b0, .int 0])), (a1, .inl (cy 1, 1037, .inl g109))] := hD
  obtain rfl := hw111
  refine W.widen (k := 0) (n := 0) (by omega) (by omega) ?_
  refine lv_istore (lv' := [(9, .int 0), (8, .int 16), (7, .int 0), (6, .int 1), (0, .ref h0), (1, .int 1), (2, .int 1), (3, .int 20), (4, .int 2), (5, .int (-1))]) hx hb dX8_bestOf_46 hl (by decide) rfl (fun ls hl => ?_)
  refine lv_iload hx hb dX8_bestOf_48 (lv_at hl 0 rfl) ?_
  refine lv_iconst (v := (-1)) hx hb dX8_bestOf_50 (by decide) ?_
  refine lv_icmp_eq (tgt := 69) hx hb dX8_bestOf_51 (by decide) (fun h => absurd h (by decide)) (fun _ => ?_)
  refine lv_iload hx hb dX8_bestOf_54 (lv_at hl 0 rfl) ?_
  refine lv_iload hx hb dX8_bestOf_56 (lv_at hl 2 rfl) ?_
  refine lv_icmp_ge (tgt := 69) hx hb dX8_bestOf_58 (by decide) (fun _ => ?_) (fun h => absurd (by decide) h)
  refine lv_aload_n hx hb dX8_bestOf_69 rfl (lv_at hl 4 rfl) ?_
  refine va_get (D := (dC, dI)) (ci := 8) (v := .ref a2) (C := RX8) (T := TX8) (N := 23) hx hb hts inlX8 hown hK hP 1 rfl rfl 1 (by decide) (hts _ mw_98) (fun _ h9 => h9) rfl dX8_bestOf_70 ?_
  refine lv_iconst (v := 0) hx hb dX8_bestOf_73 (by decide) ?_
  refine lv_aload_n hx hb dX8_bestOf_74 rfl (lv_at hl 4 rfl) ?_
  refine va_get (D := (dC, dI)) (ci := 8) (v := .ref a1) (C := RX8) (T := TX8) (N := 23) hx hb hts inlX8 hown hK hP 1 rfl rfl 0 (by decide) (hts _ mw_97) (fun _ h9 => h9) rfl dX8_bestOf_75 ?_
  refine lv_iconst (v := 0) hx hb dX8_bestOf_78 (by decide) ?_
  have hPc := hP.sub (ws' := [(a2, .inl (cy 1, 1037, .inl g1)), (a1, .inl (cy 1, 1037, .inl g109))]) [0, 2] rfl
  have hDc := hD.sub (ws' := [(a2, .inl (cy 1, 1037, .inl g1)), (a1, .inl (cy 1, 1037, .inl g109))]) [0, 2] (by decide) rfl
  have hFc := va_free (wc := [(a2, .inl (cy 1, 1037, .inl g1)), (a1, .inl (cy 1, 1037, .inl g109))]) hD hS hA [0, 2] rfl
  refine va_callv (va_runS (As := [.ref a2, .int 0, .ref a1, .int 0]) (rest := []) ⟨hx, hb, hml, hown, hts⟩ (c_X8_copies l dC dI cy nb a2 a1 0 0 1037 1037 g1 g109 H.size (by decide) (by decide) (by decide)) (va_cwS 4 hts (gS mw_423 mw_424 mw_5 mw_425) rfl rfl rfl (by decide +kernel) ⟨Nat.le_of_ble_eq_true rfl, Nat.le_of_ble_eq_true rfl⟩) ⟨fun a U g mk q => by obtain ⟨q0, q1, qP, qK, qD, qE⟩ := q; exact ⟨q0, q1, qP, va_K.moved (u := U) (U := U.calling g mk a) (Vm.Alike.refl U.vm) qK, qD, GE.calling qE⟩, fun U hU hW => ⟨rfl, by rw [hU], by rw [hU]; exact hPc, va_K.moved hW.alike hK, hDc.weaken (fun _ _ _ _ => trivial), GE.call hE hS hFc hU hW⟩⟩ rfl rfl hl.1 rfl (lv_room (Nat.le_of_ble_eq_true rfl)) dX8_bestOf_79 ⟨Nat.le_of_ble_eq_true rfl, Nat.le_of_ble_eq_true rfl⟩) hS (fun q _ h => hFc q h) hFc (fun u t H1 locs ht hvm hw114 hB hz1 hk1 hS => ?_)
  obtain ⟨g112, hg113, hP1, hD1⟩ := hB
  rw [ht] at hP1
  obtain ⟨hP, hD⟩ := va_join (wr := [(h0, .inr (8, [.ref a1, .ref a2, .ref a3, .ref a4, .ref a5, .int 0, .int x6, .ref a6, .int 0, .int 0, .int 0, .int 0, .int 0, .int 0, .int 0, .int 0, .int (-1), .ref a7, .ref a8, .int 0, .ref a9, .ref b0, .int 0]))]) (w1 := [(a2, .inl (cy 1, 1037, .inl g1)), (a1, .inl (cy 1, 1037, .inl g112))]) hP hD [0, 2] [1] rfl rfl (by decide) (by decide) hk1 hFc hP1 hD1
  generalize H1 = H at hP hS ⊢
  have hP : va_P (dC, dI) vwCl [(h0, .inr (8, [.ref a1, .ref a2, .ref a3, .ref a4, .ref a5, .int 0, .int x6, .ref a6, .int 0, .int 0, .int 0, .int 0, .int 0, .int 0, .int 0, .int 0, .int (-1), .ref a7, .ref a8, .int 0, .ref a9, .ref b0, .int 0])), (a2, .inl (cy 1, 1037, .inl g1)), (a1, .inl (cy 1, 1037, .inl g112))] H := hP
  have hD : va_D A [(h0, .inr (8, [.ref a1, .ref a2, .ref a3, .ref a4, .ref a5, .int 0, .int x6, .ref a6, .int 0, .int 0, .int 0, .int 0, .int 0, .int 0, .int 0, .int 0, .int (-1), .ref a7, .ref a8, .int 0, .ref a9, .ref b0, .int 0])), (a2, .inl (cy 1, 1037, .inl g1)), (a1, .inl (cy 1, 1037, .inl g112))] := hD
  refine W.widen (k := 0) (n := 0) (by omega) (by omega) ?_
  have hz115 : FT 0 g112 := FT_cp hg113 hfa
  refine lv_iinc (v := 17) (lv' := [(8, .int 17), (9, .int 0), (7, .int 0), (6, .int 1), (0, .ref h0), (1, .int 1), (2, .int 1), (3, .int 20), (4, .int 2), (5, .int (-1))]) hx hb dX8_bestOf_82 hl (k := 1) rfl (by decide) (by decide) rfl (fun ls hl => ?_)
  refine lv_goto (tgt := 24) hx hb dX8_bestOf_85 (by decide) ?_
  refine lv_iload hx hb dX8_bestOf_24 (lv_at hl 0 rfl) ?_
  refine lv_iload_n hx hb dX8_bestOf_26 rfl (lv_at hl 7 rfl) ?_
  refine lv_icmp_gt (tgt := 88) hx hb dX8_bestOf_27 (by decide) (fun h => absurd h (by decide)) (fun _ => ?_)
  refine lv_aload_n hx hb dX8_bestOf_30 rfl (lv_at hl 4 rfl) ?_
  refine va_get (D := (dC, dI)) (ci := 8) (v := .ref a1) (C := RX8) (T := TX8) (N := 23) hx hb hts inlX8 hown hK hP 0 rfl rfl 0 (by decide) (hts _ mw_97) (fun _ h9 => h9) rfl dX8_bestOf_31 ?_
  refine lv_iload_n hx hb dX8_bestOf_34 rfl (lv_at hl 5 rfl) ?_
  refine lv_iload hx hb dX8_bestOf_35 (lv_at hl 0 rfl) ?_
  refine va_iast hx hb hK hP hD hS 2 1 rfl rfl (vp_in_nI (n := 1) (by decide) (by decide)) dX8_bestOf_37 (fun H locs hP hD hS => ?_)
  have hP : va_P (dC, dI) vwCl [(h0, .inr (8, [.ref a1, .ref a2, .ref a3, .ref a4, .ref a5, .int 0, .int x6, .ref a6, .int 0, .int 0, .int 0, .int 0, .int 0, .int 0, .int 0, .int 0, .int (-1), .ref a7, .ref a8, .int 0, .ref a9, .ref b0, .int 0])), (a2, .inl (cy 1, 1037, .inl g1)), (a1, .inl (cy 1, 1037, .inl (upd g112 ((1 : Int32).toNatClampNeg) 17)))] H := hP
  have hD : va_D A [(h0, .inr (8, [.ref a1, .ref a2, .ref a3, .ref a4, .ref a5, .int 0, .int x6, .ref a6, .int 0, .int 0, .int 0, .int 0, .int 0, .int 0, .int 0, .int 0, .int (-1), .ref a7, .ref a8, .int 0, .ref a9, .ref b0, .int 0])), (a2, .inl (cy 1, 1037, .inl g1)), (a1, .inl (cy 1, 1037, .inl (upd g112 ((1 : Int32).toNatClampNeg) 17)))] := hD
  have hf117 : FT 0 (upd g112 ((1 : Int32).toNatClampNeg) 17) := FT_up hz115 (Or.inr (by decide))
  generalize (upd g112 ((1 : Int32).toNatClampNeg) 17) = g116 at hP hD hf117
  refine lv_aload_n hx hb dX8_bestOf_38 rfl (lv_at hl 4 rfl) ?_
  refine lv_iload hx hb dX8_bestOf_39 (lv_at hl 8 rfl) ?_
  refine lv_iload hx hb dX8_bestOf_41 (lv_at hl 9 rfl) ?_
  have hPc := hP.sub (ws' := [(h0, .inr (8, [.ref a1, .ref a2, .ref a3, .ref a4, .ref a5, .int 0, .int x6, .ref a6, .int 0, .int 0, .int 0, .int 0, .int 0, .int 0, .int 0, .int 0, .int (-1), .ref a7, .ref a8, .int 0, .ref a9, .ref b0, .int 0])), (a1, .inl (cy 1, 1037, .inl g116))]) [0, 2] rfl
  have hDc := hD.sub (ws' := [(h0, .inr (8, [.ref a1, .ref a2, .ref a3, .ref a4, .ref a5, .int 0, .int x6, .ref a6, .int 0, .int 0, .int 0, .int 0, .int 0, .int 0, .int 0, .int 0, .int (-1), .ref a7, .ref a8, .int 0, .ref a9, .ref b0, .int 0])), (a1, .inl (cy 1, 1037, .inl g116))]) [0, 2] (by decide) rfl
  have hFc := va_free (wc := [(h0, .inr (8, [.ref a1, .ref a2, .ref a3, .ref a4, .ref a5, .int 0, .int x6, .ref a6, .int 0, .int 0, .int 0, .int 0, .int 0, .int 0, .int 0, .int 0, .int (-1), .ref a7, .ref a8, .int 0, .ref a9, .ref b0, .int 0])), (a1, .inl (cy 1, 1037, .inl g116))]) hD hS hA [0, 2] rfl
  refine va_calli (va_runV (As := [.int 2, .int (-1)]) (rest := []) ⟨hx, hb, hml, hown, hts⟩ (c_X8_goes l dC dI cy nb h0 a1 (.ref a2) (.ref a3) (.ref a4) (.ref a5) (.int 0) (.int x6) (.ref a6) (.int 0) (.int 0) (.int 0) (.int 0) (.int 0) (.int 0) (.int 0) (.int 0) (.int (-1)) (.ref a7) (.ref a8) (.int 0) (.ref a9) (.ref b0) (.int 0) g116 0 H.size hf117) (cwV 2 hts (gV mw_1334 mw_1335 mw_1336 mw_5 mw_1337) rfl rfl rfl (by decide +kernel) ⟨Nat.le_of_ble_eq_true rfl, Nat.le_of_ble_eq_true rfl⟩) ⟨fun a U g mk q => by obtain ⟨q0, q1, qP, qK, qD, qE⟩ := q; exact ⟨q0, q1, qP, va_K.moved (u := U) (U := U.calling g mk a) (Vm.Alike.refl U.vm) qK, qD, GE.calling qE⟩, va_recv hK hP (ci := 8) (q0 := 0) rfl rfl, fun U hU hW => ⟨rfl, by rw [hU], by rw [hU]; exact hPc, va_K.moved hW.alike hK, hDc.weaken (fun _ _ _ _ => trivial), GE.call hE hS hFc hU hW⟩⟩ rfl rfl hl.1 rfl (lv_room (Nat.le_of_ble_eq_true rfl)) dX8_bestOf_43 ⟨Nat.le_of_ble_eq_true rfl, Nat.le_of_ble_eq_true rfl⟩) hS (fun q _ h => hFc q h) hFc (fun r u t H1 locs ht hvm hw118 hB hz1 hk1 hS => ?_)
  obtain ⟨hP1, hD1⟩ := hB
  rw [ht] at hP1
  obtain ⟨hP, hD⟩ := va_join (wr := [(a2, .inl (cy 1, 1037, .inl g1))]) (w1 := [(h0, .inr (8, [.ref a1, .ref a2, .ref a3, .ref a4, .ref a5, .int 0, .int x6, .ref a6, .int 0, .int 0, .int 0, .int 0, .int 0, .int 0, .int 0, .int 0, .int (-1), .ref a7, .ref a8, .int 0, .ref a9, .ref b0, .int 0])), (a1, .inl (cy 1, 1037, .inl g116))]) hP hD [0, 2] [1] rfl rfl (by decide) (by decide) hk1 hFc hP1 hD1
  generalize H1 = H at hP hS ⊢
  have hP : va_P (dC, dI) vwCl [(a2, .inl (cy 1, 1037, .inl g1)), (h0, .inr (8, [.ref a1, .ref a2, .ref a3, .ref a4, .ref a5, .int 0, .int x6, .ref a6, .int 0, .int 0, .int 0, .int 0, .int 0, .int 0, .int 0, .int 0, .int (-1), .ref a7, .ref a8, .int 0, .ref a9, .ref b0, .int 0])), (a1, .inl (cy 1, 1037, .inl g116))] H := hP
  have hD : va_D A [(a2, .inl (cy 1, 1037, .inl g1)), (h0, .inr (8, [.ref a1, .ref a2, .ref a3, .ref a4, .ref a5, .int 0, .int x6, .ref a6, .int 0, .int 0, .int 0, .int 0, .int 0, .int 0, .int 0, .int 0, .int (-1), .ref a7, .ref a8, .int 0, .ref a9, .ref b0, .int 0])), (a1, .inl (cy 1, 1037, .inl g116))] := hD
  obtain rfl := hw118
  refine W.widen (k := 0) (n := 0) (by omega) (by omega) ?_
  refine lv_istore (lv' := [(9, .int 0), (8, .int 17), (7, .int 0), (6, .int 1), (0, .ref h0), (1, .int 1), (2, .int 1), (3, .int 20), (4, .int 2), (5, .int (-1))]) hx hb dX8_bestOf_46 hl (by decide) rfl (fun ls hl => ?_)
  refine lv_iload hx hb dX8_bestOf_48 (lv_at hl 0 rfl) ?_
  refine lv_iconst (v := (-1)) hx hb dX8_bestOf_50 (by decide) ?_
  refine lv_icmp_eq (tgt := 69) hx hb dX8_bestOf_51 (by decide) (fun h => absurd h (by decide)) (fun _ => ?_)
  refine lv_iload hx hb dX8_bestOf_54 (lv_at hl 0 rfl) ?_
  refine lv_iload hx hb dX8_bestOf_56 (lv_at hl 2 rfl) ?_
  refine lv_icmp_ge (tgt := 69) hx hb dX8_bestOf_58 (by decide) (fun _ => ?_) (fun h => absurd (by decide) h)
  refine lv_aload_n hx hb dX8_bestOf_69 rfl (lv_at hl 4 rfl) ?_
  refine va_get (D := (dC, dI)) (ci := 8) (v := .ref a2) (C := RX8) (T := TX8) (N := 23) hx hb hts inlX8 hown hK hP 1 rfl rfl 1 (by decide) (hts _ mw_98) (fun _ h9 => h9) rfl dX8_bestOf_70 ?_
  refine lv_iconst (v := 0) hx hb dX8_bestOf_73 (by decide) ?_
  refine lv_aload_n hx hb dX8_bestOf_74 rfl (lv_at hl 4 rfl) ?_
  refine va_get (D := (dC, dI)) (ci := 8) (v := .ref a1) (C := RX8) (T := TX8) (N := 23) hx hb hts inlX8 hown hK hP 1 rfl rfl 0 (by decide) (hts _ mw_97) (fun _ h9 => h9) rfl dX8_bestOf_75 ?_
  refine lv_iconst (v := 0) hx hb dX8_bestOf_78 (by decide) ?_
  have hPc := hP.sub (ws' := [(a2, .inl (cy 1, 1037, .inl g1)), (a1, .inl (cy 1, 1037, .inl g116))]) [0, 2] rfl
  have hDc := hD.sub (ws' := [(a2, .inl (cy 1, 1037, .inl g1)), (a1, .inl (cy 1, 1037, .inl g116))]) [0, 2] (by decide) rfl
  have hFc := va_free (wc := [(a2, .inl (cy 1, 1037, .inl g1)), (a1, .inl (cy 1, 1037, .inl g116))]) hD hS hA [0, 2] rfl
  refine va_callv (va_runS (As := [.ref a2, .int 0, .ref a1, .int 0]) (rest := []) ⟨hx, hb, hml, hown, hts⟩ (c_X8_copies l dC dI cy nb a2 a1 0 0 1037 1037 g1 g116 H.size (by decide) (by decide) (by decide)) (va_cwS 4 hts (gS mw_423 mw_424 mw_5 mw_425) rfl rfl rfl (by decide +kernel) ⟨Nat.le_of_ble_eq_true rfl, Nat.le_of_ble_eq_true rfl⟩) ⟨fun a U g mk q => by obtain ⟨q0, q1, qP, qK, qD, qE⟩ := q; exact ⟨q0, q1, qP, va_K.moved (u := U) (U := U.calling g mk a) (Vm.Alike.refl U.vm) qK, qD, GE.calling qE⟩, fun U hU hW => ⟨rfl, by rw [hU], by rw [hU]; exact hPc, va_K.moved hW.alike hK, hDc.weaken (fun _ _ _ _ => trivial), GE.call hE hS hFc hU hW⟩⟩ rfl rfl hl.1 rfl (lv_room (Nat.le_of_ble_eq_true rfl)) dX8_bestOf_79 ⟨Nat.le_of_ble_eq_true rfl, Nat.le_of_ble_eq_true rfl⟩) hS (fun q _ h => hFc q h) hFc (fun u t H1 locs ht hvm hw121 hB hz1 hk1 hS => ?_)
  obtain ⟨g119, hg120, hP1, hD1⟩ := hB
  rw [ht] at hP1
  obtain ⟨hP, hD⟩ := va_join (wr := [(h0, .inr (8, [.ref a1, .ref a2, .ref a3, .ref a4, .ref a5, .int 0, .int x6, .ref a6, .int 0, .int 0, .int 0, .int 0, .int 0, .int 0, .int 0, .int 0, .int (-1), .ref a7, .ref a8, .int 0, .ref a9, .ref b0, .int 0]))]) (w1 := [(a2, .inl (cy 1, 1037, .inl g1)), (a1, .inl (cy 1, 1037, .inl g119))]) hP hD [0, 2] [1] rfl rfl (by decide) (by decide) hk1 hFc hP1 hD1
  generalize H1 = H at hP hS ⊢
  have hP : va_P (dC, dI) vwCl [(h0, .inr (8, [.ref a1, .ref a2, .ref a3, .ref a4, .ref a5, .int 0, .int x6, .ref a6, .int 0, .int 0, .int 0, .int 0, .int 0, .int 0, .int 0, .int 0, .int (-1), .ref a7, .ref a8, .int 0, .ref a9, .ref b0, .int 0])), (a2, .inl (cy 1, 1037, .inl g1)), (a1, .inl (cy 1, 1037, .inl g119))] H := hP
  have hD : va_D A [(h0, .inr (8, [.ref a1, .ref a2, .ref a3, .ref a4, .ref a5, .int 0, .int x6, .ref a6, .int 0, .int 0, .int 0, .int 0, .int 0, .int 0, .int 0, .int 0, .int (-1), .ref a7, .ref a8, .int 0, .ref a9, .ref b0, .int 0])), (a2, .inl (cy 1, 1037, .inl g1)), (a1, .inl (cy 1, 1037, .inl g119))] := hD
  refine W.widen (k := 0) (n := 0) (by omega) (by omega) ?_
  have hz122 : FT 0 g119 := FT_cp hg120 hfa
  refine lv_iinc (v := 18) (lv' := [(8, .int 18), (9, .int 0), (7, .int 0), (6, .int 1), (0, .ref h0), (1, .int 1), (2, .int 1), (3, .int 20), (4, .int 2), (5, .int (-1))]) hx hb dX8_bestOf_82 hl (k := 1) rfl (by decide) (by decide) rfl (fun ls hl => ?_)
  refine lv_goto (tgt := 24) hx hb dX8_bestOf_85 (by decide) ?_
  refine lv_iload hx hb dX8_bestOf_24 (lv_at hl 0 rfl) ?_
  refine lv_iload_n hx hb dX8_bestOf_26 rfl (lv_at hl 7 rfl) ?_
  refine lv_icmp_gt (tgt := 88) hx hb dX8_bestOf_27 (by decide) (fun h => absurd h (by decide)) (fun _ => ?_)
  refine lv_aload_n hx hb dX8_bestOf_30 rfl (lv_at hl 4 rfl) ?_
  refine va_get (D := (dC, dI)) (ci := 8) (v := .ref a1) (C := RX8) (T := TX8) (N := 23) hx hb hts inlX8 hown hK hP 0 rfl rfl 0 (by decide) (hts _ mw_97) (fun _ h9 => h9) rfl dX8_bestOf_31 ?_
  refine lv_iload_n hx hb dX8_bestOf_34 rfl (lv_at hl 5 rfl) ?_
  refine lv_iload hx hb dX8_bestOf_35 (lv_at hl 0 rfl) ?_
  refine va_iast hx hb hK hP hD hS 2 1 rfl rfl (vp_in_nI (n := 1) (by decide) (by decide)) dX8_bestOf_37 (fun H locs hP hD hS => ?_)
  have hP : va_P (dC, dI) vwCl [(h0, .inr (8, [.ref a1, .ref a2, .ref a3, .ref a4, .ref a5, .int 0, .int x6, .ref a6, .int 0, .int 0, .int 0, .int 0, .int 0, .int 0, .int 0, .int 0, .int (-1), .ref a7, .ref a8, .int 0, .ref a9, .ref b0, .int 0])), (a2, .inl (cy 1, 1037, .inl g1)), (a1, .inl (cy 1, 1037, .inl (upd g119 ((1 : Int32).toNatClampNeg) 18)))] H := hP
  have hD : va_D A [(h0, .inr (8, [.ref a1, .ref a2, .ref a3, .ref a4, .ref a5, .int 0, .int x6, .ref a6, .int 0, .int 0, .int 0, .int 0, .int 0, .int 0, .int 0, .int 0, .int (-1), .ref a7, .ref a8, .int 0, .ref a9, .ref b0, .int 0])), (a2, .inl (cy 1, 1037, .inl g1)), (a1, .inl (cy 1, 1037, .inl (upd g119 ((1 : Int32).toNatClampNeg) 18)))] := hD
  have hf124 : FT 0 (upd g119 ((1 : Int32).toNatClampNeg) 18) := FT_up hz122 (Or.inr (by decide))
  generalize (upd g119 ((1 : Int32).toNatClampNeg) 18) = g123 at hP hD hf124
  refine lv_aload_n hx hb dX8_bestOf_38 rfl (lv_at hl 4 rfl) ?_
  refine lv_iload hx hb dX8_bestOf_39 (lv_at hl 8 rfl) ?_
  refine lv_iload hx hb dX8_bestOf_41 (lv_at hl 9 rfl) ?_
  have hPc := hP.sub (ws' := [(h0, .inr (8, [.ref a1, .ref a2, .ref a3, .ref a4, .ref a5, .int 0, .int x6, .ref a6, .int 0, .int 0, .int 0, .int 0, .int 0, .int 0, .int 0, .int 0, .int (-1), .ref a7, .ref a8, .int 0, .ref a9, .ref b0, .int 0])), (a1, .inl (cy 1, 1037, .inl g123))]) [0, 2] rfl
  have hDc := hD.sub (ws' := [(h0, .inr (8, [.ref a1, .ref a2, .ref a3, .ref a4, .ref a5, .int 0, .int x6, .ref a6, .int 0, .int 0, .int 0, .int 0, .int 0, .int 0, .int 0, .int 0, .int (-1), .ref a7, .ref a8, .int 0, .ref a9, .ref b0, .int 0])), (a1, .inl (cy 1, 1037, .inl g123))]) [0, 2] (by decide) rfl
  have hFc := va_free (wc := [(h0, .inr (8, [.ref a1, .ref a2, .ref a3, .ref a4, .ref a5, .int 0, .int x6, .ref a6, .int 0, .int 0, .int 0, .int 0, .int 0, .int 0, .int 0, .int 0, .int (-1), .ref a7, .ref a8, .int 0, .ref a9, .ref b0, .int 0])), (a1, .inl (cy 1, 1037, .inl g123))]) hD hS hA [0, 2] rfl
  refine va_calli (va_runV (As := [.int 2, .int (-1)]) (rest := []) ⟨hx, hb, hml, hown, hts⟩ (c_X8_goes l dC dI cy nb h0 a1 (.ref a2) (.ref a3) (.ref a4) (.ref a5) (.int 0) (.int x6) (.ref a6) (.int 0) (.int 0) (.int 0) (.int 0) (.int 0) (.int 0) (.int 0) (.int 0) (.int (-1)) (.ref a7) (.ref a8) (.int 0) (.ref a9) (.ref b0) (.int 0) g123 0 H.size hf124) (cwV 2 hts (gV mw_1334 mw_1335 mw_1336 mw_5 mw_1337) rfl rfl rfl (by decide +kernel) ⟨Nat.le_of_ble_eq_true rfl, Nat.le_of_ble_eq_true rfl⟩) ⟨fun a U g mk q => by obtain ⟨q0, q1, qP, qK, qD, qE⟩ := q; exact ⟨q0, q1, qP, va_K.moved (u := U) (U := U.calling g mk a) (Vm.Alike.refl U.vm) qK, qD, GE.calling qE⟩, va_recv hK hP (ci := 8) (q0 := 0) rfl rfl, fun U hU hW => ⟨rfl, by rw [hU], by rw [hU]; exact hPc, va_K.moved hW.alike hK, hDc.weaken (fun _ _ _ _ => trivial), GE.call hE hS hFc hU hW⟩⟩ rfl rfl hl.1 rfl (lv_room (Nat.le_of_ble_eq_true rfl)) dX8_bestOf_43 ⟨Nat.le_of_ble_eq_true rfl, Nat.le_of_ble_eq_true rfl⟩) hS (fun q _ h => hFc q h) hFc (fun r u t H1 locs ht hvm hw125 hB hz1 hk1 hS => ?_)
  obtain ⟨hP1, hD1⟩ := hB
  rw [ht] at hP1
  obtain ⟨hP, hD⟩ := va_join (wr := [(a2, .inl (cy 1, 1037, .inl g1))]) (w1 := [(h0, .inr (8, [.ref a1, .ref a2, .ref a3, .ref a4, .ref a5, .int 0, .int x6, .ref a6, .int 0, .int 0, .int 0, .int 0, .int 0, .int 0, .int 0, .int 0, .int (-1), .ref a7, .ref a8, .int 0, .ref a9, .ref b0, .int 0])), (a1, .inl (cy 1, 1037, .inl g123))]) hP hD [0, 2] [1] rfl rfl (by decide) (by decide) hk1 hFc hP1 hD1
  generalize H1 = H at hP hS ⊢
  have hP : va_P (dC, dI) vwCl [(a2, .inl (cy 1, 1037, .inl g1)), (h0, .inr (8, [.ref a1, .ref a2, .ref a3, .ref a4, .ref a5, .int 0, .int x6, .ref a6, .int 0, .int 0, .int 0, .int 0, .int 0, .int 0, .int 0, .int 0, .int (-1), .ref a7, .ref a8, .int 0, .ref a9, .ref b0, .int 0])), (a1, .inl (cy 1, 1037, .inl g123))] H := hP
  have hD : va_D A [(a2, .inl (cy 1, 1037, .inl g1)), (h0, .inr (8, [.ref a1, .ref a2, .ref a3, .ref a4, .ref a5, .int 0, .int x6, .ref a6, .int 0, .int 0, .int 0, .int 0, .int 0, .int 0, .int 0, .int 0, .int (-1), .ref a7, .ref a8, .int 0, .ref a9, .ref b0, .int 0])), (a1, .inl (cy 1, 1037, .inl g123))] := hD
  obtain rfl := hw125
  refine W.widen (k := 0) (n := 0) (by omega) (by omega) ?_
  refine lv_istore (lv' := [(9, .int 0), (8, .int 18), (7, .int 0), (6, .int 1), (0, .ref h0), (1, .int 1), (2, .int 1), (3, .int 20), (4, .int 2), (5, .int (-1))]) hx hb dX8_bestOf_46 hl (by decide) rfl (fun ls hl => ?_)
  refine lv_iload hx hb dX8_bestOf_48 (lv_at hl 0 rfl) ?_
  refine lv_iconst (v := (-1)) hx hb dX8_bestOf_50 (by decide) ?_
  refine lv_icmp_eq (tgt := 69) hx hb dX8_bestOf_51 (by decide) (fun h => absurd h (by decide)) (fun _ => ?_)
  refine lv_iload hx hb dX8_bestOf_54 (lv_at hl 0 rfl) ?_
  refine lv_iload hx hb dX8_bestOf_56 (lv_at hl 2 rfl) ?_
  refine lv_icmp_ge (tgt := 69) hx hb dX8_bestOf_58 (by decide) (fun _ => ?_) (fun h => absurd (by decide) h)
  refine lv_aload_n hx hb dX8_bestOf_69 rfl (lv_at hl 4 rfl) ?_
  refine va_get (D := (dC, dI)) (ci := 8) (v := .ref a2) (C := RX8) (T := TX8) (N := 23) hx hb hts inlX8 hown hK hP 1 rfl rfl 1 (by decide) (hts _ mw_98) (fun _ h9 => h9) rfl dX8_bestOf_70 ?_
  refine lv_iconst (v := 0) hx hb dX8_bestOf_73 (by decide) ?_
  refine lv_aload_n hx hb dX8_bestOf_74 rfl (lv_at hl 4 rfl) ?_
  refine va_get (D := (dC, dI)) (ci := 8) (v := .ref a1) (C := RX8) (T := TX8) (N := 23) hx hb hts inlX8 hown hK hP 1 rfl rfl 0 (by decide) (hts _ mw_97) (fun _ h9 => h9) rfl dX8_bestOf_75 ?_
  refine lv_iconst (v := 0) hx hb dX8_bestOf_78 (by decide) ?_
  have hPc := hP.sub (ws' := [(a2, .inl (cy 1, 1037, .inl g1)), (a1, .inl (cy 1, 1037, .inl g123))]) [0, 2] rfl
  have hDc := hD.sub (ws' := [(a2, .inl (cy 1, 1037, .inl g1)), (a1, .inl (cy 1, 1037, .inl g123))]) [0, 2] (by decide) rfl
  have hFc := va_free (wc := [(a2, .inl (cy 1, 1037, .inl g1)), (a1, .inl (cy 1, 1037, .inl g123))]) hD hS hA [0, 2] rfl
  refine va_callv (va_runS (As := [.ref a2, .int 0, .ref a1, .int 0]) (rest := []) ⟨hx, hb, hml, hown, hts⟩ (c_X8_copies l dC dI cy nb a2 a1 0 0 1037 1037 g1 g123 H.size (by decide) (by decide) (by decide)) (va_cwS 4 hts (gS mw_423 mw_424 mw_5 mw_425) rfl rfl rfl (by decide +kernel) ⟨Nat.le_of_ble_eq_true rfl, Nat.le_of_ble_eq_true rfl⟩) ⟨fun a U g mk q => by obtain ⟨q0, q1, qP, qK, qD, qE⟩ := q; exact ⟨q0, q1, qP, va_K.moved (u := U) (U := U.calling g mk a) (Vm.Alike.refl U.vm) qK, qD, GE.calling qE⟩, fun U hU hW => ⟨rfl, by rw [hU], by rw [hU]; exact hPc, va_K.moved hW.alike hK, hDc.weaken (fun _ _ _ _ => trivial), GE.call hE hS hFc hU hW⟩⟩ rfl rfl hl.1 rfl (lv_room (Nat.le_of_ble_eq_true rfl)) dX8_bestOf_79 ⟨Nat.le_of_ble_eq_true rfl, Nat.le_of_ble_eq_true rfl⟩) hS (fun q _ h => hFc q h) hFc (fun u t H1 locs ht hvm hw128 hB hz1 hk1 hS => ?_)
  obtain ⟨g126, hg127, hP1, hD1⟩ := hB
  rw [ht] at hP1
  obtain ⟨hP, hD⟩ := va_join (wr := [(h0, .inr (8, [.ref a1, .ref a2, .ref a3, .ref a4, .ref a5, .int 0, .int x6, .ref a6, .int 0, .int 0, .int 0, .int 0, .int 0, .int 0, .int 0, .int 0, .int (-1), .ref a7, .ref a8, .int 0, .ref a9, .ref b0, .int 0]))]) (w1 := [(a2, .inl (cy 1, 1037, .inl g1)), (a1, .inl (cy 1, 1037, .inl g126))]) hP hD [0, 2] [1] rfl rfl (by decide) (by decide) hk1 hFc hP1 hD1
  generalize H1 = H at hP hS ⊢
  have hP : va_P (dC, dI) vwCl [(h0, .inr (8, [.ref a1, .ref a2, .ref a3, .ref a4, .ref a5, .int 0, .int x6, .ref a6, .int 0, .int 0, .int 0, .int 0, .int 0, .int 0, .int 0, .int 0, .int (-1), .ref a7, .ref a8, .int 0, .ref a9, .ref b0, .int 0])), (a2, .inl (cy 1, 1037, .inl g1)), (a1, .inl (cy 1, 1037, .inl g126))] H := hP
  have hD : va_D A [(h0, .inr (8, [.ref a1, .ref a2, .ref a3, .ref a4, .ref a5, .int 0, .int x6, .ref a6, .int 0, .int 0, .int 0, .int 0, .int 0, .int 0, .int 0, .int 0, .int (-1), .ref a7, .ref a8, .int 0, .ref a9, .ref b0, .int 0])), (a2, .inl (cy 1, 1037, .inl g1)), (a1, .inl (cy 1, 1037, .inl g126))] := hD
  refine W.widen (k := 0) (n := 0) (by omega) (by omega) ?_
  have hz129 : FT 0 g126 := FT_cp hg127 hfa
  refine lv_iinc (v := 19) (lv' := [(8, .int 19), (9, .int 0), (7, .int 0), (6, .int 1), (0, .ref h0), (1, .int 1), (2, .int 1), (3, .int 20), (4, .int 2), (5, .int (-1))]) hx hb dX8_bestOf_82 hl (k := 1) rfl (by decide) (by decide) rfl (fun ls hl => ?_)
  refine lv_goto (tgt := 24) hx hb dX8_bestOf_85 (by decide) ?_
  refine lv_iload hx hb dX8_bestOf_24 (lv_at hl 0 rfl) ?_
  refine lv_iload_n hx hb dX8_bestOf_26 rfl (lv_at hl 7 rfl) ?_
  refine lv_icmp_gt (tgt := 88) hx hb dX8_bestOf_27 (by decide) (fun h => absurd h (by decide)) (fun _ => ?_)
  refine lv_aload_n hx hb dX8_bestOf_30 rfl (lv_at hl 4 rfl) ?_
  refine va_get (D := (dC, dI)) (ci := 8) (v := .ref a1) (C := RX8) (T := TX8) (N := 23) hx hb hts inlX8 hown hK hP 0 rfl rfl 0 (by decide) (hts _ mw_97) (fun _ h9 => h9) rfl dX8_bestOf_31 ?_
  refine lv_iload_n hx hb dX8_bestOf_34 rfl (lv_at hl 5 rfl) ?_
  refine lv_iload hx hb dX8_bestOf_35 (lv_at hl 0 rfl) ?_
  refine va_iast hx hb hK hP hD hS 2 1 rfl rfl (vp_in_nI (n := 1) (by decide) (by decide)) dX8_bestOf_37 (fun H locs hP hD hS => ?_)
  have hP : va_P (dC, dI) vwCl [(h0, .inr (8, [.ref a1, .ref a2, .ref a3, .ref a4, .ref a5, .int 0, .int x6, .ref a6, .int 0, .int 0, .int 0, .int 0, .int 0, .int 0, .int 0, .int 0, .int (-1), .ref a7, .ref a8, .int 0, .ref a9, .ref b0, .int 0])), (a2, .inl (cy 1, 1037, .inl g1)), (a1, .inl (cy 1, 1037, .inl (upd g126 ((1 : Int32).toNatClampNeg) 19)))] H := hP
  have hD : va_D A [(h0, .inr (8, [.ref a1, .ref a2, .ref a3, .ref a4, .ref a5, .int 0, .int x6, .ref a6, .int 0, .int 0, .int 0, .int 0, .int 0, .int 0, .int 0, .int 0, .int (-1), .ref a7, .ref a8, .int 0, .ref a9, .ref b0, .int 0])), (a2, .inl (cy 1, 1037, .inl g1)), (a1, .inl (cy 1, 1037, .inl (upd g126 ((1 : Int32).toNatClampNeg) 19)))] := hD
  have hf131 : FT 0 (upd g126 ((1 : Int32).toNatClampNeg) 19) := FT_up hz129 (Or.inr (by decide))
  generalize (upd g126 ((1 : Int32).toNatClampNeg) 19) = g130 at hP hD hf131
  refine lv_aload_n hx hb dX8_bestOf_38 rfl (lv_at hl 4 rfl) ?_
  refine lv_iload hx hb dX8_bestOf_39 (lv_at hl 8 rfl) ?_
  refine lv_iload hx hb dX8_bestOf_41 (lv_at hl 9 rfl) ?_
  have hPc := hP.sub (ws' := [(h0, .inr (8, [.ref a1, .ref a2, .ref a3, .ref a4, .ref a5, .int 0, .int x6, .ref a6, .int 0, .int 0, .int 0, .int 0, .int 0, .int 0, .int 0, .int 0, .int (-1), .ref a7, .ref a8, .int 0, .ref a9, .ref b0, .int 0])), (a1, .inl (cy 1, 1037, .inl g130))]) [0, 2] rfl
  have hDc := hD.sub (ws' := [(h0, .inr (8, [.ref a1, .ref a2, .ref a3, .ref a4, .ref a5, .int 0, .int x6, .ref a6, .int 0, .int 0, .int 0, .int 0, .int 0, .int 0, .int 0, .int 0, .int (-1), .ref a7, .ref a8, .int 0, .ref a9, .ref b0, .int 0])), (a1, .inl (cy 1, 1037, .inl g130))]) [0, 2] (by decide) rfl
  have hFc := va_free (wc := [(h0, .inr (8, [.ref a1, .ref a2, .ref a3, .ref a4, .ref a5, .int 0, .int x6, .ref a6, .int 0, .int 0, .int 0, .int 0, .int 0, .int 0, .int 0, .int 0, .int (-1), .ref a7, .ref a8, .int 0, .ref a9, .ref b0, .int 0])), (a1, .inl (cy 1, 1037, .inl g130))]) hD hS hA [0, 2] rfl
  refine va_calli (va_runV (As := [.int 2, .int (-1)]) (rest := []) ⟨hx, hb, hml, hown, hts⟩ (c_X8_goes l dC dI cy nb h0 a1 (.ref a2) (.ref a3) (.ref a4) (.ref a5) (.int 0) (.int x6) (.ref a6) (.int 0) (.int 0) (.int 0) (.int 0) (.int 0) (.int 0) (.int 0) (.int 0) (.int (-1)) (.ref a7) (.ref a8) (.int 0) (.ref a9) (.ref b0) (.int 0) g130 0 H.size hf131) (cwV 2 hts (gV mw_1334 mw_1335 mw_1336 mw_5 mw_1337) rfl rfl rfl (by decide +kernel) ⟨Nat.le_of_ble_eq_true rfl, Nat.le_of_ble_eq_true rfl⟩) ⟨fun a U g mk q => by obtain ⟨q0, q1, qP, qK, qD, qE⟩ := q; exact ⟨q0, q1, qP, va_K.moved (u := U) (U := U.calling g mk a) (Vm.Alike.refl U.vm) qK, qD, GE.calling qE⟩, va_recv hK hP (ci := 8) (q0 := 0) rfl rfl, fun U hU hW => ⟨rfl, by rw [hU], by rw [hU]; exact hPc, va_K.moved hW.alike hK, hDc.weaken (fun _ _ _ _ => trivial), GE.call hE hS hFc hU hW⟩⟩ rfl rfl hl.1 rfl (lv_room (Nat.le_of_ble_eq_true rfl)) dX8_bestOf_43 ⟨Nat.le_of_ble_eq_true rfl, Nat.le_of_ble_eq_true rfl⟩) hS (fun q _ h => hFc q h) hFc (fun r u t H1 locs ht hvm hw132 hB hz1 hk1 hS => ?_)
  obtain ⟨hP1, hD1⟩ := hB
  rw [ht] at hP1
  obtain ⟨hP, hD⟩ := va_join (wr := [(a2, .inl (cy 1, 1037, .inl g1))]) (w1 := [(h0, .inr (8, [.ref a1, .ref a2, .ref a3, .ref a4, .ref a5, .int 0, .int x6, .ref a6, .int 0, .int 0, .int 0, .int 0, .int 0, .int 0, .int 0, .int 0, .int (-1), .ref a7, .ref a8, .int 0, .ref a9, .ref b0, .int 0])), (a1, .inl (cy 1, 1037, .inl g130))]) hP hD [0, 2] [1] rfl rfl (by decide) (by decide) hk1 hFc hP1 hD1
  generalize H1 = H at hP hS ⊢
  have hP : va_P (dC, dI) vwCl [(a2, .inl (cy 1, 1037, .inl g1)), (h0, .inr (8, [.ref a1, .ref a2, .ref a3, .ref a4, .ref a5, .int 0, .int x6, .ref a6, .int 0, .int 0, .int 0, .int 0, .int 0, .int 0, .int 0, .int 0, .int (-1), .ref a7, .ref a8, .int 0, .ref a9, .ref b0, .int 0])), (a1, .inl (cy 1, 1037, .inl g130))] H := hP
  have hD : va_D A [(a2, .inl (cy 1, 1037, .inl g1)), (h0, .inr (8, [.ref a1, .ref a2, .ref a3, .ref a4, .ref a5, .int 0, .int x6, .ref a6, .int 0, .int 0, .int 0, .int 0, .int 0, .int 0, .int 0, .int 0, .int (-1), .ref a7, .ref a8, .int 0, .ref a9, .ref b0, .int 0])), (a1, .inl (cy 1, 1037, .inl g130))] := hD
  obtain rfl := hw132
  refine W.widen (k := 0) (n := 0) (by omega) (by omega) ?_
  refine lv_istore (lv' := [(9, .int 0), (8, .int 19), (7, .int 0), (6, .int 1), (0, .ref h0), (1, .int 1), (2, .int 1), (3, .int 20), (4, .int 2), (5, .int (-1))]) hx hb dX8_bestOf_46 hl (by decide) rfl (fun ls hl => ?_)
  refine lv_iload hx hb dX8_bestOf_48 (lv_at hl 0 rfl) ?_
  refine lv_iconst (v := (-1)) hx hb dX8_bestOf_50 (by decide) ?_
  refine lv_icmp_eq (tgt := 69) hx hb dX8_bestOf_51 (by decide) (fun h => absurd h (by decide)) (fun _ => ?_)
  refine lv_iload hx hb dX8_bestOf_54 (lv_at hl 0 rfl) ?_
  refine lv_iload hx hb dX8_bestOf_56 (lv_at hl 2 rfl) ?_
  refine lv_icmp_ge (tgt := 69) hx hb dX8_bestOf_58 (by decide) (fun _ => ?_) (fun h => absurd (by decide) h)
  refine lv_aload_n hx hb dX8_bestOf_69 rfl (lv_at hl 4 rfl) ?_
  refine va_get (D := (dC, dI)) (ci := 8) (v := .ref a2) (C := RX8) (T := TX8) (N := 23) hx hb hts inlX8 hown hK hP 1 rfl rfl 1 (by decide) (hts _ mw_98) (fun _ h9 => h9) rfl dX8_bestOf_70 ?_
  refine lv_iconst (v := 0) hx hb dX8_bestOf_73 (by decide) ?_
  refine lv_aload_n hx hb dX8_bestOf_74 rfl (lv_at hl 4 rfl) ?_
  refine va_get (D := (dC, dI)) (ci := 8) (v := .ref a1) (C := RX8) (T := TX8) (N := 23) hx hb hts inlX8 hown hK hP 1 rfl rfl 0 (by decide) (hts _ mw_97) (fun _ h9 => h9) rfl dX8_bestOf_75 ?_
  refine lv_iconst (v := 0) hx hb dX8_bestOf_78 (by decide) ?_
  have hPc := hP.sub (ws' := [(a2, .inl (cy 1, 1037, .inl g1)), (a1, .inl (cy 1, 1037, .inl g130))]) [0, 2] rfl
  have hDc := hD.sub (ws' := [(a2, .inl (cy 1, 1037, .inl g1)), (a1, .inl (cy 1, 1037, .inl g130))]) [0, 2] (by decide) rfl
  have hFc := va_free (wc := [(a2, .inl (cy 1, 1037, .inl g1)), (a1, .inl (cy 1, 1037, .inl g130))]) hD hS hA [0, 2] rfl
  refine va_callv (va_runS (As := [.ref a2, .int 0, .ref a1, .int 0]) (rest := []) ⟨hx, hb, hml, hown, hts⟩ (c_X8_copies l dC dI cy nb a2 a1 0 0 1037 1037 g1 g130 H.size (by decide) (by decide) (by decide)) (va_cwS 4 hts (gS mw_423 mw_424 mw_5 mw_425) rfl rfl rfl (by decide +kernel) ⟨Nat.le_of_ble_eq_true rfl, Nat.le_of_ble_eq_true rfl⟩) ⟨fun a U g mk q => by obtain ⟨q0, q1, qP, qK, qD, qE⟩ := q; exact ⟨q0, q1, qP, va_K.moved (u := U) (U := U.calling g mk a) (Vm.Alike.refl U.vm) qK, qD, GE.calling qE⟩, fun U hU hW => ⟨rfl, by rw [hU], by rw [hU]; exact hPc, va_K.moved hW.alike hK, hDc.weaken (fun _ _ _ _ => trivial), GE.call hE hS hFc hU hW⟩⟩ rfl rfl hl.1 rfl (lv_room (Nat.le_of_ble_eq_true rfl)) dX8_bestOf_79 ⟨Nat.le_of_ble_eq_true rfl, Nat.le_of_ble_eq_true rfl⟩) hS (fun q _ h => hFc q h) hFc (fun u t H1 locs ht hvm hw135 hB hz1 hk1 hS => ?_)
  obtain ⟨g133, hg134, hP1, hD1⟩ := hB
  rw [ht] at hP1
  obtain ⟨hP, hD⟩ := va_join (wr := [(h0, .inr (8, [.ref a1, .ref a2, .ref a3, .ref a4, .ref a5, .int 0, .int x6, .ref a6, .int 0, .int 0, .int 0, .int 0, .int 0, .int 0, .int 0, .int 0, .int (-1), .ref a7, .ref a8, .int 0, .ref a9, .ref b0, .int 0]))]) (w1 := [(a2, .inl (cy 1, 1037, .inl g1)), (a1, .inl (cy 1, 1037, .inl g133))]) hP hD [0, 2] [1] rfl rfl (by decide) (by decide) hk1 hFc hP1 hD1
  generalize H1 = H at hP hS ⊢
  have hP : va_P (dC, dI) vwCl [(h0, .inr (8, [.ref a1, .ref a2, .ref a3, .ref a4, .ref a5, .int 0, .int x6, .ref a6, .int 0, .int 0, .int 0, .int 0, .int 0, .int 0, .int 0, .int 0, .int (-1), .ref a7, .ref a8, .int 0, .ref a9, .ref b0, .int 0])), (a2, .inl (cy 1, 1037, .inl g1)), (a1, .inl (cy 1, 1037, .inl g133))] H := hP
  have hD : va_D A [(h0, .inr (8, [.ref a1, .ref a2, .ref a3, .ref a4, .ref a5, .int 0, .int x6, .ref a6, .int 0, .int 0, .int 0, .int 0, .int 0, .int 0, .int 0, .int 0, .int (-1), .ref a7, .ref a8, .int 0, .ref a9, .ref b0, .int 0])), (a2, .inl (cy 1, 1037, .inl g1)), (a1, .inl (cy 1, 1037, .inl g133))] := hD
  refine W.widen (k := 0) (n := 0) (by omega) (by omega) ?_
  have hz136 : FT 0 g133 := FT_cp hg134 hfa
  refine lv_iinc (v := 20) (lv' := [(8, .int 20), (9, .int 0), (7, .int 0), (6, .int 1), (0, .ref h0), (1, .int 1), (2, .int 1), (3, .int 20), (4, .int 2), (5, .int (-1))]) hx hb dX8_bestOf_82 hl (k := 1) rfl (by decide) (by decide) rfl (fun ls hl => ?_)
  refine lv_goto (tgt := 24) hx hb dX8_bestOf_85 (by decide) ?_
  refine lv_iload hx hb dX8_bestOf_24 (lv_at hl 0 rfl) ?_
  refine lv_iload_n hx hb dX8_bestOf_26 rfl (lv_at hl 7 rfl) ?_
  refine lv_icmp_gt (tgt := 88) hx hb dX8_bestOf_27 (by decide) (fun h => absurd h (by decide)) (fun _ => ?_)
  refine lv_aload_n hx hb dX8_bestOf_30 rfl (lv_at hl 4 rfl) ?_
  refine va_get (D := (dC, dI)) (ci := 8) (v := .ref a1) (C := RX8) (T := TX8) (N := 23) hx hb hts inlX8 hown hK hP 0 rfl rfl 0 (by decide) (hts _ mw_97) (fun _ h9 => h9) rfl dX8_bestOf_31 ?_
  refine lv_iload_n hx hb dX8_bestOf_34 rfl (lv_at hl 5 rfl) ?_
  refine lv_iload hx hb dX8_bestOf_35 (lv_at hl 0 rfl) ?_
  refine va_iast hx hb hK hP hD hS 2 1 rfl rfl (vp_in_nI (n := 1) (by decide) (by decide)) dX8_bestOf_37 (fun H locs hP hD hS => ?_)
  have hP : va_P (dC, dI) vwCl [(h0, .inr (8, [.ref a1, .ref a2, .ref a3, .ref a4, .ref a5, .int 0, .int x6, .ref a6, .int 0, .int 0, .int 0, .int 0, .int 0, .int 0, .int 0, .int 0, .int (-1), .ref a7, .ref a8, .int 0, .ref a9, .ref b0, .int 0])), (a2, .inl (cy 1, 1037, .inl g1)), (a1, .inl (cy 1, 1037, .inl (upd g133 ((1 : Int32).toNatClampNeg) 20)))] H := hP
  have hD : va_D A [(h0, .inr (8, [.ref a1, .ref a2, .ref a3, .ref a4, .ref a5, .int 0, .int x6, .ref a6, .int 0, .int 0, .int 0, .int 0, .int 0, .int 0, .int 0, .int 0, .int (-1), .ref a7, .ref a8, .int 0, .ref a9, .ref b0, .int 0])), (a2, .inl (cy 1, 1037, .inl g1)), (a1, .inl (cy 1, 1037, .inl (upd g133 ((1 : Int32).toNatClampNeg) 20)))] := hD
  have hf138 : FT 0 (upd g133 ((1 : Int32).toNatClampNeg) 20) := FT_up hz136 (Or.inr (by decide))
  generalize (upd g133 ((1 : Int32).toNatClampNeg) 20) = g137 at hP hD hf138
  refine lv_aload_n hx hb dX8_bestOf_38 rfl (lv_at hl 4 rfl) ?_
  refine lv_iload hx hb dX8_bestOf_39 (lv_at hl 8 rfl) ?_
  refine lv_iload hx hb dX8_bestOf_41 (lv_at hl 9 rfl) ?_
  have hPc := hP.sub (ws' := [(h0, .inr (8, [.ref a1, .ref a2, .ref a3, .ref a4, .ref a5, .int 0, .int x6, .ref a6, .int 0, .int 0, .int 0, .int 0, .int 0, .int 0, .int 0, .int 0, .int (-1), .ref a7, .ref a8, .int 0, .ref a9, .ref b0, .int 0])), (a1, .inl (cy 1, 1037, .inl g137))]) [0, 2] rfl
  have hDc := hD.sub (ws' := [(h0, .inr (8, [.ref a1, .ref a2, .ref a3, .ref a4, .ref a5, .int 0, .int x6, .ref a6, .int 0, .int 0, .int 0, .int 0, .int 0, .int 0, .int 0, .int 0, .int (-1), .ref a7, .ref a8, .int 0, .ref a9, .ref b0, .int 0])), (a1, .inl (cy 1, 1037, .inl g137))]) [0, 2] (by decide) rfl
  have hFc := va_free (wc := [(h0, .inr (8, [.ref a1, .ref a2, .ref a3, .ref a4, .ref a5, .int 0, .int x6, .ref a6, .int 0, .int 0, .int 0, .int 0, .int 0, .int 0, .int 0, .int 0, .int (-1), .ref a7, .ref a8, .int 0, .ref a9, .ref b0, .int 0])), (a1, .inl (cy 1, 1037, .inl g137))]) hD hS hA [0, 2] rfl
  refine va_calli (va_runV (As := [.int 2, .int (-1)]) (rest := []) ⟨hx, hb, hml, hown, hts⟩ (c_X8_goes l dC dI cy nb h0 a1 (.ref a2) (.ref a3) (.ref a4) (.ref a5) (.int 0) (.int x6) (.ref a6) (.int 0) (.int 0) (.int 0) (.int 0) (.int 0) (.int 0) (.int 0) (.int 0) (.int (-1)) (.ref a7) (.ref a8) (.int 0) (.ref a9) (.ref b0) (.int 0) g137 0 H.size hf138) (cwV 2 hts (gV mw_1334 mw_1335 mw_1336 mw_5 mw_1337) rfl rfl rfl (by decide +kernel) ⟨Nat.le_of_ble_eq_true rfl, Nat.le_of_ble_eq_true rfl⟩) ⟨fun a U g mk q => by obtain ⟨q0, q1, qP, qK, qD, qE⟩ := q; exact ⟨q0, q1, qP, va_K.moved (u := U) (U := U.calling g mk a) (Vm.Alike.refl U.vm) qK, qD, GE.calling qE⟩, va_recv hK hP (ci := 8) (q0 := 0) rfl rfl, fun U hU hW => ⟨rfl, by rw [hU], by rw [hU]; exact hPc, va_K.moved hW.alike hK, hDc.weaken (fun _ _ _ _ => trivial), GE.call hE hS hFc hU hW⟩⟩ rfl rfl hl.1 rfl (lv_room (Nat.le_of_ble_eq_true rfl)) dX8_bestOf_43 ⟨Nat.le_of_ble_eq_true rfl, Nat.le_of_ble_eq_true rfl⟩) hS (fun q _ h => hFc q h) hFc (fun r u t H1 locs ht hvm hw139 hB hz1 hk1 hS => ?_)
  obtain ⟨hP1, hD1⟩ := hB
  rw [ht] at hP1
  obtain ⟨hP, hD⟩ := va_join (wr := [(a2, .inl (cy 1, 1037, .inl g1))]) (w1 := [(h0, .inr (8, [.ref a1, .ref a2, .ref a3, .ref a4, .ref a5, .int 0, .int x6, .ref a6, .int 0, .int 0, .int 0, .int 0, .int 0, .int 0, .int 0, .int 0, .int (-1), .ref a7, .ref a8, .int 0, .ref a9, .ref b0, .int 0])), (a1, .inl (cy 1, 1037, .inl g137))]) hP hD [0, 2] [1] rfl rfl (by decide) (by decide) hk1 hFc hP1 hD1
  generalize H1 = H at hP hS ⊢
  have hP : va_P (dC, dI) vwCl [(a2, .inl (cy 1, 1037, .inl g1)), (h0, .inr (8, [.ref a1, .ref a2, .ref a3, .ref a4, .ref a5, .int 0, .int x6, .ref a6, .int 0, .int 0, .int 0, .int 0, .int 0, .int 0, .int 0, .int 0, .int (-1), .ref a7, .ref a8, .int 0, .ref a9, .ref b0, .int 0])), (a1, .inl (cy 1, 1037, .inl g137))] H := hP
  have hD : va_D A [(a2, .inl (cy 1, 1037, .inl g1)), (h0, .inr (8, [.ref a1, .ref a2, .ref a3, .ref a4, .ref a5, .int 0, .int x6, .ref a6, .int 0, .int 0, .int 0, .int 0, .int 0, .int 0, .int 0, .int 0, .int (-1), .ref a7, .ref a8, .int 0, .ref a9, .ref b0, .int 0])), (a1, .inl (cy 1, 1037, .inl g137))] := hD
  obtain rfl := hw139
  refine W.widen (k := 0) (n := 0) (by omega) (by omega) ?_
  refine lv_istore (lv' := [(9, .int 0), (8, .int 20), (7, .int 0), (6, .int 1), (0, .ref h0), (1, .int 1), (2, .int 1), (3, .int 20), (4, .int 2), (5, .int (-1))]) hx hb dX8_bestOf_46 hl (by decide) rfl (fun ls hl => ?_)
  refine lv_iload hx hb dX8_bestOf_48 (lv_at hl 0 rfl) ?_
  refine lv_iconst (v := (-1)) hx hb dX8_bestOf_50 (by decide) ?_
  refine lv_icmp_eq (tgt := 69) hx hb dX8_bestOf_51 (by decide) (fun h => absurd h (by decide)) (fun _ => ?_)
  refine lv_iload hx hb dX8_bestOf_54 (lv_at hl 0 rfl) ?_
  refine lv_iload hx hb dX8_bestOf_56 (lv_at hl 2 rfl) ?_
  refine lv_icmp_ge (tgt := 69) hx hb dX8_bestOf_58 (by decide) (fun _ => ?_) (fun h => absurd (by decide) h)
  refine lv_aload_n hx hb dX8_bestOf_69 rfl (lv_at hl 4 rfl) ?_
  refine va_get (D := (dC, dI)) (ci := 8) (v := .ref a2) (C := RX8) (T := TX8) (N := 23) hx hb hts inlX8 hown hK hP 1 rfl rfl 1 (by decide) (hts _ mw_98) (fun _ h9 => h9) rfl dX8_bestOf_70 ?_
  refine lv_iconst (v := 0) hx hb dX8_bestOf_73 (by decide) ?_
  refine lv_aload_n hx hb dX8_bestOf_74 rfl (lv_at hl 4 rfl) ?_
  refine va_get (D := (dC, dI)) (ci := 8) (v := .ref a1) (C := RX8) (T := TX8) (N := 23) hx hb hts inlX8 hown hK hP 1 rfl rfl 0 (by decide) (hts _ mw_97) (fun _ h9 => h9) rfl dX8_bestOf_75 ?_
  refine lv_iconst (v := 0) hx hb dX8_bestOf_78 (by decide) ?_
  have hPc := hP.sub (ws' := [(a2, .inl (cy 1, 1037, .inl g1)), (a1, .inl (cy 1, 1037, .inl g137))]) [0, 2] rfl
  have hDc := hD.sub (ws' := [(a2, .inl (cy 1, 1037, .inl g1)), (a1, .inl (cy 1, 1037, .inl g137))]) [0, 2] (by decide) rfl
  have hFc := va_free (wc := [(a2, .inl (cy 1, 1037, .inl g1)), (a1, .inl (cy 1, 1037, .inl g137))]) hD hS hA [0, 2] rfl
  refine va_callv (va_runS (As := [.ref a2, .int 0, .ref a1, .int 0]) (rest := []) ⟨hx, hb, hml, hown, hts⟩ (c_X8_copies l dC dI cy nb a2 a1 0 0 1037 1037 g1 g137 H.size (by decide) (by decide) (by decide)) (va_cwS 4 hts (gS mw_423 mw_424 mw_5 mw_425) rfl rfl rfl (by decide +kernel) ⟨Nat.le_of_ble_eq_true rfl, Nat.le_of_ble_eq_true rfl⟩) ⟨fun a U g mk q => by obtain ⟨q0, q1, qP, qK, qD, qE⟩ := q; exact ⟨q0, q1, qP, va_K.moved (u := U) (U := U.calling g mk a) (Vm.Alike.refl U.vm) qK, qD, GE.calling qE⟩, fun U hU hW => ⟨rfl, by rw [hU], by rw [hU]; exact hPc, va_K.moved hW.alike hK, hDc.weaken (fun _ _ _ _ => trivial), GE.call hE hS hFc hU hW⟩⟩ rfl rfl hl.1 rfl (lv_room (Nat.le_of_ble_eq_true rfl)) dX8_bestOf_79 ⟨Nat.le_of_ble_eq_true rfl, Nat.le_of_ble_eq_true rfl⟩) hS (fun q _ h => hFc q h) hFc (fun u t H1 locs ht hvm hw142 hB hz1 hk1 hS => ?_)
  obtain ⟨g140, hg141, hP1, hD1⟩ := hB
  rw [ht] at hP1
  obtain ⟨hP, hD⟩ := va_join (wr := [(h0, .inr (8, [.ref a1, .ref a2, .ref a3, .ref a4, .ref a5, .int 0, .int x6, .ref a6, .int 0, .int 0, .int 0, .int 0, .int 0, .int 0, .int 0, .int 0, .int (-1), .ref a7, .ref a8, .int 0, .ref a9, .ref b0, .int 0]))]) (w1 := [(a2, .inl (cy 1, 1037, .inl g1)), (a1, .inl (cy 1, 1037, .inl g140))]) hP hD [0, 2] [1] rfl rfl (by decide) (by decide) hk1 hFc hP1 hD1
  generalize H1 = H at hP hS ⊢
  have hP : va_P (dC, dI) vwCl [(h0, .inr (8, [.ref a1, .ref a2, .ref a3, .ref a4, .ref a5, .int 0, .int x6, .ref a6, .int 0, .int 0, .int 0, .int 0, .int 0, .int 0, .int 0, .int 0, .int (-1), .ref a7, .ref a8, .int 0, .ref a9, .ref b0, .int 0])), (a2, .inl (cy 1, 1037, .inl g1)), (a1, .inl (cy 1, 1037, .inl g140))] H := hP
  have hD : va_D A [(h0, .inr (8, [.ref a1, .ref a2, .ref a3, .ref a4, .ref a5, .int 0, .int x6, .ref a6, .int 0, .int 0, .int 0, .int 0, .int 0, .int 0, .int 0, .int 0, .int (-1), .ref a7, .ref a8, .int 0, .ref a9, .ref b0, .int 0])), (a2, .inl (cy 1, 1037, .inl g1)), (a1, .inl (cy 1, 1037, .inl g140))] := hD
  refine W.widen (k := 0) (n := 0) (by omega) (by omega) ?_
  have hz143 : FT 0 g140 := FT_cp hg141 hfa
  refine lv_iinc (v := 21) (lv' := [(8, .int 21), (9, .int 0), (7, .int 0), (6, .int 1), (0, .ref h0), (1, .int 1), (2, .int 1), (3, .int 20), (4, .int 2), (5, .int (-1))]) hx hb dX8_bestOf_82 hl (k := 1) rfl (by decide) (by decide) rfl (fun ls hl => ?_)
  refine lv_goto (tgt := 24) hx hb dX8_bestOf_85 (by decide) ?_
  refine lv_iload hx hb dX8_bestOf_24 (lv_at hl 0 rfl) ?_
  refine lv_iload_n hx hb dX8_bestOf_26 rfl (lv_at hl 7 rfl) ?_
  refine lv_icmp_gt (tgt := 88) hx hb dX8_bestOf_27 (by decide) (fun _ => ?_) (fun h => absurd (by decide) h)
  refine lv_iload hx hb dX8_bestOf_88 (lv_at hl 3 rfl) ?_
  have hP9 := hP.sub (ws' := [(h0, .inr (8, [.ref a1, .ref a2, .ref a3, .ref a4, .ref a5, .int 0, .int x6, .ref a6, .int 0, .int 0, .int 0, .int 0, .int 0, .int 0, .int 0, .int 0, .int (-1), .ref a7, .ref a8, .int 0, .ref a9, .ref b0, .int 0]))]) [0] rfl
  have hD9 := hD.sub (ws' := [(h0, .inr (8, [.ref a1, .ref a2, .ref a3, .ref a4, .ref a5, .int 0, .int x6, .ref a6, .int 0, .int 0, .int 0, .int 0, .int 0, .int 0, .int 0, .int 0, .int (-1), .ref a7, .ref a8, .int 0, .ref a9, .ref b0, .int 0]))]) [0] (by decide) rfl
  refine W.widen (k := 0) (n := 0) (by omega) (by omega) ?_
  exact W.iret (v := 1) hx hb hr (fun t ht hW => ⟨⟨1, (), rfl, rfl, by rw [ht]; exact hP9, hD9⟩, hS.F ht⟩) hS.2.2 dX8_bestOf_90
set_option maxHeartbeats 4000000 in
set_option maxRecDepth 100000 in
/-- X8_bestTray -/
theorem c_X8_bestTray (l : Launch) (dC : Nat → ClassId) (dI : Nat → Nat → Nat) (cy : Nat → ClassId) (nb : Nat → Nat) (h0 : Nat) (a1 : Nat) (a2 : Nat) (a3 : Nat) (a4 : Nat) (a5 : Nat) (a6 : Nat) (a7 : Nat) (a8 : Nat) (a9 : Nat) (b0 : Nat) (x6 : Int32) (g : Nat → Int32) (ga : Nat → Int32) (sz : Nat) (hg : FN g) : Met l yX8_bestTray (wsg yX8_bestTray cX8_bestTray 1 (some .int)) ({ frames := 15, cells := 0, slots := 0, locals := 1000 }) (va_Pc [.ref h0] (fun U => U.heap.size = sz ∧ va_P (dC, dI) vwCl [(h0, .inr (8, [.ref a1, .ref a2, .ref a3, .ref a4, .ref a5, .int 0, .int x6, .ref a6, .int 0, .int 0, .int 0, .int 0, .int 0, .int 0, .int 0, .int 0, .int (-1), .ref a7, .ref a8, .int 0, .ref a9, .ref b0, .int 0])), (a1, .inl (cy 1, 1037, .inl g)), (a2, .inl (cy 1, 1037, .inl ga))] U.heap ∧ va_K (dC, dI) vwCl (tyL cy) U ∧ va_D (fun _ => True) [(h0, .inr (8, [.ref a1, .ref a2, .ref a3, .ref a4, .ref a5, .int 0, .int x6, .ref a6, .int 0, .int 0, .int 0, .int 0, .int 0, .int 0, .int 0, .int 0, .int (-1), .ref a7, .ref a8, .int 0, .ref a9, .ref b0, .int 0])), (a1, .inl (cy 1, 1037, .inl g)), (a2, .inl (cy 1, 1037, .inl ga))] ∧ GE nb (va_A [(h0, .inr (8, [.ref a1, .ref a2, .ref a3, .ref a4, .ref a5, .int 0, .int x6, .ref a6, .int 0, .int 0, .int 0, .int 0, .int 0, .int 0, .int 0, .int 0, .int (-1), .ref a7, .ref a8, .int 0, .ref a9, .ref b0, .int 0])), (a1, .inl (cy 1, 1037, .inl g)), (a2, .inl (cy 1, 1037, .inl ga))] sz) U)) (va_Qi (fun (r : Int32) (_ : Unit) => r = 1) (fun _ t => va_P (dC, dI) vwCl [(h0, .inr (8, [.ref a1, .ref a2, .ref a3, .ref a4, .ref a5, .int 0, .int 0, .ref a6, .int 0, .int 0, .int 0, .int 0, .int 0, .int 0, .int 0, .int 0, .int (-1), .ref a7, .ref a8, .int 0, .ref a9, .ref b0, .int 0]))] t.heap ∧ va_D (va_A [(h0, .inr (8, [.ref a1, .ref a2, .ref a3, .ref a4, .ref a5, .int 0, .int x6, .ref a6, .int 0, .int 0, .int 0, .int 0, .int 0, .int 0, .int 0, .int 0, .int (-1), .ref a7, .ref a8, .int 0, .ref a9, .ref b0, .int 0])), (a1, .inl (cy 1, 1037, .inl g)), (a2, .inl (cy 1, 1037, .inl ga))] sz) [(h0, .inr (8, [.ref a1, .ref a2, .ref a3, .ref a4, .ref a5, .int 0, .int 0, .ref a6, .int 0, .int 0, .int 0, .int 0, .int 0, .int 0, .int 0, .int 0, .int (-1), .ref a7, .ref a8, .int 0, .ref a9, .ref b0, .int 0]))]) (va_A [(h0, .inr (8, [.ref a1, .ref a2, .ref a3, .ref a4, .ref a5, .int 0, .int x6, .ref a6, .int 0, .int 0, .int 0, .int 0, .int 0, .int 0, .int 0, .int 0, .int (-1), .ref a7, .ref a8, .int 0, .ref a9, .ref b0, .int 0])), (a1, .inl (cy 1, 1037, .inl g)), (a2, .inl (cy 1, 1037, .inl ga))] sz)) 0 0 (va_A [(h0, .inr (8, [.ref a1, .ref a2, .ref a3, .ref a4, .ref a5, .int 0, .int x6, .ref a6, .int 0, .int 0, .int 0, .int 0, .int 0, .int 0, .int 0, .int 0, .int (-1), .ref a7, .ref a8, .int 0, .ref a9, .ref b0, .int 0])), (a1, .inl (cy 1, 1037, .inl g)), (a2, .inl (cy 1, 1037, .inl ga))] sz) := by
  refine Met.ofW (cc := cX8_bestTray) (maxL := 1) (ret := (some .int)) (by decide) rfl ?_
  intro p e s m args below meth c s₁ B hml hv
  obtain ⟨rfl, hsz, hP, hK, hD0, hE⟩ := hv
  have hx := B.exec
  have hb := B.bytes
  have hr := B.returns
  have hts0 := atoms_spec (ws := (wsg yX8_bestTray cX8_bestTray 1 (some .int))) B.pre
  have hts : ∀ w ∈ wsL_law, w.before _ s = true := fun w h => hts0 w (List.mem_cons_of_mem _ h)
  have hown : s.vm.findClass RX8 = some m.cls := findClass_of_methodNamed B.named
  have hlocks := B.notSynchronized
  subst hsz
  have hD := hD0.self (sz := s.heap.size)
  generalize hAe : va_A [(h0, .inr (8, [.ref a1, .ref a2, .ref a3, .ref a4, .ref a5, .int 0, .int x6, .ref a6, .int 0, .int 0, .int 0, .int 0, .int 0, .int 0, .int 0, .int 0, .int (-1), .ref a7, .ref a8, .int 0, .ref a9, .ref b0, .int 0])), (a1, .inl (cy 1, 1037, .inl g)), (a2, .inl (cy 1, 1037, .inl ga))] s.heap.size = A at hD hE ⊢
  have hA : ∀ q : Nat, s.heap.size ≤ q → A q := fun q h => by rw [← hAe]; exact Or.inr h
  have hS : va_S A s.heap s.heap [] := va_S.rf
  have hP : va_P (dC, dI) vwCl [(h0, .inr (8, [.ref a1, .ref a2, .ref a3, .ref a4, .ref a5, .int 0, .int x6, .ref a6, .int 0, .int 0, .int 0, .int 0, .int 0, .int 0, .int 0, .int 0, .int (-1), .ref a7, .ref a8, .int 0, .ref a9, .ref b0, .int 0])), (a1, .inl (cy 1, 1037, .inl g)), (a2, .inl (cy 1, 1037, .inl ga))] s.heap := hP
  have hl := lv_entry ([.ref h0]) (n := 1) (Nat.le_of_ble_eq_true rfl)
  rw [lg_entry_eq]
  generalize (lg_sl ([.ref h0]) ++ List.replicate (1 - (lg_sl ([.ref h0])).length) Slot.unset).toArray = ls at hl ⊢
  have hl : lv_has ls 1 [(0, .ref h0)] := hl
  generalize hHe : s.heap = H at hP hS ⊢
  have hS : va_S A s.heap H [] := by rw [hHe]; exact hS
  refine lv_aload_n hx hb dX8_bestTray_0 rfl (lv_at hl 0 rfl) ?_
  refine lv_iconst (v := 0) hx hb dX8_bestTray_1 (by decide) ?_
  refine va_put (D := (dC, dI)) (ci := 8) (v := .int 0) (ty := .int) (C := RX8) (T := TX8) (N := 23) hx hb hts inlX8 tyX8 tyX8_ok nmX8 hown hK hP hD hS 0 rfl rfl 6 (by decide) (hts _ mw_127) (fun _ h9 => h9) rfl (by decide +kernel) rfl rfl (Nat.le_of_ble_eq_true rfl) dX8_bestTray_2 (fun H locs hP hD hS => ?_)
  have hP : va_P (dC, dI) vwCl [(h0, .inr (8, [.ref a1, .ref a2, .ref a3, .ref a4, .ref a5, .int 0, .int 0, .ref a6, .int 0, .int 0, .int 0, .int 0, .int 0, .int 0, .int 0, .int 0, .int (-1), .ref a7, .ref a8, .int 0, .ref a9, .ref b0, .int 0])), (a1, .inl (cy 1, 1037, .inl g)), (a2, .inl (cy 1, 1037, .inl ga))] H := hP
  have hD : va_D A [(h0, .inr (8, [.ref a1, .ref a2, .ref a3, .ref a4, .ref a5, .int 0, .int 0, .ref a6, .int 0, .int 0, .int 0, .int 0, .int 0, .int 0, .int 0, .int 0, .int (-1), .ref a7, .ref a8, .int 0, .ref a9, .ref b0, .int 0])), (a1, .inl (cy 1, 1037, .inl g)), (a2, .inl (cy 1, 1037, .inl ga))] := hD
  refine lv_aload_n hx hb dX8_bestTray_5 rfl (lv_at hl 0 rfl) ?_
  refine lv_iconst (v := 1) hx hb dX8_bestTray_6 (by decide) ?_
  refine lv_iconst (v := 1) hx hb dX8_bestTray_7 (by decide) ?_
  refine lv_bipush (v := 20) hx hb dX8_bestTray_8 (by decide) ?_
  refine lv_iconst (v := 2) hx hb dX8_bestTray_10 (by decide) ?_
  refine lv_iconst (v := (-1)) hx hb dX8_bestTray_11 (by decide) ?_
  have hPc := hP.sub (ws' := [(h0, .inr (8, [.ref a1, .ref a2, .ref a3, .ref a4, .ref a5, .int 0, .int 0, .ref a6, .int 0, .int 0, .int 0, .int 0, .int 0, .int 0, .int 0, .int 0, .int (-1), .ref a7, .ref a8, .int 0, .ref a9, .ref b0, .int 0])), (a1, .inl (cy 1, 1037, .inl g)), (a2, .inl (cy 1, 1037, .inl ga))]) [0, 1, 2] rfl
  have hDc := hD.sub (ws' := [(h0, .inr (8, [.ref a1, .ref a2, .ref a3, .ref a4, .ref a5, .int 0, .int 0, .ref a6, .int 0, .int 0, .int 0, .int 0, .int 0, .int 0, .int 0, .int 0, .int (-1), .ref a7, .ref a8, .int 0, .ref a9, .ref b0, .int 0])), (a1, .inl (cy 1, 1037, .inl g)), (a2, .inl (cy 1, 1037, .inl ga))]) [0, 1, 2] (by decide) rfl
  have hFc := va_free (wc := [(h0, .inr (8, [.ref a1, .ref a2, .ref a3, .ref a4, .ref a5, .int 0, .int 0, .ref a6, .int 0, .int 0, .int 0, .int 0, .int 0, .int 0, .int 0, .int 0, .int (-1), .ref a7, .ref a8, .int 0, .ref a9, .ref b0, .int 0])), (a1, .inl (cy 1, 1037, .inl g)), (a2, .inl (cy 1, 1037, .inl ga))]) hD hS hA [0, 1, 2] rfl
  refine va_calli (va_runV (As := [.int 1, .int 1, .int 20, .int 2, .int (-1)]) (rest := []) ⟨hx, hb, hml, hown, hts⟩ (c_X8_bestOf l dC dI cy nb h0 a1 a2 a3 a4 a5 a6 a7 a8 a9 b0 0 g ga H.size hg) (cwV 5 hts (gV mw_1444 mw_1445 mw_1446 mw_5 mw_1447) rfl rfl rfl (by decide +kernel) ⟨Nat.le_of_ble_eq_true rfl, Nat.le_of_ble_eq_true rfl⟩) ⟨fun a U g mk q => by obtain ⟨q0, q1, qP, qK, qD, qE⟩ := q; exact ⟨q0, q1, qP, va_K.moved (u := U) (U := U.calling g mk a) (Vm.Alike.refl U.vm) qK, qD, GE.calling qE⟩, va_recv hK hP (ci := 8) (q0 := 0) rfl rfl, fun U hU hW => ⟨rfl, by rw [hU], by rw [hU]; exact hPc, va_K.moved hW.alike hK, hDc.weaken (fun _ _ _ _ => trivial), GE.call hE hS hFc hU hW⟩⟩ rfl rfl hl.1 rfl (lv_room (Nat.le_of_ble_eq_true rfl)) dX8_bestTray_12 ⟨Nat.le_of_ble_eq_true rfl, Nat.le_of_ble_eq_true rfl⟩) hS (fun q _ h => hFc q h) hFc (fun r u t H1 locs ht hvm hw1 hB hz1 hk1 hS => ?_)
  obtain ⟨hP1, hD1⟩ := hB
  rw [ht] at hP1
  obtain ⟨hP, hD⟩ := va_join (wr := []) (w1 := [(h0, .inr (8, [.ref a1, .ref a2, .ref a3, .ref a4, .ref a5, .int 0, .int 0, .ref a6, .int 0, .int 0, .int 0, .int 0, .int 0, .int 0, .int 0, .int 0, .int (-1), .ref a7, .ref a8, .int 0, .ref a9, .ref b0, .int 0]))]) hP hD [0, 1, 2] [] rfl rfl (by decide) (by decide) hk1 hFc hP1 hD1
  generalize H1 = H at hP hS ⊢
  have hP : va_P (dC, dI) vwCl [(h0, .inr (8, [.ref a1, .ref a2, .ref a3, .ref a4, .ref a5, .int 0, .int 0, .ref a6, .int 0, .int 0, .int 0, .int 0, .int 0, .int 0, .int 0, .int 0, .int (-1), .ref a7, .ref a8, .int 0, .ref a9, .ref b0, .int 0]))] H := hP
  have hD : va_D A [(h0, .inr (8, [.ref a1, .ref a2, .ref a3, .ref a4, .ref a5, .int 0, .int 0, .ref a6, .int 0, .int 0, .int 0, .int 0, .int 0, .int 0, .int 0, .int 0, .int (-1), .ref a7, .ref a8, .int 0, .ref a9, .ref b0, .int 0]))] := hD
  obtain rfl := hw1
  refine W.widen (k := 0) (n := 0) (by omega) (by omega) ?_
  have hP9 := hP.sub (ws' := [(h0, .inr (8, [.ref a1, .ref a2, .ref a3, .ref a4, .ref a5, .int 0, .int 0, .ref a6, .int 0, .int 0, .int 0, .int 0, .int 0, .int 0, .int 0, .int 0, .int (-1), .ref a7, .ref a8, .int 0, .ref a9, .ref b0, .int 0]))]) [0] rfl
  have hD9 := hD.sub (ws' := [(h0, .inr (8, [.ref a1, .ref a2, .ref a3, .ref a4, .ref a5, .int 0, .int 0, .ref a6, .int 0, .int 0, .int 0, .int 0, .int 0, .int 0, .int 0, .int 0, .int (-1), .ref a7, .ref a8, .int 0, .ref a9, .ref b0, .int 0]))]) [0] (by decide) rfl
  refine W.widen (k := 0) (n := 0) (by omega) (by omega) ?_
  exact W.iret (v := 1) hx hb hr (fun t ht hW => ⟨⟨1, (), rfl, rfl, by rw [ht]; exact hP9, hD9⟩, hS.F ht⟩) hS.2.2 dX8_bestTray_15
set_option maxHeartbeats 4000000 in
set_option maxRecDepth 100000 in
/-- X8_count -/
theorem c_X8_count_0 (l : Launch) (dC : Nat → ClassId) (dI : Nat → Nat → Nat) (cy : Nat → ClassId) (nb : Nat → Nat) (h0 : Nat) (a1 : Nat) (a2 : Nat) (a3 : Nat) (a4 : Nat) (a5 : Nat) (a6 : Nat) (a7 : Nat) (a8 : Nat) (a9 : Nat) (b0 : Nat) (x6 : Int32) (g : Nat → Int32) (sz : Nat) (hg : FN g) : Met l yX8_count (wsg yX8_count cX8_count 2 (some .int)) ({ frames := 15, cells := 0, slots := 0, locals := 1000 }) (va_Pc [.ref h0, .int 0] (fun U => U.heap.size = sz ∧ va_P (dC, dI) vwCl [(h0, .inr (8, [.ref a1, .ref a2, .ref a3, .ref a4, .ref a5, .int 0, .int x6, .ref a6, .int 0, .int 0, .int 0, .int 0, .int 0, .int 0, .int 0, .int 0, .int (-1), .ref a7, .ref a8, .int 0, .ref a9, .ref b0, .int 0])), (a1, .inl (cy 1, 1037, .inl g))] U.heap ∧ va_K (dC, dI) vwCl (tyL cy) U ∧ va_D (fun _ => True) [(h0, .inr (8, [.ref a1, .ref a2, .ref a3, .ref a4, .ref a5, .int 0, .int x6, .ref a6, .int 0, .int 0, .int 0, .int 0, .int 0, .int 0, .int 0, .int 0, .int (-1), .ref a7, .ref a8, .int 0, .ref a9, .ref b0, .int 0])), (a1, .inl (cy 1, 1037, .inl g))] ∧ GE nb (va_A [(h0, .inr (8, [.ref a1, .ref a2, .ref a3, .ref a4, .ref a5, .int 0, .int x6, .ref a6, .int 0, .int 0, .int 0, .int 0, .int 0, .int 0, .int 0, .int 0, .int (-1), .ref a7, .ref a8, .int 0, .ref a9, .ref b0, .int 0])), (a1, .inl (cy 1, 1037, .inl g))] sz) U)) (va_Qi (fun (r : Int32) (_ : Unit) => r = 0) (fun _ t => va_P (dC, dI) vwCl [(h0, .inr (8, [.ref a1, .ref a2, .ref a3, .ref a4, .ref a5, .int 0, .int 0, .ref a6, .int 0, .int 0, .int 0, .int 0, .int 0, .int 0, .int 0, .int 0, .int (-1), .ref a7, .ref a8, .int 0, .ref a9, .ref b0, .int 0]))] t.heap ∧ va_D (va_A [(h0, .inr (8, [.ref a1, .ref a2, .ref a3, .ref a4, .ref a5, .int 0, .int x6, .ref a6, .int 0, .int 0, .int 0, .int 0, .int 0, .int 0, .int 0, .int 0, .int (-1), .ref a7, .ref a8, .int 0, .ref a9, .ref b0, .int 0])), (a1, .inl (cy 1, 1037, .inl g))] sz) [(h0, .inr (8, [.ref a1, .ref a2, .ref a3, .ref a4, .ref a5, .int 0, .int 0, .ref a6, .int 0, .int 0, .int 0, .int 0, .int 0, .int 0, .int 0, .int 0, .int (-1), .ref a7, .ref a8, .int 0, .ref a9, .ref b0, .int 0]))]) (va_A [(h0, .inr (8, [.ref a1, .ref a2, .ref a3, .ref a4, .ref a5, .int 0, .int x6, .ref a6, .int 0, .int 0, .int 0, .int 0, .int 0, .int 0, .int 0, .int 0, .int (-1), .ref a7, .ref a8, .int 0, .ref a9, .ref b0, .int 0])), (a1, .inl (cy 1, 1037, .inl g))] sz)) 0 0 (va_A [(h0, .inr (8, [.ref a1, .ref a2, .ref a3, .ref a4, .ref a5, .int 0, .int x6, .ref a6, .int 0, .int 0, .int 0, .int 0, .int 0, .int 0, .int 0, .int 0, .int (-1), .ref a7, .ref a8, .int 0, .ref a9, .ref b0, .int 0])), (a1, .inl (cy 1, 1037, .inl g))] sz) := by
  refine Met.ofW (cc := cX8_count) (maxL := 2) (ret := (some .int)) (by decide) rfl ?_
  intro p e s m args below meth c s₁ B hml hv
  obtain ⟨rfl, hsz, hP, hK, hD0, hE⟩ := hv
  have hx := B.exec
  have hb := B.bytes
  have hr := B.returns
  have hts0 := atoms_spec (ws := (wsg yX8_count cX8_count 2 (some .int))) B.pre
  have hts : ∀ w ∈ wsL_law, w.before _ s = true := fun w h => hts0 w (List.mem_cons_of_mem _ h)
  have hown : s.vm.findClass RX8 = some m.cls := findClass_of_methodNamed B.named
  have hlocks := B.notSynchronized
  subst hsz
  have hD := hD0.self (sz := s.heap.size)
  generalize hAe : va_A [(h0, .inr (8, [.ref a1, .ref a2, .ref a3, .ref a4, .ref a5, .int 0, .int x6, .ref a6, .int 0, .int 0, .int 0, .int 0, .int 0, .int 0, .int 0, .int 0, .int (-1), .ref a7, .ref a8, .int 0, .ref a9, .ref b0, .int 0])), (a1, .inl (cy 1, 1037, .inl g))] s.heap.size = A at hD hE ⊢
  have hA : ∀ q : Nat, s.heap.size ≤ q → A q := fun q h => by rw [← hAe]; exact Or.inr h
  have hS : va_S A s.heap s.heap [] := va_S.rf
  have hP : va_P (dC, dI) vwCl [(h0, .inr (8, [.ref a1, .ref a2, .ref a3, .ref a4, .ref a5, .int 0, .int x6, .ref a6, .int 0, .int 0, .int 0, .int 0, .int 0, .int 0, .int 0, .int 0, .int (-1), .ref a7, .ref a8, .int 0, .ref a9, .ref b0, .int 0])), (a1, .inl (cy 1, 1037, .inl g))] s.heap := hP
  have hl := lv_entry ([.ref h0, .int 0]) (n := 2) (Nat.le_of_ble_eq_true rfl)
  rw [lg_entry_eq]
  generalize (lg_sl ([.ref h0, .int 0]) ++ List.replicate (2 - (lg_sl ([.ref h0, .int 0])).length) Slot.unset).toArray = ls at hl ⊢
  have hl : lv_has ls 2 [(0, .ref h0), (1, .int 0)] := hl
  generalize hHe : s.heap = H at hP hS ⊢
  have hS : va_S A s.heap H [] := by rw [hHe]; exact hS
  refine lv_aload_n hx hb dX8_count_0 rfl (lv_at hl 0 rfl) ?_
  refine lv_iload_n hx hb dX8_count_1 rfl (lv_at hl 1 rfl) ?_
  refine lv_i2l (v := 0) hx hb dX8_count_2 (by decide) ?_
  refine lv_lconst (v := 0) hx hb dX8_count_3 (by decide) ?_
  refine lv_ldc2 hx hb hown (hts _ mw_579) dX8_count_4 ?_
  have hPc := hP.sub (ws' := []) [] rfl
  have hDc := hD.sub (ws' := []) [] (by decide) rfl
  have hFc := va_free (wc := []) hD hS hA [] rfl
  refine va_calli (va_runS (As := [.long 0, .long 0, .long 9]) (rest := [.ref h0]) ⟨hx, hb, hml, hown, hts⟩ (c_X8_in l dC dI cy nb 0 0 9 H.size) (va_cwS 3 hts (gS mw_445 mw_446 mw_5 mw_447) rfl rfl rfl (by decide +kernel) ⟨Nat.le_of_ble_eq_true rfl, Nat.le_of_ble_eq_true rfl⟩) ⟨fun a U g mk q => by obtain ⟨q0, q1, qP, qK, qD, qE⟩ := q; exact ⟨q0, q1, qP, va_K.moved (u := U) (U := U.calling g mk a) (Vm.Alike.refl U.vm) qK, qD, GE.calling qE⟩, fun U hU hW => ⟨rfl, by rw [hU], by rw [hU]; exact hPc, va_K.moved hW.alike hK, hDc.weaken (fun _ _ _ _ => trivial), GE.call hE hS hFc hU hW⟩⟩ rfl rfl hl.1 rfl (lv_room (Nat.le_of_ble_eq_true rfl)) dX8_count_7 ⟨Nat.le_of_ble_eq_true rfl, Nat.le_of_ble_eq_true rfl⟩) hS (fun q _ h => hFc q h) hFc (fun r u t H1 locs ht hvm hw1 hB hz1 hk1 hS => ?_)
  obtain ⟨hP1, hD1⟩ := hB
  rw [ht] at hP1
  obtain ⟨hP, hD⟩ := va_join (wr := [(h0, .inr (8, [.ref a1, .ref a2, .ref a3, .ref a4, .ref a5, .int 0, .int x6, .ref a6, .int 0, .int 0, .int 0, .int 0, .int 0, .int 0, .int 0, .int 0, .int (-1), .ref a7, .ref a8, .int 0, .ref a9, .ref b0, .int 0])), (a1, .inl (cy 1, 1037, .inl g))]) (w1 := []) hP hD [] [0, 1] rfl rfl (by decide) (by decide) hk1 hFc hP1 hD1
  generalize H1 = H at hP hS ⊢
  have hP : va_P (dC, dI) vwCl [(h0, .inr (8, [.ref a1, .ref a2, .ref a3, .ref a4, .ref a5, .int 0, .int x6, .ref a6, .int 0, .int 0, .int 0, .int 0, .int 0, .int 0, .int 0, .int 0, .int (-1), .ref a7, .ref a8, .int 0, .ref a9, .ref b0, .int 0])), (a1, .inl (cy 1, 1037, .inl g))] H := hP
  have hD : va_D A [(h0, .inr (8, [.ref a1, .ref a2, .ref a3, .ref a4, .ref a5, .int 0, .int x6, .ref a6, .int 0, .int 0, .int 0, .int 0, .int 0, .int 0, .int 0, .int 0, .int (-1), .ref a7, .ref a8, .int 0, .ref a9, .ref b0, .int 0])), (a1, .inl (cy 1, 1037, .inl g))] := hD
  obtain rfl := hw1
  refine my_topi (y := 1) (by decide) ?_
  refine W.widen (k := 0) (n := 0) (by omega) (by omega) ?_
  refine lv_iconst (v := 1) hx hb dX8_count_10 (by decide) ?_
  have hPc := hP.sub (ws' := [(h0, .inr (8, [.ref a1, .ref a2, .ref a3, .ref a4, .ref a5, .int 0, .int x6, .ref a6, .int 0, .int 0, .int 0, .int 0, .int 0, .int 0, .int 0, .int 0, .int (-1), .ref a7, .ref a8, .int 0, .ref a9, .ref b0, .int 0]))]) [0] rfl
  have hDc := hD.sub (ws' := [(h0, .inr (8, [.ref a1, .ref a2, .ref a3, .ref a4, .ref a5, .int 0, .int x6, .ref a6, .int 0, .int 0, .int 0, .int 0, .int 0, .int 0, .int 0, .int 0, .int (-1), .ref a7, .ref a8, .int 0, .ref a9, .ref b0, .int 0]))]) [0] (by decide) rfl
  have hFc := va_free (wc := [(h0, .inr (8, [.ref a1, .ref a2, .ref a3, .ref a4, .ref a5, .int 0, .int x6, .ref a6, .int 0, .int 0, .int 0, .int 0, .int 0, .int 0, .int 0, .int 0, .int (-1), .ref a7, .ref a8, .int 0, .ref a9, .ref b0, .int 0]))]) hD hS hA [0] rfl
  refine va_calli (va_runV (As := [.int 1, .int 1]) (rest := []) ⟨hx, hb, hml, hown, hts⟩ (c_X8_isThrown_1 l dC dI cy nb h0 (.ref a1) (.ref a2) (.ref a3) (.ref a4) (.ref a5) (.int 0) (.ref a6) (.int 0) (.int 0) (.int 0) (.int 0) (.int 0) (.int 0) (.int 0) (.int 0) (.int (-1)) (.ref a7) (.ref a8) (.int 0) (.ref a9) (.ref b0) (.int 0) x6 1 H.size) (cwV 2 hts (gV mw_580 mw_581 mw_582 mw_5 mw_583) rfl rfl rfl (by decide +kernel) ⟨Nat.le_of_ble_eq_true rfl, Nat.le_of_ble_eq_true rfl⟩) ⟨fun a U g mk q => by obtain ⟨q0, q1, qP, qK, qD, qE⟩ := q; exact ⟨q0, q1, qP, va_K.moved (u := U) (U := U.calling g mk a) (Vm.Alike.refl U.vm) qK, qD, GE.calling qE⟩, va_recv hK hP (ci := 8) (q0 := 0) rfl rfl, fun U hU hW => ⟨rfl, by rw [hU], by rw [hU]; exact hPc, va_K.moved hW.alike hK, hDc.weaken (fun _ _ _ _ => trivial), GE.call hE hS hFc hU hW⟩⟩ rfl rfl hl.1 rfl (lv_room (Nat.le_of_ble_eq_true rfl)) dX8_count_11 ⟨Nat.le_of_ble_eq_true rfl, Nat.le_of_ble_eq_true rfl⟩) hS (fun q _ h => hFc q h) hFc (fun r u t H1 locs ht hvm hw2 hB hz1 hk1 hS => ?_)
  obtain ⟨hP1, hD1⟩ := hB
  rw [ht] at hP1
  obtain ⟨hP, hD⟩ := va_join (wr := [(a1, .inl (cy 1, 1037, .inl g))]) (w1 := [(h0, .inr (8, [.ref a1, .ref a2, .ref a3, .ref a4, .ref a5, .int 0, .int 0, .ref a6, .int 0, .int 0, .int 0, .int 0, .int 0, .int 0, .int 0, .int 0, .int (-1), .ref a7, .ref a8, .int 0, .ref a9, .ref b0, .int 0]))]) hP hD [0] [1] rfl rfl (by decide) (by decide) hk1 hFc hP1 hD1
  generalize H1 = H at hP hS ⊢
  have hP : va_P (dC, dI) vwCl [(a1, .inl (cy 1, 1037, .inl g)), (h0, .inr (8, [.ref a1, .ref a2, .ref a3, .ref a4, .ref a5, .int 0, .int 0, .ref a6, .int 0, .int 0, .int 0, .int 0, .int 0, .int 0, .int 0, .int 0, .int (-1), .ref a7, .ref a8, .int 0, .ref a9, .ref b0, .int 0]))] H := hP
  have hD : va_D A [(a1, .inl (cy 1, 1037, .inl g)), (h0, .inr (8, [.ref a1, .ref a2, .ref a3, .ref a4, .ref a5, .int 0, .int 0, .ref a6, .int 0, .int 0, .int 0, .int 0, .int 0, .int 0, .int 0, .int 0, .int (-1), .ref a7, .ref a8, .int 0, .ref a9, .ref b0, .int 0]))] := hD
  obtain rfl := hw2
  refine W.widen (k := 0) (n := 0) (by omega) (by omega) ?_
  refine lv_if_eq (tgt := 19) hx hb dX8_count_14 (by decide) (fun _ => ?_) (fun h => absurd (by decide) h)
  refine lv_iload_n hx hb dX8_count_19 rfl (lv_at hl 1 rfl) ?_
  refine lv_tableIn (off := 56) (tgt := 76) hx hb dX8_count_20 (by decide) (by decide) (by decide) (by decide) ?_
  refine lv_aload_n hx hb dX8_count_76 rfl (lv_at hl 0 rfl) ?_
  refine va_get (D := (dC, dI)) (ci := 8) (v := .ref a1) (C := RX8) (T := TX8) (N := 23) hx hb hts inlX8 hown hK hP 1 rfl rfl 0 (by decide) (hts _ mw_97) (fun _ h9 => h9) rfl dX8_count_77 ?_
  refine lv_bipush (v := 7) hx hb dX8_count_80 (by decide) ?_
  refine va_iald hx hb hK hP 0 1 rfl rfl (vp_in_nI (n := 7) (by decide) (by decide)) dX8_count_82 ?_
  refine my_topi (y := 0) (by exact hg.2.2.2 7 (by decide) (by decide)) ?_
  have hP9 := hP.sub (ws' := [(h0, .inr (8, [.ref a1, .ref a2, .ref a3, .ref a4, .ref a5, .int 0, .int 0, .ref a6, .int 0, .int 0, .int 0, .int 0, .int 0, .int 0, .int 0, .int 0, .int (-1), .ref a7, .ref a8, .int 0, .ref a9, .ref b0, .int 0]))]) [1] rfl
  have hD9 := hD.sub (ws' := [(h0, .inr (8, [.ref a1, .ref a2, .ref a3, .ref a4, .ref a5, .int 0, .int 0, .ref a6, .int 0, .int 0, .int 0, .int 0, .int 0, .int 0, .int 0, .int 0, .int (-1), .ref a7, .ref a8, .int 0, .ref a9, .ref b0, .int 0]))]) [1] (by decide) rfl
  refine W.widen (k := 0) (n := 0) (by omega) (by omega) ?_
  exact W.iret (v := 0) hx hb hr (fun t ht hW => ⟨⟨0, (), rfl, rfl, by rw [ht]; exact hP9, hD9⟩, hS.F ht⟩) hS.2.2 dX8_count_83
set_option maxHeartbeats 4000000 in
set_option maxRecDepth 100000 in
/-- X8_count -/
theorem c_X8_count_1 (l : Launch) (dC : Nat → ClassId) (dI : Nat → Nat → Nat) (cy : Nat → ClassId) (nb : Nat → Nat) (h0 : Nat) (a1 : Nat) (a2 : Nat) (a3 : Nat) (a4 : Nat) (a5 : Nat) (a6 : Nat) (a7 : Nat) (a8 : Nat) (a9 : Nat) (b0 : Nat) (x6 : Int32) (g : Nat → Int32) (sz : Nat) (hg : FN g) : Met l yX8_count (wsg yX8_count cX8_count 2 (some .int)) ({ frames := 15, cells := 0, slots := 0, locals := 1000 }) (va_Pc [.ref h0, .int 1] (fun U => U.heap.size = sz ∧ va_P (dC, dI) vwCl [(h0, .inr (8, [.ref a1, .ref a2, .ref a3, .ref a4, .ref a5, .int 0, .int x6, .ref a6, .int 0, .int 0, .int 0, .int 0, .int 0, .int 0, .int 0, .int 0, .int (-1), .ref a7, .ref a8, .int 0, .ref a9, .ref b0, .int 0])), (a1, .inl (cy 1, 1037, .inl g))] U.heap ∧ va_K (dC, dI) vwCl (tyL cy) U ∧ va_D (fun _ => True) [(h0, .inr (8, [.ref a1, .ref a2, .ref a3, .ref a4, .ref a5, .int 0, .int x6, .ref a6, .int 0, .int 0, .int 0, .int 0, .int 0, .int 0, .int 0, .int 0, .int (-1), .ref a7, .ref a8, .int 0, .ref a9, .ref b0, .int 0])), (a1, .inl (cy 1, 1037, .inl g))] ∧ GE nb (va_A [(h0, .inr (8, [.ref a1, .ref a2, .ref a3, .ref a4, .ref a5, .int 0, .int x6, .ref a6, .int 0, .int 0, .int 0, .int 0, .int 0, .int 0, .int 0, .int 0, .int (-1), .ref a7, .ref a8, .int 0, .ref a9, .ref b0, .int 0])), (a1, .inl (cy 1, 1037, .inl g))] sz) U)) (va_Qi (fun (r : Int32) (_ : Unit) => r = 0) (fun _ t => va_P (dC, dI) vwCl [(h0, .inr (8, [.ref a1, .ref a2, .ref a3, .ref a4, .ref a5, .int 0, .int 0, .ref a6, .int 0, .int 0, .int 0, .int 0, .int 0, .int 0, .int 0, .int 0, .int (-1), .ref a7, .ref a8, .int 0, .ref a9, .ref b0, .int 0]))] t.heap ∧ va_D (va_A [(h0, .inr (8, [.ref a1, .ref a2, .ref a3, .ref a4, .ref a5, .int 0, .int x6, .ref a6, .int 0, .int 0, .int 0, .int 0, .int 0, .int 0, .int 0, .int 0, .int (-1), .ref a7, .ref a8, .int 0, .ref a9, .ref b0, .int 0])), (a1, .inl (cy 1, 1037, .inl g))] sz) [(h0, .inr (8, [.ref a1, .ref a2, .ref a3, .ref a4, .ref a5, .int 0, .int 0, .ref a6, .int 0, .int 0, .int 0, .int 0, .int 0, .int 0, .int 0, .int 0, .int (-1), .ref a7, .ref a8, .int 0, .ref a9, .ref b0, .int 0]))]) (va_A [(h0, .inr (8, [.ref a1, .ref a2, .ref a3, .ref a4, .ref a5, .int 0, .int x6, .ref a6, .int 0, .int 0, .int 0, .int 0, .int 0, .int 0, .int 0, .int 0, .int (-1), .ref a7, .ref a8, .int 0, .ref a9, .ref b0, .int 0])), (a1, .inl (cy 1, 1037, .inl g))] sz)) 0 0 (va_A [(h0, .inr (8, [.ref a1, .ref a2, .ref a3, .ref a4, .ref a5, .int 0, .int x6, .ref a6, .int 0, .int 0, .int 0, .int 0, .int 0, .int 0, .int 0, .int 0, .int (-1), .ref a7, .ref a8, .int 0, .ref a9, .ref b0, .int 0])), (a1, .inl (cy 1, 1037, .inl g))] sz) := by
  refine Met.ofW (cc := cX8_count) (maxL := 2) (ret := (some .int)) (by decide) rfl ?_
  intro p e s m args below meth c s₁ B hml hv
  obtain ⟨rfl, hsz, hP, hK, hD0, hE⟩ := hv
  have hx := B.exec
  have hb := B.bytes
  have hr := B.returns
  have hts0 := atoms_spec (ws := (wsg yX8_count cX8_count 2 (some .int))) B.pre
  have hts : ∀ w ∈ wsL_law, w.before _ s = true := fun w h => hts0 w (List.mem_cons_of_mem _ h)
  have hown : s.vm.findClass RX8 = some m.cls := findClass_of_methodNamed B.named
  have hlocks := B.notSynchronized
  subst hsz
  have hD := hD0.self (sz := s.heap.size)
  generalize hAe : va_A [(h0, .inr (8, [.ref a1, .ref a2, .ref a3, .ref a4, .ref a5, .int 0, .int x6, .ref a6, .int 0, .int 0, .int 0, .int 0, .int 0, .int 0, .int 0, .int 0, .int (-1), .ref a7, .ref a8, .int 0, .ref a9, .ref b0, .int 0])), (a1, .inl (cy 1, 1037, .inl g))] s.heap.size = A at hD hE ⊢
  have hA : ∀ q : Nat, s.heap.size ≤ q → A q := fun q h => by rw [← hAe]; exact Or.inr h
  have hS : va_S A s.heap s.heap [] := va_S.rf
  have hP : va_P (dC, dI) vwCl [(h0, .inr (8, [.ref a1, .ref a2, .ref a3, .ref a4, .ref a5, .int 0, .int x6, .ref a6, .int 0, .int 0, .int 0, .int 0, .int 0, .int 0, .int 0, .int 0, .int (-1), .ref a7, .ref a8, .int 0, .ref a9, .ref b0, .int 0])), (a1, .inl (cy 1, 1037, .inl g))] s.heap := hP
  have hl := lv_entry ([.ref h0, .int 1]) (n := 2) (Nat.le_of_ble_eq_true rfl)
  rw [lg_entry_eq]
  generalize (lg_sl ([.ref h0, .int 1]) ++ List.replicate (2 - (lg_sl ([.ref h0, .int 1])).length) Slot.unset).toArray = ls at hl ⊢
  have hl : lv_has ls 2 [(0, .ref h0), (1, .int 1)] := hl
  generalize hHe : s.heap = H at hP hS ⊢
  have hS : va_S A s.heap H [] := by rw [hHe]; exact hS
  refine lv_aload_n hx hb dX8_count_0 rfl (lv_at hl 0 rfl) ?_
  refine lv_iload_n hx hb dX8_count_1 rfl (lv_at hl 1 rfl) ?_
  refine lv_i2l (v := 1) hx hb dX8_count_2 (by decide) ?_
  refine lv_lconst (v := 0) hx hb dX8_count_3 (by decide) ?_
  refine lv_ldc2 hx hb hown (hts _ mw_579) dX8_count_4 ?_
  have hPc := hP.sub (ws' := []) [] rfl
  have hDc := hD.sub (ws' := []) [] (by decide) rfl
  have hFc := va_free (wc := []) hD hS hA [] rfl
  refine va_calli (va_runS (As := [.long 1, .long 0, .long 9]) (rest := [.ref h0]) ⟨hx, hb, hml, hown, hts⟩ (c_X8_in l dC dI cy nb 1 0 9 H.size) (va_cwS 3 hts (gS mw_445 mw_446 mw_5 mw_447) rfl rfl rfl (by decide +kernel) ⟨Nat.le_of_ble_eq_true rfl, Nat.le_of_ble_eq_true rfl⟩) ⟨fun a U g mk q => by obtain ⟨q0, q1, qP, qK, qD, qE⟩ := q; exact ⟨q0, q1, qP, va_K.moved (u := U) (U := U.calling g mk a) (Vm.Alike.refl U.vm) qK, qD, GE.calling qE⟩, fun U hU hW => ⟨rfl, by rw [hU], by rw [hU]; exact hPc, va_K.moved hW.alike hK, hDc.weaken (fun _ _ _ _ => trivial), GE.call hE hS hFc hU hW⟩⟩ rfl rfl hl.1 rfl (lv_room (Nat.le_of_ble_eq_true rfl)) dX8_count_7 ⟨Nat.le_of_ble_eq_true rfl, Nat.le_of_ble_eq_true rfl⟩) hS (fun q _ h => hFc q h) hFc (fun r u t H1 locs ht hvm hw1 hB hz1 hk1 hS => ?_)
  obtain ⟨hP1, hD1⟩ := hB
  rw [ht] at hP1
  obtain ⟨hP, hD⟩ := va_join (wr := [(h0, .inr (8, [.ref a1, .ref a2, .ref a3, .ref a4, .ref a5, .int 0, .int x6, .ref a6, .int 0, .int 0, .int 0, .int 0, .int 0, .int 0, .int 0, .int 0, .int (-1), .ref a7, .ref a8, .int 0, .ref a9, .ref b0, .int 0])), (a1, .inl (cy 1, 1037, .inl g))]) (w1 := []) hP hD [] [0, 1] rfl rfl (by decide) (by decide) hk1 hFc hP1 hD1
  generalize H1 = H at hP hS ⊢
  have hP : va_P (dC, dI) vwCl [(h0, .inr (8, [.ref a1, .ref a2, .ref a3, .ref a4, .ref a5, .int 0, .int x6, .ref a6, .int 0, .int 0, .int 0, .int 0, .int 0, .int 0, .int 0, .int 0, .int (-1), .ref a7, .ref a8, .int 0, .ref a9, .ref b0, .int 0])), (a1, .inl (cy 1, 1037, .inl g))] H := hP
  have hD : va_D A [(h0, .inr (8, [.ref a1, .ref a2, .ref a3, .ref a4, .ref a5, .int 0, .int x6, .ref a6, .int 0, .int 0, .int 0, .int 0, .int 0, .int 0, .int 0, .int 0, .int (-1), .ref a7, .ref a8, .int 0, .ref a9, .ref b0, .int 0])), (a1, .inl (cy 1, 1037, .inl g))] := hD
  obtain rfl := hw1
  refine my_topi (y := 1) (by decide) ?_
  refine W.widen (k := 0) (n := 0) (by omega) (by omega) ?_
  refine lv_iconst (v := 1) hx hb dX8_count_10 (by decide) ?_
  have hPc := hP.sub (ws' := [(h0, .inr (8, [.ref a1, .ref a2, .ref a3, .ref a4, .ref a5, .int 0, .int x6, .ref a6, .int 0, .int 0, .int 0, .int 0, .int 0, .int 0, .int 0, .int 0, .int (-1), .ref a7, .ref a8, .int 0, .ref a9, .ref b0, .int 0]))]) [0] rfl
  have hDc := hD.sub (ws' := [(h0, .inr (8, [.ref a1, .ref a2, .ref a3, .ref a4, .ref a5, .int 0, .int x6, .ref a6, .int 0, .int 0, .int 0, .int 0, .int 0, .int 0, .int 0, .int 0, .int (-1), .ref a7, .ref a8, .int 0, .ref a9, .ref b0, .int 0]))]) [0] (by decide) rfl
  have hFc := va_free (wc := [(h0, .inr (8, [.ref a1, .ref a2, .ref a3, .ref a4, .ref a5, .int 0, .int x6, .ref a6, .int 0, .int 0, .int 0, .int 0, .int 0, .int 0, .int 0, .int 0, .int (-1), .ref a7, .ref a8, .int 0, .ref a9, .ref b0, .int 0]))]) hD hS hA [0] rfl
  refine va_calli (va_runV (As := [.int 1, .int 1]) (rest := []) ⟨hx, hb, hml, hown, hts⟩ (c_X8_isThrown_1 l dC dI cy nb h0 (.ref a1) (.ref a2) (.ref a3) (.ref a4) (.ref a5) (.int 0) (.ref a6) (.int 0) (.int 0) (.int 0) (.int 0) (.int 0) (.int 0) (.int 0) (.int 0) (.int (-1)) (.ref a7) (.ref a8) (.int 0) (.ref a9) (.ref b0) (.int 0) x6 1 H.size) (cwV 2 hts (gV mw_580 mw_581 mw_582 mw_5 mw_583) rfl rfl rfl (by decide +kernel) ⟨Nat.le_of_ble_eq_true rfl, Nat.le_of_ble_eq_true rfl⟩) ⟨fun a U g mk q => by obtain ⟨q0, q1, qP, qK, qD, qE⟩ := q; exact ⟨q0, q1, qP, va_K.moved (u := U) (U := U.calling g mk a) (Vm.Alike.refl U.vm) qK, qD, GE.calling qE⟩, va_recv hK hP (ci := 8) (q0 := 0) rfl rfl, fun U hU hW => ⟨rfl, by rw [hU], by rw [hU]; exact hPc, va_K.moved hW.alike hK, hDc.weaken (fun _ _ _ _ => trivial), GE.call hE hS hFc hU hW⟩⟩ rfl rfl hl.1 rfl (lv_room (Nat.le_of_ble_eq_true rfl)) dX8_count_11 ⟨Nat.le_of_ble_eq_true rfl, Nat.le_of_ble_eq_true rfl⟩) hS (fun q _ h => hFc q h) hFc (fun r u t H1 locs ht hvm hw2 hB hz1 hk1 hS => ?_)
  obtain ⟨hP1, hD1⟩ := hB
  rw [ht] at hP1
  obtain ⟨hP, hD⟩ := va_join (wr := [(a1, .inl (cy 1, 1037, .inl g))]) (w1 := [(h0, .inr (8, [.ref a1, .ref a2, .ref a3, .ref a4, .ref a5, .int 0, .int 0, .ref a6, .int 0, .int 0, .int 0, .int 0, .int 0, .int 0, .int 0, .int 0, .int (-1), .ref a7, .ref a8, .int 0, .ref a9, .ref b0, .int 0]))]) hP hD [0] [1] rfl rfl (by decide) (by decide) hk1 hFc hP1 hD1
  generalize H1 = H at hP hS ⊢
  have hP : va_P (dC, dI) vwCl [(a1, .inl (cy 1, 1037, .inl g)), (h0, .inr (8, [.ref a1, .ref a2, .ref a3, .ref a4, .ref a5, .int 0, .int 0, .ref a6, .int 0, .int 0, .int 0, .int 0, .int 0, .int 0, .int 0, .int 0, .int (-1), .ref a7, .ref a8, .int 0, .ref a9, .ref b0, .int 0]))] H := hP
  have hD : va_D A [(a1, .inl (cy 1, 1037, .inl g)), (h0, .inr (8, [.ref a1, .ref a2, .ref a3, .ref a4, .ref a5, .int 0, .int 0, .ref a6, .int 0, .int 0, .int 0, .int 0, .int 0, .int 0, .int 0, .int 0, .int (-1), .ref a7, .ref a8, .int 0, .ref a9, .ref b0, .int 0]))] := hD
  obtain rfl := hw2
  refine W.widen (k := 0) (n := 0) (by omega) (by omega) ?_
  refine lv_if_eq (tgt := 19) hx hb dX8_count_14 (by decide) (fun _ => ?_) (fun h => absurd (by decide) h)
  refine lv_iload_n hx hb dX8_count_19 rfl (lv_at hl 1 rfl) ?_
  refine lv_tableIn (off := 64) (tgt := 84) hx hb dX8_count_20 (by decide) (by decide) (by decide) (by decide) ?_
  refine lv_aload_n hx hb dX8_count_84 rfl (lv_at hl 0 rfl) ?_
  refine va_get (D := (dC, dI)) (ci := 8) (v := .ref a1) (C := RX8) (T := TX8) (N := 23) hx hb hts inlX8 hown hK hP 1 rfl rfl 0 (by decide) (hts _ mw_97) (fun _ h9 => h9) rfl dX8_count_85 ?_
  refine lv_bipush (v := 8) hx hb dX8_count_88 (by decide) ?_
  refine va_iald hx hb hK hP 0 1 rfl rfl (vp_in_nI (n := 8) (by decide) (by decide)) dX8_count_90 ?_
  refine my_topi (y := 0) (by exact hg.2.2.2 8 (by decide) (by decide)) ?_
  have hP9 := hP.sub (ws' := [(h0, .inr (8, [.ref a1, .ref a2, .ref a3, .ref a4, .ref a5, .int 0, .int 0, .ref a6, .int 0, .int 0, .int 0, .int 0, .int 0, .int 0, .int 0, .int 0, .int (-1), .ref a7, .ref a8, .int 0, .ref a9, .ref b0, .int 0]))]) [1] rfl
  have hD9 := hD.sub (ws' := [(h0, .inr (8, [.ref a1, .ref a2, .ref a3, .ref a4, .ref a5, .int 0, .int 0, .ref a6, .int 0, .int 0, .int 0, .int 0, .int 0, .int 0, .int 0, .int 0, .int (-1), .ref a7, .ref a8, .int 0, .ref a9, .ref b0, .int 0]))]) [1] (by decide) rfl
  refine W.widen (k := 0) (n := 0) (by omega) (by omega) ?_
  exact W.iret (v := 0) hx hb hr (fun t ht hW => ⟨⟨0, (), rfl, rfl, by rw [ht]; exact hP9, hD9⟩, hS.F ht⟩) hS.2.2 dX8_count_91
set_option maxHeartbeats 4000000 in
set_option maxRecDepth 100000 in
/-- X8_count -/
theorem c_X8_count_2 (l : Launch) (dC : Nat → ClassId) (dI : Nat → Nat → Nat) (cy : Nat → ClassId) (nb : Nat → Nat) (h0 : Nat) (a1 : Nat) (a2 : Nat) (a3 : Nat) (a4 : Nat) (a5 : Nat) (a6 : Nat) (a7 : Nat) (a8 : Nat) (a9 : Nat) (b0 : Nat) (x6 : Int32) (g : Nat → Int32) (sz : Nat) (hg : FN g) : Met l yX8_count (wsg yX8_count cX8_count 2 (some .int)) ({ frames := 15, cells := 0, slots := 0, locals := 1000 }) (va_Pc [.ref h0, .int 2] (fun U => U.heap.size = sz ∧ va_P (dC, dI) vwCl [(h0, .inr (8, [.ref a1, .ref a2, .ref a3, .ref a4, .ref a5, .int 0, .int x6, .ref a6, .int 0, .int 0, .int 0, .int 0, .int 0, .int 0, .int 0, .int 0, .int (-1), .ref a7, .ref a8, .int 0, .ref a9, .ref b0, .int 0])), (a1, .inl (cy 1, 1037, .inl g))] U.heap ∧ va_K (dC, dI) vwCl (tyL cy) U ∧ va_D (fun _ => True) [(h0, .inr (8, [.ref a1, .ref a2, .ref a3, .ref a4, .ref a5, .int 0, .int x6, .ref a6, .int 0, .int 0, .int 0, .int 0, .int 0, .int 0, .int 0, .int 0, .int (-1), .ref a7, .ref a8, .int 0, .ref a9, .ref b0, .int 0])), (a1, .inl (cy 1, 1037, .inl g))] ∧ GE nb (va_A [(h0, .inr (8, [.ref a1, .ref a2, .ref a3, .ref a4, .ref a5, .int 0, .int x6, .ref a6, .int 0, .int 0, .int 0, .int 0, .int 0, .int 0, .int 0, .int 0, .int (-1), .ref a7, .ref a8, .int 0, .ref a9, .ref b0, .int 0])), (a1, .inl (cy 1, 1037, .inl g))] sz) U)) (va_Qi (fun (r : Int32) (_ : Unit) => r = 0) (fun _ t => va_P (dC, dI) vwCl [(h0, .inr (8, [.ref a1, .ref a2, .ref a3, .ref a4, .ref a5, .int 0, .int 0, .ref a6, .int 0, .int 0, .int 0, .int 0, .int 0, .int 0, .int 0, .int 0, .int (-1), .ref a7, .ref a8, .int 0, .ref a9, .ref b0, .int 0]))] t.heap ∧ va_D (va_A [(h0, .inr (8, [.ref a1, .ref a2, .ref a3, .ref a4, .ref a5, .int 0, .int x6, .ref a6, .int 0, .int 0, .int 0, .int 0, .int 0, .int 0, .int 0, .int 0, .int (-1), .ref a7, .ref a8, .int 0, .ref a9, .ref b0, .int 0])), (a1, .inl (cy 1, 1037, .inl g))] sz) [(h0, .inr (8, [.ref a1, .ref a2, .ref a3, .ref a4, .ref a5, .int 0, .int 0, .ref a6, .int 0, .int 0, .int 0, .int 0, .int 0, .int 0, .int 0, .int 0, .int (-1), .ref a7, .ref a8, .int 0, .ref a9, .ref b0, .int 0]))]) (va_A [(h0, .inr (8, [.ref a1, .ref a2, .ref a3, .ref a4, .ref a5, .int 0, .int x6, .ref a6, .int 0, .int 0, .int 0, .int 0, .int 0, .int 0, .int 0, .int 0, .int (-1), .ref a7, .ref a8, .int 0, .ref a9, .ref b0, .int 0])), (a1, .inl (cy 1, 1037, .inl g))] sz)) 0 0 (va_A [(h0, .inr (8, [.ref a1, .ref a2, .ref a3, .ref a4, .ref a5, .int 0, .int x6, .ref a6, .int 0, .int 0, .int 0, .int 0, .int 0, .int 0, .int 0, .int 0, .int (-1), .ref a7, .ref a8, .int 0, .ref a9, .ref b0, .int 0])), (a1, .inl (cy 1, 1037, .inl g))] sz) := by
  refine Met.ofW (cc := cX8_count) (maxL := 2) (ret := (some .int)) (by decide) rfl ?_
  intro p e s m args below meth c s₁ B hml hv
  obtain ⟨rfl, hsz, hP, hK, hD0, hE⟩ := hv
  have hx := B.exec
  have hb := B.bytes
  have hr := B.returns
  have hts0 := atoms_spec (ws := (wsg yX8_count cX8_count 2 (some .int))) B.pre
  have hts : ∀ w ∈ wsL_law, w.before _ s = true := fun w h => hts0 w (List.mem_cons_of_mem _ h)
  have hown : s.vm.findClass RX8 = some m.cls := findClass_of_methodNamed B.named
  have hlocks := B.notSynchronized
  subst hsz
  have hD := hD0.self (sz := s.heap.size)
  generalize hAe : va_A [(h0, .inr (8, [.ref a1, .ref a2, .ref a3, .ref a4, .ref a5, .int 0, .int x6, .ref a6, .int 0, .int 0, .int 0, .int 0, .int 0, .int 0, .int 0, .int 0, .int (-1), .ref a7, .ref a8, .int 0, .ref a9, .ref b0, .int 0])), (a1, .inl (cy 1, 1037, .inl g))] s.heap.size = A at hD hE ⊢
  have hA : ∀ q : Nat, s.heap.size ≤ q → A q := fun q h => by rw [← hAe]; exact Or.inr h
  have hS : va_S A s.heap s.heap [] := va_S.rf
  have hP : va_P (dC, dI) vwCl [(h0, .inr (8, [.ref a1, .ref a2, .ref a3, .ref a4, .ref a5, .int 0, .int x6, .ref a6, .int 0, .int 0, .int 0, .int 0, .int 0, .int 0, .int 0, .int 0, .int (-1), .ref a7, .ref a8, .int 0, .ref a9, .ref b0, .int 0])), (a1, .inl (cy 1, 1037, .inl g))] s.heap := hP
  have hl := lv_entry ([.ref h0, .int 2]) (n := 2) (Nat.le_of_ble_eq_true rfl)
  rw [lg_entry_eq]
  generalize (lg_sl ([.ref h0, .int 2]) ++ List.replicate (2 - (lg_sl ([.ref h0, .int 2])).length) Slot.unset).toArray = ls at hl ⊢
  have hl : lv_has ls 2 [(0, .ref h0), (1, .int 2)] := hl
  generalize hHe : s.heap = H at hP hS ⊢
  have hS : va_S A s.heap H [] := by rw [hHe]; exact hS
  refine lv_aload_n hx hb dX8_count_0 rfl (lv_at hl 0 rfl) ?_
  refine lv_iload_n hx hb dX8_count_1 rfl (lv_at hl 1 rfl) ?_
  refine lv_i2l (v := 2) hx hb dX8_count_2 (by decide) ?_
  refine lv_lconst (v := 0) hx hb dX8_count_3 (by decide) ?_
  refine lv_ldc2 hx hb hown (hts _ mw_579) dX8_count_4 ?_
  have hPc := hP.sub (ws' := []) [] rfl
  have hDc := hD.sub (ws' := []) [] (by decide) rfl
  have hFc := va_free (wc := []) hD hS hA [] rfl
  refine va_calli (va_runS (As := [.long 2, .long 0, .long 9]) (rest := [.ref h0]) ⟨hx, hb, hml, hown, hts⟩ (c_X8_in l dC dI cy nb 2 0 9 H.size) (va_cwS 3 hts (gS mw_445 mw_446 mw_5 mw_447) rfl rfl rfl (by decide +kernel) ⟨Nat.le_of_ble_eq_true rfl, Nat.le_of_ble_eq_true rfl⟩) ⟨fun a U g mk q => by obtain ⟨q0, q1, qP, qK, qD, qE⟩ := q; exact ⟨q0, q1, qP, va_K.moved (u := U) (U := U.calling g mk a) (Vm.Alike.refl U.vm) qK, qD, GE.calling qE⟩, fun U hU hW => ⟨rfl, by rw [hU], by rw [hU]; exact hPc, va_K.moved hW.alike hK, hDc.weaken (fun _ _ _ _ => trivial), GE.call hE hS hFc hU hW⟩⟩ rfl rfl hl.1 rfl (lv_room (Nat.le_of_ble_eq_true rfl)) dX8_count_7 ⟨Nat.le_of_ble_eq_true rfl, Nat.le_of_ble_eq_true rfl⟩) hS (fun q _ h => hFc q h) hFc (fun r u t H1 locs ht hvm hw1 hB hz1 hk1 hS => ?_)
  obtain ⟨hP1, hD1⟩ := hB
  rw [ht] at hP1
  obtain ⟨hP, hD⟩ := va_join (wr := [(h0, .inr (8, [.ref a1, .ref a2, .ref a3, .ref a4, .ref a5, .int 0, .int x6, .ref a6, .int 0, .int 0, .int 0, .int 0, .int 0, .int 0, .int 0, .int 0, .int (-1), .ref a7, .ref a8, .int 0, .ref a9, .ref b0, .int 0])), (a1, .inl (cy 1, 1037, .inl g))]) (w1 := []) hP hD [] [0, 1] rfl rfl (by decide) (by decide) hk1 hFc hP1 hD1
  generalize H1 = H at hP hS ⊢
  have hP : va_P (dC, dI) vwCl [(h0, .inr (8, [.ref a1, .ref a2, .ref a3, .ref a4, .ref a5, .int 0, .int x6, .ref a6, .int 0, .int 0, .int 0, .int 0, .int 0, .int 0, .int 0, .int 0, .int (-1), .ref a7, .ref a8, .int 0, .ref a9, .ref b0, .int 0])), (a1, .inl (cy 1, 1037, .inl g))] H := hP
  have hD : va_D A [(h0, .inr (8, [.ref a1, .ref a2, .ref a3, .ref a4, .ref a5, .int 0, .int x6, .ref a6, .int 0, .int 0, .int 0, .int 0, .int 0, .int 0, .int 0, .int 0, .int (-1), .ref a7, .ref a8, .int 0, .ref a9, .ref b0, .int 0])), (a1, .inl (cy 1, 1037, .inl g))] := hD
  obtain rfl := hw1
  refine my_topi (y := 1) (by decide) ?_
  refine W.widen (k := 0) (n := 0) (by omega) (by omega) ?_
  refine lv_iconst (v := 1) hx hb dX8_count_10 (by decide) ?_
  have hPc := hP.sub (ws' := [(h0, .inr (8, [.ref a1, .ref a2, .ref a3, .ref a4, .ref a5, .int 0, .int x6, .ref a6, .int 0, .int 0, .int 0, .int 0, .int 0, .int 0, .int 0, .int 0, .int (-1), .ref a7, .ref a8, .int 0, .ref a9, .ref b0, .int 0]))]) [0] rfl
  have hDc := hD.sub (ws' := [(h0, .inr (8, [.ref a1, .ref a2, .ref a3, .ref a4, .ref a5, .int 0, .int x6, .ref a6, .int 0, .int 0, .int 0, .int 0, .int 0, .int 0, .int 0, .int 0, .int (-1), .ref a7, .ref a8, .int 0, .ref a9, .ref b0, .int 0]))]) [0] (by decide) rfl
  have hFc := va_free (wc := [(h0, .inr (8, [.ref a1, .ref a2, .ref a3, .ref a4, .ref a5, .int 0, .int x6, .ref a6, .int 0, .int 0, .int 0, .int 0, .int 0, .int 0, .int 0, .int 0, .int (-1), .ref a7, .ref a8, .int 0, .ref a9, .ref b0, .int 0]))]) hD hS hA [0] rfl
  refine va_calli (va_runV (As := [.int 1, .int 1]) (rest := []) ⟨hx, hb, hml, hown, hts⟩ (c_X8_isThrown_1 l dC dI cy nb h0 (.ref a1) (.ref a2) (.ref a3) (.ref a4) (.ref a5) (.int 0) (.ref a6) (.int 0) (.int 0) (.int 0) (.int 0) (.int 0) (.int 0) (.int 0) (.int 0) (.int (-1)) (.ref a7) (.ref a8) (.int 0) (.ref a9) (.ref b0) (.int 0) x6 1 H.size) (cwV 2 hts (gV mw_580 mw_581 mw_582 mw_5 mw_583) rfl rfl rfl (by decide +kernel) ⟨Nat.le_of_ble_eq_true rfl, Nat.le_of_ble_eq_true rfl⟩) ⟨fun a U g mk q => by obtain ⟨q0, q1, qP, qK, qD, qE⟩ := q; exact ⟨q0, q1, qP, va_K.moved (u := U) (U := U.calling g mk a) (Vm.Alike.refl U.vm) qK, qD, GE.calling qE⟩, va_recv hK hP (ci := 8) (q0 := 0) rfl rfl, fun U hU hW => ⟨rfl, by rw [hU], by rw [hU]; exact hPc, va_K.moved hW.alike hK, hDc.weaken (fun _ _ _ _ => trivial), GE.call hE hS hFc hU hW⟩⟩ rfl rfl hl.1 rfl (lv_room (Nat.le_of_ble_eq_true rfl)) dX8_count_11 ⟨Nat.le_of_ble_eq_true rfl, Nat.le_of_ble_eq_true rfl⟩) hS (fun q _ h => hFc q h) hFc (fun r u t H1 locs ht hvm hw2 hB hz1 hk1 hS => ?_)
  obtain ⟨hP1, hD1⟩ := hB
  rw [ht] at hP1
  obtain ⟨hP, hD⟩ := va_join (wr := [(a1, .inl (cy 1, 1037, .inl g))]) (w1 := [(h0, .inr (8, [.ref a1, .ref a2, .ref a3, .ref a4, .ref a5, .int 0, .int 0, .ref a6, .int 0, .int 0, .int 0, .int 0, .int 0, .int 0, .int 0, .int 0, .int (-1), .ref a7, .ref a8, .int 0, .ref a9, .ref b0, .int 0]))]) hP hD [0] [1] rfl rfl (by decide) (by decide) hk1 hFc hP1 hD1
  generalize H1 = H at hP hS ⊢
  have hP : va_P (dC, dI) vwCl [(a1, .inl (cy 1, 1037, .inl g)), (h0, .inr (8, [.ref a1, .ref a2, .ref a3, .ref a4, .ref a5, .int 0, .int 0, .ref a6, .int 0, .int 0, .int 0, .int 0, .int 0, .int 0, .int 0, .int 0, .int (-1), .ref a7, .ref a8, .int 0, .ref a9, .ref b0, .int 0]))] H := hP
  have hD : va_D A [(a1, .inl (cy 1, 1037, .inl g)), (h0, .inr (8, [.ref a1, .ref a2, .ref a3, .ref a4, .ref a5, .int 0, .int 0, .ref a6, .int 0, .int 0, .int 0, .int 0, .int 0, .int 0, .int 0, .int 0, .int (-1), .ref a7, .ref a8, .int 0, .ref a9, .ref b0, .int 0]))] := hD
  obtain rfl := hw2
  refine W.widen (k := 0) (n := 0) (by omega) (by omega) ?_
  refine lv_if_eq (tgt := 19) hx hb dX8_count_14 (by decide) (fun _ => ?_) (fun h => absurd (by decide) h)
  refine lv_iload_n hx hb dX8_count_19 rfl (lv_at hl 1 rfl) ?_
  refine lv_tableIn (off := 72) (tgt := 92) hx hb dX8_count_20 (by decide) (by decide) (by decide) (by decide) ?_
  refine lv_aload_n hx hb dX8_count_92 rfl (lv_at hl 0 rfl) ?_
  refine va_get (D := (dC, dI)) (ci := 8) (v := .ref a1) (C := RX8) (T := TX8) (N := 23) hx hb hts inlX8 hown hK hP 1 rfl rfl 0 (by decide) (hts _ mw_97) (fun _ h9 => h9) rfl dX8_count_93 ?_
  refine lv_bipush (v := 9) hx hb dX8_count_96 (by decide) ?_
  refine va_iald hx hb hK hP 0 1 rfl rfl (vp_in_nI (n := 9) (by decide) (by decide)) dX8_count_98 ?_
  refine my_topi (y := 0) (by exact hg.2.2.2 9 (by decide) (by decide)) ?_
  have hP9 := hP.sub (ws' := [(h0, .inr (8, [.ref a1, .ref a2, .ref a3, .ref a4, .ref a5, .int 0, .int 0, .ref a6, .int 0, .int 0, .int 0, .int 0, .int 0, .int 0, .int 0, .int 0, .int (-1), .ref a7, .ref a8, .int 0, .ref a9, .ref b0, .int 0]))]) [1] rfl
  have hD9 := hD.sub (ws' := [(h0, .inr (8, [.ref a1, .ref a2, .ref a3, .ref a4, .ref a5, .int 0, .int 0, .ref a6, .int 0, .int 0, .int 0, .int 0, .int 0, .int 0, .int 0, .int 0, .int (-1), .ref a7, .ref a8, .int 0, .ref a9, .ref b0, .int 0]))]) [1] (by decide) rfl
  refine W.widen (k := 0) (n := 0) (by omega) (by omega) ?_
  exact W.iret (v := 0) hx hb hr (fun t ht hW => ⟨⟨0, (), rfl, rfl, by rw [ht]; exact hP9, hD9⟩, hS.F ht⟩) hS.2.2 dX8_count_99
set_option maxHeartbeats 4000000 in
set_option maxRecDepth 100000 in
/-- X8_count -/
theorem c_X8_count_3 (l : Launch) (dC : Nat → ClassId) (dI : Nat → Nat → Nat) (cy : Nat → ClassId) (nb : Nat → Nat) (h0 : Nat) (a1 : Nat) (a2 : Nat) (a3 : Nat) (a4 : Nat) (a5 : Nat) (a6 : Nat) (a7 : Nat) (a8 : Nat) (a9 : Nat) (b0 : Nat) (x6 : Int32) (g : Nat → Int32) (sz : Nat) (hg : FN g) : Met l yX8_count (wsg yX8_count cX8_count 2 (some .int)) ({ frames := 15, cells := 0, slots := 0, locals := 1000 }) (va_Pc [.ref h0, .int 3] (fun U => U.heap.size = sz ∧ va_P (dC, dI) vwCl [(h0, .inr (8, [.ref a1, .ref a2, .ref a3, .ref a4, .ref a5, .int 0, .int x6, .ref a6, .int 0, .int 0, .int 0, .int 0, .int 0, .int 0, .int 0, .int 0, .int (-1), .ref a7, .ref a8, .int 0, .ref a9, .ref b0, .int 0])), (a1, .inl (cy 1, 1037, .inl g))] U.heap ∧ va_K (dC, dI) vwCl (tyL cy) U ∧ va_D (fun _ => True) [(h0, .inr (8, [.ref a1, .ref a2, .ref a3, .ref a4, .ref a5, .int 0, .int x6, .ref a6, .int 0, .int 0, .int 0, .int 0, .int 0, .int 0, .int 0, .int 0, .int (-1), .ref a7, .ref a8, .int 0, .ref a9, .ref b0, .int 0])), (a1, .inl (cy 1, 1037, .inl g))] ∧ GE nb (va_A [(h0, .inr (8, [.ref a1, .ref a2, .ref a3, .ref a4, .ref a5, .int 0, .int x6, .ref a6, .int 0, .int 0, .int 0, .int 0, .int 0, .int 0, .int 0, .int 0, .int (-1), .ref a7, .ref a8, .int 0, .ref a9, .ref b0, .int 0])), (a1, .inl (cy 1, 1037, .inl g))] sz) U)) (va_Qi (fun (r : Int32) (_ : Unit) => r = 0) (fun _ t => va_P (dC, dI) vwCl [(h0, .inr (8, [.ref a1, .ref a2, .ref a3, .ref a4, .ref a5, .int 0, .int 0, .ref a6, .int 0, .int 0, .int 0, .int 0, .int 0, .int 0, .int 0, .int 0, .int (-1), .ref a7, .ref a8, .int 0, .ref a9, .ref b0, .int 0]))] t.heap ∧ va_D (va_A [(h0, .inr (8, [.ref a1, .ref a2, .ref a3, .ref a4, .ref a5, .int 0, .int x6, .ref a6, .int 0, .int 0, .int 0, .int 0, .int 0, .int 0, .int 0, .int 0, .int (-1), .ref a7, .ref a8, .int 0, .ref a9, .ref b0, .int 0])), (a1, .inl (cy 1, 1037, .inl g))] sz) [(h0, .inr (8, [.ref a1, .ref a2, .ref a3, .ref a4, .ref a5, .int 0, .int 0, .ref a6, .int 0, .int 0, .int 0, .int 0, .int 0, .int 0, .int 0, .int 0, .int (-1), .ref a7, .ref a8, .int 0, .ref a9, .ref b0, .int 0]))]) (va_A [(h0, .inr (8, [.ref a1, .ref a2, .ref a3, .ref a4, .ref a5, .int 0, .int x6, .ref a6, .int 0, .int 0, .int 0, .int 0, .int 0, .int 0, .int 0, .int 0, .int (-1), .ref a7, .ref a8, .int 0, .ref a9, .ref b0, .int 0])), (a1, .inl (cy 1, 1037, .inl g))] sz)) 0 0 (va_A [(h0, .inr (8, [.ref a1, .ref a2, .ref a3, .ref a4, .ref a5, .int 0, .int x6, .ref a6, .int 0, .int 0, .int 0, .int 0, .int 0, .int 0, .int 0, .int 0, .int (-1), .ref a7, .ref a8, .int 0, .ref a9, .ref b0, .int 0])), (a1, .inl (cy 1, 1037, .inl g))] sz) := by
  refine Met.ofW (cc := cX8_count) (maxL := 2) (ret := (some .int)) (by decide) rfl ?_
  intro p e s m args below meth c s₁ B hml hv
  obtain ⟨rfl, hsz, hP, hK, hD0, hE⟩ := hv
  have hx := B.exec
  have hb := B.bytes
  have hr := B.returns
  have hts0 := atoms_spec (ws := (wsg yX8_count cX8_count 2 (some .int))) B.pre
  have hts : ∀ w ∈ wsL_law, w.before _ s = true := fun w h => hts0 w (List.mem_cons_of_mem _ h)
  have hown : s.vm.findClass RX8 = some m.cls := findClass_of_methodNamed B.named
  have hlocks := B.notSynchronized
  subst hsz
  have hD := hD0.self (sz := s.heap.size)
  generalize hAe : va_A [(h0, .inr (8, [.ref a1, .ref a2, .ref a3, .ref a4, .ref a5, .int 0, .int x6, .ref a6, .int 0, .int 0, .int 0, .int 0, .int 0, .int 0, .int 0, .int 0, .int (-1), .ref a7, .ref a8, .int 0, .ref a9, .ref b0, .int 0])), (a1, .inl (cy 1, 1037, .inl g))] s.heap.size = A at hD hE ⊢
  have hA : ∀ q : Nat, s.heap.size ≤ q → A q := fun q h => by rw [← hAe]; exact Or.inr h
  have hS : va_S A s.heap s.heap [] := va_S.rf
  have hP : va_P (dC, dI) vwCl [(h0, .inr (8, [.ref a1, .ref a2, .ref a3, .ref a4, .ref a5, .int 0, .int x6, .ref a6, .int 0, .int 0, .int 0, .int 0, .int 0, .int 0, .int 0, .int 0, .int (-1), .ref a7, .ref a8, .int 0, .ref a9, .ref b0, .int 0])), (a1, .inl (cy 1, 1037, .inl g))] s.heap := hP
  have hl := lv_entry ([.ref h0, .int 3]) (n := 2) (Nat.le_of_ble_eq_true rfl)
  rw [lg_entry_eq]
  generalize (lg_sl ([.ref h0, .int 3]) ++ List.replicate (2 - (lg_sl ([.ref h0, .int 3])).length) Slot.unset).toArray = ls at hl ⊢
  have hl : lv_has ls 2 [(0, .ref h0), (1, .int 3)] := hl
  generalize hHe : s.heap = H at hP hS ⊢
  have hS : va_S A s.heap H [] := by rw [hHe]; exact hS
  refine lv_aload_n hx hb dX8_count_0 rfl (lv_at hl 0 rfl) ?_
  refine lv_iload_n hx hb dX8_count_1 rfl (lv_at hl 1 rfl) ?_
  refine lv_i2l (v := 3) hx hb dX8_count_2 (by decide) ?_
  refine lv_lconst (v := 0) hx hb dX8_count_3 (by decide) ?_
  refine lv_ldc2 hx hb hown (hts _ mw_579) dX8_count_4 ?_
  have hPc := hP.sub (ws' := []) [] rfl
  have hDc := hD.sub (ws' := []) [] (by decide) rfl
  have hFc := va_free (wc := []) hD hS hA [] rfl
  refine va_calli (va_runS (As := [.long 3, .long 0, .long 9]) (rest := [.ref h0]) ⟨hx, hb, hml, hown, hts⟩ (c_X8_in l dC dI cy nb 3 0 9 H.size) (va_cwS 3 hts (gS mw_445 mw_446 mw_5 mw_447) rfl rfl rfl (by decide +kernel) ⟨Nat.le_of_ble_eq_true rfl, Nat.le_of_ble_eq_true rfl⟩) ⟨fun a U g mk q => by obtain ⟨q0, q1, qP, qK, qD, qE⟩ := q; exact ⟨q0, q1, qP, va_K.moved (u := U) (U := U.calling g mk a) (Vm.Alike.refl U.vm) qK, qD, GE.calling qE⟩, fun U hU hW => ⟨rfl, by rw [hU], by rw [hU]; exact hPc, va_K.moved hW.alike hK, hDc.weaken (fun _ _ _ _ => trivial), GE.call hE hS hFc hU hW⟩⟩ rfl rfl hl.1 rfl (lv_room (Nat.le_of_ble_eq_true rfl)) dX8_count_7 ⟨Nat.le_of_ble_eq_true rfl, Nat.le_of_ble_eq_true rfl⟩) hS (fun q _ h => hFc q h) hFc (fun r u t H1 locs ht hvm hw1 hB hz1 hk1 hS => ?_)
  obtain ⟨hP1, hD1⟩ := hB
  rw [ht] at hP1
  obtain ⟨hP, hD⟩ := va_join (wr := [(h0, .inr (8, [.ref a1, .ref a2, .ref a3, .ref a4, .ref a5, .int 0, .int x6, .ref a6, .int 0, .int 0, .int 0, .int 0, .int 0, .int 0, .int 0, .int 0, .int (-1), .ref a7, .ref a8, .int 0, .ref a9, .ref b0, .int 0])), (a1, .inl (cy 1, 1037, .inl g))]) (w1 := []) hP hD [] [0, 1] rfl rfl (by decide) (by decide) hk1 hFc hP1 hD1
  generalize H1 = H at hP hS ⊢
  have hP : va_P (dC, dI) vwCl [(h0, .inr (8, [.ref a1, .ref a2, .ref a3, .ref a4, .ref a5, .int 0, .int x6, .ref a6, .int 0, .int 0, .int 0, .int 0, .int 0, .int 0, .int 0, .int 0, .int (-1), .ref a7, .ref a8, .int 0, .ref a9, .ref b0, .int 0])), (a1, .inl (cy 1, 1037, .inl g))] H := hP
  have hD : va_D A [(h0, .inr (8, [.ref a1, .ref a2, .ref a3, .ref a4, .ref a5, .int 0, .int x6, .ref a6, .int 0, .int 0, .int 0, .int 0, .int 0, .int 0, .int 0, .int 0, .int (-1), .ref a7, .ref a8, .int 0, .ref a9, .ref b0, .int 0])), (a1, .inl (cy 1, 1037, .inl g))] := hD
  obtain rfl := hw1
  refine my_topi (y := 1) (by decide) ?_
  refine W.widen (k := 0) (n := 0) (by omega) (by omega) ?_
  refine lv_iconst (v := 1) hx hb dX8_count_10 (by decide) ?_
  have hPc := hP.sub (ws' := [(h0, .inr (8, [.ref a1, .ref a2, .ref a3, .ref a4, .ref a5, .int 0, .int x6, .ref a6, .int 0, .int 0, .int 0, .int 0, .int 0, .int 0, .int 0, .int 0, .int (-1), .ref a7, .ref a8, .int 0, .ref a9, .ref b0, .int 0]))]) [0] rfl
  have hDc := hD.sub (ws' := [(h0, .inr (8, [.ref a1, .ref a2, .ref a3, .ref a4, .ref a5, .int 0, .int x6, .ref a6, .int 0, .int 0, .int 0, .int 0, .int 0, .int 0, .int 0, .int 0, .int (-1), .ref a7, .ref a8, .int 0, .ref a9, .ref b0, .int 0]))]) [0] (by decide) rfl
  have hFc := va_free (wc := [(h0, .inr (8, [.ref a1, .ref a2, .ref a3, .ref a4, .ref a5, .int 0, .int x6, .ref a6, .int 0, .int 0, .int 0, .int 0, .int 0, .int 0, .int 0, .int 0, .int (-1), .ref a7, .ref a8, .int 0, .ref a9, .ref b0, .int 0]))]) hD hS hA [0] rfl
  refine va_calli (va_runV (As := [.int 1, .int 1]) (rest := []) ⟨hx, hb, hml, hown, hts⟩ (c_X8_isThrown_1 l dC dI cy nb h0 (.ref a1) (.ref a2) (.ref a3) (.ref a4) (.ref a5) (.int 0) (.ref a6) (.int 0) (.int 0) (.int 0) (.int 0) (.int 0) (.int 0) (.int 0) (.int 0) (.int (-1)) (.ref a7) (.ref a8) (.int 0) (.ref a9) (.ref b0) (.int 0) x6 1 H.size) (cwV 2 hts (gV mw_580 mw_581 mw_582 mw_5 mw_583) rfl rfl rfl (by decide +kernel) ⟨Nat.le_of_ble_eq_true rfl, Nat.le_of_ble_eq_true rfl⟩) ⟨fun a U g mk q => by obtain ⟨q0, q1, qP, qK, qD, qE⟩ := q; exact ⟨q0, q1, qP, va_K.moved (u := U) (U := U.calling g mk a) (Vm.Alike.refl U.vm) qK, qD, GE.calling qE⟩, va_recv hK hP (ci := 8) (q0 := 0) rfl rfl, fun U hU hW => ⟨rfl, by rw [hU], by rw [hU]; exact hPc, va_K.moved hW.alike hK, hDc.weaken (fun _ _ _ _ => trivial), GE.call hE hS hFc hU hW⟩⟩ rfl rfl hl.1 rfl (lv_room (Nat.le_of_ble_eq_true rfl)) dX8_count_11 ⟨Nat.le_of_ble_eq_true rfl, Nat.le_of_ble_eq_true rfl⟩) hS (fun q _ h => hFc q h) hFc (fun r u t H1 locs ht hvm hw2 hB hz1 hk1 hS => ?_)
  obtain ⟨hP1, hD1⟩ := hB
  rw [ht] at hP1
  obtain ⟨hP, hD⟩ := va_join (wr := [(a1, .inl (cy 1, 1037, .inl g))]) (w1 := [(h0, .inr (8, [.ref a1, .ref a2, .ref a3, .ref a4, .ref a5, .int 0, .int 0, .ref a6, .int 0, .int 0, .int 0, .int 0, .int 0, .int 0, .int 0, .int 0, .int (-1), .ref a7, .ref a8, .int 0, .ref a9, .ref b0, .int 0]))]) hP hD [0] [1] rfl rfl (by decide) (by decide) hk1 hFc hP1 hD1
  generalize H1 = H at hP hS ⊢
  have hP : va_P (dC, dI) vwCl [(a1, .inl (cy 1, 1037, .inl g)), (h0, .inr (8, [.ref a1, .ref a2, .ref a3, .ref a4, .ref a5, .int 0, .int 0, .ref a6, .int 0, .int 0, .int 0, .int 0, .int 0, .int 0, .int 0, .int 0, .int (-1), .ref a7, .ref a8, .int 0, .ref a9, .ref b0, .int 0]))] H := hP
  have hD : va_D A [(a1, .inl (cy 1, 1037, .inl g)), (h0, .inr (8, [.ref a1, .ref a2, .ref a3, .ref a4, .ref a5, .int 0, .int 0, .ref a6, .int 0, .int 0, .int 0, .int 0, .int 0, .int 0, .int 0, .int 0, .int (-1), .ref a7, .ref a8, .int 0, .ref a9, .ref b0, .int 0]))] := hD
  obtain rfl := hw2
  refine W.widen (k := 0) (n := 0) (by omega) (by omega) ?_
  refine lv_if_eq (tgt := 19) hx hb dX8_count_14 (by decide) (fun _ => ?_) (fun h => absurd (by decide) h)
  refine lv_iload_n hx hb dX8_count_19 rfl (lv_at hl 1 rfl) ?_
  refine lv_tableIn (off := 80) (tgt := 100) hx hb dX8_count_20 (by decide) (by decide) (by decide) (by decide) ?_
  refine lv_aload_n hx hb dX8_count_100 rfl (lv_at hl 0 rfl) ?_
  refine va_get (D := (dC, dI)) (ci := 8) (v := .ref a1) (C := RX8) (T := TX8) (N := 23) hx hb hts inlX8 hown hK hP 1 rfl rfl 0 (by decide) (hts _ mw_97) (fun _ h9 => h9) rfl dX8_count_101 ?_
  refine lv_iconst (v := 5) hx hb dX8_count_104 (by decide) ?_
  refine va_iald hx hb hK hP 0 1 rfl rfl (vp_in_nI (n := 5) (by decide) (by decide)) dX8_count_105 ?_
  refine my_topi (y := 0) (by exact hg.2.2.2 5 (by decide) (by decide)) ?_
  have hP9 := hP.sub (ws' := [(h0, .inr (8, [.ref a1, .ref a2, .ref a3, .ref a4, .ref a5, .int 0, .int 0, .ref a6, .int 0, .int 0, .int 0, .int 0, .int 0, .int 0, .int 0, .int 0, .int (-1), .ref a7, .ref a8, .int 0, .ref a9, .ref b0, .int 0]))]) [1] rfl
  have hD9 := hD.sub (ws' := [(h0, .inr (8, [.ref a1, .ref a2, .ref a3, .ref a4, .ref a5, .int 0, .int 0, .ref a6, .int 0, .int 0, .int 0, .int 0, .int 0, .int 0, .int 0, .int 0, .int (-1), .ref a7, .ref a8, .int 0, .ref a9, .ref b0, .int 0]))]) [1] (by decide) rfl
  refine W.widen (k := 0) (n := 0) (by omega) (by omega) ?_
  exact W.iret (v := 0) hx hb hr (fun t ht hW => ⟨⟨0, (), rfl, rfl, by rw [ht]; exact hP9, hD9⟩, hS.F ht⟩) hS.2.2 dX8_count_106
set_option maxHeartbeats 4000000 in
set_option maxRecDepth 100000 in
/-- X8_count -/
theorem c_X8_count_9 (l : Launch) (dC : Nat → ClassId) (dI : Nat → Nat → Nat) (cy : Nat → ClassId) (nb : Nat → Nat) (h0 : Nat) (a1 : Nat) (a2 : Nat) (a3 : Nat) (a4 : Nat) (a5 : Nat) (a6 : Nat) (a7 : Nat) (a8 : Nat) (a9 : Nat) (b0 : Nat) (x6 : Int32) (g : Nat → Int32) (sz : Nat) (hg : FN g) : Met l yX8_count (wsg yX8_count cX8_count 2 (some .int)) ({ frames := 15, cells := 0, slots := 0, locals := 1000 }) (va_Pc [.ref h0, .int 9] (fun U => U.heap.size = sz ∧ va_P (dC, dI) vwCl [(h0, .inr (8, [.ref a1, .ref a2, .ref a3, .ref a4, .ref a5, .int 0, .int x6, .ref a6, .int 0, .int 0, .int 0, .int 0, .int 0, .int 0, .int 0, .int 0, .int (-1), .ref a7, .ref a8, .int 0, .ref a9, .ref b0, .int 0])), (a1, .inl (cy 1, 1037, .inl g))] U.heap ∧ va_K (dC, dI) vwCl (tyL cy) U ∧ va_D (fun _ => True) [(h0, .inr (8, [.ref a1, .ref a2, .ref a3, .ref a4, .ref a5, .int 0, .int x6, .ref a6, .int 0, .int 0, .int 0, .int 0, .int 0, .int 0, .int 0, .int 0, .int (-1), .ref a7, .ref a8, .int 0, .ref a9, .ref b0, .int 0])), (a1, .inl (cy 1, 1037, .inl g))] ∧ GE nb (va_A [(h0, .inr (8, [.ref a1, .ref a2, .ref a3, .ref a4, .ref a5, .int 0, .int x6, .ref a6, .int 0, .int 0, .int 0, .int 0, .int 0, .int 0, .int 0, .int 0, .int (-1), .ref a7, .ref a8, .int 0, .ref a9, .ref b0, .int 0])), (a1, .inl (cy 1, 1037, .inl g))] sz) U)) (va_Qi (fun (r : Int32) (_ : Unit) => r = 0) (fun _ t => va_P (dC, dI) vwCl [(h0, .inr (8, [.ref a1, .ref a2, .ref a3, .ref a4, .ref a5, .int 0, .int 0, .ref a6, .int 0, .int 0, .int 0, .int 0, .int 0, .int 0, .int 0, .int 0, .int (-1), .ref a7, .ref a8, .int 0, .ref a9, .ref b0, .int 0]))] t.heap ∧ va_D (va_A [(h0, .inr (8, [.ref a1, .ref a2, .ref a3, .ref a4, .ref a5, .int 0, .int x6, .ref a6, .int 0, .int 0, .int 0, .int 0, .int 0, .int 0, .int 0, .int 0, .int (-1), .ref a7, .ref a8, .int 0, .ref a9, .ref b0, .int 0])), (a1, .inl (cy 1, 1037, .inl g))] sz) [(h0, .inr (8, [.ref a1, .ref a2, .ref a3, .ref a4, .ref a5, .int 0, .int 0, .ref a6, .int 0, .int 0, .int 0, .int 0, .int 0, .int 0, .int 0, .int 0, .int (-1), .ref a7, .ref a8, .int 0, .ref a9, .ref b0, .int 0]))]) (va_A [(h0, .inr (8, [.ref a1, .ref a2, .ref a3, .ref a4, .ref a5, .int 0, .int x6, .ref a6, .int 0, .int 0, .int 0, .int 0, .int 0, .int 0, .int 0, .int 0, .int (-1), .ref a7, .ref a8, .int 0, .ref a9, .ref b0, .int 0])), (a1, .inl (cy 1, 1037, .inl g))] sz)) 0 0 (va_A [(h0, .inr (8, [.ref a1, .ref a2, .ref a3, .ref a4, .ref a5, .int 0, .int x6, .ref a6, .int 0, .int 0, .int 0, .int 0, .int 0, .int 0, .int 0, .int 0, .int (-1), .ref a7, .ref a8, .int 0, .ref a9, .ref b0, .int 0])), (a1, .inl (cy 1, 1037, .inl g))] sz) := by
  refine Met.ofW (cc := cX8_count) (maxL := 2) (ret := (some .int)) (by decide) rfl ?_
  intro p e s m args below meth c s₁ B hml hv
  obtain ⟨rfl, hsz, hP, hK, hD0, hE⟩ := hv
  have hx := B.exec
  have hb := B.bytes
  have hr := B.returns
  have hts0 := atoms_spec (ws := (wsg yX8_count cX8_count 2 (some .int))) B.pre
  have hts : ∀ w ∈ wsL_law, w.before _ s = true := fun w h => hts0 w (List.mem_cons_of_mem _ h)
  have hown : s.vm.findClass RX8 = some m.cls := findClass_of_methodNamed B.named
  have hlocks := B.notSynchronized
  subst hsz
  have hD := hD0.self (sz := s.heap.size)
  generalize hAe : va_A [(h0, .inr (8, [.ref a1, .ref a2, .ref a3, .ref a4, .ref a5, .int 0, .int x6, .ref a6, .int 0, .int 0, .int 0, .int 0, .int 0, .int 0, .int 0, .int 0, .int (-1), .ref a7, .ref a8, .int 0, .ref a9, .ref b0, .int 0])), (a1, .inl (cy 1, 1037, .inl g))] s.heap.size = A at hD hE ⊢
  have hA : ∀ q : Nat, s.heap.size ≤ q → A q := fun q h => by rw [← hAe]; exact Or.inr h
  have hS : va_S A s.heap s.heap [] := va_S.rf
  have hP : va_P (dC, dI) vwCl [(h0, .inr (8, [.ref a1, .ref a2, .ref a3, .ref a4, .ref a5, .int 0, .int x6, .ref a6, .int 0, .int 0, .int 0, .int 0, .int 0, .int 0, .int 0, .int 0, .int (-1), .ref a7, .ref a8, .int 0, .ref a9, .ref b0, .int 0])), (a1, .inl (cy 1, 1037, .inl g))] s.heap := hP
  have hl := lv_entry ([.ref h0, .int 9]) (n := 2) (Nat.le_of_ble_eq_true rfl)
  rw [lg_entry_eq]
  generalize (lg_sl ([.ref h0, .int 9]) ++ List.replicate (2 - (lg_sl ([.ref h0, .int 9])).length) Slot.unset).toArray = ls at hl ⊢
  have hl : lv_has ls 2 [(0, .ref h0), (1, .int 9)] := hl
  generalize hHe : s.heap = H at hP hS ⊢
  have hS : va_S A s.heap H [] := by rw [hHe]; exact hS
  refine lv_aload_n hx hb dX8_count_0 rfl (lv_at hl 0 rfl) ?_
  refine lv_iload_n hx hb dX8_count_1 rfl (lv_at hl 1 rfl) ?_
  refine lv_i2l (v := 9) hx hb dX8_count_2 (by decide) ?_
  refine lv_lconst (v := 0) hx hb dX8_count_3 (by decide) ?_
  refine lv_ldc2 hx hb hown (hts _ mw_579) dX8_count_4 ?_
  have hPc := hP.sub (ws' := []) [] rfl
  have hDc := hD.sub (ws' := []) [] (by decide) rfl
  have hFc := va_free (wc := []) hD hS hA [] rfl
  refine va_calli (va_runS (As := [.long 9, .long 0, .long 9]) (rest := [.ref h0]) ⟨hx, hb, hml, hown, hts⟩ (c_X8_in l dC dI cy nb 9 0 9 H.size) (va_cwS 3 hts (gS mw_445 mw_446 mw_5 mw_447) rfl rfl rfl (by decide +kernel) ⟨Nat.le_of_ble_eq_true rfl, Nat.le_of_ble_eq_true rfl⟩) ⟨fun a U g mk q => by obtain ⟨q0, q1, qP, qK, qD, qE⟩ := q; exact ⟨q0, q1, qP, va_K.moved (u := U) (U := U.calling g mk a) (Vm.Alike.refl U.vm) qK, qD, GE.calling qE⟩, fun U hU hW => ⟨rfl, by rw [hU], by rw [hU]; exact hPc, va_K.moved hW.alike hK, hDc.weaken (fun _ _ _ _ => trivial), GE.call hE hS hFc hU hW⟩⟩ rfl rfl hl.1 rfl (lv_room (Nat.le_of_ble_eq_true rfl)) dX8_count_7 ⟨Nat.le_of_ble_eq_true rfl, Nat.le_of_ble_eq_true rfl⟩) hS (fun q _ h => hFc q h) hFc (fun r u t H1 locs ht hvm hw1 hB hz1 hk1 hS => ?_)
  obtain ⟨hP1, hD1⟩ := hB
  rw [ht] at hP1
  obtain ⟨hP, hD⟩ := va_join (wr := [(h0, .inr (8, [.ref a1, .ref a2, .ref a3, .ref a4, .ref a5, .int 0, .int x6, .ref a6, .int 0, .int 0, .int 0, .int 0, .int 0, .int 0, .int 0, .int 0, .int (-1), .ref a7, .ref a8, .int 0, .ref a9, .ref b0, .int 0])), (a1, .inl (cy 1, 1037, .inl g))]) (w1 := []) hP hD [] [0, 1] rfl rfl (by decide) (by decide) hk1 hFc hP1 hD1
  generalize H1 = H at hP hS ⊢
  have hP : va_P (dC, dI) vwCl [(h0, .inr (8, [.ref a1, .ref a2, .ref a3, .ref a4, .ref a5, .int 0, .int x6, .ref a6, .int 0, .int 0, .int 0, .int 0, .int 0, .int 0, .int 0, .int 0, .int (-1), .ref a7, .ref a8, .int 0, .ref a9, .ref b0, .int 0])), (a1, .inl (cy 1, 1037, .inl g))] H := hP
  have hD : va_D A [(h0, .inr (8, [.ref a1, .ref a2, .ref a3, .ref a4, .ref a5, .int 0, .int x6, .ref a6, .int 0, .int 0, .int 0, .int 0, .int 0, .int 0, .int 0, .int 0, .int (-1), .ref a7, .ref a8, .int 0, .ref a9, .ref b0, .int 0])), (a1, .inl (cy 1, 1037, .inl g))] := hD
  obtain rfl := hw1
  refine my_topi (y := 1) (by decide) ?_
  refine W.widen (k := 0) (n := 0) (by omega) (by omega) ?_
  refine lv_iconst (v := 1) hx hb dX8_count_10 (by decide) ?_
  have hPc := hP.sub (ws' := [(h0, .inr (8, [.ref a1, .ref a2, .ref a3, .ref a4, .ref a5, .int 0, .int x6, .ref a6, .int 0, .int 0, .int 0, .int 0, .int 0, .int 0, .int 0, .int 0, .int (-1), .ref a7, .ref a8, .int 0, .ref a9, .ref b0, .int 0]))]) [0] rfl
  have hDc := hD.sub (ws' := [(h0, .inr (8, [.ref a1, .ref a2, .ref a3, .ref a4, .ref a5, .int 0, .int x6, .ref a6, .int 0, .int 0, .int 0, .int 0, .int 0, .int 0, .int 0, .int 0, .int (-1), .ref a7, .ref a8, .int 0, .ref a9, .ref b0, .int 0]))]) [0] (by decide) rfl
  have hFc := va_free (wc := [(h0, .inr (8, [.ref a1, .ref a2, .ref a3, .ref a4, .ref a5, .int 0, .int x6, .ref a6, .int 0, .int 0, .int 0, .int 0, .int 0, .int 0, .int 0, .int 0, .int (-1), .ref a7, .ref a8, .int 0, .ref a9, .ref b0, .int 0]))]) hD hS hA [0] rfl
  refine va_calli (va_runV (As := [.int 1, .int 1]) (rest := []) ⟨hx, hb, hml, hown, hts⟩ (c_X8_isThrown_1 l dC dI cy nb h0 (.ref a1) (.ref a2) (.ref a3) (.ref a4) (.ref a5) (.int 0) (.ref a6) (.int 0) (.int 0) (.int 0) (.int 0) (.int 0) (.int 0) (.int 0) (.int 0) (.int (-1)) (.ref a7) (.ref a8) (.int 0) (.ref a9) (.ref b0) (.int 0) x6 1 H.size) (cwV 2 hts (gV mw_580 mw_581 mw_582 mw_5 mw_583) rfl rfl rfl (by decide +kernel) ⟨Nat.le_of_ble_eq_true rfl, Nat.le_of_ble_eq_true rfl⟩) ⟨fun a U g mk q => by obtain ⟨q0, q1, qP, qK, qD, qE⟩ := q; exact ⟨q0, q1, qP, va_K.moved (u := U) (U := U.calling g mk a) (Vm.Alike.refl U.vm) qK, qD, GE.calling qE⟩, va_recv hK hP (ci := 8) (q0 := 0) rfl rfl, fun U hU hW => ⟨rfl, by rw [hU], by rw [hU]; exact hPc, va_K.moved hW.alike hK, hDc.weaken (fun _ _ _ _ => trivial), GE.call hE hS hFc hU hW⟩⟩ rfl rfl hl.1 rfl (lv_room (Nat.le_of_ble_eq_true rfl)) dX8_count_11 ⟨Nat.le_of_ble_eq_true rfl, Nat.le_of_ble_eq_true rfl⟩) hS (fun q _ h => hFc q h) hFc (fun r u t H1 locs ht hvm hw2 hB hz1 hk1 hS => ?_)
  obtain ⟨hP1, hD1⟩ := hB
  rw [ht] at hP1
  obtain ⟨hP, hD⟩ := va_join (wr := [(a1, .inl (cy 1, 1037, .inl g))]) (w1 := [(h0, .inr (8, [.ref a1, .ref a2, .ref a3, .ref a4, .ref a5, .int 0, .int 0, .ref a6, .int 0, .int 0, .int 0, .int 0, .int 0, .int 0, .int 0, .int 0, .int (-1), .ref a7, .ref a8, .int 0, .ref a9, .ref b0, .int 0]))]) hP hD [0] [1] rfl rfl (by decide) (by decide) hk1 hFc hP1 hD1
  generalize H1 = H at hP hS ⊢
  have hP : va_P (dC, dI) vwCl [(a1, .inl (cy 1, 1037, .inl g)), (h0, .inr (8, [.ref a1, .ref a2, .ref a3, .ref a4, .ref a5, .int 0, .int 0, .ref a6, .int 0, .int 0, .int 0, .int 0, .int 0, .int 0, .int 0, .int 0, .int (-1), .ref a7, .ref a8, .int 0, .ref a9, .ref b0, .int 0]))] H := hP
  have hD : va_D A [(a1, .inl (cy 1, 1037, .inl g)), (h0, .inr (8, [.ref a1, .ref a2, .ref a3, .ref a4, .ref a5, .int 0, .int 0, .ref a6, .int 0, .int 0, .int 0, .int 0, .int 0, .int 0, .int 0, .int 0, .int (-1), .ref a7, .ref a8, .int 0, .ref a9, .ref b0, .int 0]))] := hD
  obtain rfl := hw2
  refine W.widen (k := 0) (n := 0) (by omega) (by omega) ?_
  refine lv_if_eq (tgt := 19) hx hb dX8_count_14 (by decide) (fun _ => ?_) (fun h => absurd (by decide) h)
  refine lv_iload_n hx hb dX8_count_19 rfl (lv_at hl 1 rfl) ?_
  refine lv_tableIn (off := 87) (tgt := 107) hx hb dX8_count_20 (by decide) (by decide) (by decide) (by decide) ?_
  refine lv_aload_n hx hb dX8_count_107 rfl (lv_at hl 0 rfl) ?_
  refine va_get (D := (dC, dI)) (ci := 8) (v := .int 0) (C := RX8) (T := TX8) (N := 23) hx hb hts inlX8 hown hK hP 1 rfl rfl 5 (by decide) (hts _ mw_416) (fun _ h9 => h9) rfl dX8_count_108 ?_
  have hP9 := hP.sub (ws' := [(h0, .inr (8, [.ref a1, .ref a2, .ref a3, .ref a4, .ref a5, .int 0, .int 0, .ref a6, .int 0, .int 0, .int 0, .int 0, .int 0, .int 0, .int 0, .int 0, .int (-1), .ref a7, .ref a8, .int 0, .ref a9, .ref b0, .int 0]))]) [1] rfl
  have hD9 := hD.sub (ws' := [(h0, .inr (8, [.ref a1, .ref a2, .ref a3, .ref a4, .ref a5, .int 0, .int 0, .ref a6, .int 0, .int 0, .int 0, .int 0, .int 0, .int 0, .int 0, .int 0, .int (-1), .ref a7, .ref a8, .int 0, .ref a9, .ref b0, .int 0]))]) [1] (by decide) rfl
  refine W.widen (k := 0) (n := 0) (by omega) (by omega) ?_
  exact W.iret (v := 0) hx hb hr (fun t ht hW => ⟨⟨0, (), rfl, rfl, by rw [ht]; exact hP9, hD9⟩, hS.F ht⟩) hS.2.2 dX8_count_111
set_option maxHeartbeats 4000000 in
set_option maxRecDepth 100000 in
/-- X8_inState -/
theorem c_X8_inState_0 (l : Launch) (dC : Nat → ClassId) (dI : Nat → Nat → Nat) (cy : Nat → ClassId) (nb : Nat → Nat) (h0 : Nat) (a1 : Nat) (a2 : Nat) (a3 : Nat) (a4 : Nat) (a5 : Nat) (a6 : Nat) (a7 : Nat) (a8 : Nat) (a9 : Nat) (b0 : Nat) (x6 : Int32) (g : Nat → Int32) (sz : Nat) (hg : FN g) : Met l yX8_inState (wsg yX8_inState cX8_inState 4 (some .int)) ({ frames := 11, cells := 0, slots := 0, locals := 600 }) (va_Pc [.ref h0, .int 0] (fun U => U.heap.size = sz ∧ va_P (dC, dI) vwCl [(h0, .inr (8, [.ref a1, .ref a2, .ref a3, .ref a4, .ref a5, .int 0, .int x6, .ref a6, .int 0, .int 0, .int 0, .int 0, .int 0, .int 0, .int 0, .int 0, .int (-1), .ref a7, .ref a8, .int 0, .ref a9, .ref b0, .int 0])), (a1, .inl (cy 1, 1037, .inl g))] U.heap ∧ va_K (dC, dI) vwCl (tyL cy) U ∧ va_D (fun _ => True) [(h0, .inr (8, [.ref a1, .ref a2, .ref a3, .ref a4, .ref a5, .int 0, .int x6, .ref a6, .int 0, .int 0, .int 0, .int 0, .int 0, .int 0, .int 0, .int 0, .int (-1), .ref a7, .ref a8, .int 0, .ref a9, .ref b0, .int 0])), (a1, .inl (cy 1, 1037, .inl g))] ∧ GE nb (va_A [(h0, .inr (8, [.ref a1, .ref a2, .ref a3, .ref a4, .ref a5, .int 0, .int x6, .ref a6, .int 0, .int 0, .int 0, .int 0, .int 0, .int 0, .int 0, .int 0, .int (-1), .ref a7, .ref a8, .int 0, .ref a9, .ref b0, .int 0])), (a1, .inl (cy 1, 1037, .inl g))] sz) U)) (va_Qi (fun (r : Int32) (_ : Unit) => r = 0) (fun _ t => va_P (dC, dI) vwCl [(h0, .inr (8, [.ref a1, .ref a2, .ref a3, .ref a4, .ref a5, .int 0, .int x6, .ref a6, .int 0, .int 0, .int 0, .int 0, .int 0, .int 0, .int 0, .int 0, .int (-1), .ref a7, .ref a8, .int 0, .ref a9, .ref b0, .int 0])), (a1, .inl (cy 1, 1037, .inl g))] t.heap ∧ va_D (va_A [(h0, .inr (8, [.ref a1, .ref a2, .ref a3, .ref a4, .ref a5, .int 0, .int x6, .ref a6, .int 0, .int 0, .int 0, .int 0, .int 0, .int 0, .int 0, .int 0, .int (-1), .ref a7, .ref a8, .int 0, .ref a9, .ref b0, .int 0])), (a1, .inl (cy 1, 1037, .inl g))] sz) [(h0, .inr (8, [.ref a1, .ref a2, .ref a3, .ref a4, .ref a5, .int 0, .int x6, .ref a6, .int 0, .int 0, .int 0, .int 0, .int 0, .int 0, .int 0, .int 0, .int (-1), .ref a7, .ref a8, .int 0, .ref a9, .ref b0, .int 0])), (a1, .inl (cy 1, 1037, .inl g))]) (va_A [(h0, .inr (8, [.ref a1, .ref a2, .ref a3, .ref a4, .ref a5, .int 0, .int x6, .ref a6, .int 0, .int 0, .int 0, .int 0, .int 0, .int 0, .int 0, .int 0, .int (-1), .ref a7, .ref a8, .int 0, .ref a9, .ref b0, .int 0])), (a1, .inl (cy 1, 1037, .inl g))] sz)) 0 0 (va_A [(h0, .inr (8, [.ref a1, .ref a2, .ref a3, .ref a4, .ref a5, .int 0, .int x6, .ref a6, .int 0, .int 0, .int 0, .int 0, .int 0, .int 0, .int 0, .int 0, .int (-1), .ref a7, .ref a8, .int 0, .ref a9, .ref b0, .int 0])), (a1, .inl (cy 1, 1037, .inl g))] sz) := by
  refine Met.ofW (cc := cX8_inState) (maxL := 4) (ret := (some .int)) (by decide) rfl ?_
  intro p e s m args below meth c s₁ B hml hv
  obtain ⟨rfl, hsz, hP, hK, hD0, hE⟩ := hv
  have hx := B.exec
  have hb := B.bytes
  have hr := B.returns
  have hts0 := atoms_spec (ws := (wsg yX8_inState cX8_inState 4 (some .int))) B.pre
  have hts : ∀ w ∈ wsL_law, w.before _ s = true := fun w h => hts0 w (List.mem_cons_of_mem _ h)
  have hown : s.vm.findClass RX8 = some m.cls := findClass_of_methodNamed B.named
  have hlocks := B.notSynchronized
  subst hsz
  have hD := hD0.self (sz := s.heap.size)
  generalize hAe : va_A [(h0, .inr (8, [.ref a1, .ref a2, .ref a3, .ref a4, .ref a5, .int 0, .int x6, .ref a6, .int 0, .int 0, .int 0, .int 0, .int 0, .int 0, .int 0, .int 0, .int (-1), .ref a7, .ref a8, .int 0, .ref a9, .ref b0, .int 0])), (a1, .inl (cy 1, 1037, .inl g))] s.heap.size = A at hD hE ⊢
  have hA : ∀ q : Nat, s.heap.size ≤ q → A q := fun q h => by rw [← hAe]; exact Or.inr h
  have hS : va_S A s.heap s.heap [] := va_S.rf
  have hP : va_P (dC, dI) vwCl [(h0, .inr (8, [.ref a1, .ref a2, .ref a3, .ref a4, .ref a5, .int 0, .int x6, .ref a6, .int 0, .int 0, .int 0, .int 0, .int 0, .int 0, .int 0, .int 0, .int (-1), .ref a7, .ref a8, .int 0, .ref a9, .ref b0, .int 0])), (a1, .inl (cy 1, 1037, .inl g))] s.heap := hP
  have hl := lv_entry ([.ref h0, .int 0]) (n := 4) (Nat.le_of_ble_eq_true rfl)
  rw [lg_entry_eq]
  generalize (lg_sl ([.ref h0, .int 0]) ++ List.replicate (4 - (lg_sl ([.ref h0, .int 0])).length) Slot.unset).toArray = ls at hl ⊢
  have hl : lv_has ls 4 [(0, .ref h0), (1, .int 0)] := hl
  generalize hHe : s.heap = H at hP hS ⊢
  have hS : va_S A s.heap H [] := by rw [hHe]; exact hS
  refine lv_iconst (v := 0) hx hb dX8_inState_0 (by decide) ?_
  refine lv_istore_n (lv' := [(2, .int 0), (0, .ref h0), (1, .int 0)]) hx hb dX8_inState_1 rfl hl (by decide) rfl (fun ls hl => ?_)
  refine lv_iconst (v := 0) hx hb dX8_inState_2 (by decide) ?_
  refine lv_istore_n (lv' := [(3, .int 0), (2, .int 0), (0, .ref h0), (1, .int 0)]) hx hb dX8_inState_3 rfl hl (by decide) rfl (fun ls hl => ?_)
  refine lv_iload_n hx hb dX8_inState_4 rfl (lv_at hl 0 rfl) ?_
  refine lv_aload_n hx hb dX8_inState_5 rfl (lv_at hl 2 rfl) ?_
  refine va_get (D := (dC, dI)) (ci := 8) (v := .ref a1) (C := RX8) (T := TX8) (N := 23) hx hb hts inlX8 hown hK hP 0 rfl rfl 0 (by decide) (hts _ mw_97) (fun _ h9 => h9) rfl dX8_inState_6 ?_
  refine lv_bipush (v := 9) hx hb dX8_inState_9 (by decide) ?_
  refine va_iald hx hb hK hP 1 1 rfl rfl (vp_in_nI (n := 9) (by decide) (by decide)) dX8_inState_11 ?_
  refine my_topi (y := 0) (by exact hg.2.2.2 9 (by decide) (by decide)) ?_
  refine lv_icmp_ge (tgt := 39) hx hb dX8_inState_12 (by decide) (fun _ => ?_) (fun h => absurd (by decide) h)
  refine lv_iload_n hx hb dX8_inState_39 rfl (lv_at hl 1 rfl) ?_
  have hP9 := hP.sub (ws' := [(h0, .inr (8, [.ref a1, .ref a2, .ref a3, .ref a4, .ref a5, .int 0, .int x6, .ref a6, .int 0, .int 0, .int 0, .int 0, .int 0, .int 0, .int 0, .int 0, .int (-1), .ref a7, .ref a8, .int 0, .ref a9, .ref b0, .int 0])), (a1, .inl (cy 1, 1037, .inl g))]) [0, 1] rfl
  have hD9 := hD.sub (ws' := [(h0, .inr (8, [.ref a1, .ref a2, .ref a3, .ref a4, .ref a5, .int 0, .int x6, .ref a6, .int 0, .int 0, .int 0, .int 0, .int 0, .int 0, .int 0, .int 0, .int (-1), .ref a7, .ref a8, .int 0, .ref a9, .ref b0, .int 0])), (a1, .inl (cy 1, 1037, .inl g))]) [0, 1] (by decide) rfl
  refine W.widen (k := 0) (n := 0) (by omega) (by omega) ?_
  exact W.iret (v := 0) hx hb hr (fun t ht hW => ⟨⟨0, (), rfl, rfl, by rw [ht]; exact hP9, hD9⟩, hS.F ht⟩) hS.2.2 dX8_inState_40
set_option maxHeartbeats 4000000 in
set_option maxRecDepth 100000 in
/-- X8_inState -/
theorem c_X8_inState_1 (l : Launch) (dC : Nat → ClassId) (dI : Nat → Nat → Nat) (cy : Nat → ClassId) (nb : Nat → Nat) (h0 : Nat) (a1 : Nat) (a2 : Nat) (a3 : Nat) (a4 : Nat) (a5 : Nat) (a6 : Nat) (a7 : Nat) (a8 : Nat) (a9 : Nat) (b0 : Nat) (x6 : Int32) (g : Nat → Int32) (sz : Nat) (hg : FN g) : Met l yX8_inState (wsg yX8_inState cX8_inState 4 (some .int)) ({ frames := 11, cells := 0, slots := 0, locals := 600 }) (va_Pc [.ref h0, .int 1] (fun U => U.heap.size = sz ∧ va_P (dC, dI) vwCl [(h0, .inr (8, [.ref a1, .ref a2, .ref a3, .ref a4, .ref a5, .int 0, .int x6, .ref a6, .int 0, .int 0, .int 0, .int 0, .int 0, .int 0, .int 0, .int 0, .int (-1), .ref a7, .ref a8, .int 0, .ref a9, .ref b0, .int 0])), (a1, .inl (cy 1, 1037, .inl g))] U.heap ∧ va_K (dC, dI) vwCl (tyL cy) U ∧ va_D (fun _ => True) [(h0, .inr (8, [.ref a1, .ref a2, .ref a3, .ref a4, .ref a5, .int 0, .int x6, .ref a6, .int 0, .int 0, .int 0, .int 0, .int 0, .int 0, .int 0, .int 0, .int (-1), .ref a7, .ref a8, .int 0, .ref a9, .ref b0, .int 0])), (a1, .inl (cy 1, 1037, .inl g))] ∧ GE nb (va_A [(h0, .inr (8, [.ref a1, .ref a2, .ref a3, .ref a4, .ref a5, .int 0, .int x6, .ref a6, .int 0, .int 0, .int 0, .int 0, .int 0, .int 0, .int 0, .int 0, .int (-1), .ref a7, .ref a8, .int 0, .ref a9, .ref b0, .int 0])), (a1, .inl (cy 1, 1037, .inl g))] sz) U)) (va_Qi (fun (r : Int32) (_ : Unit) => r = 0) (fun _ t => va_P (dC, dI) vwCl [(h0, .inr (8, [.ref a1, .ref a2, .ref a3, .ref a4, .ref a5, .int 0, .int x6, .ref a6, .int 0, .int 0, .int 0, .int 0, .int 0, .int 0, .int 0, .int 0, .int (-1), .ref a7, .ref a8, .int 0, .ref a9, .ref b0, .int 0])), (a1, .inl (cy 1, 1037, .inl g))] t.heap ∧ va_D (va_A [(h0, .inr (8, [.ref a1, .ref a2, .ref a3, .ref a4, .ref a5, .int 0, .int x6, .ref a6, .int 0, .int 0, .int 0, .int 0, .int 0, .int 0, .int 0, .int 0, .int (-1), .ref a7, .ref a8, .int 0, .ref a9, .ref b0, .int 0])), (a1, .inl (cy 1, 1037, .inl g))] sz) [(h0, .inr (8, [.ref a1, .ref a2, .ref a3, .ref a4, .ref a5, .int 0, .int x6, .ref a6, .int 0, .int 0, .int 0, .int 0, .int 0, .int 0, .int 0, .int 0, .int (-1), .ref a7, .ref a8, .int 0, .ref a9, .ref b0, .int 0])), (a1, .inl (cy 1, 1037, .inl g))]) (va_A [(h0, .inr (8, [.ref a1, .ref a2, .ref a3, .ref a4, .ref a5, .int 0, .int x6, .ref a6, .int 0, .int 0, .int 0, .int 0, .int 0, .int 0, .int 0, .int 0, .int (-1), .ref a7, .ref a8, .int 0, .ref a9, .ref b0, .int 0])), (a1, .inl (cy 1, 1037, .inl g))] sz)) 0 0 (va_A [(h0, .inr (8, [.ref a1, .ref a2, .ref a3, .ref a4, .ref a5, .int 0, .int x6, .ref a6, .int 0, .int 0, .int 0, .int 0, .int 0, .int 0, .int 0, .int 0, .int (-1), .ref a7, .ref a8, .int 0, .ref a9, .ref b0, .int 0])), (a1, .inl (cy 1, 1037, .inl g))] sz) := by
  refine Met.ofW (cc := cX8_inState) (maxL := 4) (ret := (some .int)) (by decide) rfl ?_
  intro p e s m args below meth c s₁ B hml hv
  obtain ⟨rfl, hsz, hP, hK, hD0, hE⟩ := hv
  have hx := B.exec
  have hb := B.bytes
  have hr := B.returns
  have hts0 := atoms_spec (ws := (wsg yX8_inState cX8_inState 4 (some .int))) B.pre
  have hts : ∀ w ∈ wsL_law, w.before _ s = true := fun w h => hts0 w (List.mem_cons_of_mem _ h)
  have hown : s.vm.findClass RX8 = some m.cls := findClass_of_methodNamed B.named
  have hlocks := B.notSynchronized
  subst hsz
  have hD := hD0.self (sz := s.heap.size)
  generalize hAe : va_A [(h0, .inr (8, [.ref a1, .ref a2, .ref a3, .ref a4, .ref a5, .int 0, .int x6, .ref a6, .int 0, .int 0, .int 0, .int 0, .int 0, .int 0, .int 0, .int 0, .int (-1), .ref a7, .ref a8, .int 0, .ref a9, .ref b0, .int 0])), (a1, .inl (cy 1, 1037, .inl g))] s.heap.size = A at hD hE ⊢
  have hA : ∀ q : Nat, s.heap.size ≤ q → A q := fun q h => by rw [← hAe]; exact Or.inr h
  have hS : va_S A s.heap s.heap [] := va_S.rf
  have hP : va_P (dC, dI) vwCl [(h0, .inr (8, [.ref a1, .ref a2, .ref a3, .ref a4, .ref a5, .int 0, .int x6, .ref a6, .int 0, .int 0, .int 0, .int 0, .int 0, .int 0, .int 0, .int 0, .int (-1), .ref a7, .ref a8, .int 0, .ref a9, .ref b0, .int 0])), (a1, .inl (cy 1, 1037, .inl g))] s.heap := hP
  have hl := lv_entry ([.ref h0, .int 1]) (n := 4) (Nat.le_of_ble_eq_true rfl)
  rw [lg_entry_eq]
  generalize (lg_sl ([.ref h0, .int 1]) ++ List.replicate (4 - (lg_sl ([.ref h0, .int 1])).length) Slot.unset).toArray = ls at hl ⊢
  have hl : lv_has ls 4 [(0, .ref h0), (1, .int 1)] := hl
  generalize hHe : s.heap = H at hP hS ⊢
  have hS : va_S A s.heap H [] := by rw [hHe]; exact hS
  refine lv_iconst (v := 0) hx hb dX8_inState_0 (by decide) ?_
  refine lv_istore_n (lv' := [(2, .int 0), (0, .ref h0), (1, .int 1)]) hx hb dX8_inState_1 rfl hl (by decide) rfl (fun ls hl => ?_)
  refine lv_iconst (v := 0) hx hb dX8_inState_2 (by decide) ?_
  refine lv_istore_n (lv' := [(3, .int 0), (2, .int 0), (0, .ref h0), (1, .int 1)]) hx hb dX8_inState_3 rfl hl (by decide) rfl (fun ls hl => ?_)
  refine lv_iload_n hx hb dX8_inState_4 rfl (lv_at hl 0 rfl) ?_
  refine lv_aload_n hx hb dX8_inState_5 rfl (lv_at hl 2 rfl) ?_
  refine va_get (D := (dC, dI)) (ci := 8) (v := .ref a1) (C := RX8) (T := TX8) (N := 23) hx hb hts inlX8 hown hK hP 0 rfl rfl 0 (by decide) (hts _ mw_97) (fun _ h9 => h9) rfl dX8_inState_6 ?_
  refine lv_bipush (v := 9) hx hb dX8_inState_9 (by decide) ?_
  refine va_iald hx hb hK hP 1 1 rfl rfl (vp_in_nI (n := 9) (by decide) (by decide)) dX8_inState_11 ?_
  refine my_topi (y := 0) (by exact hg.2.2.2 9 (by decide) (by decide)) ?_
  refine lv_icmp_ge (tgt := 39) hx hb dX8_inState_12 (by decide) (fun _ => ?_) (fun h => absurd (by decide) h)
  refine lv_iload_n hx hb dX8_inState_39 rfl (lv_at hl 1 rfl) ?_
  have hP9 := hP.sub (ws' := [(h0, .inr (8, [.ref a1, .ref a2, .ref a3, .ref a4, .ref a5, .int 0, .int x6, .ref a6, .int 0, .int 0, .int 0, .int 0, .int 0, .int 0, .int 0, .int 0, .int (-1), .ref a7, .ref a8, .int 0, .ref a9, .ref b0, .int 0])), (a1, .inl (cy 1, 1037, .inl g))]) [0, 1] rfl
  have hD9 := hD.sub (ws' := [(h0, .inr (8, [.ref a1, .ref a2, .ref a3, .ref a4, .ref a5, .int 0, .int x6, .ref a6, .int 0, .int 0, .int 0, .int 0, .int 0, .int 0, .int 0, .int 0, .int (-1), .ref a7, .ref a8, .int 0, .ref a9, .ref b0, .int 0])), (a1, .inl (cy 1, 1037, .inl g))]) [0, 1] (by decide) rfl
  refine W.widen (k := 0) (n := 0) (by omega) (by omega) ?_
  exact W.iret (v := 0) hx hb hr (fun t ht hW => ⟨⟨0, (), rfl, rfl, by rw [ht]; exact hP9, hD9⟩, hS.F ht⟩) hS.2.2 dX8_inState_40
set_option maxHeartbeats 4000000 in
set_option maxRecDepth 100000 in
/-- X8_inState -/
theorem c_X8_inState_2 (l : Launch) (dC : Nat → ClassId) (dI : Nat → Nat → Nat) (cy : Nat → ClassId) (nb : Nat → Nat) (h0 : Nat) (a1 : Nat) (a2 : Nat) (a3 : Nat) (a4 : Nat) (a5 : Nat) (a6 : Nat) (a7 : Nat) (a8 : Nat) (a9 : Nat) (b0 : Nat) (x6 : Int32) (g : Nat → Int32) (sz : Nat) (hg : FN g) : Met l yX8_inState (wsg yX8_inState cX8_inState 4 (some .int)) ({ frames := 11, cells := 0, slots := 0, locals := 600 }) (va_Pc [.ref h0, .int 2] (fun U => U.heap.size = sz ∧ va_P (dC, dI) vwCl [(h0, .inr (8, [.ref a1, .ref a2, .ref a3, .ref a4, .ref a5, .int 0, .int x6, .ref a6, .int 0, .int 0, .int 0, .int 0, .int 0, .int 0, .int 0, .int 0, .int (-1), .ref a7, .ref a8, .int 0, .ref a9, .ref b0, .int 0])), (a1, .inl (cy 1, 1037, .inl g))] U.heap ∧ va_K (dC, dI) vwCl (tyL cy) U ∧ va_D (fun _ => True) [(h0, .inr (8, [.ref a1, .ref a2, .ref a3, .ref a4, .ref a5, .int 0, .int x6, .ref a6, .int 0, .int 0, .int 0, .int 0, .int 0, .int 0, .int 0, .int 0, .int (-1), .ref a7, .ref a8, .int 0, .ref a9, .ref b0, .int 0])), (a1, .inl (cy 1, 1037, .inl g))] ∧ GE nb (va_A [(h0, .inr (8, [.ref a1, .ref a2, .ref a3, .ref a4, .ref a5, .int 0, .int x6, .ref a6, .int 0, .int 0, .int 0, .int 0, .int 0, .int 0, .int 0, .int 0, .int (-1), .ref a7, .ref a8, .int 0, .ref a9, .ref b0, .int 0])), (a1, .inl (cy 1, 1037, .inl g))] sz) U)) (va_Qi (fun (r : Int32) (_ : Unit) => r = 0) (fun _ t => va_P (dC, dI) vwCl [(h0, .inr (8, [.ref a1, .ref a2, .ref a3, .ref a4, .ref a5, .int 0, .int x6, .ref a6, .int 0, .int 0, .int 0, .int 0, .int 0, .int 0, .int 0, .int 0, .int (-1), .ref a7, .ref a8, .int 0, .ref a9, .ref b0, .int 0])), (a1, .inl (cy 1, 1037, .inl g))] t.heap ∧ va_D (va_A [(h0, .inr (8, [.ref a1, .ref a2, .ref a3, .ref a4, .ref a5, .int 0, .int x6, .ref a6, .int 0, .int 0, .int 0, .int 0, .int 0, .int 0, .int 0, .int 0, .int (-1), .ref a7, .ref a8, .int 0, .ref a9, .ref b0, .int 0])), (a1, .inl (cy 1, 1037, .inl g))] sz) [(h0, .inr (8, [.ref a1, .ref a2, .ref a3, .ref a4, .ref a5, .int 0, .int x6, .ref a6, .int 0, .int 0, .int 0, .int 0, .int 0, .int 0, .int 0, .int 0, .int (-1), .ref a7, .ref a8, .int 0, .ref a9, .ref b0, .int 0])), (a1, .inl (cy 1, 1037, .inl g))]) (va_A [(h0, .inr (8, [.ref a1, .ref a2, .ref a3, .ref a4, .ref a5, .int 0, .int x6, .ref a6, .int 0, .int 0, .int 0, .int 0, .int 0, .int 0, .int 0, .int 0, .int (-1), .ref a7, .ref a8, .int 0, .ref a9, .ref b0, .int 0])), (a1, .inl (cy 1, 1037, .inl g))] sz)) 0 0 (va_A [(h0, .inr (8, [.ref a1, .ref a2, .ref a3, .ref a4, .ref a5, .int 0, .int x6, .ref a6, .int 0, .int 0, .int 0, .int 0, .int 0, .int 0, .int 0, .int 0, .int (-1), .ref a7, .ref a8, .int 0, .ref a9, .ref b0, .int 0])), (a1, .inl (cy 1, 1037, .inl g))] sz) := by
  refine Met.ofW (cc := cX8_inState) (maxL := 4) (ret := (some .int)) (by decide) rfl ?_
  intro p e s m args below meth c s₁ B hml hv
  obtain ⟨rfl, hsz, hP, hK, hD0, hE⟩ := hv
  have hx := B.exec
  have hb := B.bytes
  have hr := B.returns
  have hts0 := atoms_spec (ws := (wsg yX8_inState cX8_inState 4 (some .int))) B.pre
  have hts : ∀ w ∈ wsL_law, w.before _ s = true := fun w h => hts0 w (List.mem_cons_of_mem _ h)
  have hown : s.vm.findClass RX8 = some m.cls := findClass_of_methodNamed B.named
  have hlocks := B.notSynchronized
  subst hsz
  have hD := hD0.self (sz := s.heap.size)
  generalize hAe : va_A [(h0, .inr (8, [.ref a1, .ref a2, .ref a3, .ref a4, .ref a5, .int 0, .int x6, .ref a6, .int 0, .int 0, .int 0, .int 0, .int 0, .int 0, .int 0, .int 0, .int (-1), .ref a7, .ref a8, .int 0, .ref a9, .ref b0, .int 0])), (a1, .inl (cy 1, 1037, .inl g))] s.heap.size = A at hD hE ⊢
  have hA : ∀ q : Nat, s.heap.size ≤ q → A q := fun q h => by rw [← hAe]; exact Or.inr h
  have hS : va_S A s.heap s.heap [] := va_S.rf
  have hP : va_P (dC, dI) vwCl [(h0, .inr (8, [.ref a1, .ref a2, .ref a3, .ref a4, .ref a5, .int 0, .int x6, .ref a6, .int 0, .int 0, .int 0, .int 0, .int 0, .int 0, .int 0, .int 0, .int (-1), .ref a7, .ref a8, .int 0, .ref a9, .ref b0, .int 0])), (a1, .inl (cy 1, 1037, .inl g))] s.heap := hP
  have hl := lv_entry ([.ref h0, .int 2]) (n := 4) (Nat.le_of_ble_eq_true rfl)
  rw [lg_entry_eq]
  generalize (lg_sl ([.ref h0, .int 2]) ++ List.replicate (4 - (lg_sl ([.ref h0, .int 2])).length) Slot.unset).toArray = ls at hl ⊢
  have hl : lv_has ls 4 [(0, .ref h0), (1, .int 2)] := hl
  generalize hHe : s.heap = H at hP hS ⊢
  have hS : va_S A s.heap H [] := by rw [hHe]; exact hS
  refine lv_iconst (v := 0) hx hb dX8_inState_0 (by decide) ?_
  refine lv_istore_n (lv' := [(2, .int 0), (0, .ref h0), (1, .int 2)]) hx hb dX8_inState_1 rfl hl (by decide) rfl (fun ls hl => ?_)
  refine lv_iconst (v := 0) hx hb dX8_inState_2 (by decide) ?_
  refine lv_istore_n (lv' := [(3, .int 0), (2, .int 0), (0, .ref h0), (1, .int 2)]) hx hb dX8_inState_3 rfl hl (by decide) rfl (fun ls hl => ?_)
  refine lv_iload_n hx hb dX8_inState_4 rfl (lv_at hl 0 rfl) ?_
  refine lv_aload_n hx hb dX8_inState_5 rfl (lv_at hl 2 rfl) ?_
  refine va_get (D := (dC, dI)) (ci := 8) (v := .ref a1) (C := RX8) (T := TX8) (N := 23) hx hb hts inlX8 hown hK hP 0 rfl rfl 0 (by decide) (hts _ mw_97) (fun _ h9 => h9) rfl dX8_inState_6 ?_
  refine lv_bipush (v := 9) hx hb dX8_inState_9 (by decide) ?_
  refine va_iald hx hb hK hP 1 1 rfl rfl (vp_in_nI (n := 9) (by decide) (by decide)) dX8_inState_11 ?_
  refine my_topi (y := 0) (by exact hg.2.2.2 9 (by decide) (by decide)) ?_
  refine lv_icmp_ge (tgt := 39) hx hb dX8_inState_12 (by decide) (fun _ => ?_) (fun h => absurd (by decide) h)
  refine lv_iload_n hx hb dX8_inState_39 rfl (lv_at hl 1 rfl) ?_
  have hP9 := hP.sub (ws' := [(h0, .inr (8, [.ref a1, .ref a2, .ref a3, .ref a4, .ref a5, .int 0, .int x6, .ref a6, .int 0, .int 0, .int 0, .int 0, .int 0, .int 0, .int 0, .int 0, .int (-1), .ref a7, .ref a8, .int 0, .ref a9, .ref b0, .int 0])), (a1, .inl (cy 1, 1037, .inl g))]) [0, 1] rfl
  have hD9 := hD.sub (ws' := [(h0, .inr (8, [.ref a1, .ref a2, .ref a3, .ref a4, .ref a5, .int 0, .int x6, .ref a6, .int 0, .int 0, .int 0, .int 0, .int 0, .int 0, .int 0, .int 0, .int (-1), .ref a7, .ref a8, .int 0, .ref a9, .ref b0, .int 0])), (a1, .inl (cy 1, 1037, .inl g))]) [0, 1] (by decide) rfl
  refine W.widen (k := 0) (n := 0) (by omega) (by omega) ?_
  exact W.iret (v := 0) hx hb hr (fun t ht hW => ⟨⟨0, (), rfl, rfl, by rw [ht]; exact hP9, hD9⟩, hS.F ht⟩) hS.2.2 dX8_inState_40
set_option maxHeartbeats 4000000 in
set_option maxRecDepth 100000 in
/-- X8_inState -/
theorem c_X8_inState_3 (l : Launch) (dC : Nat → ClassId) (dI : Nat → Nat → Nat) (cy : Nat → ClassId) (nb : Nat → Nat) (h0 : Nat) (a1 : Nat) (a2 : Nat) (a3 : Nat) (a4 : Nat) (a5 : Nat) (a6 : Nat) (a7 : Nat) (a8 : Nat) (a9 : Nat) (b0 : Nat) (x6 : Int32) (g : Nat → Int32) (sz : Nat) (hg : FN g) : Met l yX8_inState (wsg yX8_inState cX8_inState 4 (some .int)) ({ frames := 11, cells := 0, slots := 0, locals := 600 }) (va_Pc [.ref h0, .int 3] (fun U => U.heap.size = sz ∧ va_P (dC, dI) vwCl [(h0, .inr (8, [.ref a1, .ref a2, .ref a3, .ref a4, .ref a5, .int 0, .int x6, .ref a6, .int 0, .int 0, .int 0, .int 0, .int 0, .int 0, .int 0, .int 0, .int (-1), .ref a7, .ref a8, .int 0, .ref a9, .ref b0, .int 0])), (a1, .inl (cy 1, 1037, .inl g))] U.heap ∧ va_K (dC, dI) vwCl (tyL cy) U ∧ va_D (fun _ => True) [(h0, .inr (8, [.ref a1, .ref a2, .ref a3, .ref a4, .ref a5, .int 0, .int x6, .ref a6, .int 0, .int 0, .int 0, .int 0, .int 0, .int 0, .int 0, .int 0, .int (-1), .ref a7, .ref a8, .int 0, .ref a9, .ref b0, .int 0])), (a1, .inl (cy 1, 1037, .inl g))] ∧ GE nb (va_A [(h0, .inr (8, [.ref a1, .ref a2, .ref a3, .ref a4, .ref a5, .int 0, .int x6, .ref a6, .int 0, .int 0, .int 0, .int 0, .int 0, .int 0, .int 0, .int 0, .int (-1), .ref a7, .ref a8, .int 0, .ref a9, .ref b0, .int 0])), (a1, .inl (cy 1, 1037, .inl g))] sz) U)) (va_Qi (fun (r : Int32) (_ : Unit) => r = 0) (fun _ t => va_P (dC, dI) vwCl [(h0, .inr (8, [.ref a1, .ref a2, .ref a3, .ref a4, .ref a5, .int 0, .int x6, .ref a6, .int 0, .int 0, .int 0, .int 0, .int 0, .int 0, .int 0, .int 0, .int (-1), .ref a7, .ref a8, .int 0, .ref a9, .ref b0, .int 0])), (a1, .inl (cy 1, 1037, .inl g))] t.heap ∧ va_D (va_A [(h0, .inr (8, [.ref a1, .ref a2, .ref a3, .ref a4, .ref a5, .int 0, .int x6, .ref a6, .int 0, .int 0, .int 0, .int 0, .int 0, .int 0, .int 0, .int 0, .int (-1), .ref a7, .ref a8, .int 0, .ref a9, .ref b0, .int 0])), (a1, .inl (cy 1, 1037, .inl g))] sz) [(h0, .inr (8, [.ref a1, .ref a2, .ref a3, .ref a4, .ref a5, .int 0, .int x6, .ref a6, .int 0, .int 0, .int 0, .int 0, .int 0, .int 0, .int 0, .int 0, .int (-1), .ref a7, .ref a8, .int 0, .ref a9, .ref b0, .int 0])), (a1, .inl (cy 1, 1037, .inl g))]) (va_A [(h0, .inr (8, [.ref a1, .ref a2, .ref a3, .ref a4, .ref a5, .int 0, .int x6, .ref a6, .int 0, .int 0, .int 0, .int 0, .int 0, .int 0, .int 0, .int 0, .int (-1), .ref a7, .ref a8, .int 0, .ref a9, .ref b0, .int 0])), (a1, .inl (cy 1, 1037, .inl g))] sz)) 0 0 (va_A [(h0, .inr (8, [.ref a1, .ref a2, .ref a3, .ref a4, .ref a5, .int 0, .int x6, .ref a6, .int 0, .int 0, .int 0, .int 0, .int 0, .int 0, .int 0, .int 0, .int (-1), .ref a7, .ref a8, .int 0, .ref a9, .ref b0, .int 0])), (a1, .inl (cy 1, 1037, .inl g))] sz) := by
  refine Met.ofW (cc := cX8_inState) (maxL := 4) (ret := (some .int)) (by decide) rfl ?_
  intro p e s m args below meth c s₁ B hml hv
  obtain ⟨rfl, hsz, hP, hK, hD0, hE⟩ := hv
  have hx := B.exec
  have hb := B.bytes
  have hr := B.returns
  have hts0 := atoms_spec (ws := (wsg yX8_inState cX8_inState 4 (some .int))) B.pre
  have hts : ∀ w ∈ wsL_law, w.before _ s = true := fun w h => hts0 w (List.mem_cons_of_mem _ h)
  have hown : s.vm.findClass RX8 = some m.cls := findClass_of_methodNamed B.named
  have hlocks := B.notSynchronized
  subst hsz
  have hD := hD0.self (sz := s.heap.size)
  generalize hAe : va_A [(h0, .inr (8, [.ref a1, .ref a2, .ref a3, .ref a4, .ref a5, .int 0, .int x6, .ref a6, .int 0, .int 0, .int 0, .int 0, .int 0, .int 0, .int 0, .int 0, .int (-1), .ref a7, .ref a8, .int 0, .ref a9, .ref b0, .int 0])), (a1, .inl (cy 1, 1037, .inl g))] s.heap.size = A at hD hE ⊢
  have hA : ∀ q : Nat, s.heap.size ≤ q → A q := fun q h => by rw [← hAe]; exact Or.inr h
  have hS : va_S A s.heap s.heap [] := va_S.rf
  have hP : va_P (dC, dI) vwCl [(h0, .inr (8, [.ref a1, .ref a2, .ref a3, .ref a4, .ref a5, .int 0, .int x6, .ref a6, .int 0, .int 0, .int 0, .int 0, .int 0, .int 0, .int 0, .int 0, .int (-1), .ref a7, .ref a8, .int 0, .ref a9, .ref b0, .int 0])), (a1, .inl (cy 1, 1037, .inl g))] s.heap := hP
  have hl := lv_entry ([.ref h0, .int 3]) (n := 4) (Nat.le_of_ble_eq_true rfl)
  rw [lg_entry_eq]
  generalize (lg_sl ([.ref h0, .int 3]) ++ List.replicate (4 - (lg_sl ([.ref h0, .int 3])).length) Slot.unset).toArray = ls at hl ⊢
  have hl : lv_has ls 4 [(0, .ref h0), (1, .int 3)] := hl
  generalize hHe : s.heap = H at hP hS ⊢
  have hS : va_S A s.heap H [] := by rw [hHe]; exact hS
  refine lv_iconst (v := 0) hx hb dX8_inState_0 (by decide) ?_
  refine lv_istore_n (lv' := [(2, .int 0), (0, .ref h0), (1, .int 3)]) hx hb dX8_inState_1 rfl hl (by decide) rfl (fun ls hl => ?_)
  refine lv_iconst (v := 0) hx hb dX8_inState_2 (by decide) ?_
  refine lv_istore_n (lv' := [(3, .int 0), (2, .int 0), (0, .ref h0), (1, .int 3)]) hx hb dX8_inState_3 rfl hl (by decide) rfl (fun ls hl => ?_)
  refine lv_iload_n hx hb dX8_inState_4 rfl (lv_at hl 0 rfl) ?_
  refine lv_aload_n hx hb dX8_inState_5 rfl (lv_at hl 2 rfl) ?_
  refine va_get (D := (dC, dI)) (ci := 8) (v := .ref a1) (C := RX8) (T := TX8) (N := 23) hx hb hts inlX8 hown hK hP 0 rfl rfl 0 (by decide) (hts _ mw_97) (fun _ h9 => h9) rfl dX8_inState_6 ?_
  refine lv_bipush (v := 9) hx hb dX8_inState_9 (by decide) ?_
  refine va_iald hx hb hK hP 1 1 rfl rfl (vp_in_nI (n := 9) (by decide) (by decide)) dX8_inState_11 ?_
  refine my_topi (y := 0) (by exact hg.2.2.2 9 (by decide) (by decide)) ?_
  refine lv_icmp_ge (tgt := 39) hx hb dX8_inState_12 (by decide) (fun _ => ?_) (fun h => absurd (by decide) h)
  refine lv_iload_n hx hb dX8_inState_39 rfl (lv_at hl 1 rfl) ?_
  have hP9 := hP.sub (ws' := [(h0, .inr (8, [.ref a1, .ref a2, .ref a3, .ref a4, .ref a5, .int 0, .int x6, .ref a6, .int 0, .int 0, .int 0, .int 0, .int 0, .int 0, .int 0, .int 0, .int (-1), .ref a7, .ref a8, .int 0, .ref a9, .ref b0, .int 0])), (a1, .inl (cy 1, 1037, .inl g))]) [0, 1] rfl
  have hD9 := hD.sub (ws' := [(h0, .inr (8, [.ref a1, .ref a2, .ref a3, .ref a4, .ref a5, .int 0, .int x6, .ref a6, .int 0, .int 0, .int 0, .int 0, .int 0, .int 0, .int 0, .int 0, .int (-1), .ref a7, .ref a8, .int 0, .ref a9, .ref b0, .int 0])), (a1, .inl (cy 1, 1037, .inl g))]) [0, 1] (by decide) rfl
  refine W.widen (k := 0) (n := 0) (by omega) (by omega) ?_
  exact W.iret (v := 0) hx hb hr (fun t ht hW => ⟨⟨0, (), rfl, rfl, by rw [ht]; exact hP9, hD9⟩, hS.F ht⟩) hS.2.2 dX8_inState_40
set_option maxHeartbeats 4000000 in
set_option maxRecDepth 100000 in
/-- X8_inState -/
theorem c_X8_inState_4 (l : Launch) (dC : Nat → ClassId) (dI : Nat → Nat → Nat) (cy : Nat → ClassId) (nb : Nat → Nat) (h0 : Nat) (a1 : Nat) (a2 : Nat) (a3 : Nat) (a4 : Nat) (a5 : Nat) (a6 : Nat) (a7 : Nat) (a8 : Nat) (a9 : Nat) (b0 : Nat) (x6 : Int32) (g : Nat → Int32) (sz : Nat) (hg : FN g) : Met l yX8_inState (wsg yX8_inState cX8_inState 4 (some .int)) ({ frames := 11, cells := 0, slots := 0, locals := 600 }) (va_Pc [.ref h0, .int 4] (fun U => U.heap.size = sz ∧ va_P (dC, dI) vwCl [(h0, .inr (8, [.ref a1, .ref a2, .ref a3, .ref a4, .ref a5, .int 0, .int x6, .ref a6, .int 0, .int 0, .int 0, .int 0, .int 0, .int 0, .int 0, .int 0, .int (-1), .ref a7, .ref a8, .int 0, .ref a9, .ref b0, .int 0])), (a1, .inl (cy 1, 1037, .inl g))] U.heap ∧ va_K (dC, dI) vwCl (tyL cy) U ∧ va_D (fun _ => True) [(h0, .inr (8, [.ref a1, .ref a2, .ref a3, .ref a4, .ref a5, .int 0, .int x6, .ref a6, .int 0, .int 0, .int 0, .int 0, .int 0, .int 0, .int 0, .int 0, .int (-1), .ref a7, .ref a8, .int 0, .ref a9, .ref b0, .int 0])), (a1, .inl (cy 1, 1037, .inl g))] ∧ GE nb (va_A [(h0, .inr (8, [.ref a1, .ref a2, .ref a3, .ref a4, .ref a5, .int 0, .int x6, .ref a6, .int 0, .int 0, .int 0, .int 0, .int 0, .int 0, .int 0, .int 0, .int (-1), .ref a7, .ref a8, .int 0, .ref a9, .ref b0, .int 0])), (a1, .inl (cy 1, 1037, .inl g))] sz) U)) (va_Qi (fun (r : Int32) (_ : Unit) => r = 0) (fun _ t => va_P (dC, dI) vwCl [(h0, .inr (8, [.ref a1, .ref a2, .ref a3, .ref a4, .ref a5, .int 0, .int x6, .ref a6, .int 0, .int 0, .int 0, .int 0, .int 0, .int 0, .int 0, .int 0, .int (-1), .ref a7, .ref a8, .int 0, .ref a9, .ref b0, .int 0])), (a1, .inl (cy 1, 1037, .inl g))] t.heap ∧ va_D (va_A [(h0, .inr (8, [.ref a1, .ref a2, .ref a3, .ref a4, .ref a5, .int 0, .int x6, .ref a6, .int 0, .int 0, .int 0, .int 0, .int 0, .int 0, .int 0, .int 0, .int (-1), .ref a7, .ref a8, .int 0, .ref a9, .ref b0, .int 0])), (a1, .inl (cy 1, 1037, .inl g))] sz) [(h0, .inr (8, [.ref a1, .ref a2, .ref a3, .ref a4, .ref a5, .int 0, .int x6, .ref a6, .int 0, .int 0, .int 0, .int 0, .int 0, .int 0, .int 0, .int 0, .int (-1), .ref a7, .ref a8, .int 0, .ref a9, .ref b0, .int 0])), (a1, .inl (cy 1, 1037, .inl g))]) (va_A [(h0, .inr (8, [.ref a1, .ref a2, .ref a3, .ref a4, .ref a5, .int 0, .int x6, .ref a6, .int 0, .int 0, .int 0, .int 0, .int 0, .int 0, .int 0, .int 0, .int (-1), .ref a7, .ref a8, .int 0, .ref a9, .ref b0, .int 0])), (a1, .inl (cy 1, 1037, .inl g))] sz)) 0 0 (va_A [(h0, .inr (8, [.ref a1, .ref a2, .ref a3, .ref a4, .ref a5, .int 0, .int x6, .ref a6, .int 0, .int 0, .int 0, .int 0, .int 0, .int 0, .int 0, .int 0, .int (-1), .ref a7, .ref a8, .int 0, .ref a9, .ref b0, .int 0])), (a1, .inl (cy 1, 1037, .inl g))] sz) := by
  refine Met.ofW (cc := cX8_inState) (maxL := 4) (ret := (some .int)) (by decide) rfl ?_
  intro p e s m args below meth c s₁ B hml hv
  obtain ⟨rfl, hsz, hP, hK, hD0, hE⟩ := hv
  have hx := B.exec
  have hb := B.bytes
  have hr := B.returns
  have hts0 := atoms_spec (ws := (wsg yX8_inState cX8_inState 4 (some .int))) B.pre
  have hts : ∀ w ∈ wsL_law, w.before _ s = true := fun w h => hts0 w (List.mem_cons_of_mem _ h)
  have hown : s.vm.findClass RX8 = some m.cls := findClass_of_methodNamed B.named
  have hlocks := B.notSynchronized
  subst hsz
  have hD := hD0.self (sz := s.heap.size)
  generalize hAe : va_A [(h0, .inr (8, [.ref a1, .ref a2, .ref a3, .ref a4, .ref a5, .int 0, .int x6, .ref a6, .int 0, .int 0, .int 0, .int 0, .int 0, .int 0, .int 0, .int 0, .int (-1), .ref a7, .ref a8, .int 0, .ref a9, .ref b0, .int 0])), (a1, .inl (cy 1, 1037, .inl g))] s.heap.size = A at hD hE ⊢
  have hA : ∀ q : Nat, s.heap.size ≤ q → A q := fun q h => by rw [← hAe]; exact Or.inr h
  have hS : va_S A s.heap s.heap [] := va_S.rf
  have hP : va_P (dC, dI) vwCl [(h0, .inr (8, [.ref a1, .ref a2, .ref a3, .ref a4, .ref a5, .int 0, .int x6, .ref a6, .int 0, .int 0, .int 0, .int 0, .int 0, .int 0, .int 0, .int 0, .int (-1), .ref a7, .ref a8, .int 0, .ref a9, .ref b0, .int 0])), (a1, .inl (cy 1, 1037, .inl g))] s.heap := hP
  have hl := lv_entry ([.ref h0, .int 4]) (n := 4) (Nat.le_of_ble_eq_true rfl)
  rw [lg_entry_eq]
  generalize (lg_sl ([.ref h0, .int 4]) ++ List.replicate (4 - (lg_sl ([.ref h0, .int 4])).length) Slot.unset).toArray = ls at hl ⊢
  have hl : lv_has ls 4 [(0, .ref h0), (1, .int 4)] := hl
  generalize hHe : s.heap = H at hP hS ⊢
  have hS : va_S A s.heap H [] := by rw [hHe]; exact hS
  refine lv_iconst (v := 0) hx hb dX8_inState_0 (by decide) ?_
  refine lv_istore_n (lv' := [(2, .int 0), (0, .ref h0), (1, .int 4)]) hx hb dX8_inState_1 rfl hl (by decide) rfl (fun ls hl => ?_)
  refine lv_iconst (v := 0) hx hb dX8_inState_2 (by decide) ?_
  refine lv_istore_n (lv' := [(3, .int 0), (2, .int 0), (0, .ref h0), (1, .int 4)]) hx hb dX8_inState_3 rfl hl (by decide) rfl (fun ls hl => ?_)
  refine lv_iload_n hx hb dX8_inState_4 rfl (lv_at hl 0 rfl) ?_
  refine lv_aload_n hx hb dX8_inState_5 rfl (lv_at hl 2 rfl) ?_
  refine va_get (D := (dC, dI)) (ci := 8) (v := .ref a1) (C := RX8) (T := TX8) (N := 23) hx hb hts inlX8 hown hK hP 0 rfl rfl 0 (by decide) (hts _ mw_97) (fun _ h9 => h9) rfl dX8_inState_6 ?_
  refine lv_bipush (v := 9) hx hb dX8_inState_9 (by decide) ?_
  refine va_iald hx hb hK hP 1 1 rfl rfl (vp_in_nI (n := 9) (by decide) (by decide)) dX8_inState_11 ?_
  refine my_topi (y := 0) (by exact hg.2.2.2 9 (by decide) (by decide)) ?_
  refine lv_icmp_ge (tgt := 39) hx hb dX8_inState_12 (by decide) (fun _ => ?_) (fun h => absurd (by decide) h)
  refine lv_iload_n hx hb dX8_inState_39 rfl (lv_at hl 1 rfl) ?_
  have hP9 := hP.sub (ws' := [(h0, .inr (8, [.ref a1, .ref a2, .ref a3, .ref a4, .ref a5, .int 0, .int x6, .ref a6, .int 0, .int 0, .int 0, .int 0, .int 0, .int 0, .int 0, .int 0, .int (-1), .ref a7, .ref a8, .int 0, .ref a9, .ref b0, .int 0])), (a1, .inl (cy 1, 1037, .inl g))]) [0, 1] rfl
  have hD9 := hD.sub (ws' := [(h0, .inr (8, [.ref a1, .ref a2, .ref a3, .ref a4, .ref a5, .int 0, .int x6, .ref a6, .int 0, .int 0, .int 0, .int 0, .int 0, .int 0, .int 0, .int 0, .int (-1), .ref a7, .ref a8, .int 0, .ref a9, .ref b0, .int 0])), (a1, .inl (cy 1, 1037, .inl g))]) [0, 1] (by decide) rfl
  refine W.widen (k := 0) (n := 0) (by omega) (by omega) ?_
  exact W.iret (v := 0) hx hb hr (fun t ht hW => ⟨⟨0, (), rfl, rfl, by rw [ht]; exact hP9, hD9⟩, hS.F ht⟩) hS.2.2 dX8_inState_40
set_option maxHeartbeats 4000000 in
set_option maxRecDepth 100000 in
/-- X8_count -/
theorem c_X8_count_4 (l : Launch) (dC : Nat → ClassId) (dI : Nat → Nat → Nat) (cy : Nat → ClassId) (nb : Nat → Nat) (h0 : Nat) (a1 : Nat) (a2 : Nat) (a3 : Nat) (a4 : Nat) (a5 : Nat) (a6 : Nat) (a7 : Nat) (a8 : Nat) (a9 : Nat) (b0 : Nat) (x6 : Int32) (g : Nat → Int32) (sz : Nat) (hg : FN g) : Met l yX8_count (wsg yX8_count cX8_count 2 (some .int)) ({ frames := 15, cells := 0, slots := 0, locals := 1000 }) (va_Pc [.ref h0, .int 4] (fun U => U.heap.size = sz ∧ va_P (dC, dI) vwCl [(h0, .inr (8, [.ref a1, .ref a2, .ref a3, .ref a4, .ref a5, .int 0, .int x6, .ref a6, .int 0, .int 0, .int 0, .int 0, .int 0, .int 0, .int 0, .int 0, .int (-1), .ref a7, .ref a8, .int 0, .ref a9, .ref b0, .int 0])), (a1, .inl (cy 1, 1037, .inl g))] U.heap ∧ va_K (dC, dI) vwCl (tyL cy) U ∧ va_D (fun _ => True) [(h0, .inr (8, [.ref a1, .ref a2, .ref a3, .ref a4, .ref a5, .int 0, .int x6, .ref a6, .int 0, .int 0, .int 0, .int 0, .int 0, .int 0, .int 0, .int 0, .int (-1), .ref a7, .ref a8, .int 0, .ref a9, .ref b0, .int 0])), (a1, .inl (cy 1, 1037, .inl g))] ∧ GE nb (va_A [(h0, .inr (8, [.ref a1, .ref a2, .ref a3, .ref a4, .ref a5, .int 0, .int x6, .ref a6, .int 0, .int 0, .int 0, .int 0, .int 0, .int 0, .int 0, .int 0, .int (-1), .ref a7, .ref a8, .int 0, .ref a9, .ref b0, .int 0])), (a1, .inl (cy 1, 1037, .inl g))] sz) U)) (va_Qi (fun (r : Int32) (_ : Unit) => r = 0) (fun _ t => va_P (dC, dI) vwCl [(h0, .inr (8, [.ref a1, .ref a2, .ref a3, .ref a4, .ref a5, .int 0, .int 0, .ref a6, .int 0, .int 0, .int 0, .int 0, .int 0, .int 0, .int 0, .int 0, .int (-1), .ref a7, .ref a8, .int 0, .ref a9, .ref b0, .int 0]))] t.heap ∧ va_D (va_A [(h0, .inr (8, [.ref a1, .ref a2, .ref a3, .ref a4, .ref a5, .int 0, .int x6, .ref a6, .int 0, .int 0, .int 0, .int 0, .int 0, .int 0, .int 0, .int 0, .int (-1), .ref a7, .ref a8, .int 0, .ref a9, .ref b0, .int 0])), (a1, .inl (cy 1, 1037, .inl g))] sz) [(h0, .inr (8, [.ref a1, .ref a2, .ref a3, .ref a4, .ref a5, .int 0, .int 0, .ref a6, .int 0, .int 0, .int 0, .int 0, .int 0, .int 0, .int 0, .int 0, .int (-1), .ref a7, .ref a8, .int 0, .ref a9, .ref b0, .int 0]))]) (va_A [(h0, .inr (8, [.ref a1, .ref a2, .ref a3, .ref a4, .ref a5, .int 0, .int x6, .ref a6, .int 0, .int 0, .int 0, .int 0, .int 0, .int 0, .int 0, .int 0, .int (-1), .ref a7, .ref a8, .int 0, .ref a9, .ref b0, .int 0])), (a1, .inl (cy 1, 1037, .inl g))] sz)) 0 0 (va_A [(h0, .inr (8, [.ref a1, .ref a2, .ref a3, .ref a4, .ref a5, .int 0, .int x6, .ref a6, .int 0, .int 0, .int 0, .int 0, .int 0, .int 0, .int 0, .int 0, .int (-1), .ref a7, .ref a8, .int 0, .ref a9, .ref b0, .int 0])), (a1, .inl (cy 1, 1037, .inl g))] sz) := by
  refine Met.ofW (cc := cX8_count) (maxL := 2) (ret := (some .int)) (by decide) rfl ?_
  intro p e s m args below meth c s₁ B hml hv
  obtain ⟨rfl, hsz, hP, hK, hD0, hE⟩ := hv
  have hx := B.exec
  have hb := B.bytes
  have hr := B.returns
  have hts0 := atoms_spec (ws := (wsg yX8_count cX8_count 2 (some .int))) B.pre
  have hts : ∀ w ∈ wsL_law, w.before _ s = true := fun w h => hts0 w (List.mem_cons_of_mem _ h)
  have hown : s.vm.findClass RX8 = some m.cls := findClass_of_methodNamed B.named
  have hlocks := B.notSynchronized
  subst hsz
  have hD := hD0.self (sz := s.heap.size)
  generalize hAe : va_A [(h0, .inr (8, [.ref a1, .ref a2, .ref a3, .ref a4, .ref a5, .int 0, .int x6, .ref a6, .int 0, .int 0, .int 0, .int 0, .int 0, .int 0, .int 0, .int 0, .int (-1), .ref a7, .ref a8, .int 0, .ref a9, .ref b0, .int 0])), (a1, .inl (cy 1, 1037, .inl g))] s.heap.size = A at hD hE ⊢
  have hA : ∀ q : Nat, s.heap.size ≤ q → A q := fun q h => by rw [← hAe]; exact Or.inr h
  have hS : va_S A s.heap s.heap [] := va_S.rf
  have hP : va_P (dC, dI) vwCl [(h0, .inr (8, [.ref a1, .ref a2, .ref a3, .ref a4, .ref a5, .int 0, .int x6, .ref a6, .int 0, .int 0, .int 0, .int 0, .int 0, .int 0, .int 0, .int 0, .int (-1), .ref a7, .ref a8, .int 0, .ref a9, .ref b0, .int 0])), (a1, .inl (cy 1, 1037, .inl g))] s.heap := hP
  have hl := lv_entry ([.ref h0, .int 4]) (n := 2) (Nat.le_of_ble_eq_true rfl)
  rw [lg_entry_eq]
  generalize (lg_sl ([.ref h0, .int 4]) ++ List.replicate (2 - (lg_sl ([.ref h0, .int 4])).length) Slot.unset).toArray = ls at hl ⊢
  have hl : lv_has ls 2 [(0, .ref h0), (1, .int 4)] := hl
  generalize hHe : s.heap = H at hP hS ⊢
  have hS : va_S A s.heap H [] := by rw [hHe]; exact hS
  refine lv_aload_n hx hb dX8_count_0 rfl (lv_at hl 0 rfl) ?_
  refine lv_iload_n hx hb dX8_count_1 rfl (lv_at hl 1 rfl) ?_
  refine lv_i2l (v := 4) hx hb dX8_count_2 (by decide) ?_
  refine lv_lconst (v := 0) hx hb dX8_count_3 (by decide) ?_
  refine lv_ldc2 hx hb hown (hts _ mw_579) dX8_count_4 ?_
  have hPc := hP.sub (ws' := []) [] rfl
  have hDc := hD.sub (ws' := []) [] (by decide) rfl
  have hFc := va_free (wc := []) hD hS hA [] rfl
  refine va_calli (va_runS (As := [.long 4, .long 0, .long 9]) (rest := [.ref h0]) ⟨hx, hb, hml, hown, hts⟩ (c_X8_in l dC dI cy nb 4 0 9 H.size) (va_cwS 3 hts (gS mw_445 mw_446 mw_5 mw_447) rfl rfl rfl (by decide +kernel) ⟨Nat.le_of_ble_eq_true rfl, Nat.le_of_ble_eq_true rfl⟩) ⟨fun a U g mk q => by obtain ⟨q0, q1, qP, qK, qD, qE⟩ := q; exact ⟨q0, q1, qP, va_K.moved (u := U) (U := U.calling g mk a) (Vm.Alike.refl U.vm) qK, qD, GE.calling qE⟩, fun U hU hW => ⟨rfl, by rw [hU], by rw [hU]; exact hPc, va_K.moved hW.alike hK, hDc.weaken (fun _ _ _ _ => trivial), GE.call hE hS hFc hU hW⟩⟩ rfl rfl hl.1 rfl (lv_room (Nat.le_of_ble_eq_true rfl)) dX8_count_7 ⟨Nat.le_of_ble_eq_true rfl, Nat.le_of_ble_eq_true rfl⟩) hS (fun q _ h => hFc q h) hFc (fun r u t H1 locs ht hvm hw1 hB hz1 hk1 hS => ?_)
  obtain ⟨hP1, hD1⟩ := hB
  rw [ht] at hP1
  obtain ⟨hP, hD⟩ := va_join (wr := [(h0, .inr (8, [.ref a1, .ref a2, .ref a3, .ref a4, .ref a5, .int 0, .int x6, .ref a6, .int 0, .int 0, .int 0, .int 0, .int 0, .int 0, .int 0, .int 0, .int (-1), .ref a7, .ref a8, .int 0, .ref a9, .ref b0, .int 0])), (a1, .inl (cy 1, 1037, .inl g))]) (w1 := []) hP hD [] [0, 1] rfl rfl (by decide) (by decide) hk1 hFc hP1 hD1
  generalize H1 = H at hP hS ⊢
  have hP : va_P (dC, dI) vwCl [(h0, .inr (8, [.ref a1, .ref a2, .ref a3, .ref a4, .ref a5, .int 0, .int x6, .ref a6, .int 0, .int 0, .int 0, .int 0, .int 0, .int 0, .int 0, .int 0, .int (-1), .ref a7, .ref a8, .int 0, .ref a9, .ref b0, .int 0])), (a1, .inl (cy 1, 1037, .inl g))] H := hP
  have hD : va_D A [(h0, .inr (8, [.ref a1, .ref a2, .ref a3, .ref a4, .ref a5, .int 0, .int x6, .ref a6, .int 0, .int 0, .int 0, .int 0, .int 0, .int 0, .int 0, .int 0, .int (-1), .ref a7, .ref a8, .int 0, .ref a9, .ref b0, .int 0])), (a1, .inl (cy 1, 1037, .inl g))] := hD
  obtain rfl := hw1
  refine my_topi (y := 1) (by decide) ?_
  refine W.widen (k := 0) (n := 0) (by omega) (by omega) ?_
  refine lv_iconst (v := 1) hx hb dX8_count_10 (by decide) ?_
  have hPc := hP.sub (ws' := [(h0, .inr (8, [.ref a1, .ref a2, .ref a3, .ref a4, .ref a5, .int 0, .int x6, .ref a6, .int 0, .int 0, .int 0, .int 0, .int 0, .int 0, .int 0, .int 0, .int (-1), .ref a7, .ref a8, .int 0, .ref a9, .ref b0, .int 0]))]) [0] rfl
  have hDc := hD.sub (ws' := [(h0, .inr (8, [.ref a1, .ref a2, .ref a3, .ref a4, .ref a5, .int 0, .int x6, .ref a6, .int 0, .int 0, .int 0, .int 0, .int 0, .int 0, .int 0, .int 0, .int (-1), .ref a7, .ref a8, .int 0, .ref a9, .ref b0, .int 0]))]) [0] (by decide) rfl
  have hFc := va_free (wc := [(h0, .inr (8, [.ref a1, .ref a2, .ref a3, .ref a4, .ref a5, .int 0, .int x6, .ref a6, .int 0, .int 0, .int 0, .int 0, .int 0, .int 0, .int 0, .int 0, .int (-1), .ref a7, .ref a8, .int 0, .ref a9, .ref b0, .int 0]))]) hD hS hA [0] rfl
  refine va_calli (va_runV (As := [.int 1, .int 1]) (rest := []) ⟨hx, hb, hml, hown, hts⟩ (c_X8_isThrown_1 l dC dI cy nb h0 (.ref a1) (.ref a2) (.ref a3) (.ref a4) (.ref a5) (.int 0) (.ref a6) (.int 0) (.int 0) (.int 0) (.int 0) (.int 0) (.int 0) (.int 0) (.int 0) (.int (-1)) (.ref a7) (.ref a8) (.int 0) (.ref a9) (.ref b0) (.int 0) x6 1 H.size) (cwV 2 hts (gV mw_580 mw_581 mw_582 mw_5 mw_583) rfl rfl rfl (by decide +kernel) ⟨Nat.le_of_ble_eq_true rfl, Nat.le_of_ble_eq_true rfl⟩) ⟨fun a U g mk q => by obtain ⟨q0, q1, qP, qK, qD, qE⟩ := q; exact ⟨q0, q1, qP, va_K.moved (u := U) (U := U.calling g mk a) (Vm.Alike.refl U.vm) qK, qD, GE.calling qE⟩, va_recv hK hP (ci := 8) (q0 := 0) rfl rfl, fun U hU hW => ⟨rfl, by rw [hU], by rw [hU]; exact hPc, va_K.moved hW.alike hK, hDc.weaken (fun _ _ _ _ => trivial), GE.call hE hS hFc hU hW⟩⟩ rfl rfl hl.1 rfl (lv_room (Nat.le_of_ble_eq_true rfl)) dX8_count_11 ⟨Nat.le_of_ble_eq_true rfl, Nat.le_of_ble_eq_true rfl⟩) hS (fun q _ h => hFc q h) hFc (fun r u t H1 locs ht hvm hw2 hB hz1 hk1 hS => ?_)
  obtain ⟨hP1, hD1⟩ := hB
  rw [ht] at hP1
  obtain ⟨hP, hD⟩ := va_join (wr := [(a1, .inl (cy 1, 1037, .inl g))]) (w1 := [(h0, .inr (8, [.ref a1, .ref a2, .ref a3, .ref a4, .ref a5, .int 0, .int 0, .ref a6, .int 0, .int 0, .int 0, .int 0, .int 0, .int 0, .int 0, .int 0, .int (-1), .ref a7, .ref a8, .int 0, .ref a9, .ref b0, .int 0]))]) hP hD [0] [1] rfl rfl (by decide) (by decide) hk1 hFc hP1 hD1
  generalize H1 = H at hP hS ⊢
  have hP : va_P (dC, dI) vwCl [(a1, .inl (cy 1, 1037, .inl g)), (h0, .inr (8, [.ref a1, .ref a2, .ref a3, .ref a4, .ref a5, .int 0, .int 0, .ref a6, .int 0, .int 0, .int 0, .int 0, .int 0, .int 0, .int 0, .int 0, .int (-1), .ref a7, .ref a8, .int 0, .ref a9, .ref b0, .int 0]))] H := hP
  have hD : va_D A [(a1, .inl (cy 1, 1037, .inl g)), (h0, .inr (8, [.ref a1, .ref a2, .ref a3, .ref a4, .ref a5, .int 0, .int 0, .ref a6, .int 0, .int 0, .int 0, .int 0, .int 0, .int 0, .int 0, .int 0, .int (-1), .ref a7, .ref a8, .int 0, .ref a9, .ref b0, .int 0]))] := hD
  obtain rfl := hw2
  refine W.widen (k := 0) (n := 0) (by omega) (by omega) ?_
  refine lv_if_eq (tgt := 19) hx hb dX8_count_14 (by decide) (fun _ => ?_) (fun h => absurd (by decide) h)
  refine lv_iload_n hx hb dX8_count_19 rfl (lv_at hl 1 rfl) ?_
  refine lv_tableIn (off := 92) (tgt := 112) hx hb dX8_count_20 (by decide) (by decide) (by decide) (by decide) ?_
  refine lv_aload_n hx hb dX8_count_112 rfl (lv_at hl 0 rfl) ?_
  refine lv_iload_n hx hb dX8_count_113 rfl (lv_at hl 1 rfl) ?_
  refine lv_iconst (v := 4) hx hb dX8_count_114 (by decide) ?_
  refine lv_isub hx hb dX8_count_115 ?_
  refine my_topi (y := 0) (by decide) ?_
  have hPc := hP.sub (ws' := [(h0, .inr (8, [.ref a1, .ref a2, .ref a3, .ref a4, .ref a5, .int 0, .int 0, .ref a6, .int 0, .int 0, .int 0, .int 0, .int 0, .int 0, .int 0, .int 0, .int (-1), .ref a7, .ref a8, .int 0, .ref a9, .ref b0, .int 0])), (a1, .inl (cy 1, 1037, .inl g))]) [1, 0] rfl
  have hDc := hD.sub (ws' := [(h0, .inr (8, [.ref a1, .ref a2, .ref a3, .ref a4, .ref a5, .int 0, .int 0, .ref a6, .int 0, .int 0, .int 0, .int 0, .int 0, .int 0, .int 0, .int 0, .int (-1), .ref a7, .ref a8, .int 0, .ref a9, .ref b0, .int 0])), (a1, .inl (cy 1, 1037, .inl g))]) [1, 0] (by decide) rfl
  have hFc := va_free (wc := [(h0, .inr (8, [.ref a1, .ref a2, .ref a3, .ref a4, .ref a5, .int 0, .int 0, .ref a6, .int 0, .int 0, .int 0, .int 0, .int 0, .int 0, .int 0, .int 0, .int (-1), .ref a7, .ref a8, .int 0, .ref a9, .ref b0, .int 0])), (a1, .inl (cy 1, 1037, .inl g))]) hD hS hA [1, 0] rfl
  refine va_calli (va_runV (As := [.int 0]) (rest := []) ⟨hx, hb, hml, hown, hts⟩ (c_X8_inState_0 l dC dI cy nb h0 a1 a2 a3 a4 a5 a6 a7 a8 a9 b0 0 g H.size hg) (cwV 1 hts (gV mw_584 mw_585 mw_586 mw_5 mw_587) rfl rfl rfl (by decide +kernel) ⟨Nat.le_of_ble_eq_true rfl, Nat.le_of_ble_eq_true rfl⟩) ⟨fun a U g mk q => by obtain ⟨q0, q1, qP, qK, qD, qE⟩ := q; exact ⟨q0, q1, qP, va_K.moved (u := U) (U := U.calling g mk a) (Vm.Alike.refl U.vm) qK, qD, GE.calling qE⟩, va_recv hK hP (ci := 8) (q0 := 1) rfl rfl, fun U hU hW => ⟨rfl, by rw [hU], by rw [hU]; exact hPc, va_K.moved hW.alike hK, hDc.weaken (fun _ _ _ _ => trivial), GE.call hE hS hFc hU hW⟩⟩ rfl rfl hl.1 rfl (lv_room (Nat.le_of_ble_eq_true rfl)) dX8_count_116 ⟨Nat.le_of_ble_eq_true rfl, Nat.le_of_ble_eq_true rfl⟩) hS (fun q _ h => hFc q h) hFc (fun r u t H1 locs ht hvm hw3 hB hz1 hk1 hS => ?_)
  obtain ⟨hP1, hD1⟩ := hB
  rw [ht] at hP1
  obtain ⟨hP, hD⟩ := va_join (wr := []) (w1 := [(h0, .inr (8, [.ref a1, .ref a2, .ref a3, .ref a4, .ref a5, .int 0, .int 0, .ref a6, .int 0, .int 0, .int 0, .int 0, .int 0, .int 0, .int 0, .int 0, .int (-1), .ref a7, .ref a8, .int 0, .ref a9, .ref b0, .int 0])), (a1, .inl (cy 1, 1037, .inl g))]) hP hD [1, 0] [] rfl rfl (by decide) (by decide) hk1 hFc hP1 hD1
  generalize H1 = H at hP hS ⊢
  have hP : va_P (dC, dI) vwCl [(h0, .inr (8, [.ref a1, .ref a2, .ref a3, .ref a4, .ref a5, .int 0, .int 0, .ref a6, .int 0, .int 0, .int 0, .int 0, .int 0, .int 0, .int 0, .int 0, .int (-1), .ref a7, .ref a8, .int 0, .ref a9, .ref b0, .int 0])), (a1, .inl (cy 1, 1037, .inl g))] H := hP
  have hD : va_D A [(h0, .inr (8, [.ref a1, .ref a2, .ref a3, .ref a4, .ref a5, .int 0, .int 0, .ref a6, .int 0, .int 0, .int 0, .int 0, .int 0, .int 0, .int 0, .int 0, .int (-1), .ref a7, .ref a8, .int 0, .ref a9, .ref b0, .int 0])), (a1, .inl (cy 1, 1037, .inl g))] := hD
  obtain rfl := hw3
  refine W.widen (k := 0) (n := 0) (by omega) (by omega) ?_
  have hP9 := hP.sub (ws' := [(h0, .inr (8, [.ref a1, .ref a2, .ref a3, .ref a4, .ref a5, .int 0, .int 0, .ref a6, .int 0, .int 0, .int 0, .int 0, .int 0, .int 0, .int 0, .int 0, .int (-1), .ref a7, .ref a8, .int 0, .ref a9, .ref b0, .int 0]))]) [0] rfl
  have hD9 := hD.sub (ws' := [(h0, .inr (8, [.ref a1, .ref a2, .ref a3, .ref a4, .ref a5, .int 0, .int 0, .ref a6, .int 0, .int 0, .int 0, .int 0, .int 0, .int 0, .int 0, .int 0, .int (-1), .ref a7, .ref a8, .int 0, .ref a9, .ref b0, .int 0]))]) [0] (by decide) rfl
  refine W.widen (k := 0) (n := 0) (by omega) (by omega) ?_
  exact W.iret (v := 0) hx hb hr (fun t ht hW => ⟨⟨0, (), rfl, rfl, by rw [ht]; exact hP9, hD9⟩, hS.F ht⟩) hS.2.2 dX8_count_119
set_option maxHeartbeats 4000000 in
set_option maxRecDepth 100000 in
/-- X8_count -/
theorem c_X8_count_5 (l : Launch) (dC : Nat → ClassId) (dI : Nat → Nat → Nat) (cy : Nat → ClassId) (nb : Nat → Nat) (h0 : Nat) (a1 : Nat) (a2 : Nat) (a3 : Nat) (a4 : Nat) (a5 : Nat) (a6 : Nat) (a7 : Nat) (a8 : Nat) (a9 : Nat) (b0 : Nat) (x6 : Int32) (g : Nat → Int32) (sz : Nat) (hg : FN g) : Met l yX8_count (wsg yX8_count cX8_count 2 (some .int)) ({ frames := 15, cells := 0, slots := 0, locals := 1000 }) (va_Pc [.ref h0, .int 5] (fun U => U.heap.size = sz ∧ va_P (dC, dI) vwCl [(h0, .inr (8, [.ref a1, .ref a2, .ref a3, .ref a4, .ref a5, .int 0, .int x6, .ref a6, .int 0, .int 0, .int 0, .int 0, .int 0, .int 0, .int 0, .int 0, .int (-1), .ref a7, .ref a8, .int 0, .ref a9, .ref b0, .int 0])), (a1, .inl (cy 1, 1037, .inl g))] U.heap ∧ va_K (dC, dI) vwCl (tyL cy) U ∧ va_D (fun _ => True) [(h0, .inr (8, [.ref a1, .ref a2, .ref a3, .ref a4, .ref a5, .int 0, .int x6, .ref a6, .int 0, .int 0, .int 0, .int 0, .int 0, .int 0, .int 0, .int 0, .int (-1), .ref a7, .ref a8, .int 0, .ref a9, .ref b0, .int 0])), (a1, .inl (cy 1, 1037, .inl g))] ∧ GE nb (va_A [(h0, .inr (8, [.ref a1, .ref a2, .ref a3, .ref a4, .ref a5, .int 0, .int x6, .ref a6, .int 0, .int 0, .int 0, .int 0, .int 0, .int 0, .int 0, .int 0, .int (-1), .ref a7, .ref a8, .int 0, .ref a9, .ref b0, .int 0])), (a1, .inl (cy 1, 1037, .inl g))] sz) U)) (va_Qi (fun (r : Int32) (_ : Unit) => r = 0) (fun _ t => va_P (dC, dI) vwCl [(h0, .inr (8, [.ref a1, .ref a2, .ref a3, .ref a4, .ref a5, .int 0, .int 0, .ref a6, .int 0, .int 0, .int 0, .int 0, .int 0, .int 0, .int 0, .int 0, .int (-1), .ref a7, .ref a8, .int 0, .ref a9, .ref b0, .int 0]))] t.heap ∧ va_D (va_A [(h0, .inr (8, [.ref a1, .ref a2, .ref a3, .ref a4, .ref a5, .int 0, .int x6, .ref a6, .int 0, .int 0, .int 0, .int 0, .int 0, .int 0, .int 0, .int 0, .int (-1), .ref a7, .ref a8, .int 0, .ref a9, .ref b0, .int 0])), (a1, .inl (cy 1, 1037, .inl g))] sz) [(h0, .inr (8, [.ref a1, .ref a2, .ref a3, .ref a4, .ref a5, .int 0, .int 0, .ref a6, .int 0, .int 0, .int 0, .int 0, .int 0, .int 0, .int 0, .int 0, .int (-1), .ref a7, .ref a8, .int 0, .ref a9, .ref b0, .int 0]))]) (va_A [(h0, .inr (8, [.ref a1, .ref a2, .ref a3, .ref a4, .ref a5, .int 0, .int x6, .ref a6, .int 0, .int 0, .int 0, .int 0, .int 0, .int 0, .int 0, .int 0, .int (-1), .ref a7, .ref a8, .int 0, .ref a9, .ref b0, .int 0])), (a1, .inl (cy 1, 1037, .inl g))] sz)) 0 0 (va_A [(h0, .inr (8, [.ref a1, .ref a2, .ref a3, .ref a4, .ref a5, .int 0, .int x6, .ref a6, .int 0, .int 0, .int 0, .int 0, .int 0, .int 0, .int 0, .int 0, .int (-1), .ref a7, .ref a8, .int 0, .ref a9, .ref b0, .int 0])), (a1, .inl (cy 1, 1037, .inl g))] sz) := by
  refine Met.ofW (cc := cX8_count) (maxL := 2) (ret := (some .int)) (by decide) rfl ?_
  intro p e s m args below meth c s₁ B hml hv
  obtain ⟨rfl, hsz, hP, hK, hD0, hE⟩ := hv
  have hx := B.exec
  have hb := B.bytes
  have hr := B.returns
  have hts0 := atoms_spec (ws := (wsg yX8_count cX8_count 2 (some .int))) B.pre
  have hts : ∀ w ∈ wsL_law, w.before _ s = true := fun w h => hts0 w (List.mem_cons_of_mem _ h)
  have hown : s.vm.findClass RX8 = some m.cls := findClass_of_methodNamed B.named
  have hlocks := B.notSynchronized
  subst hsz
  have hD := hD0.self (sz := s.heap.size)
  generalize hAe : va_A [(h0, .inr (8, [.ref a1, .ref a2, .ref a3, .ref a4, .ref a5, .int 0, .int x6, .ref a6, .int 0, .int 0, .int 0, .int 0, .int 0, .int 0, .int 0, .int 0, .int (-1), .ref a7, .ref a8, .int 0, .ref a9, .ref b0, .int 0])), (a1, .inl (cy 1, 1037, .inl g))] s.heap.size = A at hD hE ⊢
  have hA : ∀ q : Nat, s.heap.size ≤ q → A q := fun q h => by rw [← hAe]; exact Or.inr h
  have hS : va_S A s.heap s.heap [] := va_S.rf
  have hP : va_P (dC, dI) vwCl [(h0, .inr (8, [.ref a1, .ref a2, .ref a3, .ref a4, .ref a5, .int 0, .int x6, .ref a6, .int 0, .int 0, .int 0, .int 0, .int 0, .int 0, .int 0, .int 0, .int (-1), .ref a7, .ref a8, .int 0, .ref a9, .ref b0, .int 0])), (a1, .inl (cy 1, 1037, .inl g))] s.heap := hP
  have hl := lv_entry ([.ref h0, .int 5]) (n := 2) (Nat.le_of_ble_eq_true rfl)
  rw [lg_entry_eq]
  generalize (lg_sl ([.ref h0, .int 5]) ++ List.replicate (2 - (lg_sl ([.ref h0, .int 5])).length) Slot.unset).toArray = ls at hl ⊢
  have hl : lv_has ls 2 [(0, .ref h0), (1, .int 5)] := hl
  generalize hHe : s.heap = H at hP hS ⊢
  have hS : va_S A s.heap H [] := by rw [hHe]; exact hS
  refine lv_aload_n hx hb dX8_count_0 rfl (lv_at hl 0 rfl) ?_
  refine lv_iload_n hx hb dX8_count_1 rfl (lv_at hl 1 rfl) ?_
  refine lv_i2l (v := 5) hx hb dX8_count_2 (by decide) ?_
  refine lv_lconst (v := 0) hx hb dX8_count_3 (by decide) ?_
  refine lv_ldc2 hx hb hown (hts _ mw_579) dX8_count_4 ?_
  have hPc := hP.sub (ws' := []) [] rfl
  have hDc := hD.sub (ws' := []) [] (by decide) rfl
  have hFc := va_free (wc := []) hD hS hA [] rfl
  refine va_calli (va_runS (As := [.long 5, .long 0, .long 9]) (rest := [.ref h0]) ⟨hx, hb, hml, hown, hts⟩ (c_X8_in l dC dI cy nb 5 0 9 H.size) (va_cwS 3 hts (gS mw_445 mw_446 mw_5 mw_447) rfl rfl rfl (by decide +kernel) ⟨Nat.le_of_ble_eq_true rfl, Nat.le_of_ble_eq_true rfl⟩) ⟨fun a U g mk q => by obtain ⟨q0, q1, qP, qK, qD, qE⟩ := q; exact ⟨q0, q1, qP, va_K.moved (u := U) (U := U.calling g mk a) (Vm.Alike.refl U.vm) qK, qD, GE.calling qE⟩, fun U hU hW => ⟨rfl, by rw [hU], by rw [hU]; exact hPc, va_K.moved hW.alike hK, hDc.weaken (fun _ _ _ _ => trivial), GE.call hE hS hFc hU hW⟩⟩ rfl rfl hl.1 rfl (lv_room (Nat.le_of_ble_eq_true rfl)) dX8_count_7 ⟨Nat.le_of_ble_eq_true rfl, Nat.le_of_ble_eq_true rfl⟩) hS (fun q _ h => hFc q h) hFc (fun r u t H1 locs ht hvm hw1 hB hz1 hk1 hS => ?_)
  obtain ⟨hP1, hD1⟩ := hB
  rw [ht] at hP1
  obtain ⟨hP, hD⟩ := va_join (wr := [(h0, .inr (8, [.ref a1, .ref a2, .ref a3, .ref a4, .ref a5, .int 0, .int x6, .ref a6, .int 0, .int 0, .int 0, .int 0, .int 0, .int 0, .int 0, .int 0, .int (-1), .ref a7, .ref a8, .int 0, .ref a9, .ref b0, .int 0])), (a1, .inl (cy 1, 1037, .inl g))]) (w1 := []) hP hD [] [0, 1] rfl rfl (by decide) (by decide) hk1 hFc hP1 hD1
  generalize H1 = H at hP hS ⊢
  have hP : va_P (dC, dI) vwCl [(h0, .inr (8, [.ref a1, .ref a2, .ref a3, .ref a4, .ref a5, .int 0, .int x6, .ref a6, .int 0, .int 0, .int 0, .int 0, .int 0, .int 0, .int 0, .int 0, .int (-1), .ref a7, .ref a8, .int 0, .ref a9, .ref b0, .int 0])), (a1, .inl (cy 1, 1037, .inl g))] H := hP
  have hD : va_D A [(h0, .inr (8, [.ref a1, .ref a2, .ref a3, .ref a4, .ref a5, .int 0, .int x6, .ref a6, .int 0, .int 0, .int 0, .int 0, .int 0, .int 0, .int 0, .int 0, .int (-1), .ref a7, .ref a8, .int 0, .ref a9, .ref b0, .int 0])), (a1, .inl (cy 1, 1037, .inl g))] := hD
  obtain rfl := hw1
  refine my_topi (y := 1) (by decide) ?_
  refine W.widen (k := 0) (n := 0) (by omega) (by omega) ?_
  refine lv_iconst (v := 1) hx hb dX8_count_10 (by decide) ?_
  have hPc := hP.sub (ws' := [(h0, .inr (8, [.ref a1, .ref a2, .ref a3, .ref a4, .ref a5, .int 0, .int x6, .ref a6, .int 0, .int 0, .int 0, .int 0, .int 0, .int 0, .int 0, .int 0, .int (-1), .ref a7, .ref a8, .int 0, .ref a9, .ref b0, .int 0]))]) [0] rfl
  have hDc := hD.sub (ws' := [(h0, .inr (8, [.ref a1, .ref a2, .ref a3, .ref a4, .ref a5, .int 0, .int x6, .ref a6, .int 0, .int 0, .int 0, .int 0, .int 0, .int 0, .int 0, .int 0, .int (-1), .ref a7, .ref a8, .int 0, .ref a9, .ref b0, .int 0]))]) [0] (by decide) rfl
  have hFc := va_free (wc := [(h0, .inr (8, [.ref a1, .ref a2, .ref a3, .ref a4, .ref a5, .int 0, .int x6, .ref a6, .int 0, .int 0, .int 0, .int 0, .int 0, .int 0, .int 0, .int 0, .int (-1), .ref a7, .ref a8, .int 0, .ref a9, .ref b0, .int 0]))]) hD hS hA [0] rfl
  refine va_calli (va_runV (As := [.int 1, .int 1]) (rest := []) ⟨hx, hb, hml, hown, hts⟩ (c_X8_isThrown_1 l dC dI cy nb h0 (.ref a1) (.ref a2) (.ref a3) (.ref a4) (.ref a5) (.int 0) (.ref a6) (.int 0) (.int 0) (.int 0) (.int 0) (.int 0) (.int 0) (.int 0) (.int 0) (.int (-1)) (.ref a7) (.ref a8) (.int 0) (.ref a9) (.ref b0) (.int 0) x6 1 H.size) (cwV 2 hts (gV mw_580 mw_581 mw_582 mw_5 mw_583) rfl rfl rfl (by decide +kernel) ⟨Nat.le_of_ble_eq_true rfl, Nat.le_of_ble_eq_true rfl⟩) ⟨fun a U g mk q => by obtain ⟨q0, q1, qP, qK, qD, qE⟩ := q; exact ⟨q0, q1, qP, va_K.moved (u := U) (U := U.calling g mk a) (Vm.Alike.refl U.vm) qK, qD, GE.calling qE⟩, va_recv hK hP (ci := 8) (q0 := 0) rfl rfl, fun U hU hW => ⟨rfl, by rw [hU], by rw [hU]; exact hPc, va_K.moved hW.alike hK, hDc.weaken (fun _ _ _ _ => trivial), GE.call hE hS hFc hU hW⟩⟩ rfl rfl hl.1 rfl (lv_room (Nat.le_of_ble_eq_true rfl)) dX8_count_11 ⟨Nat.le_of_ble_eq_true rfl, Nat.le_of_ble_eq_true rfl⟩) hS (fun q _ h => hFc q h) hFc (fun r u t H1 locs ht hvm hw2 hB hz1 hk1 hS => ?_)
  obtain ⟨hP1, hD1⟩ := hB
  rw [ht] at hP1
  obtain ⟨hP, hD⟩ := va_join (wr := [(a1, .inl (cy 1, 1037, .inl g))]) (w1 := [(h0, .inr (8, [.ref a1, .ref a2, .ref a3, .ref a4, .ref a5, .int 0, .int 0, .ref a6, .int 0, .int 0, .int 0, .int 0, .int 0, .int 0, .int 0, .int 0, .int (-1), .ref a7, .ref a8, .int 0, .ref a9, .ref b0, .int 0]))]) hP hD [0] [1] rfl rfl (by decide) (by decide) hk1 hFc hP1 hD1
  generalize H1 = H at hP hS ⊢
  have hP : va_P (dC, dI) vwCl [(a1, .inl (cy 1, 1037, .inl g)), (h0, .inr (8, [.ref a1, .ref a2, .ref a3, .ref a4, .ref a5, .int 0, .int 0, .ref a6, .int 0, .int 0, .int 0, .int 0, .int 0, .int 0, .int 0, .int 0, .int (-1), .ref a7, .ref a8, .int 0, .ref a9, .ref b0, .int 0]))] H := hP
  have hD : va_D A [(a1, .inl (cy 1, 1037, .inl g)), (h0, .inr (8, [.ref a1, .ref a2, .ref a3, .ref a4, .ref a5, .int 0, .int 0, .ref a6, .int 0, .int 0, .int 0, .int 0, .int 0, .int 0, .int 0, .int 0, .int (-1), .ref a7, .ref a8, .int 0, .ref a9, .ref b0, .int 0]))] := hD
  obtain rfl := hw2
  refine W.widen (k := 0) (n := 0) (by omega) (by omega) ?_
  refine lv_if_eq (tgt := 19) hx hb dX8_count_14 (by decide) (fun _ => ?_) (fun h => absurd (by decide) h)
  refine lv_iload_n hx hb dX8_count_19 rfl (lv_at hl 1 rfl) ?_
  refine lv_tableIn (off := 92) (tgt := 112) hx hb dX8_count_20 (by decide) (by decide) (by decide) (by decide) ?_
  refine lv_aload_n hx hb dX8_count_112 rfl (lv_at hl 0 rfl) ?_
  refine lv_iload_n hx hb dX8_count_113 rfl (lv_at hl 1 rfl) ?_
  refine lv_iconst (v := 4) hx hb dX8_count_114 (by decide) ?_
  refine lv_isub hx hb dX8_count_115 ?_
  refine my_topi (y := 1) (by decide) ?_
  have hPc := hP.sub (ws' := [(h0, .inr (8, [.ref a1, .ref a2, .ref a3, .ref a4, .ref a5, .int 0, .int 0, .ref a6, .int 0, .int 0, .int 0, .int 0, .int 0, .int 0, .int 0, .int 0, .int (-1), .ref a7, .ref a8, .int 0, .ref a9, .ref b0, .int 0])), (a1, .inl (cy 1, 1037, .inl g))]) [1, 0] rfl
  have hDc := hD.sub (ws' := [(h0, .inr (8, [.ref a1, .ref a2, .ref a3, .ref a4, .ref a5, .int 0, .int 0, .ref a6, .int 0, .int 0, .int 0, .int 0, .int 0, .int 0, .int 0, .int 0, .int (-1), .ref a7, .ref a8, .int 0, .ref a9, .ref b0, .int 0])), (a1, .inl (cy 1, 1037, .inl g))]) [1, 0] (by decide) rfl
  have hFc := va_free (wc := [(h0, .inr (8, [.ref a1, .ref a2, .ref a3, .ref a4, .ref a5, .int 0, .int 0, .ref a6, .int 0, .int 0, .int 0, .int 0, .int 0, .int 0, .int 0, .int 0, .int (-1), .ref a7, .ref a8, .int 0, .ref a9, .ref b0, .int 0])), (a1, .inl (cy 1, 1037, .inl g))]) hD hS hA [1, 0] rfl
  refine va_calli (va_runV (As := [.int 1]) (rest := []) ⟨hx, hb, hml, hown, hts⟩ (c_X8_inState_1 l dC dI cy nb h0 a1 a2 a3 a4 a5 a6 a7 a8 a9 b0 0 g H.size hg) (cwV 1 hts (gV mw_584 mw_585 mw_586 mw_5 mw_587) rfl rfl rfl (by decide +kernel) ⟨Nat.le_of_ble_eq_true rfl, Nat.le_of_ble_eq_true rfl⟩) ⟨fun a U g mk q => by obtain ⟨q0, q1, qP, qK, qD, qE⟩ := q; exact ⟨q0, q1, qP, va_K.moved (u := U) (U := U.calling g mk a) (Vm.Alike.refl U.vm) qK, qD, GE.calling qE⟩, va_recv hK hP (ci := 8) (q0 := 1) rfl rfl, fun U hU hW => ⟨rfl, by rw [hU], by rw [hU]; exact hPc, va_K.moved hW.alike hK, hDc.weaken (fun _ _ _ _ => trivial), GE.call hE hS hFc hU hW⟩⟩ rfl rfl hl.1 rfl (lv_room (Nat.le_of_ble_eq_true rfl)) dX8_count_116 ⟨Nat.le_of_ble_eq_true rfl, Nat.le_of_ble_eq_true rfl⟩) hS (fun q _ h => hFc q h) hFc (fun r u t H1 locs ht hvm hw3 hB hz1 hk1 hS => ?_)
  obtain ⟨hP1, hD1⟩ := hB
  rw [ht] at hP1
  obtain ⟨hP, hD⟩ := va_join (wr := []) (w1 := [(h0, .inr (8, [.ref a1, .ref a2, .ref a3, .ref a4, .ref a5, .int 0, .int 0, .ref a6, .int 0, .int 0, .int 0, .int 0, .int 0, .int 0, .int 0, .int 0, .int (-1), .ref a7, .ref a8, .int 0, .ref a9, .ref b0, .int 0])), (a1, .inl (cy 1, 1037, .inl g))]) hP hD [1, 0] [] rfl rfl (by decide) (by decide) hk1 hFc hP1 hD1
  generalize H1 = H at hP hS ⊢
  have hP : va_P (dC, dI) vwCl [(h0, .inr (8, [.ref a1, .ref a2, .ref a3, .ref a4, .ref a5, .int 0, .int 0, .ref a6, .int 0, .int 0, .int 0, .int 0, .int 0, .int 0, .int 0, .int 0, .int (-1), .ref a7, .ref a8, .int 0, .ref a9, .ref b0, .int 0])), (a1, .inl (cy 1, 1037, .inl g))] H := hP
  have hD : va_D A [(h0, .inr (8, [.ref a1, .ref a2, .ref a3, .ref a4, .ref a5, .int 0, .int 0, .ref a6, .int 0, .int 0, .int 0, .int 0, .int 0, .int 0, .int 0, .int 0, .int (-1), .ref a7, .ref a8, .int 0, .ref a9, .ref b0, .int 0])), (a1, .inl (cy 1, 1037, .inl g))] := hD
  obtain rfl := hw3
  refine W.widen (k := 0) (n := 0) (by omega) (by omega) ?_
  have hP9 := hP.sub (ws' := [(h0, .inr (8, [.ref a1, .ref a2, .ref a3, .ref a4, .ref a5, .int 0, .int 0, .ref a6, .int 0, .int 0, .int 0, .int 0, .int 0, .int 0, .int 0, .int 0, .int (-1), .ref a7, .ref a8, .int 0, .ref a9, .ref b0, .int 0]))]) [0] rfl
  have hD9 := hD.sub (ws' := [(h0, .inr (8, [.ref a1, .ref a2, .ref a3, .ref a4, .ref a5, .int 0, .int 0, .ref a6, .int 0, .int 0, .int 0, .int 0, .int 0, .int 0, .int 0, .int 0, .int (-1), .ref a7, .ref a8, .int 0, .ref a9, .ref b0, .int 0]))]) [0] (by decide) rfl
  refine W.widen (k := 0) (n := 0) (by omega) (by omega) ?_
  exact W.iret (v := 0) hx hb hr (fun t ht hW => ⟨⟨0, (), rfl, rfl, by rw [ht]; exact hP9, hD9⟩, hS.F ht⟩) hS.2.2 dX8_count_119
set_option maxHeartbeats 4000000 in
set_option maxRecDepth 100000 in
/-- X8_count -/
theorem c_X8_count_6 (l : Launch) (dC : Nat → ClassId) (dI : Nat → Nat → Nat) (cy : Nat → ClassId) (nb : Nat → Nat) (h0 : Nat) (a1 : Nat) (a2 : Nat) (a3 : Nat) (a4 : Nat) (a5 : Nat) (a6 : Nat) (a7 : Nat) (a8 : Nat) (a9 : Nat) (b0 : Nat) (x6 : Int32) (g : Nat → Int32) (sz : Nat) (hg : FN g) : Met l yX8_count (wsg yX8_count cX8_count 2 (some .int)) ({ frames := 15, cells := 0, slots := 0, locals := 1000 }) (va_Pc [.ref h0, .int 6] (fun U => U.heap.size = sz ∧ va_P (dC, dI) vwCl [(h0, .inr (8, [.ref a1, .ref a2, .ref a3, .ref a4, .ref a5, .int 0, .int x6, .ref a6, .int 0, .int 0, .int 0, .int 0, .int 0, .int 0, .int 0, .int 0, .int (-1), .ref a7, .ref a8, .int 0, .ref a9, .ref b0, .int 0])), (a1, .inl (cy 1, 1037, .inl g))] U.heap ∧ va_K (dC, dI) vwCl (tyL cy) U ∧ va_D (fun _ => True) [(h0, .inr (8, [.ref a1, .ref a2, .ref a3, .ref a4, .ref a5, .int 0, .int x6, .ref a6, .int 0, .int 0, .int 0, .int 0, .int 0, .int 0, .int 0, .int 0, .int (-1), .ref a7, .ref a8, .int 0, .ref a9, .ref b0, .int 0])), (a1, .inl (cy 1, 1037, .inl g))] ∧ GE nb (va_A [(h0, .inr (8, [.ref a1, .ref a2, .ref a3, .ref a4, .ref a5, .int 0, .int x6, .ref a6, .int 0, .int 0, .int 0, .int 0, .int 0, .int 0, .int 0, .int 0, .int (-1), .ref a7, .ref a8, .int 0, .ref a9, .ref b0, .int 0])), (a1, .inl (cy 1, 1037, .inl g))] sz) U)) (va_Qi (fun (r : Int32) (_ : Unit) => r = 0) (fun _ t => va_P (dC, dI) vwCl [(h0, .inr (8, [.ref a1, .ref a2, .ref a3, .ref a4, .ref a5, .int 0, .int 0, .ref a6, .int 0, .int 0, .int 0, .int 0, .int 0, .int 0, .int 0, .int 0, .int (-1), .ref a7, .ref a8, .int 0, .ref a9, .ref b0, .int 0]))] t.heap ∧ va_D (va_A [(h0, .inr (8, [.ref a1, .ref a2, .ref a3, .ref a4, .ref a5, .int 0, .int x6, .ref a6, .int 0, .int 0, .int 0, .int 0, .int 0, .int 0, .int 0, .int 0, .int (-1), .ref a7, .ref a8, .int 0, .ref a9, .ref b0, .int 0])), (a1, .inl (cy 1, 1037, .inl g))] sz) [(h0, .inr (8, [.ref a1, .ref a2, .ref a3, .ref a4, .ref a5, .int 0, .int 0, .ref a6, .int 0, .int 0, .int 0, .int 0, .int 0, .int 0, .int 0, .int 0, .int (-1), .ref a7, .ref a8, .int 0, .ref a9, .ref b0, .int 0]))]) (va_A [(h0, .inr (8, [.ref a1, .ref a2, .ref a3, .ref a4, .ref a5, .int 0, .int x6, .ref a6, .int 0, .int 0, .int 0, .int 0, .int 0, .int 0, .int 0, .int 0, .int (-1), .ref a7, .ref a8, .int 0, .ref a9, .ref b0, .int 0])), (a1, .inl (cy 1, 1037, .inl g))] sz)) 0 0 (va_A [(h0, .inr (8, [.ref a1, .ref a2, .ref a3, .ref a4, .ref a5, .int 0, .int x6, .ref a6, .int 0, .int 0, .int 0, .int 0, .int 0, .int 0, .int 0, .int 0, .int (-1), .ref a7, .ref a8, .int 0, .ref a9, .ref b0, .int 0])), (a1, .inl (cy 1, 1037, .inl g))] sz) := by
  refine Met.ofW (cc := cX8_count) (maxL := 2) (ret := (some .int)) (by decide) rfl ?_
  intro p e s m args below meth c s₁ B hml hv
  obtain ⟨rfl, hsz, hP, hK, hD0, hE⟩ := hv
  have hx := B.exec
  have hb := B.bytes
  have hr := B.returns
  have hts0 := atoms_spec (ws := (wsg yX8_count cX8_count 2 (some .int))) B.pre
  have hts : ∀ w ∈ wsL_law, w.before _ s = true := fun w h => hts0 w (List.mem_cons_of_mem _ h)
  have hown : s.vm.findClass RX8 = some m.cls := findClass_of_methodNamed B.named
  have hlocks := B.notSynchronized
  subst hsz
  have hD := hD0.self (sz := s.heap.size)
  generalize hAe : va_A [(h0, .inr (8, [.ref a1, .ref a2, .ref a3, .ref a4, .ref a5, .int 0, .int x6, .ref a6, .int 0, .int 0, .int 0, .int 0, .int 0, .int 0, .int 0, .int 0, .int (-1), .ref a7, .ref a8, .int 0, .ref a9, .ref b0, .int 0])), (a1, .inl (cy 1, 1037, .inl g))] s.heap.size = A at hD hE ⊢
  have hA : ∀ q : Nat, s.heap.size ≤ q → A q := fun q h => by rw [← hAe]; exact Or.inr h
  have hS : va_S A s.heap s.heap [] := va_S.rf
  have hP : va_P (dC, dI) vwCl [(h0, .inr (8, [.ref a1, .ref a2, .ref a3, .ref a4, .ref a5, .int 0, .int x6, .ref a6, .int 0, .int 0, .int 0, .int 0, .int 0, .int 0, .int 0, .int 0, .int (-1), .ref a7, .ref a8, .int 0, .ref a9, .ref b0, .int 0])), (a1, .inl (cy 1, 1037, .inl g))] s.heap := hP
  have hl := lv_entry ([.ref h0, .int 6]) (n := 2) (Nat.le_of_ble_eq_true rfl)
  rw [lg_entry_eq]
  generalize (lg_sl ([.ref h0, .int 6]) ++ List.replicate (2 - (lg_sl ([.ref h0, .int 6])).length) Slot.unset).toArray = ls at hl ⊢
  have hl : lv_has ls 2 [(0, .ref h0), (1, .int 6)] := hl
  generalize hHe : s.heap = H at hP hS ⊢
  have hS : va_S A s.heap H [] := by rw [hHe]; exact hS
  refine lv_aload_n hx hb dX8_count_0 rfl (lv_at hl 0 rfl) ?_
  refine lv_iload_n hx hb dX8_count_1 rfl (lv_at hl 1 rfl) ?_
  refine lv_i2l (v := 6) hx hb dX8_count_2 (by decide) ?_
  refine lv_lconst (v := 0) hx hb dX8_count_3 (by decide) ?_
  refine lv_ldc2 hx hb hown (hts _ mw_579) dX8_count_4 ?_
  have hPc := hP.sub (ws' := []) [] rfl
  have hDc := hD.sub (ws' := []) [] (by decide) rfl
  have hFc := va_free (wc := []) hD hS hA [] rfl
  refine va_calli (va_runS (As := [.long 6, .long 0, .long 9]) (rest := [.ref h0]) ⟨hx, hb, hml, hown, hts⟩ (c_X8_in l dC dI cy nb 6 0 9 H.size) (va_cwS 3 hts (gS mw_445 mw_446 mw_5 mw_447) rfl rfl rfl (by decide +kernel) ⟨Nat.le_of_ble_eq_true rfl, Nat.le_of_ble_eq_true rfl⟩) ⟨fun a U g mk q => by obtain ⟨q0, q1, qP, qK, qD, qE⟩ := q; exact ⟨q0, q1, qP, va_K.moved (u := U) (U := U.calling g mk a) (Vm.Alike.refl U.vm) qK, qD, GE.calling qE⟩, fun U hU hW => ⟨rfl, by rw [hU], by rw [hU]; exact hPc, va_K.moved hW.alike hK, hDc.weaken (fun _ _ _ _ => trivial), GE.call hE hS hFc hU hW⟩⟩ rfl rfl hl.1 rfl (lv_room (Nat.le_of_ble_eq_true rfl)) dX8_count_7 ⟨Nat.le_of_ble_eq_true rfl, Nat.le_of_ble_eq_true rfl⟩) hS (fun q _ h => hFc q h) hFc (fun r u t H1 locs ht hvm hw1 hB hz1 hk1 hS => ?_)
  obtain ⟨hP1, hD1⟩ := hB
  rw [ht] at hP1
  obtain ⟨hP, hD⟩ := va_join (wr := [(h0, .inr (8, [.ref a1, .ref a2, .ref a3, .ref a4, .ref a5, .int 0, .int x6, .ref a6, .int 0, .int 0, .int 0, .int 0, .int 0, .int 0, .int 0, .int 0, .int (-1), .ref a7, .ref a8, .int 0, .ref a9, .ref b0, .int 0])), (a1, .inl (cy 1, 1037, .inl g))]) (w1 := []) hP hD [] [0, 1] rfl rfl (by decide) (by decide) hk1 hFc hP1 hD1
  generalize H1 = H at hP hS ⊢
  have hP : va_P (dC, dI) vwCl [(h0, .inr (8, [.ref a1, .ref a2, .ref a3, .ref a4, .ref a5, .int 0, .int x6, .ref a6, .int 0, .int 0, .int 0, .int 0, .int 0, .int 0, .int 0, .int 0, .int (-1), .ref a7, .ref a8, .int 0, .ref a9, .ref b0, .int 0])), (a1, .inl (cy 1, 1037, .inl g))] H := hP
  have hD : va_D A [(h0, .inr (8, [.ref a1, .ref a2, .ref a3, .ref a4, .ref a5, .int 0, .int x6, .ref a6, .int 0, .int 0, .int 0, .int 0, .int 0, .int 0, .int 0, .int 0, .int (-1), .ref a7, .ref a8, .int 0, .ref a9, .ref b0, .int 0])), (a1, .inl (cy 1, 1037, .inl g))] := hD
  obtain rfl := hw1
  refine my_topi (y := 1) (by decide) ?_
  refine W.widen (k := 0) (n := 0) (by omega) (by omega) ?_
  refine lv_iconst (v := 1) hx hb dX8_count_10 (by decide) ?_
  have hPc := hP.sub (ws' := [(h0, .inr (8, [.ref a1, .ref a2, .ref a3, .ref a4, .ref a5, .int 0, .int x6, .ref a6, .int 0, .int 0, .int 0, .int 0, .int 0, .int 0, .int 0, .int 0, .int (-1), .ref a7, .ref a8, .int 0, .ref a9, .ref b0, .int 0]))]) [0] rfl
  have hDc := hD.sub (ws' := [(h0, .inr (8, [.ref a1, .ref a2, .ref a3, .ref a4, .ref a5, .int 0, .int x6, .ref a6, .int 0, .int 0, .int 0, .int 0, .int 0, .int 0, .int 0, .int 0, .int (-1), .ref a7, .ref a8, .int 0, .ref a9, .ref b0, .int 0]))]) [0] (by decide) rfl
  have hFc := va_free (wc := [(h0, .inr (8, [.ref a1, .ref a2, .ref a3, .ref a4, .ref a5, .int 0, .int x6, .ref a6, .int 0, .int 0, .int 0, .int 0, .int 0, .int 0, .int 0, .int 0, .int (-1), .ref a7, .ref a8, .int 0, .ref a9, .ref b0, .int 0]))]) hD hS hA [0] rfl
  refine va_calli (va_runV (As := [.int 1, .int 1]) (rest := []) ⟨hx, hb, hml, hown, hts⟩ (c_X8_isThrown_1 l dC dI cy nb h0 (.ref a1) (.ref a2) (.ref a3) (.ref a4) (.ref a5) (.int 0) (.ref a6) (.int 0) (.int 0) (.int 0) (.int 0) (.int 0) (.int 0) (.int 0) (.int 0) (.int (-1)) (.ref a7) (.ref a8) (.int 0) (.ref a9) (.ref b0) (.int 0) x6 1 H.size) (cwV 2 hts (gV mw_580 mw_581 mw_582 mw_5 mw_583) rfl rfl rfl (by decide +kernel) ⟨Nat.le_of_ble_eq_true rfl, Nat.le_of_ble_eq_true rfl⟩) ⟨fun a U g mk q => by obtain ⟨q0, q1, qP, qK, qD, qE⟩ := q; exact ⟨q0, q1, qP, va_K.moved (u := U) (U := U.calling g mk a) (Vm.Alike.refl U.vm) qK, qD, GE.calling qE⟩, va_recv hK hP (ci := 8) (q0 := 0) rfl rfl, fun U hU hW => ⟨rfl, by rw [hU], by rw [hU]; exact hPc, va_K.moved hW.alike hK, hDc.weaken (fun _ _ _ _ => trivial), GE.call hE hS hFc hU hW⟩⟩ rfl rfl hl.1 rfl (lv_room (Nat.le_of_ble_eq_true rfl)) dX8_count_11 ⟨Nat.le_of_ble_eq_true rfl, Nat.le_of_ble_eq_true rfl⟩) hS (fun q _ h => hFc q h) hFc (fun r u t H1 locs ht hvm hw2 hB hz1 hk1 hS => ?_)
  obtain ⟨hP1, hD1⟩ := hB
  rw [ht] at hP1
  obtain ⟨hP, hD⟩ := va_join (wr := [(a1, .inl (cy 1, 1037, .inl g))]) (w1 := [(h0, .inr (8, [.ref a1, .ref a2, .ref a3, .ref a4, .ref a5, .int 0, .int 0, .ref a6, .int 0, .int 0, .int 0, .int 0, .int 0, .int 0, .int 0, .int 0, .int (-1), .ref a7, .ref a8, .int 0, .ref a9, .ref b0, .int 0]))]) hP hD [0] [1] rfl rfl (by decide) (by decide) hk1 hFc hP1 hD1
  generalize H1 = H at hP hS ⊢
  have hP : va_P (dC, dI) vwCl [(a1, .inl (cy 1, 1037, .inl g)), (h0, .inr (8, [.ref a1, .ref a2, .ref a3, .ref a4, .ref a5, .int 0, .int 0, .ref a6, .int 0, .int 0, .int 0, .int 0, .int 0, .int 0, .int 0, .int 0, .int (-1), .ref a7, .ref a8, .int 0, .ref a9, .ref b0, .int 0]))] H := hP
  have hD : va_D A [(a1, .inl (cy 1, 1037, .inl g)), (h0, .inr (8, [.ref a1, .ref a2, .ref a3, .ref a4, .ref a5, .int 0, .int 0, .ref a6, .int 0, .int 0, .int 0, .int 0, .int 0, .int 0, .int 0, .int 0, .int (-1), .ref a7, .ref a8, .int 0, .ref a9, .ref b0, .int 0]))] := hD
  obtain rfl := hw2
  refine W.widen (k := 0) (n := 0) (by omega) (by omega) ?_
  refine lv_if_eq (tgt := 19) hx hb dX8_count_14 (by decide) (fun _ => ?_) (fun h => absurd (by decide) h)
  refine lv_iload_n hx hb dX8_count_19 rfl (lv_at hl 1 rfl) ?_
  refine lv_tableIn (off := 92) (tgt := 112) hx hb dX8_count_20 (by decide) (by decide) (by decide) (by decide) ?_
  refine lv_aload_n hx hb dX8_count_112 rfl (lv_at hl 0 rfl) ?_
  refine lv_iload_n hx hb dX8_count_113 rfl (lv_at hl 1 rfl) ?_
  refine lv_iconst (v := 4) hx hb dX8_count_114 (by decide) ?_
  refine lv_isub hx hb dX8_count_115 ?_
  refine my_topi (y := 2) (by decide) ?_
  have hPc := hP.sub (ws' := [(h0, .inr (8, [.ref a1, .ref a2, .ref a3, .ref a4, .ref a5, .int 0, .int 0, .ref a6, .int 0, .int 0, .int 0, .int 0, .int 0, .int 0, .int 0, .int 0, .int (-1), .ref a7, .ref a8, .int 0, .ref a9, .ref b0, .int 0])), (a1, .inl (cy 1, 1037, .inl g))]) [1, 0] rfl
  have hDc := hD.sub (ws' := [(h0, .inr (8, [.ref a1, .ref a2, .ref a3, .ref a4, .ref a5, .int 0, .int 0, .ref a6, .int 0, .int 0, .int 0, .int 0, .int 0, .int 0, .int 0, .int 0, .int (-1), .ref a7, .ref a8, .int 0, .ref a9, .ref b0, .int 0])), (a1, .inl (cy 1, 1037, .inl g))]) [1, 0] (by decide) rfl
  have hFc := va_free (wc := [(h0, .inr (8, [.ref a1, .ref a2, .ref a3, .ref a4, .ref a5, .int 0, .int 0, .ref a6, .int 0, .int 0, .int 0, .int 0, .int 0, .int 0, .int 0, .int 0, .int (-1), .ref a7, .ref a8, .int 0, .ref a9, .ref b0, .int 0])), (a1, .inl (cy 1, 1037, .inl g))]) hD hS hA [1, 0] rfl
  refine va_calli (va_runV (As := [.int 2]) (rest := []) ⟨hx, hb, hml, hown, hts⟩ (c_X8_inState_2 l dC dI cy nb h0 a1 a2 a3 a4 a5 a6 a7 a8 a9 b0 0 g H.size hg) (cwV 1 hts (gV mw_584 mw_585 mw_586 mw_5 mw_587) rfl rfl rfl (by decide +kernel) ⟨Nat.le_of_ble_eq_true rfl, Nat.le_of_ble_eq_true rfl⟩) ⟨fun a U g mk q => by obtain ⟨q0, q1, qP, qK, qD, qE⟩ := q; exact ⟨q0, q1, qP, va_K.moved (u := U) (U := U.calling g mk a) (Vm.Alike.refl U.vm) qK, qD, GE.calling qE⟩, va_recv hK hP (ci := 8) (q0 := 1) rfl rfl, fun U hU hW => ⟨rfl, by rw [hU], by rw [hU]; exact hPc, va_K.moved hW.alike hK, hDc.weaken (fun _ _ _ _ => trivial), GE.call hE hS hFc hU hW⟩⟩ rfl rfl hl.1 rfl (lv_room (Nat.le_of_ble_eq_true rfl)) dX8_count_116 ⟨Nat.le_of_ble_eq_true rfl, Nat.le_of_ble_eq_true rfl⟩) hS (fun q _ h => hFc q h) hFc (fun r u t H1 locs ht hvm hw3 hB hz1 hk1 hS => ?_)
  obtain ⟨hP1, hD1⟩ := hB
  rw [ht] at hP1
  obtain ⟨hP, hD⟩ := va_join (wr := []) (w1 := [(h0, .inr (8, [.ref a1, .ref a2, .ref a3, .ref a4, .ref a5, .int 0, .int 0, .ref a6, .int 0, .int 0, .int 0, .int 0, .int 0, .int 0, .int 0, .int 0, .int (-1), .ref a7, .ref a8, .int 0, .ref a9, .ref b0, .int 0])), (a1, .inl (cy 1, 1037, .inl g))]) hP hD [1, 0] [] rfl rfl (by decide) (by decide) hk1 hFc hP1 hD1
  generalize H1 = H at hP hS ⊢
  have hP : va_P (dC, dI) vwCl [(h0, .inr (8, [.ref a1, .ref a2, .ref a3, .ref a4, .ref a5, .int 0, .int 0, .ref a6, .int 0, .int 0, .int 0, .int 0, .int 0, .int 0, .int 0, .int 0, .int (-1), .ref a7, .ref a8, .int 0, .ref a9, .ref b0, .int 0])), (a1, .inl (cy 1, 1037, .inl g))] H := hP
  have hD : va_D A [(h0, .inr (8, [.ref a1, .ref a2, .ref a3, .ref a4, .ref a5, .int 0, .int 0, .ref a6, .int 0, .int 0, .int 0, .int 0, .int 0, .int 0, .int 0, .int 0, .int (-1), .ref a7, .ref a8, .int 0, .ref a9, .ref b0, .int 0])), (a1, .inl (cy 1, 1037, .inl g))] := hD
  obtain rfl := hw3
  refine W.widen (k := 0) (n := 0) (by omega) (by omega) ?_
  have hP9 := hP.sub (ws' := [(h0, .inr (8, [.ref a1, .ref a2, .ref a3, .ref a4, .ref a5, .int 0, .int 0, .ref a6, .int 0, .int 0, .int 0, .int 0, .int 0, .int 0, .int 0, .int 0, .int (-1), .ref a7, .ref a8, .int 0, .ref a9, .ref b0, .int 0]))]) [0] rfl
  have hD9 := hD.sub (ws' := [(h0, .inr (8, [.ref a1, .ref a2, .ref a3, .ref a4, .ref a5, .int 0, .int 0, .ref a6, .int 0, .int 0, .int 0, .int 0, .int 0, .int 0, .int 0, .int 0, .int (-1), .ref a7, .ref a8, .int 0, .ref a9, .ref b0, .int 0]))]) [0] (by decide) rfl
  refine W.widen (k := 0) (n := 0) (by omega) (by omega) ?_
  exact W.iret (v := 0) hx hb hr (fun t ht hW => ⟨⟨0, (), rfl, rfl, by rw [ht]; exact hP9, hD9⟩, hS.F ht⟩) hS.2.2 dX8_count_119
set_option maxHeartbeats 4000000 in
set_option maxRecDepth 100000 in
/-- X8_count -/
theorem c_X8_count_7 (l : Launch) (dC : Nat → ClassId) (dI : Nat → Nat → Nat) (cy : Nat → ClassId) (nb : Nat → Nat) (h0 : Nat) (a1 : Nat) (a2 : Nat) (a3 : Nat) (a4 : Nat) (a5 : Nat) (a6 : Nat) (a7 : Nat) (a8 : Nat) (a9 : Nat) (b0 : Nat) (x6 : Int32) (g : Nat → Int32) (sz : Nat) (hg : FN g) : Met l yX8_count (wsg yX8_count cX8_count 2 (some .int)) ({ frames := 15, cells := 0, slots := 0, locals := 1000 }) (va_Pc [.ref h0, .int 7] (fun U => U.heap.size = sz ∧ va_P (dC, dI) vwCl [(h0, .inr (8, [.ref a1, .ref a2, .ref a3, .ref a4, .ref a5, .int 0, .int x6, .ref a6, .int 0, .int 0, .int 0, .int 0, .int 0, .int 0, .int 0, .int 0, .int (-1), .ref a7, .ref a8, .int 0, .ref a9, .ref b0, .int 0])), (a1, .inl (cy 1, 1037, .inl g))] U.heap ∧ va_K (dC, dI) vwCl (tyL cy) U ∧ va_D (fun _ => True) [(h0, .inr (8, [.ref a1, .ref a2, .ref a3, .ref a4, .ref a5, .int 0, .int x6, .ref a6, .int 0, .int 0, .int 0, .int 0, .int 0, .int 0, .int 0, .int 0, .int (-1), .ref a7, .ref a8, .int 0, .ref a9, .ref b0, .int 0])), (a1, .inl (cy 1, 1037, .inl g))] ∧ GE nb (va_A [(h0, .inr (8, [.ref a1, .ref a2, .ref a3, .ref a4, .ref a5, .int 0, .int x6, .ref a6, .int 0, .int 0, .int 0, .int 0, .int 0, .int 0, .int 0, .int 0, .int (-1), .ref a7, .ref a8, .int 0, .ref a9, .ref b0, .int 0])), (a1, .inl (cy 1, 1037, .inl g))] sz) U)) (va_Qi (fun (r : Int32) (_ : Unit) => r = 0) (fun _ t => va_P (dC, dI) vwCl [(h0, .inr (8, [.ref a1, .ref a2, .ref a3, .ref a4, .ref a5, .int 0, .int 0, .ref a6, .int 0, .int 0, .int 0, .int 0, .int 0, .int 0, .int 0, .int 0, .int (-1), .ref a7, .ref a8, .int 0, .ref a9, .ref b0, .int 0]))] t.heap ∧ va_D (va_A [(h0, .inr (8, [.ref a1, .ref a2, .ref a3, .ref a4, .ref a5, .int 0, .int x6, .ref a6, .int 0, .int 0, .int 0, .int 0, .int 0, .int 0, .int 0, .int 0, .int (-1), .ref a7, .ref a8, .int 0, .ref a9, .ref b0, .int 0])), (a1, .inl (cy 1, 1037, .inl g))] sz) [(h0, .inr (8, [.ref a1, .ref a2, .ref a3, .ref a4, .ref a5, .int 0, .int 0, .ref a6, .int 0, .int 0, .int 0, .int 0, .int 0, .int 0, .int 0, .int 0, .int (-1), .ref a7, .ref a8, .int 0, .ref a9, .ref b0, .int 0]))]) (va_A [(h0, .inr (8, [.ref a1, .ref a2, .ref a3, .ref a4, .ref a5, .int 0, .int x6, .ref a6, .int 0, .int 0, .int 0, .int 0, .int 0, .int 0, .int 0, .int 0, .int (-1), .ref a7, .ref a8, .int 0, .ref a9, .ref b0, .int 0])), (a1, .inl (cy 1, 1037, .inl g))] sz)) 0 0 (va_A [(h0, .inr (8, [.ref a1, .ref a2, .ref a3, .ref a4, .ref a5, .int 0, .int x6, .ref a6, .int 0, .int 0, .int 0, .int 0, .int 0, .int 0, .int 0, .int 0, .int (-1), .ref a7, .ref a8, .int 0, .ref a9, .ref b0, .int 0])), (a1, .inl (cy 1, 1037, .inl g))] sz) := by
  refine Met.ofW (cc := cX8_count) (maxL := 2) (ret := (some .int)) (by decide) rfl ?_
  intro p e s m args below meth c s₁ B hml hv
  obtain ⟨rfl, hsz, hP, hK, hD0, hE⟩ := hv
  have hx := B.exec
  have hb := B.bytes
  have hr := B.returns
  have hts0 := atoms_spec (ws := (wsg yX8_count cX8_count 2 (some .int))) B.pre
  have hts : ∀ w ∈ wsL_law, w.before _ s = true := fun w h => hts0 w (List.mem_cons_of_mem _ h)
  have hown : s.vm.findClass RX8 = some m.cls := findClass_of_methodNamed B.named
  have hlocks := B.notSynchronized
  subst hsz
  have hD := hD0.self (sz := s.heap.size)
  generalize hAe : va_A [(h0, .inr (8, [.ref a1, .ref a2, .ref a3, .ref a4, .ref a5, .int 0, .int x6, .ref a6, .int 0, .int 0, .int 0, .int 0, .int 0, .int 0, .int 0, .int 0, .int (-1), .ref a7, .ref a8, .int 0, .ref a9, .ref b0, .int 0])), (a1, .inl (cy 1, 1037, .inl g))] s.heap.size = A at hD hE ⊢
  have hA : ∀ q : Nat, s.heap.size ≤ q → A q := fun q h => by rw [← hAe]; exact Or.inr h
  have hS : va_S A s.heap s.heap [] := va_S.rf
  have hP : va_P (dC, dI) vwCl [(h0, .inr (8, [.ref a1, .ref a2, .ref a3, .ref a4, .ref a5, .int 0, .int x6, .ref a6, .int 0, .int 0, .int 0, .int 0, .int 0, .int 0, .int 0, .int 0, .int (-1), .ref a7, .ref a8, .int 0, .ref a9, .ref b0, .int 0])), (a1, .inl (cy 1, 1037, .inl g))] s.heap := hP
  have hl := lv_entry ([.ref h0, .int 7]) (n := 2) (Nat.le_of_ble_eq_true rfl)
  rw [lg_entry_eq]
  generalize (lg_sl ([.ref h0, .int 7]) ++ List.replicate (2 - (lg_sl ([.ref h0, .int 7])).length) Slot.unset).toArray = ls at hl ⊢
  have hl : lv_has ls 2 [(0, .ref h0), (1, .int 7)] := hl
  generalize hHe : s.heap = H at hP hS ⊢
  have hS : va_S A s.heap H [] := by rw [hHe]; exact hS
  refine lv_aload_n hx hb dX8_count_0 rfl (lv_at hl 0 rfl) ?_
  refine lv_iload_n hx hb dX8_count_1 rfl (lv_at hl 1 rfl) ?_
  refine lv_i2l (v := 7) hx hb dX8_count_2 (by decide) ?_
  refine lv_lconst (v := 0) hx hb dX8_count_3 (by decide) ?_
  refine lv_ldc2 hx hb hown (hts _ mw_579) dX8_count_4 ?_
  have hPc := hP.sub (ws' := []) [] rfl
  have hDc := hD.sub (ws' := []) [] (by decide) rfl
  have hFc := va_free (wc := []) hD hS hA [] rfl
  refine va_calli (va_runS (As := [.long 7, .long 0, .long 9]) (rest := [.ref h0]) ⟨hx, hb, hml, hown, hts⟩ (c_X8_in l dC dI cy nb 7 0 9 H.size) (va_cwS 3 hts (gS mw_445 mw_446 mw_5 mw_447) rfl rfl rfl (by decide +kernel) ⟨Nat.le_of_ble_eq_true rfl, Nat.le_of_ble_eq_true rfl⟩) ⟨fun a U g mk q => by obtain ⟨q0, q1, qP, qK, qD, qE⟩ := q; exact ⟨q0, q1, qP, va_K.moved (u := U) (U := U.calling g mk a) (Vm.Alike.refl U.vm) qK, qD, GE.calling qE⟩, fun U hU hW => ⟨rfl, by rw [hU], by rw [hU]; exact hPc, va_K.moved hW.alike hK, hDc.weaken (fun _ _ _ _ => trivial), GE.call hE hS hFc hU hW⟩⟩ rfl rfl hl.1 rfl (lv_room (Nat.le_of_ble_eq_true rfl)) dX8_count_7 ⟨Nat.le_of_ble_eq_true rfl, Nat.le_of_ble_eq_true rfl⟩) hS (fun q _ h => hFc q h) hFc (fun r u t H1 locs ht hvm hw1 hB hz1 hk1 hS => ?_)
  obtain ⟨hP1, hD1⟩ := hB
  rw [ht] at hP1
  obtain ⟨hP, hD⟩ := va_join (wr := [(h0, .inr (8, [.ref a1, .ref a2, .ref a3, .ref a4, .ref a5, .int 0, .int x6, .ref a6, .int 0, .int 0, .int 0, .int 0, .int 0, .int 0, .int 0, .int 0, .int (-1), .ref a7, .ref a8, .int 0, .ref a9, .ref b0, .int 0])), (a1, .inl (cy 1, 1037, .inl g))]) (w1 := []) hP hD [] [0, 1] rfl rfl (by decide) (by decide) hk1 hFc hP1 hD1
  generalize H1 = H at hP hS ⊢
  have hP : va_P (dC, dI) vwCl [(h0, .inr (8, [.ref a1, .ref a2, .ref a3, .ref a4, .ref a5, .int 0, .int x6, .ref a6, .int 0, .int 0, .int 0, .int 0, .int 0, .int 0, .int 0, .int 0, .int (-1), .ref a7, .ref a8, .int 0, .ref a9, .ref b0, .int 0])), (a1, .inl (cy 1, 1037, .inl g))] H := hP
  have hD : va_D A [(h0, .inr (8, [.ref a1, .ref a2, .ref a3, .ref a4, .ref a5, .int 0, .int x6, .ref a6, .int 0, .int 0, .int 0, .int 0, .int 0, .int 0, .int 0, .int 0, .int (-1), .ref a7, .ref a8, .int 0, .ref a9, .ref b0, .int 0])), (a1, .inl (cy 1, 1037, .inl g))] := hD
  obtain rfl := hw1
  refine my_topi (y := 1) (by decide) ?_
  refine W.widen (k := 0) (n := 0) (by omega) (by omega) ?_
  refine lv_iconst (v := 1) hx hb dX8_count_10 (by decide) ?_
  have hPc := hP.sub (ws' := [(h0, .inr (8, [.ref a1, .ref a2, .ref a3, .ref a4, .ref a5, .int 0, .int x6, .ref a6, .int 0, .int 0, .int 0, .int 0, .int 0, .int 0, .int 0, .int 0, .int (-1), .ref a7, .ref a8, .int 0, .ref a9, .ref b0, .int 0]))]) [0] rfl
  have hDc := hD.sub (ws' := [(h0, .inr (8, [.ref a1, .ref a2, .ref a3, .ref a4, .ref a5, .int 0, .int x6, .ref a6, .int 0, .int 0, .int 0, .int 0, .int 0, .int 0, .int 0, .int 0, .int (-1), .ref a7, .ref a8, .int 0, .ref a9, .ref b0, .int 0]))]) [0] (by decide) rfl
  have hFc := va_free (wc := [(h0, .inr (8, [.ref a1, .ref a2, .ref a3, .ref a4, .ref a5, .int 0, .int x6, .ref a6, .int 0, .int 0, .int 0, .int 0, .int 0, .int 0, .int 0, .int 0, .int (-1), .ref a7, .ref a8, .int 0, .ref a9, .ref b0, .int 0]))]) hD hS hA [0] rfl
  refine va_calli (va_runV (As := [.int 1, .int 1]) (rest := []) ⟨hx, hb, hml, hown, hts⟩ (c_X8_isThrown_1 l dC dI cy nb h0 (.ref a1) (.ref a2) (.ref a3) (.ref a4) (.ref a5) (.int 0) (.ref a6) (.int 0) (.int 0) (.int 0) (.int 0) (.int 0) (.int 0) (.int 0) (.int 0) (.int (-1)) (.ref a7) (.ref a8) (.int 0) (.ref a9) (.ref b0) (.int 0) x6 1 H.size) (cwV 2 hts (gV mw_580 mw_581 mw_582 mw_5 mw_583) rfl rfl rfl (by decide +kernel) ⟨Nat.le_of_ble_eq_true rfl, Nat.le_of_ble_eq_true rfl⟩) ⟨fun a U g mk q => by obtain ⟨q0, q1, qP, qK, qD, qE⟩ := q; exact ⟨q0, q1, qP, va_K.moved (u := U) (U := U.calling g mk a) (Vm.Alike.refl U.vm) qK, qD, GE.calling qE⟩, va_recv hK hP (ci := 8) (q0 := 0) rfl rfl, fun U hU hW => ⟨rfl, by rw [hU], by rw [hU]; exact hPc, va_K.moved hW.alike hK, hDc.weaken (fun _ _ _ _ => trivial), GE.call hE hS hFc hU hW⟩⟩ rfl rfl hl.1 rfl (lv_room (Nat.le_of_ble_eq_true rfl)) dX8_count_11 ⟨Nat.le_of_ble_eq_true rfl, Nat.le_of_ble_eq_true rfl⟩) hS (fun q _ h => hFc q h) hFc (fun r u t H1 locs ht hvm hw2 hB hz1 hk1 hS => ?_)
  obtain ⟨hP1, hD1⟩ := hB
  rw [ht] at hP1
  obtain ⟨hP, hD⟩ := va_join (wr := [(a1, .inl (cy 1, 1037, .inl g))]) (w1 := [(h0, .inr (8, [.ref a1, .ref a2, .ref a3, .ref a4, .ref a5, .int 0, .int 0, .ref a6, .int 0, .int 0, .int 0, .int 0, .int 0, .int 0, .int 0, .int 0, .int (-1), .ref a7, .ref a8, .int 0, .ref a9, .ref b0, .int 0]))]) hP hD [0] [1] rfl rfl (by decide) (by decide) hk1 hFc hP1 hD1
  generalize H1 = H at hP hS ⊢
  have hP : va_P (dC, dI) vwCl [(a1, .inl (cy 1, 1037, .inl g)), (h0, .inr (8, [.ref a1, .ref a2, .ref a3, .ref a4, .ref a5, .int 0, .int 0, .ref a6, .int 0, .int 0, .int 0, .int 0, .int 0, .int 0, .int 0, .int 0, .int (-1), .ref a7, .ref a8, .int 0, .ref a9, .ref b0, .int 0]))] H := hP
  have hD : va_D A [(a1, .inl (cy 1, 1037, .inl g)), (h0, .inr (8, [.ref a1, .ref a2, .ref a3, .ref a4, .ref a5, .int 0, .int 0, .ref a6, .int 0, .int 0, .int 0, .int 0, .int 0, .int 0, .int 0, .int 0, .int (-1), .ref a7, .ref a8, .int 0, .ref a9, .ref b0, .int 0]))] := hD
  obtain rfl := hw2
  refine W.widen (k := 0) (n := 0) (by omega) (by omega) ?_
  refine lv_if_eq (tgt := 19) hx hb dX8_count_14 (by decide) (fun _ => ?_) (fun h => absurd (by decide) h)
  refine lv_iload_n hx hb dX8_count_19 rfl (lv_at hl 1 rfl) ?_
  refine lv_tableIn (off := 92) (tgt := 112) hx hb dX8_count_20 (by decide) (by decide) (by decide) (by decide) ?_
  refine lv_aload_n hx hb dX8_count_112 rfl (lv_at hl 0 rfl) ?_
  refine lv_iload_n hx hb dX8_count_113 rfl (lv_at hl 1 rfl) ?_
  refine lv_iconst (v := 4) hx hb dX8_count_114 (by decide) ?_
  refine lv_isub hx hb dX8_count_115 ?_
  refine my_topi (y := 3) (by decide) ?_
  have hPc := hP.sub (ws' := [(h0, .inr (8, [.ref a1, .ref a2, .ref a3, .ref a4, .ref a5, .int 0, .int 0, .ref a6, .int 0, .int 0, .int 0, .int 0, .int 0, .int 0, .int 0, .int 0, .int (-1), .ref a7, .ref a8, .int 0, .ref a9, .ref b0, .int 0])), (a1, .inl (cy 1, 1037, .inl g))]) [1, 0] rfl
  have hDc := hD.sub (ws' := [(h0, .inr (8, [.ref a1, .ref a2, .ref a3, .ref a4, .ref a5, .int 0, .int 0, .ref a6, .int 0, .int 0, .int 0, .int 0, .int 0, .int 0, .int 0, .int 0, .int (-1), .ref a7, .ref a8, .int 0, .ref a9, .ref b0, .int 0])), (a1, .inl (cy 1, 1037, .inl g))]) [1, 0] (by decide) rfl
  have hFc := va_free (wc := [(h0, .inr (8, [.ref a1, .ref a2, .ref a3, .ref a4, .ref a5, .int 0, .int 0, .ref a6, .int 0, .int 0, .int 0, .int 0, .int 0, .int 0, .int 0, .int 0, .int (-1), .ref a7, .ref a8, .int 0, .ref a9, .ref b0, .int 0])), (a1, .inl (cy 1, 1037, .inl g))]) hD hS hA [1, 0] rfl
  refine va_calli (va_runV (As := [.int 3]) (rest := []) ⟨hx, hb, hml, hown, hts⟩ (c_X8_inState_3 l dC dI cy nb h0 a1 a2 a3 a4 a5 a6 a7 a8 a9 b0 0 g H.size hg) (cwV 1 hts (gV mw_584 mw_585 mw_586 mw_5 mw_587) rfl rfl rfl (by decide +kernel) ⟨Nat.le_of_ble_eq_true rfl, Nat.le_of_ble_eq_true rfl⟩) ⟨fun a U g mk q => by obtain ⟨q0, q1, qP, qK, qD, qE⟩ := q; exact ⟨q0, q1, qP, va_K.moved (u := U) (U := U.calling g mk a) (Vm.Alike.refl U.vm) qK, qD, GE.calling qE⟩, va_recv hK hP (ci := 8) (q0 := 1) rfl rfl, fun U hU hW => ⟨rfl, by rw [hU], by rw [hU]; exact hPc, va_K.moved hW.alike hK, hDc.weaken (fun _ _ _ _ => trivial), GE.call hE hS hFc hU hW⟩⟩ rfl rfl hl.1 rfl (lv_room (Nat.le_of_ble_eq_true rfl)) dX8_count_116 ⟨Nat.le_of_ble_eq_true rfl, Nat.le_of_ble_eq_true rfl⟩) hS (fun q _ h => hFc q h) hFc (fun r u t H1 locs ht hvm hw3 hB hz1 hk1 hS => ?_)
  obtain ⟨hP1, hD1⟩ := hB
  rw [ht] at hP1
  obtain ⟨hP, hD⟩ := va_join (wr := []) (w1 := [(h0, .inr (8, [.ref a1, .ref a2, .ref a3, .ref a4, .ref a5, .int 0, .int 0, .ref a6, .int 0, .int 0, .int 0, .int 0, .int 0, .int 0, .int 0, .int 0, .int (-1), .ref a7, .ref a8, .int 0, .ref a9, .ref b0, .int 0])), (a1, .inl (cy 1, 1037, .inl g))]) hP hD [1, 0] [] rfl rfl (by decide) (by decide) hk1 hFc hP1 hD1
  generalize H1 = H at hP hS ⊢
  have hP : va_P (dC, dI) vwCl [(h0, .inr (8, [.ref a1, .ref a2, .ref a3, .ref a4, .ref a5, .int 0, .int 0, .ref a6, .int 0, .int 0, .int 0, .int 0, .int 0, .int 0, .int 0, .int 0, .int (-1), .ref a7, .ref a8, .int 0, .ref a9, .ref b0, .int 0])), (a1, .inl (cy 1, 1037, .inl g))] H := hP
  have hD : va_D A [(h0, .inr (8, [.ref a1, .ref a2, .ref a3, .ref a4, .ref a5, .int 0, .int 0, .ref a6, .int 0, .int 0, .int 0, .int 0, .int 0, .int 0, .int 0, .int 0, .int (-1), .ref a7, .ref a8, .int 0, .ref a9, .ref b0, .int 0])), (a1, .inl (cy 1, 1037, .inl g))] := hD
  obtain rfl := hw3
  refine W.widen (k := 0) (n := 0) (by omega) (by omega) ?_
  have hP9 := hP.sub (ws' := [(h0, .inr (8, [.ref a1, .ref a2, .ref a3, .ref a4, .ref a5, .int 0, .int 0, .ref a6, .int 0, .int 0, .int 0, .int 0, .int 0, .int 0, .int 0, .int 0, .int (-1), .ref a7, .ref a8, .int 0, .ref a9, .ref b0, .int 0]))]) [0] rfl
  have hD9 := hD.sub (ws' := [(h0, .inr (8, [.ref a1, .ref a2, .ref a3, .ref a4, .ref a5, .int 0, .int 0, .ref a6, .int 0, .int 0, .int 0, .int 0, .int 0, .int 0, .int 0, .int 0, .int (-1), .ref a7, .ref a8, .int 0, .ref a9, .ref b0, .int 0]))]) [0] (by decide) rfl
  refine W.widen (k := 0) (n := 0) (by omega) (by omega) ?_
  exact W.iret (v := 0) hx hb hr (fun t ht hW => ⟨⟨0, (), rfl, rfl, by rw [ht]; exact hP9, hD9⟩, hS.F ht⟩) hS.2.2 dX8_count_119
set_option maxHeartbeats 4000000 in
set_option maxRecDepth 100000 in
/-- X8_count -/
theorem c_X8_count_8 (l : Launch) (dC : Nat → ClassId) (dI : Nat → Nat → Nat) (cy : Nat → ClassId) (nb : Nat → Nat) (h0 : Nat) (a1 : Nat) (a2 : Nat) (a3 : Nat) (a4 : Nat) (a5 : Nat) (a6 : Nat) (a7 : Nat) (a8 : Nat) (a9 : Nat) (b0 : Nat) (x6 : Int32) (g : Nat → Int32) (sz : Nat) (hg : FN g) : Met l yX8_count (wsg yX8_count cX8_count 2 (some .int)) ({ frames := 15, cells := 0, slots := 0, locals := 1000 }) (va_Pc [.ref h0, .int 8] (fun U => U.heap.size = sz ∧ va_P (dC, dI) vwCl [(h0, .inr (8, [.ref a1, .ref a2, .ref a3, .ref a4, .ref a5, .int 0, .int x6, .ref a6, .int 0, .int 0, .int 0, .int 0, .int 0, .int 0, .int 0, .int 0, .int (-1), .ref a7, .ref a8, .int 0, .ref a9, .ref b0, .int 0])), (a1, .inl (cy 1, 1037, .inl g))] U.heap ∧ va_K (dC, dI) vwCl (tyL cy) U ∧ va_D (fun _ => True) [(h0, .inr (8, [.ref a1, .ref a2, .ref a3, .ref a4, .ref a5, .int 0, .int x6, .ref a6, .int 0, .int 0, .int 0, .int 0, .int 0, .int 0, .int 0, .int 0, .int (-1), .ref a7, .ref a8, .int 0, .ref a9, .ref b0, .int 0])), (a1, .inl (cy 1, 1037, .inl g))] ∧ GE nb (va_A [(h0, .inr (8, [.ref a1, .ref a2, .ref a3, .ref a4, .ref a5, .int 0, .int x6, .ref a6, .int 0, .int 0, .int 0, .int 0, .int 0, .int 0, .int 0, .int 0, .int (-1), .ref a7, .ref a8, .int 0, .ref a9, .ref b0, .int 0])), (a1, .inl (cy 1, 1037, .inl g))] sz) U)) (va_Qi (fun (r : Int32) (_ : Unit) => r = 0) (fun _ t => va_P (dC, dI) vwCl [(h0, .inr (8, [.ref a1, .ref a2, .ref a3, .ref a4, .ref a5, .int 0, .int 0, .ref a6, .int 0, .int 0, .int 0, .int 0, .int 0, .int 0, .int 0, .int 0, .int (-1), .ref a7, .ref a8, .int 0, .ref a9, .ref b0, .int 0]))] t.heap ∧ va_D (va_A [(h0, .inr (8, [.ref a1, .ref a2, .ref a3, .ref a4, .ref a5, .int 0, .int x6, .ref a6, .int 0, .int 0, .int 0, .int 0, .int 0, .int 0, .int 0, .int 0, .int (-1), .ref a7, .ref a8, .int 0, .ref a9, .ref b0, .int 0])), (a1, .inl (cy 1, 1037, .inl g))] sz) [(h0, .inr (8, [.ref a1, .ref a2, .ref a3, .ref a4, .ref a5, .int 0, .int 0, .ref a6, .int 0, .int 0, .int 0, .int 0, .int 0, .int 0, .int 0, .int 0, .int (-1), .ref a7, .ref a8, .int 0, .ref a9, .ref b0, .int 0]))]) (va_A [(h0, .inr (8, [.ref a1, .ref a2, .ref a3, .ref a4, .ref a5, .int 0, .int x6, .ref a6, .int 0, .int 0, .int 0, .int 0, .int 0, .int 0, .int 0, .int 0, .int (-1), .ref a7, .ref a8, .int 0, .ref a9, .ref b0, .int 0])), (a1, .inl (cy 1, 1037, .inl g))] sz)) 0 0 (va_A [(h0, .inr (8, [.ref a1, .ref a2, .ref a3, .ref a4, .ref a5, .int 0, .int x6, .ref a6, .int 0, .int 0, .int 0, .int 0, .int 0, .int 0, .int 0, .int 0, .int (-1), .ref a7, .ref a8, .int 0, .ref a9, .ref b0, .int 0])), (a1, .inl (cy 1, 1037, .inl g))] sz) := by
  refine Met.ofW (cc := cX8_count) (maxL := 2) (ret := (some .int)) (by decide) rfl ?_
  intro p e s m args below meth c s₁ B hml hv
  obtain ⟨rfl, hsz, hP, hK, hD0, hE⟩ := hv
  have hx := B.exec
  have hb := B.bytes
  have hr := B.returns
  have hts0 := atoms_spec (ws := (wsg yX8_count cX8_count 2 (some .int))) B.pre
  have hts : ∀ w ∈ wsL_law, w.before _ s = true := fun w h => hts0 w (List.mem_cons_of_mem _ h)
  have hown : s.vm.findClass RX8 = some m.cls := findClass_of_methodNamed B.named
  have hlocks := B.notSynchronized
  subst hsz
  have hD := hD0.self (sz := s.heap.size)
  generalize hAe : va_A [(h0, .inr (8, [.ref a1, .ref a2, .ref a3, .ref a4, .ref a5, .int 0, .int x6, .ref a6, .int 0, .int 0, .int 0, .int 0, .int 0, .int 0, .int 0, .int 0, .int (-1), .ref a7, .ref a8, .int 0, .ref a9, .ref b0, .int 0])), (a1, .inl (cy 1, 1037, .inl g))] s.heap.size = A at hD hE ⊢
  have hA : ∀ q : Nat, s.heap.size ≤ q → A q := fun q h => by rw [← hAe]; exact Or.inr h
  have hS : va_S A s.heap s.heap [] := va_S.rf
  have hP : va_P (dC, dI) vwCl [(h0, .inr (8, [.ref a1, .ref a2, .ref a3, .ref a4, .ref a5, .int 0, .int x6, .ref a6, .int 0, .int 0, .int 0, .int 0, .int 0, .int 0, .int 0, .int 0, .int (-1), .ref a7, .ref a8, .int 0, .ref a9, .ref b0, .int 0])), (a1, .inl (cy 1, 1037, .inl g))] s.heap := hP
  have hl := lv_entry ([.ref h0, .int 8]) (n := 2) (Nat.le_of_ble_eq_true rfl)
  rw [lg_entry_eq]
  generalize (lg_sl ([.ref h0, .int 8]) ++ List.replicate (2 - (lg_sl ([.ref h0, .int 8])).length) Slot.unset).toArray = ls at hl ⊢
  have hl : lv_has ls 2 [(0, .ref h0), (1, .int 8)] := hl
  generalize hHe : s.heap = H at hP hS ⊢
  have hS : va_S A s.heap H [] := by rw [hHe]; exact hS
  refine lv_aload_n hx hb dX8_count_0 rfl (lv_at hl 0 rfl) ?_
  refine lv_iload_n hx hb dX8_count_1 rfl (lv_at hl 1 rfl) ?_
  refine lv_i2l (v := 8) hx hb dX8_count_2 (by decide) ?_
  refine lv_lconst (v := 0) hx hb dX8_count_3 (by decide) ?_
  refine lv_ldc2 hx hb hown (hts _ mw_579) dX8_count_4 ?_
  have hPc := hP.sub (ws' := []) [] rfl
  have hDc := hD.sub (ws' := []) [] (by decide) rfl
  have hFc := va_free (wc := []) hD hS hA [] rfl
  refine va_calli (va_runS (As := [.long 8, .long 0, .long 9]) (rest := [.ref h0]) ⟨hx, hb, hml, hown, hts⟩ (c_X8_in l dC dI cy nb 8 0 9 H.size) (va_cwS 3 hts (gS mw_445 mw_446 mw_5 mw_447) rfl rfl rfl (by decide +kernel) ⟨Nat.le_of_ble_eq_true rfl, Nat.le_of_ble_eq_true rfl⟩) ⟨fun a U g mk q => by obtain ⟨q0, q1, qP, qK, qD, qE⟩ := q; exact ⟨q0, q1, qP, va_K.moved (u := U) (U := U.calling g mk a) (Vm.Alike.refl U.vm) qK, qD, GE.calling qE⟩, fun U hU hW => ⟨rfl, by rw [hU], by rw [hU]; exact hPc, va_K.moved hW.alike hK, hDc.weaken (fun _ _ _ _ => trivial), GE.call hE hS hFc hU hW⟩⟩ rfl rfl hl.1 rfl (lv_room (Nat.le_of_ble_eq_true rfl)) dX8_count_7 ⟨Nat.le_of_ble_eq_true rfl, Nat.le_of_ble_eq_true rfl⟩) hS (fun q _ h => hFc q h) hFc (fun r u t H1 locs ht hvm hw1 hB hz1 hk1 hS => ?_)
  obtain ⟨hP1, hD1⟩ := hB
  rw [ht] at hP1
  obtain ⟨hP, hD⟩ := va_join (wr := [(h0, .inr (8, [.ref a1, .ref a2, .ref a3, .ref a4, .ref a5, .int 0, .int x6, .ref a6, .int 0, .int 0, .int 0, .int 0, .int 0, .int 0, .int 0, .int 0, .int (-1), .ref a7, .ref a8, .int 0, .ref a9, .ref b0, .int 0])), (a1, .inl (cy 1, 1037, .inl g))]) (w1 := []) hP hD [] [0, 1] rfl rfl (by decide) (by decide) hk1 hFc hP1 hD1
  generalize H1 = H at hP hS ⊢
  have hP : va_P (dC, dI) vwCl [(h0, .inr (8, [.ref a1, .ref a2, .ref a3, .ref a4, .ref a5, .int 0, .int x6, .ref a6, .int 0, .int 0, .int 0, .int 0, .int 0, .int 0, .int 0, .int 0, .int (-1), .ref a7, .ref a8, .int 0, .ref a9, .ref b0, .int 0])), (a1, .inl (cy 1, 1037, .inl g))] H := hP
  have hD : va_D A [(h0, .inr (8, [.ref a1, .ref a2, .ref a3, .ref a4, .ref a5, .int 0, .int x6, .ref a6, .int 0, .int 0, .int 0, .int 0, .int 0, .int 0, .int 0, .int 0, .int (-1), .ref a7, .ref a8, .int 0, .ref a9, .ref b0, .int 0])), (a1, .inl (cy 1, 1037, .inl g))] := hD
  obtain rfl := hw1
  refine my_topi (y := 1) (by decide) ?_
  refine W.widen (k := 0) (n := 0) (by omega) (by omega) ?_
  refine lv_iconst (v := 1) hx hb dX8_count_10 (by decide) ?_
  have hPc := hP.sub (ws' := [(h0, .inr (8, [.ref a1, .ref a2, .ref a3, .ref a4, .ref a5, .int 0, .int x6, .ref a6, .int 0, .int 0, .int 0, .int 0, .int 0, .int 0, .int 0, .int 0, .int (-1), .ref a7, .ref a8, .int 0, .ref a9, .ref b0, .int 0]))]) [0] rfl
  have hDc := hD.sub (ws' := [(h0, .inr (8, [.ref a1, .ref a2, .ref a3, .ref a4, .ref a5, .int 0, .int x6, .ref a6, .int 0, .int 0, .int 0, .int 0, .int 0, .int 0, .int 0, .int 0, .int (-1), .ref a7, .ref a8, .int 0, .ref a9, .ref b0, .int 0]))]) [0] (by decide) rfl
  have hFc := va_free (wc := [(h0, .inr (8, [.ref a1, .ref a2, .ref a3, .ref a4, .ref a5, .int 0, .int x6, .ref a6, .int 0, .int 0, .int 0, .int 0, .int 0, .int 0, .int 0, .int 0, .int (-1), .ref a7, .ref a8, .int 0, .ref a9, .ref b0, .int 0]))]) hD hS hA [0] rfl
  refine va_calli (va_runV (As := [.int 1, .int 1]) (rest := []) ⟨hx, hb, hml, hown, hts⟩ (c_X8_isThrown_1 l dC dI cy nb h0 (.ref a1) (.ref a2) (.ref a3) (.ref a4) (.ref a5) (.int 0) (.ref a6) (.int 0) (.int 0) (.int 0) (.int 0) (.int 0) (.int 0) (.int 0) (.int 0) (.int (-1)) (.ref a7) (.ref a8) (.int 0) (.ref a9) (.ref b0) (.int 0) x6 1 H.size) (cwV 2 hts (gV mw_580 mw_581 mw_582 mw_5 mw_583) rfl rfl rfl (by decide +kernel) ⟨Nat.le_of_ble_eq_true rfl, Nat.le_of_ble_eq_true rfl⟩) ⟨fun a U g mk q => by obtain ⟨q0, q1, qP, qK, qD, qE⟩ := q; exact ⟨q0, q1, qP, va_K.moved (u := U) (U := U.calling g mk a) (Vm.Alike.refl U.vm) qK, qD, GE.calling qE⟩, va_recv hK hP (ci := 8) (q0 := 0) rfl rfl, fun U hU hW => ⟨rfl, by rw [hU], by rw [hU]; exact hPc, va_K.moved hW.alike hK, hDc.weaken (fun _ _ _ _ => trivial), GE.call hE hS hFc hU hW⟩⟩ rfl rfl hl.1 rfl (lv_room (Nat.le_of_ble_eq_true rfl)) dX8_count_11 ⟨Nat.le_of_ble_eq_true rfl, Nat.le_of_ble_eq_true rfl⟩) hS (fun q _ h => hFc q h) hFc (fun r u t H1 locs ht hvm hw2 hB hz1 hk1 hS => ?_)
  obtain ⟨hP1, hD1⟩ := hB
  rw [ht] at hP1
  obtain ⟨hP, hD⟩ := va_join (wr := [(a1, .inl (cy 1, 1037, .inl g))]) (w1 := [(h0, .inr (8, [.ref a1, .ref a2, .ref a3, .ref a4, .ref a5, .int 0, .int 0, .ref a6, .int 0, .int 0, .int 0, .int 0, .int 0, .int 0, .int 0, .int 0, .int (-1), .ref a7, .ref a8, .int 0, .ref a9, .ref b0, .int 0]))]) hP hD [0] [1] rfl rfl (by decide) (by decide) hk1 hFc hP1 hD1
  generalize H1 = H at hP hS ⊢
  have hP : va_P (dC, dI) vwCl [(a1, .inl (cy 1, 1037, .inl g)), (h0, .inr (8, [.ref a1, .ref a2, .ref a3, .ref a4, .ref a5, .int 0, .int 0, .ref a6, .int 0, .int 0, .int 0, .int 0, .int 0, .int 0, .int 0, .int 0, .int (-1), .ref a7, .ref a8, .int 0, .ref a9, .ref b0, .int 0]))] H := hP
  have hD : va_D A [(a1, .inl (cy 1, 1037, .inl g)), (h0, .inr (8, [.ref a1, .ref a2, .ref a3, .ref a4, .ref a5, .int 0, .int 0, .ref a6, .int 0, .int 0, .int 0, .int 0, .int 0, .int 0, .int 0, .int 0, .int (-1), .ref a7, .ref a8, .int 0, .ref a9, .ref b0, .int 0]))] := hD
  obtain rfl := hw2
  refine W.widen (k := 0) (n := 0) (by omega) (by omega) ?_
  refine lv_if_eq (tgt := 19) hx hb dX8_count_14 (by decide) (fun _ => ?_) (fun h => absurd (by decide) h)
  refine lv_iload_n hx hb dX8_count_19 rfl (lv_at hl 1 rfl) ?_
  refine lv_tableIn (off := 92) (tgt := 112) hx hb dX8_count_20 (by decide) (by decide) (by decide) (by decide) ?_
  refine lv_aload_n hx hb dX8_count_112 rfl (lv_at hl 0 rfl) ?_
  refine lv_iload_n hx hb dX8_count_113 rfl (lv_at hl 1 rfl) ?_
  refine lv_iconst (v := 4) hx hb dX8_count_114 (by decide) ?_
  refine lv_isub hx hb dX8_count_115 ?_
  refine my_topi (y := 4) (by decide) ?_
  have hPc := hP.sub (ws' := [(h0, .inr (8, [.ref a1, .ref a2, .ref a3, .ref a4, .ref a5, .int 0, .int 0, .ref a6, .int 0, .int 0, .int 0, .int 0, .int 0, .int 0, .int 0, .int 0, .int (-1), .ref a7, .ref a8, .int 0, .ref a9, .ref b0, .int 0])), (a1, .inl (cy 1, 1037, .inl g))]) [1, 0] rfl
  have hDc := hD.sub (ws' := [(h0, .inr (8, [.ref a1, .ref a2, .ref a3, .ref a4, .ref a5, .int 0, .int 0, .ref a6, .int 0, .int 0, .int 0, .int 0, .int 0, .int 0, .int 0, .int 0, .int (-1), .ref a7, .ref a8, .int 0, .ref a9, .ref b0, .int 0])), (a1, .inl (cy 1, 1037, .inl g))]) [1, 0] (by decide) rfl
  have hFc := va_free (wc := [(h0, .inr (8, [.ref a1, .ref a2, .ref a3, .ref a4, .ref a5, .int 0, .int 0, .ref a6, .int 0, .int 0, .int 0, .int 0, .int 0, .int 0, .int 0, .int 0, .int (-1), .ref a7, .ref a8, .int 0, .ref a9, .ref b0, .int 0])), (a1, .inl (cy 1, 1037, .inl g))]) hD hS hA [1, 0] rfl
  refine va_calli (va_runV (As := [.int 4]) (rest := []) ⟨hx, hb, hml, hown, hts⟩ (c_X8_inState_4 l dC dI cy nb h0 a1 a2 a3 a4 a5 a6 a7 a8 a9 b0 0 g H.size hg) (cwV 1 hts (gV mw_584 mw_585 mw_586 mw_5 mw_587) rfl rfl rfl (by decide +kernel) ⟨Nat.le_of_ble_eq_true rfl, Nat.le_of_ble_eq_true rfl⟩) ⟨fun a U g mk q => by obtain ⟨q0, q1, qP, qK, qD, qE⟩ := q; exact ⟨q0, q1, qP, va_K.moved (u := U) (U := U.calling g mk a) (Vm.Alike.refl U.vm) qK, qD, GE.calling qE⟩, va_recv hK hP (ci := 8) (q0 := 1) rfl rfl, fun U hU hW => ⟨rfl, by rw [hU], by rw [hU]; exact hPc, va_K.moved hW.alike hK, hDc.weaken (fun _ _ _ _ => trivial), GE.call hE hS hFc hU hW⟩⟩ rfl rfl hl.1 rfl (lv_room (Nat.le_of_ble_eq_true rfl)) dX8_count_116 ⟨Nat.le_of_ble_eq_true rfl, Nat.le_of_ble_eq_true rfl⟩) hS (fun q _ h => hFc q h) hFc (fun r u t H1 locs ht hvm hw3 hB hz1 hk1 hS => ?_)
  obtain ⟨hP1, hD1⟩ := hB
  rw [ht] at hP1
  obtain ⟨hP, hD⟩ := va_join (wr := []) (w1 := [(h0, .inr (8, [.ref a1, .ref a2, .ref a3, .ref a4, .ref a5, .int 0, .int 0, .ref a6, .int 0, .int 0, .int 0, .int 0, .int 0, .int 0, .int 0, .int 0, .int (-1), .ref a7, .ref a8, .int 0, .ref a9, .ref b0, .int 0])), (a1, .inl (cy 1, 1037, .inl g))]) hP hD [1, 0] [] rfl rfl (by decide) (by decide) hk1 hFc hP1 hD1
  generalize H1 = H at hP hS ⊢
  have hP : va_P (dC, dI) vwCl [(h0, .inr (8, [.ref a1, .ref a2, .ref a3, .ref a4, .ref a5, .int 0, .int 0, .ref a6, .int 0, .int 0, .int 0, .int 0, .int 0, .int 0, .int 0, .int 0, .int (-1), .ref a7, .ref a8, .int 0, .ref a9, .ref b0, .int 0])), (a1, .inl (cy 1, 1037, .inl g))] H := hP
  have hD : va_D A [(h0, .inr (8, [.ref a1, .ref a2, .ref a3, .ref a4, .ref a5, .int 0, .int 0, .ref a6, .int 0, .int 0, .int 0, .int 0, .int 0, .int 0, .int 0, .int 0, .int (-1), .ref a7, .ref a8, .int 0, .ref a9, .ref b0, .int 0])), (a1, .inl (cy 1, 1037, .inl g))] := hD
  obtain rfl := hw3
  refine W.widen (k := 0) (n := 0) (by omega) (by omega) ?_
  have hP9 := hP.sub (ws' := [(h0, .inr (8, [.ref a1, .ref a2, .ref a3, .ref a4, .ref a5, .int 0, .int 0, .ref a6, .int 0, .int 0, .int 0, .int 0, .int 0, .int 0, .int 0, .int 0, .int (-1), .ref a7, .ref a8, .int 0, .ref a9, .ref b0, .int 0]))]) [0] rfl
  have hD9 := hD.sub (ws' := [(h0, .inr (8, [.ref a1, .ref a2, .ref a3, .ref a4, .ref a5, .int 0, .int 0, .ref a6, .int 0, .int 0, .int 0, .int 0, .int 0, .int 0, .int 0, .int 0, .int (-1), .ref a7, .ref a8, .int 0, .ref a9, .ref b0, .int 0]))]) [0] (by decide) rfl
  refine W.widen (k := 0) (n := 0) (by omega) (by omega) ?_
  exact W.iret (v := 0) hx hb hr (fun t ht hW => ⟨⟨0, (), rfl, rfl, by rw [ht]; exact hP9, hD9⟩, hS.F ht⟩) hS.2.2 dX8_count_119
set_option maxHeartbeats 4000000 in
set_option maxRecDepth 100000 in
/-- X8_setting -/
theorem c_X8_setting_0 (l : Launch) (dC : Nat → ClassId) (dI : Nat → Nat → Nat) (cy : Nat → ClassId) (nb : Nat → Nat) (h0 : Nat) (a1 : Nat) (a2 : Nat) (a3 : Nat) (a4 : Nat) (a5 : Nat) (a6 : Nat) (a7 : Nat) (a8 : Nat) (a9 : Nat) (b0 : Nat) (x6 : Int32) (g : Nat → Int32) (sz : Nat) (hg : FN g) : Met l yX8_setting (wsg yX8_setting cX8_setting 2 (some .int)) ({ frames := 15, cells := 0, slots := 0, locals := 1000 }) (va_Pc [.ref h0, .int 0] (fun U => U.heap.size = sz ∧ va_P (dC, dI) vwCl [(h0, .inr (8, [.ref a1, .ref a2, .ref a3, .ref a4, .ref a5, .int 0, .int x6, .ref a6, .int 0, .int 0, .int 0, .int 0, .int 0, .int 0, .int 0, .int 0, .int (-1), .ref a7, .ref a8, .int 0, .ref a9, .ref b0, .int 0])), (a1, .inl (cy 1, 1037, .inl g))] U.heap ∧ va_K (dC, dI) vwCl (tyL cy) U ∧ va_D (fun _ => True) [(h0, .inr (8, [.ref a1, .ref a2, .ref a3, .ref a4, .ref a5, .int 0, .int x6, .ref a6, .int 0, .int 0, .int 0, .int 0, .int 0, .int 0, .int 0, .int 0, .int (-1), .ref a7, .ref a8, .int 0, .ref a9, .ref b0, .int 0])), (a1, .inl (cy 1, 1037, .inl g))] ∧ GE nb (va_A [(h0, .inr (8, [.ref a1, .ref a2, .ref a3, .ref a4, .ref a5, .int 0, .int x6, .ref a6, .int 0, .int 0, .int 0, .int 0, .int 0, .int 0, .int 0, .int 0, .int (-1), .ref a7, .ref a8, .int 0, .ref a9, .ref b0, .int 0])), (a1, .inl (cy 1, 1037, .inl g))] sz) U)) (va_Qi (fun (r : Int32) (_ : Unit) => r = 480) (fun _ t => va_P (dC, dI) vwCl [(h0, .inr (8, [.ref a1, .ref a2, .ref a3, .ref a4, .ref a5, .int 0, .int 0, .ref a6, .int 0, .int 0, .int 0, .int 0, .int 0, .int 0, .int 0, .int 0, .int (-1), .ref a7, .ref a8, .int 0, .ref a9, .ref b0, .int 0]))] t.heap ∧ va_D (va_A [(h0, .inr (8, [.ref a1, .ref a2, .ref a3, .ref a4, .ref a5, .int 0, .int x6, .ref a6, .int 0, .int 0, .int 0, .int 0, .int 0, .int 0, .int 0, .int 0, .int (-1), .ref a7, .ref a8, .int 0, .ref a9, .ref b0, .int 0])), (a1, .inl (cy 1, 1037, .inl g))] sz) [(h0, .inr (8, [.ref a1, .ref a2, .ref a3, .ref a4, .ref a5, .int 0, .int 0, .ref a6, .int 0, .int 0, .int 0, .int 0, .int 0, .int 0, .int 0, .int 0, .int (-1), .ref a7, .ref a8, .int 0, .ref a9, .ref b0, .int 0]))]) (va_A [(h0, .inr (8, [.ref a1, .ref a2, .ref a3, .ref a4, .ref a5, .int 0, .int x6, .ref a6, .int 0, .int 0, .int 0, .int 0, .int 0, .int 0, .int 0, .int 0, .int (-1), .ref a7, .ref a8, .int 0, .ref a9, .ref b0, .int 0])), (a1, .inl (cy 1, 1037, .inl g))] sz)) 0 0 (va_A [(h0, .inr (8, [.ref a1, .ref a2, .ref a3, .ref a4, .ref a5, .int 0, .int x6, .ref a6, .int 0, .int 0, .int 0, .int 0, .int 0, .int 0, .int 0, .int 0, .int (-1), .ref a7, .ref a8, .int 0, .ref a9, .ref b0, .int 0])), (a1, .inl (cy 1, 1037, .inl g))] sz) := by
  refine Met.ofW (cc := cX8_setting) (maxL := 2) (ret := (some .int)) (by decide) rfl ?_
  intro p e s m args below meth c s₁ B hml hv
  obtain ⟨rfl, hsz, hP, hK, hD0, hE⟩ := hv
  have hx := B.exec
  have hb := B.bytes
  have hr := B.returns
  have hts0 := atoms_spec (ws := (wsg yX8_setting cX8_setting 2 (some .int))) B.pre
  have hts : ∀ w ∈ wsL_law, w.before _ s = true := fun w h => hts0 w (List.mem_cons_of_mem _ h)
  have hown : s.vm.findClass RX8 = some m.cls := findClass_of_methodNamed B.named
  have hlocks := B.notSynchronized
  subst hsz
  have hD := hD0.self (sz := s.heap.size)
  generalize hAe : va_A [(h0, .inr (8, [.ref a1, .ref a2, .ref a3, .ref a4, .ref a5, .int 0, .int x6, .ref a6, .int 0, .int 0, .int 0, .int 0, .int 0, .int 0, .int 0, .int 0, .int (-1), .ref a7, .ref a8, .int 0, .ref a9, .ref b0, .int 0])), (a1, .inl (cy 1, 1037, .inl g))] s.heap.size = A at hD hE ⊢
  have hA : ∀ q : Nat, s.heap.size ≤ q → A q := fun q h => by rw [← hAe]; exact Or.inr h
  have hS : va_S A s.heap s.heap [] := va_S.rf
  have hP : va_P (dC, dI) vwCl [(h0, .inr (8, [.ref a1, .ref a2, .ref a3, .ref a4, .ref a5, .int 0, .int x6, .ref a6, .int 0, .int 0, .int 0, .int 0, .int 0, .int 0, .int 0, .int 0, .int (-1), .ref a7, .ref a8, .int 0, .ref a9, .ref b0, .int 0])), (a1, .inl (cy 1, 1037, .inl g))] s.heap := hP
  have hl := lv_entry ([.ref h0, .int 0]) (n := 2) (Nat.le_of_ble_eq_true rfl)
  rw [lg_entry_eq]
  generalize (lg_sl ([.ref h0, .int 0]) ++ List.replicate (2 - (lg_sl ([.ref h0, .int 0])).length) Slot.unset).toArray = ls at hl ⊢
  have hl : lv_has ls 2 [(0, .ref h0), (1, .int 0)] := hl
  generalize hHe : s.heap = H at hP hS ⊢
  have hS : va_S A s.heap H [] := by rw [hHe]; exact hS
  refine lv_aload_n hx hb dX8_setting_0 rfl (lv_at hl 0 rfl) ?_
  refine lv_iload_n hx hb dX8_setting_1 rfl (lv_at hl 1 rfl) ?_
  refine lv_i2l (v := 0) hx hb dX8_setting_2 (by decide) ?_
  refine lv_lconst (v := 0) hx hb dX8_setting_3 (by decide) ?_
  refine lv_ldc2 hx hb hown (hts _ mw_612) dX8_setting_4 ?_
  have hPc := hP.sub (ws' := []) [] rfl
  have hDc := hD.sub (ws' := []) [] (by decide) rfl
  have hFc := va_free (wc := []) hD hS hA [] rfl
  refine va_calli (va_runS (As := [.long 0, .long 0, .long 4]) (rest := [.ref h0]) ⟨hx, hb, hml, hown, hts⟩ (c_X8_in l dC dI cy nb 0 0 4 H.size) (va_cwS 3 hts (gS mw_445 mw_446 mw_5 mw_447) rfl rfl rfl (by decide +kernel) ⟨Nat.le_of_ble_eq_true rfl, Nat.le_of_ble_eq_true rfl⟩) ⟨fun a U g mk q => by obtain ⟨q0, q1, qP, qK, qD, qE⟩ := q; exact ⟨q0, q1, qP, va_K.moved (u := U) (U := U.calling g mk a) (Vm.Alike.refl U.vm) qK, qD, GE.calling qE⟩, fun U hU hW => ⟨rfl, by rw [hU], by rw [hU]; exact hPc, va_K.moved hW.alike hK, hDc.weaken (fun _ _ _ _ => trivial), GE.call hE hS hFc hU hW⟩⟩ rfl rfl hl.1 rfl (lv_room (Nat.le_of_ble_eq_true rfl)) dX8_setting_7 ⟨Nat.le_of_ble_eq_true rfl, Nat.le_of_ble_eq_true rfl⟩) hS (fun q _ h => hFc q h) hFc (fun r u t H1 locs ht hvm hw1 hB hz1 hk1 hS => ?_)
  obtain ⟨hP1, hD1⟩ := hB
  rw [ht] at hP1
  obtain ⟨hP, hD⟩ := va_join (wr := [(h0, .inr (8, [.ref a1, .ref a2, .ref a3, .ref a4, .ref a5, .int 0, .int x6, .ref a6, .int 0, .int 0, .int 0, .int 0, .int 0, .int 0, .int 0, .int 0, .int (-1), .ref a7, .ref a8, .int 0, .ref a9, .ref b0, .int 0])), (a1, .inl (cy 1, 1037, .inl g))]) (w1 := []) hP hD [] [0, 1] rfl rfl (by decide) (by decide) hk1 hFc hP1 hD1
  generalize H1 = H at hP hS ⊢
  have hP : va_P (dC, dI) vwCl [(h0, .inr (8, [.ref a1, .ref a2, .ref a3, .ref a4, .ref a5, .int 0, .int x6, .ref a6, .int 0, .int 0, .int 0, .int 0, .int 0, .int 0, .int 0, .int 0, .int (-1), .ref a7, .ref a8, .int 0, .ref a9, .ref b0, .int 0])), (a1, .inl (cy 1, 1037, .inl g))] H := hP
  have hD : va_D A [(h0, .inr (8, [.ref a1, .ref a2, .ref a3, .ref a4, .ref a5, .int 0, .int x6, .ref a6, .int 0, .int 0, .int 0, .int 0, .int 0, .int 0, .int 0, .int 0, .int (-1), .ref a7, .ref a8, .int 0, .ref a9, .ref b0, .int 0])), (a1, .inl (cy 1, 1037, .inl g))] := hD
  obtain rfl := hw1
  refine my_topi (y := 1) (by decide) ?_
  refine W.widen (k := 0) (n := 0) (by omega) (by omega) ?_
  refine lv_iconst (v := 1) hx hb dX8_setting_10 (by decide) ?_
  have hPc := hP.sub (ws' := [(h0, .inr (8, [.ref a1, .ref a2, .ref a3, .ref a4, .ref a5, .int 0, .int x6, .ref a6, .int 0, .int 0, .int 0, .int 0, .int 0, .int 0, .int 0, .int 0, .int (-1), .ref a7, .ref a8, .int 0, .ref a9, .ref b0, .int 0]))]) [0] rfl
  have hDc := hD.sub (ws' := [(h0, .inr (8, [.ref a1, .ref a2, .ref a3, .ref a4, .ref a5, .int 0, .int x6, .ref a6, .int 0, .int 0, .int 0, .int 0, .int 0, .int 0, .int 0, .int 0, .int (-1), .ref a7, .ref a8, .int 0, .ref a9, .ref b0, .int 0]))]) [0] (by decide) rfl
  have hFc := va_free (wc := [(h0, .inr (8, [.ref a1, .ref a2, .ref a3, .ref a4, .ref a5, .int 0, .int x6, .ref a6, .int 0, .int 0, .int 0, .int 0, .int 0, .int 0, .int 0, .int 0, .int (-1), .ref a7, .ref a8, .int 0, .ref a9, .ref b0, .int 0]))]) hD hS hA [0] rfl
  refine va_calli (va_runV (As := [.int 1, .int 1]) (rest := []) ⟨hx, hb, hml, hown, hts⟩ (c_X8_isThrown_1 l dC dI cy nb h0 (.ref a1) (.ref a2) (.ref a3) (.ref a4) (.ref a5) (.int 0) (.ref a6) (.int 0) (.int 0) (.int 0) (.int 0) (.int 0) (.int 0) (.int 0) (.int 0) (.int (-1)) (.ref a7) (.ref a8) (.int 0) (.ref a9) (.ref b0) (.int 0) x6 1 H.size) (cwV 2 hts (gV mw_580 mw_581 mw_582 mw_5 mw_583) rfl rfl rfl (by decide +kernel) ⟨Nat.le_of_ble_eq_true rfl, Nat.le_of_ble_eq_true rfl⟩) ⟨fun a U g mk q => by obtain ⟨q0, q1, qP, qK, qD, qE⟩ := q; exact ⟨q0, q1, qP, va_K.moved (u := U) (U := U.calling g mk a) (Vm.Alike.refl U.vm) qK, qD, GE.calling qE⟩, va_recv hK hP (ci := 8) (q0 := 0) rfl rfl, fun U hU hW => ⟨rfl, by rw [hU], by rw [hU]; exact hPc, va_K.moved hW.alike hK, hDc.weaken (fun _ _ _ _ => trivial), GE.call hE hS hFc hU hW⟩⟩ rfl rfl hl.1 rfl (lv_room (Nat.le_of_ble_eq_true rfl)) dX8_setting_11 ⟨Nat.le_of_ble_eq_true rfl, Nat.le_of_ble_eq_true rfl⟩) hS (fun q _ h => hFc q h) hFc (fun r u t H1 locs ht hvm hw2 hB hz1 hk1 hS => ?_)
  obtain ⟨hP1, hD1⟩ := hB
  rw [ht] at hP1
  obtain ⟨hP, hD⟩ := va_join (wr := [(a1, .inl (cy 1, 1037, .inl g))]) (w1 := [(h0, .inr (8, [.ref a1, .ref a2, .ref a3, .ref a4, .ref a5, .int 0, .int 0, .ref a6, .int 0, .int 0, .int 0, .int 0, .int 0, .int 0, .int 0, .int 0, .int (-1), .ref a7, .ref a8, .int 0, .ref a9, .ref b0, .int 0]))]) hP hD [0] [1] rfl rfl (by decide) (by decide) hk1 hFc hP1 hD1
  generalize H1 = H at hP hS ⊢
  have hP : va_P (dC, dI) vwCl [(a1, .inl (cy 1, 1037, .inl g)), (h0, .inr (8, [.ref a1, .ref a2, .ref a3, .ref a4, .ref a5, .int 0, .int 0, .ref a6, .int 0, .int 0, .int 0, .int 0, .int 0, .int 0, .int 0, .int 0, .int (-1), .ref a7, .ref a8, .int 0, .ref a9, .ref b0, .int 0]))] H := hP
  have hD : va_D A [(a1, .inl (cy 1, 1037, .inl g)), (h0, .inr (8, [.ref a1, .ref a2, .ref a3, .ref a4, .ref a5, .int 0, .int 0, .ref a6, .int 0, .int 0, .int 0, .int 0, .int 0, .int 0, .int 0, .int 0, .int (-1), .ref a7, .ref a8, .int 0, .ref a9, .ref b0, .int 0]))] := hD
  obtain rfl := hw2
  refine W.widen (k := 0) (n := 0) (by omega) (by omega) ?_
  refine lv_if_eq (tgt := 21) hx hb dX8_setting_14 (by decide) (fun _ => ?_) (fun h => absurd (by decide) h)
  refine lv_aload_n hx hb dX8_setting_21 rfl (lv_at hl 0 rfl) ?_
  refine va_get (D := (dC, dI)) (ci := 8) (v := .ref a1) (C := RX8) (T := TX8) (N := 23) hx hb hts inlX8 hown hK hP 1 rfl rfl 0 (by decide) (hts _ mw_97) (fun _ h9 => h9) rfl dX8_setting_22 ?_
  refine lv_iload_n hx hb dX8_setting_25 rfl (lv_at hl 1 rfl) ?_
  refine va_iald hx hb hK hP 0 1 rfl rfl (vp_in_nI (n := 0) (by decide) (by decide)) dX8_setting_26 ?_
  refine my_topi (y := 480) (by exact hg.1) ?_
  have hP9 := hP.sub (ws' := [(h0, .inr (8, [.ref a1, .ref a2, .ref a3, .ref a4, .ref a5, .int 0, .int 0, .ref a6, .int 0, .int 0, .int 0, .int 0, .int 0, .int 0, .int 0, .int 0, .int (-1), .ref a7, .ref a8, .int 0, .ref a9, .ref b0, .int 0]))]) [1] rfl
  have hD9 := hD.sub (ws' := [(h0, .inr (8, [.ref a1, .ref a2, .ref a3, .ref a4, .ref a5, .int 0, .int 0, .ref a6, .int 0, .int 0, .int 0, .int 0, .int 0, .int 0, .int 0, .int 0, .int (-1), .ref a7, .ref a8, .int 0, .ref a9, .ref b0, .int 0]))]) [1] (by decide) rfl
  refine W.widen (k := 0) (n := 0) (by omega) (by omega) ?_
  exact W.iret (v := 480) hx hb hr (fun t ht hW => ⟨⟨480, (), rfl, rfl, by rw [ht]; exact hP9, hD9⟩, hS.F ht⟩) hS.2.2 dX8_setting_27
set_option maxHeartbeats 4000000 in
set_option maxRecDepth 100000 in
/-- X8_setting -/
theorem c_X8_setting_1 (l : Launch) (dC : Nat → ClassId) (dI : Nat → Nat → Nat) (cy : Nat → ClassId) (nb : Nat → Nat) (h0 : Nat) (a1 : Nat) (a2 : Nat) (a3 : Nat) (a4 : Nat) (a5 : Nat) (a6 : Nat) (a7 : Nat) (a8 : Nat) (a9 : Nat) (b0 : Nat) (x6 : Int32) (g : Nat → Int32) (sz : Nat) (hg : FN g) : Met l yX8_setting (wsg yX8_setting cX8_setting 2 (some .int)) ({ frames := 15, cells := 0, slots := 0, locals := 1000 }) (va_Pc [.ref h0, .int 1] (fun U => U.heap.size = sz ∧ va_P (dC, dI) vwCl [(h0, .inr (8, [.ref a1, .ref a2, .ref a3, .ref a4, .ref a5, .int 0, .int x6, .ref a6, .int 0, .int 0, .int 0, .int 0, .int 0, .int 0, .int 0, .int 0, .int (-1), .ref a7, .ref a8, .int 0, .ref a9, .ref b0, .int 0])), (a1, .inl (cy 1, 1037, .inl g))] U.heap ∧ va_K (dC, dI) vwCl (tyL cy) U ∧ va_D (fun _ => True) [(h0, .inr (8, [.ref a1, .ref a2, .ref a3, .ref a4, .ref a5, .int 0, .int x6, .ref a6, .int 0, .int 0, .int 0, .int 0, .int 0, .int 0, .int 0, .int 0, .int (-1), .ref a7, .ref a8, .int 0, .ref a9, .ref b0, .int 0])), (a1, .inl (cy 1, 1037, .inl g))] ∧ GE nb (va_A [(h0, .inr (8, [.ref a1, .ref a2, .ref a3, .ref a4, .ref a5, .int 0, .int x6, .ref a6, .int 0, .int 0, .int 0, .int 0, .int 0, .int 0, .int 0, .int 0, .int (-1), .ref a7, .ref a8, .int 0, .ref a9, .ref b0, .int 0])), (a1, .inl (cy 1, 1037, .inl g))] sz) U)) (va_Qi (fun (r : Int32) (_ : Unit) => r = 1) (fun _ t => va_P (dC, dI) vwCl [(h0, .inr (8, [.ref a1, .ref a2, .ref a3, .ref a4, .ref a5, .int 0, .int 0, .ref a6, .int 0, .int 0, .int 0, .int 0, .int 0, .int 0, .int 0, .int 0, .int (-1), .ref a7, .ref a8, .int 0, .ref a9, .ref b0, .int 0]))] t.heap ∧ va_D (va_A [(h0, .inr (8, [.ref a1, .ref a2, .ref a3, .ref a4, .ref a5, .int 0, .int x6, .ref a6, .int 0, .int 0, .int 0, .int 0, .int 0, .int 0, .int 0, .int 0, .int (-1), .ref a7, .ref a8, .int 0, .ref a9, .ref b0, .int 0])), (a1, .inl (cy 1, 1037, .inl g))] sz) [(h0, .inr (8, [.ref a1, .ref a2, .ref a3, .ref a4, .ref a5, .int 0, .int 0, .ref a6, .int 0, .int 0, .int 0, .int 0, .int 0, .int 0, .int 0, .int 0, .int (-1), .ref a7, .ref a8, .int 0, .ref a9, .ref b0, .int 0]))]) (va_A [(h0, .inr (8, [.ref a1, .ref a2, .ref a3, .ref a4, .ref a5, .int 0, .int x6, .ref a6, .int 0, .int 0, .int 0, .int 0, .int 0, .int 0, .int 0, .int 0, .int (-1), .ref a7, .ref a8, .int 0, .ref a9, .ref b0, .int 0])), (a1, .inl (cy 1, 1037, .inl g))] sz)) 0 0 (va_A [(h0, .inr (8, [.ref a1, .ref a2, .ref a3, .ref a4, .ref a5, .int 0, .int x6, .ref a6, .int 0, .int 0, .int 0, .int 0, .int 0, .int 0, .int 0, .int 0, .int (-1), .ref a7, .ref a8, .int 0, .ref a9, .ref b0, .int 0])), (a1, .inl (cy 1, 1037, .inl g))] sz) := by
  refine Met.ofW (cc := cX8_setting) (maxL := 2) (ret := (some .int)) (by decide) rfl ?_
  intro p e s m args below meth c s₁ B hml hv
  obtain ⟨rfl, hsz, hP, hK, hD0, hE⟩ := hv
  have hx := B.exec
  have hb := B.bytes
  have hr := B.returns
  have hts0 := atoms_spec (ws := (wsg yX8_setting cX8_setting 2 (some .int))) B.pre
  have hts : ∀ w ∈ wsL_law, w.before _ s = true := fun w h => hts0 w (List.mem_cons_of_mem _ h)
  have hown : s.vm.findClass RX8 = some m.cls := findClass_of_methodNamed B.named
  have hlocks := B.notSynchronized
  subst hsz
  have hD := hD0.self (sz := s.heap.size)
  generalize hAe : va_A [(h0, .inr (8, [.ref a1, .ref a2, .ref a3, .ref a4, .ref a5, .int 0, .int x6, .ref a6, .int 0, .int 0, .int 0, .int 0, .int 0, .int 0, .int 0, .int 0, .int (-1), .ref a7, .ref a8, .int 0, .ref a9, .ref b0, .int 0])), (a1, .inl (cy 1, 1037, .inl g))] s.heap.size = A at hD hE ⊢
  have hA : ∀ q : Nat, s.heap.size ≤ q → A q := fun q h => by rw [← hAe]; exact Or.inr h
  have hS : va_S A s.heap s.heap [] := va_S.rf
  have hP : va_P (dC, dI) vwCl [(h0, .inr (8, [.ref a1, .ref a2, .ref a3, .ref a4, .ref a5, .int 0, .int x6, .ref a6, .int 0, .int 0, .int 0, .int 0, .int 0, .int 0, .int 0, .int 0, .int (-1), .ref a7, .ref a8, .int 0, .ref a9, .ref b0, .int 0])), (a1, .inl (cy 1, 1037, .inl g))] s.heap := hP
  have hl := lv_entry ([.ref h0, .int 1]) (n := 2) (Nat.le_of_ble_eq_true rfl)
  rw [lg_entry_eq]
  generalize (lg_sl ([.ref h0, .int 1]) ++ List.replicate (2 - (lg_sl ([.ref h0, .int 1])).length) Slot.unset).toArray = ls at hl ⊢
  have hl : lv_has ls 2 [(0, .ref h0), (1, .int 1)] := hl
  generalize hHe : s.heap = H at hP hS ⊢
  have hS : va_S A s.heap H [] := by rw [hHe]; exact hS
  refine lv_aload_n hx hb dX8_setting_0 rfl (lv_at hl 0 rfl) ?_
  refine lv_iload_n hx hb dX8_setting_1 rfl (lv_at hl 1 rfl) ?_
  refine lv_i2l (v := 1) hx hb dX8_setting_2 (by decide) ?_
  refine lv_lconst (v := 0) hx hb dX8_setting_3 (by decide) ?_
  refine lv_ldc2 hx hb hown (hts _ mw_612) dX8_setting_4 ?_
  have hPc := hP.sub (ws' := []) [] rfl
  have hDc := hD.sub (ws' := []) [] (by decide) rfl
  have hFc := va_free (wc := []) hD hS hA [] rfl
  refine va_calli (va_runS (As := [.long 1, .long 0, .long 4]) (rest := [.ref h0]) ⟨hx, hb, hml, hown, hts⟩ (c_X8_in l dC dI cy nb 1 0 4 H.size) (va_cwS 3 hts (gS mw_445 mw_446 mw_5 mw_447) rfl rfl rfl (by decide +kernel) ⟨Nat.le_of_ble_eq_true rfl, Nat.le_of_ble_eq_true rfl⟩) ⟨fun a U g mk q => by obtain ⟨q0, q1, qP, qK, qD, qE⟩ := q; exact ⟨q0, q1, qP, va_K.moved (u := U) (U := U.calling g mk a) (Vm.Alike.refl U.vm) qK, qD, GE.calling qE⟩, fun U hU hW => ⟨rfl, by rw [hU], by rw [hU]; exact hPc, va_K.moved hW.alike hK, hDc.weaken (fun _ _ _ _ => trivial), GE.call hE hS hFc hU hW⟩⟩ rfl rfl hl.1 rfl (lv_room (Nat.le_of_ble_eq_true rfl)) dX8_setting_7 ⟨Nat.le_of_ble_eq_true rfl, Nat.le_of_ble_eq_true rfl⟩) hS (fun q _ h => hFc q h) hFc (fun r u t H1 locs ht hvm hw1 hB hz1 hk1 hS => ?_)
  obtain ⟨hP1, hD1⟩ := hB
  rw [ht] at hP1
  obtain ⟨hP, hD⟩ := va_join (wr := [(h0, .inr (8, [.ref a1, .ref a2, .ref a3, .ref a4, .ref a5, .int 0, .int x6, .ref a6, .int 0, .int 0, .int 0, .int 0, .int 0, .int 0, .int 0, .int 0, .int (-1), .ref a7, .ref a8, .int 0, .ref a9, .ref b0, .int 0])), (a1, .inl (cy 1, 1037, .inl g))]) (w1 := []) hP hD [] [0, 1] rfl rfl (by decide) (by decide) hk1 hFc hP1 hD1
  generalize H1 = H at hP hS ⊢
  have hP : va_P (dC, dI) vwCl [(h0, .inr (8, [.ref a1, .ref a2, .ref a3, .ref a4, .ref a5, .int 0, .int x6, .ref a6, .int 0, .int 0, .int 0, .int 0, .int 0, .int 0, .int 0, .int 0, .int (-1), .ref a7, .ref a8, .int 0, .ref a9, .ref b0, .int 0])), (a1, .inl (cy 1, 1037, .inl g))] H := hP
  have hD : va_D A [(h0, .inr (8, [.ref a1, .ref a2, .ref a3, .ref a4, .ref a5, .int 0, .int x6, .ref a6, .int 0, .int 0, .int 0, .int 0, .int 0, .int 0, .int 0, .int 0, .int (-1), .ref a7, .ref a8, .int 0, .ref a9, .ref b0, .int 0])), (a1, .inl (cy 1, 1037, .inl g))] := hD
  obtain rfl := hw1
  refine my_topi (y := 1) (by decide) ?_
  refine W.widen (k := 0) (n := 0) (by omega) (by omega) ?_
  refine lv_iconst (v := 1) hx hb dX8_setting_10 (by decide) ?_
  have hPc := hP.sub (ws' := [(h0, .inr (8, [.ref a1, .ref a2, .ref a3, .ref a4, .ref a5, .int 0, .int x6, .ref a6, .int 0, .int 0, .int 0, .int 0, .int 0, .int 0, .int 0, .int 0, .int (-1), .ref a7, .ref a8, .int 0, .ref a9, .ref b0, .int 0]))]) [0] rfl
  have hDc := hD.sub (ws' := [(h0, .inr (8, [.ref a1, .ref a2, .ref a3, .ref a4, .ref a5, .int 0, .int x6, .ref a6, .int 0, .int 0, .int 0, .int 0, .int 0, .int 0, .int 0, .int 0, .int (-1), .ref a7, .ref a8, .int 0, .ref a9, .ref b0, .int 0]))]) [0] (by decide) rfl
  have hFc := va_free (wc := [(h0, .inr (8, [.ref a1, .ref a2, .ref a3, .ref a4, .ref a5, .int 0, .int x6, .ref a6, .int 0, .int 0, .int 0, .int 0, .int 0, .int 0, .int 0, .int 0, .int (-1), .ref a7, .ref a8, .int 0, .ref a9, .ref b0, .int 0]))]) hD hS hA [0] rfl
  refine va_calli (va_runV (As := [.int 1, .int 1]) (rest := []) ⟨hx, hb, hml, hown, hts⟩ (c_X8_isThrown_1 l dC dI cy nb h0 (.ref a1) (.ref a2) (.ref a3) (.ref a4) (.ref a5) (.int 0) (.ref a6) (.int 0) (.int 0) (.int 0) (.int 0) (.int 0) (.int 0) (.int 0) (.int 0) (.int (-1)) (.ref a7) (.ref a8) (.int 0) (.ref a9) (.ref b0) (.int 0) x6 1 H.size) (cwV 2 hts (gV mw_580 mw_581 mw_582 mw_5 mw_583) rfl rfl rfl (by decide +kernel) ⟨Nat.le_of_ble_eq_true rfl, Nat.le_of_ble_eq_true rfl⟩) ⟨fun a U g mk q => by obtain ⟨q0, q1, qP, qK, qD, qE⟩ := q; exact ⟨q0, q1, qP, va_K.moved (u := U) (U := U.calling g mk a) (Vm.Alike.refl U.vm) qK, qD, GE.calling qE⟩, va_recv hK hP (ci := 8) (q0 := 0) rfl rfl, fun U hU hW => ⟨rfl, by rw [hU], by rw [hU]; exact hPc, va_K.moved hW.alike hK, hDc.weaken (fun _ _ _ _ => trivial), GE.call hE hS hFc hU hW⟩⟩ rfl rfl hl.1 rfl (lv_room (Nat.le_of_ble_eq_true rfl)) dX8_setting_11 ⟨Nat.le_of_ble_eq_true rfl, Nat.le_of_ble_eq_true rfl⟩) hS (fun q _ h => hFc q h) hFc (fun r u t H1 locs ht hvm hw2 hB hz1 hk1 hS => ?_)
  obtain ⟨hP1, hD1⟩ := hB
  rw [ht] at hP1
  obtain ⟨hP, hD⟩ := va_join (wr := [(a1, .inl (cy 1, 1037, .inl g))]) (w1 := [(h0, .inr (8, [.ref a1, .ref a2, .ref a3, .ref a4, .ref a5, .int 0, .int 0, .ref a6, .int 0, .int 0, .int 0, .int 0, .int 0, .int 0, .int 0, .int 0, .int (-1), .ref a7, .ref a8, .int 0, .ref a9, .ref b0, .int 0]))]) hP hD [0] [1] rfl rfl (by decide) (by decide) hk1 hFc hP1 hD1
  generalize H1 = H at hP hS ⊢
  have hP : va_P (dC, dI) vwCl [(a1, .inl (cy 1, 1037, .inl g)), (h0, .inr (8, [.ref a1, .ref a2, .ref a3, .ref a4, .ref a5, .int 0, .int 0, .ref a6, .int 0, .int 0, .int 0, .int 0, .int 0, .int 0, .int 0, .int 0, .int (-1), .ref a7, .ref a8, .int 0, .ref a9, .ref b0, .int 0]))] H := hP
  have hD : va_D A [(a1, .inl (cy 1, 1037, .inl g)), (h0, .inr (8, [.ref a1, .ref a2, .ref a3, .ref a4, .ref a5, .int 0, .int 0, .ref a6, .int 0, .int 0, .int 0, .int 0, .int 0, .int 0, .int 0, .int 0, .int (-1), .ref a7, .ref a8, .int 0, .ref a9, .ref b0, .int 0]))] := hD
  obtain rfl := hw2
  refine W.widen (k := 0) (n := 0) (by omega) (by omega) ?_
  refine lv_if_eq (tgt := 21) hx hb dX8_setting_14 (by decide) (fun _ => ?_) (fun h => absurd (by decide) h)
  refine lv_aload_n hx hb dX8_setting_21 rfl (lv_at hl 0 rfl) ?_
  refine va_get (D := (dC, dI)) (ci := 8) (v := .ref a1) (C := RX8) (T := TX8) (N := 23) hx hb hts inlX8 hown hK hP 1 rfl rfl 0 (by decide) (hts _ mw_97) (fun _ h9 => h9) rfl dX8_setting_22 ?_
  refine lv_iload_n hx hb dX8_setting_25 rfl (lv_at hl 1 rfl) ?_
  refine va_iald hx hb hK hP 0 1 rfl rfl (vp_in_nI (n := 1) (by decide) (by decide)) dX8_setting_26 ?_
  refine my_topi (y := 1) (by exact hg.2.1) ?_
  have hP9 := hP.sub (ws' := [(h0, .inr (8, [.ref a1, .ref a2, .ref a3, .ref a4, .ref a5, .int 0, .int 0, .ref a6, .int 0, .int 0, .int 0, .int 0, .int 0, .int 0, .int 0, .int 0, .int (-1), .ref a7, .ref a8, .int 0, .ref a9, .ref b0, .int 0]))]) [1] rfl
  have hD9 := hD.sub (ws' := [(h0, .inr (8, [.ref a1, .ref a2, .ref a3, .ref a4, .ref a5, .int 0, .int 0, .ref a6, .int 0, .int 0, .int 0, .int 0, .int 0, .int 0, .int 0, .int 0, .int (-1), .ref a7, .ref a8, .int 0, .ref a9, .ref b0, .int 0]))]) [1] (by decide) rfl
  refine W.widen (k := 0) (n := 0) (by omega) (by omega) ?_
  exact W.iret (v := 1) hx hb hr (fun t ht hW => ⟨⟨1, (), rfl, rfl, by rw [ht]; exact hP9, hD9⟩, hS.F ht⟩) hS.2.2 dX8_setting_27
set_option maxHeartbeats 4000000 in
set_option maxRecDepth 100000 in
/-- X8_setting -/
theorem c_X8_setting_2 (l : Launch) (dC : Nat → ClassId) (dI : Nat → Nat → Nat) (cy : Nat → ClassId) (nb : Nat → Nat) (h0 : Nat) (a1 : Nat) (a2 : Nat) (a3 : Nat) (a4 : Nat) (a5 : Nat) (a6 : Nat) (a7 : Nat) (a8 : Nat) (a9 : Nat) (b0 : Nat) (x6 : Int32) (g : Nat → Int32) (sz : Nat) (hg : FN g) : Met l yX8_setting (wsg yX8_setting cX8_setting 2 (some .int)) ({ frames := 15, cells := 0, slots := 0, locals := 1000 }) (va_Pc [.ref h0, .int 2] (fun U => U.heap.size = sz ∧ va_P (dC, dI) vwCl [(h0, .inr (8, [.ref a1, .ref a2, .ref a3, .ref a4, .ref a5, .int 0, .int x6, .ref a6, .int 0, .int 0, .int 0, .int 0, .int 0, .int 0, .int 0, .int 0, .int (-1), .ref a7, .ref a8, .int 0, .ref a9, .ref b0, .int 0])), (a1, .inl (cy 1, 1037, .inl g))] U.heap ∧ va_K (dC, dI) vwCl (tyL cy) U ∧ va_D (fun _ => True) [(h0, .inr (8, [.ref a1, .ref a2, .ref a3, .ref a4, .ref a5, .int 0, .int x6, .ref a6, .int 0, .int 0, .int 0, .int 0, .int 0, .int 0, .int 0, .int 0, .int (-1), .ref a7, .ref a8, .int 0, .ref a9, .ref b0, .int 0])), (a1, .inl (cy 1, 1037, .inl g))] ∧ GE nb (va_A [(h0, .inr (8, [.ref a1, .ref a2, .ref a3, .ref a4, .ref a5, .int 0, .int x6, .ref a6, .int 0, .int 0, .int 0, .int 0, .int 0, .int 0, .int 0, .int 0, .int (-1), .ref a7, .ref a8, .int 0, .ref a9, .ref b0, .int 0])), (a1, .inl (cy 1, 1037, .inl g))] sz) U)) (va_Qi (fun (r : Int32) (_ : Unit) => r = 1) (fun _ t => va_P (dC, dI) vwCl [(h0, .inr (8, [.ref a1, .ref a2, .ref a3, .ref a4, .ref a5, .int 0, .int 0, .ref a6, .int 0, .int 0, .int 0, .int 0, .int 0, .int 0, .int 0, .int 0, .int (-1), .ref a7, .ref a8, .int 0, .ref a9, .ref b0, .int 0]))] t.heap ∧ va_D (va_A [(h0, .inr (8, [.ref a1, .ref a2, .ref a3, .ref a4, .ref a5, .int 0, .int x6, .ref a6, .int 0, .int 0, .int 0, .int 0, .int 0, .int 0, .int 0, .int 0, .int (-1), .ref a7, .ref a8, .int 0, .ref a9, .ref b0, .int 0])), (a1, .inl (cy 1, 1037, .inl g))] sz) [(h0, .inr (8, [.ref a1, .ref a2, .ref a3, .ref a4, .ref a5, .int 0, .int 0, .ref a6, .int 0, .int 0, .int 0, .int 0, .int 0, .int 0, .int 0, .int 0, .int (-1), .ref a7, .ref a8, .int 0, .ref a9, .ref b0, .int 0]))]) (va_A [(h0, .inr (8, [.ref a1, .ref a2, .ref a3, .ref a4, .ref a5, .int 0, .int x6, .ref a6, .int 0, .int 0, .int 0, .int 0, .int 0, .int 0, .int 0, .int 0, .int (-1), .ref a7, .ref a8, .int 0, .ref a9, .ref b0, .int 0])), (a1, .inl (cy 1, 1037, .inl g))] sz)) 0 0 (va_A [(h0, .inr (8, [.ref a1, .ref a2, .ref a3, .ref a4, .ref a5, .int 0, .int x6, .ref a6, .int 0, .int 0, .int 0, .int 0, .int 0, .int 0, .int 0, .int 0, .int (-1), .ref a7, .ref a8, .int 0, .ref a9, .ref b0, .int 0])), (a1, .inl (cy 1, 1037, .inl g))] sz) := by
  refine Met.ofW (cc := cX8_setting) (maxL := 2) (ret := (some .int)) (by decide) rfl ?_
  intro p e s m args below meth c s₁ B hml hv
  obtain ⟨rfl, hsz, hP, hK, hD0, hE⟩ := hv
  have hx := B.exec
  have hb := B.bytes
  have hr := B.returns
  have hts0 := atoms_spec (ws := (wsg yX8_setting cX8_setting 2 (some .int))) B.pre
  have hts : ∀ w ∈ wsL_law, w.before _ s = true := fun w h => hts0 w (List.mem_cons_of_mem _ h)
  have hown : s.vm.findClass RX8 = some m.cls := findClass_of_methodNamed B.named
  have hlocks := B.notSynchronized
  subst hsz
  have hD := hD0.self (sz := s.heap.size)
  generalize hAe : va_A [(h0, .inr (8, [.ref a1, .ref a2, .ref a3, .ref a4, .ref a5, .int 0, .int x6, .ref a6, .int 0, .int 0, .int 0, .int 0, .int 0, .int 0, .int 0, .int 0, .int (-1), .ref a7, .ref a8, .int 0, .ref a9, .ref b0, .int 0])), (a1, .inl (cy 1, 1037, .inl g))] s.heap.size = A at hD hE ⊢
  have hA : ∀ q : Nat, s.heap.size ≤ q → A q := fun q h => by rw [← hAe]; exact Or.inr h
  have hS : va_S A s.heap s.heap [] := va_S.rf
  have hP : va_P (dC, dI) vwCl [(h0, .inr (8, [.ref a1, .ref a2, .ref a3, .ref a4, .ref a5, .int 0, .int x6, .ref a6, .int 0, .int 0, .int 0, .int 0, .int 0, .int 0, .int 0, .int 0, .int (-1), .ref a7, .ref a8, .int 0, .ref a9, .ref b0, .int 0])), (a1, .inl (cy 1, 1037, .inl g))] s.heap := hP
  have hl := lv_entry ([.ref h0, .int 2]) (n := 2) (Nat.le_of_ble_eq_true rfl)
  rw [lg_entry_eq]
  generalize (lg_sl ([.ref h0, .int 2]) ++ List.replicate (2 - (lg_sl ([.ref h0, .int 2])).length) Slot.unset).toArray = ls at hl ⊢
  have hl : lv_has ls 2 [(0, .ref h0), (1, .int 2)] := hl
  generalize hHe : s.heap = H at hP hS ⊢
  have hS : va_S A s.heap H [] := by rw [hHe]; exact hS
  refine lv_aload_n hx hb dX8_setting_0 rfl (lv_at hl 0 rfl) ?_
  refine lv_iload_n hx hb dX8_setting_1 rfl (lv_at hl 1 rfl) ?_
  refine lv_i2l (v := 2) hx hb dX8_setting_2 (by decide) ?_
  refine lv_lconst (v := 0) hx hb dX8_setting_3 (by decide) ?_
  refine lv_ldc2 hx hb hown (hts _ mw_612) dX8_setting_4 ?_
  have hPc := hP.sub (ws' := []) [] rfl
  have hDc := hD.sub (ws' := []) [] (by decide) rfl
  have hFc := va_free (wc := []) hD hS hA [] rfl
  refine va_calli (va_runS (As := [.long 2, .long 0, .long 4]) (rest := [.ref h0]) ⟨hx, hb, hml, hown, hts⟩ (c_X8_in l dC dI cy nb 2 0 4 H.size) (va_cwS 3 hts (gS mw_445 mw_446 mw_5 mw_447) rfl rfl rfl (by decide +kernel) ⟨Nat.le_of_ble_eq_true rfl, Nat.le_of_ble_eq_true rfl⟩) ⟨fun a U g mk q => by obtain ⟨q0, q1, qP, qK, qD, qE⟩ := q; exact ⟨q0, q1, qP, va_K.moved (u := U) (U := U.calling g mk a) (Vm.Alike.refl U.vm) qK, qD, GE.calling qE⟩, fun U hU hW => ⟨rfl, by rw [hU], by rw [hU]; exact hPc, va_K.moved hW.alike hK, hDc.weaken (fun _ _ _ _ => trivial), GE.call hE hS hFc hU hW⟩⟩ rfl rfl hl.1 rfl (lv_room (Nat.le_of_ble_eq_true rfl)) dX8_setting_7 ⟨Nat.le_of_ble_eq_true rfl, Nat.le_of_ble_eq_true rfl⟩) hS (fun q _ h => hFc q h) hFc (fun r u t H1 locs ht hvm hw1 hB hz1 hk1 hS => ?_)
  obtain ⟨hP1, hD1⟩ := hB
  rw [ht] at hP1
  obtain ⟨hP, hD⟩ := va_join (wr := [(h0, .inr (8, [.ref a1, .ref a2, .ref a3, .ref a4, .ref a5, .int 0, .int x6, .ref a6, .int 0, .int 0, .int 0, .int 0, .int 0, .int 0, .int 0, .int 0, .int (-1), .ref a7, .ref a8, .int 0, .ref a9, .ref b0, .int 0])), (a1, .inl (cy 1, 1037, .inl g))]) (w1 := []) hP hD [] [0, 1] rfl rfl (by decide) (by decide) hk1 hFc hP1 hD1
  generalize H1 = H at hP hS ⊢
  have hP : va_P (dC, dI) vwCl [(h0, .inr (8, [.ref a1, .ref a2, .ref a3, .ref a4, .ref a5, .int 0, .int x6, .ref a6, .int 0, .int 0, .int 0, .int 0, .int 0, .int 0, .int 0, .int 0, .int (-1), .ref a7, .ref a8, .int 0, .ref a9, .ref b0, .int 0])), (a1, .inl (cy 1, 1037, .inl g))] H := hP
  have hD : va_D A [(h0, .inr (8, [.ref a1, .ref a2, .ref a3, .ref a4, .ref a5, .int 0, .int x6, .ref a6, .int 0, .int 0, .int 0, .int 0, .int 0, .int 0, .int 0, .int 0, .int (-1), .ref a7, .ref a8, .int 0, .ref a9, .ref b0, .int 0])), (a1, .inl (cy 1, 1037, .inl g))] := hD
  obtain rfl := hw1
  refine my_topi (y := 1) (by decide) ?_
  refine W.widen (k := 0) (n := 0) (by omega) (by omega) ?_
  refine lv_iconst (v := 1) hx hb dX8_setting_10 (by decide) ?_
  have hPc := hP.sub (ws' := [(h0, .inr (8, [.ref a1, .ref a2, .ref a3, .ref a4, .ref a5, .int 0, .int x6, .ref a6, .int 0, .int 0, .int 0, .int 0, .int 0, .int 0, .int 0, .int 0, .int (-1), .ref a7, .ref a8, .int 0, .ref a9, .ref b0, .int 0]))]) [0] rfl
  have hDc := hD.sub (ws' := [(h0, .inr (8, [.ref a1, .ref a2, .ref a3, .ref a4, .ref a5, .int 0, .int x6, .ref a6, .int 0, .int 0, .int 0, .int 0, .int 0, .int 0, .int 0, .int 0, .int (-1), .ref a7, .ref a8, .int 0, .ref a9, .ref b0, .int 0]))]) [0] (by decide) rfl
  have hFc := va_free (wc := [(h0, .inr (8, [.ref a1, .ref a2, .ref a3, .ref a4, .ref a5, .int 0, .int x6, .ref a6, .int 0, .int 0, .int 0, .int 0, .int 0, .int 0, .int 0, .int 0, .int (-1), .ref a7, .ref a8, .int 0, .ref a9, .ref b0, .int 0]))]) hD hS hA [0] rfl
  refine va_calli (va_runV (As := [.int 1, .int 1]) (rest := []) ⟨hx, hb, hml, hown, hts⟩ (c_X8_isThrown_1 l dC dI cy nb h0 (.ref a1) (.ref a2) (.ref a3) (.ref a4) (.ref a5) (.int 0) (.ref a6) (.int 0) (.int 0) (.int 0) (.int 0) (.int 0) (.int 0) (.int 0) (.int 0) (.int (-1)) (.ref a7) (.ref a8) (.int 0) (.ref a9) (.ref b0) (.int 0) x6 1 H.size) (cwV 2 hts (gV mw_580 mw_581 mw_582 mw_5 mw_583) rfl rfl rfl (by decide +kernel) ⟨Nat.le_of_ble_eq_true rfl, Nat.le_of_ble_eq_true rfl⟩) ⟨fun a U g mk q => by obtain ⟨q0, q1, qP, qK, qD, qE⟩ := q; exact ⟨q0, q1, qP, va_K.moved (u := U) (U := U.calling g mk a) (Vm.Alike.refl U.vm) qK, qD, GE.calling qE⟩, va_recv hK hP (ci := 8) (q0 := 0) rfl rfl, fun U hU hW => ⟨rfl, by rw [hU], by rw [hU]; exact hPc, va_K.moved hW.alike hK, hDc.weaken (fun _ _ _ _ => trivial), GE.call hE hS hFc hU hW⟩⟩ rfl rfl hl.1 rfl (lv_room (Nat.le_of_ble_eq_true rfl)) dX8_setting_11 ⟨Nat.le_of_ble_eq_true rfl, Nat.le_of_ble_eq_true rfl⟩) hS (fun q _ h => hFc q h) hFc (fun r u t H1 locs ht hvm hw2 hB hz1 hk1 hS => ?_)
  obtain ⟨hP1, hD1⟩ := hB
  rw [ht] at hP1
  obtain ⟨hP, hD⟩ := va_join (wr := [(a1, .inl (cy 1, 1037, .inl g))]) (w1 := [(h0, .inr (8, [.ref a1, .ref a2, .ref a3, .ref a4, .ref a5, .int 0, .int 0, .ref a6, .int 0, .int 0, .int 0, .int 0, .int 0, .int 0, .int 0, .int 0, .int (-1), .ref a7, .ref a8, .int 0, .ref a9, .ref b0, .int 0]))]) hP hD [0] [1] rfl rfl (by decide) (by decide) hk1 hFc hP1 hD1
  generalize H1 = H at hP hS ⊢
  have hP : va_P (dC, dI) vwCl [(a1, .inl (cy 1, 1037, .inl g)), (h0, .inr (8, [.ref a1, .ref a2, .ref a3, .ref a4, .ref a5, .int 0, .int 0, .ref a6, .int 0, .int 0, .int 0, .int 0, .int 0, .int 0, .int 0, .int 0, .int (-1), .ref a7, .ref a8, .int 0, .ref a9, .ref b0, .int 0]))] H := hP
  have hD : va_D A [(a1, .inl (cy 1, 1037, .inl g)), (h0, .inr (8, [.ref a1, .ref a2, .ref a3, .ref a4, .ref a5, .int 0, .int 0, .ref a6, .int 0, .int 0, .int 0, .int 0, .int 0, .int 0, .int 0, .int 0, .int (-1), .ref a7, .ref a8, .int 0, .ref a9, .ref b0, .int 0]))] := hD
  obtain rfl := hw2
  refine W.widen (k := 0) (n := 0) (by omega) (by omega) ?_
  refine lv_if_eq (tgt := 21) hx hb dX8_setting_14 (by decide) (fun _ => ?_) (fun h => absurd (by decide) h)
  refine lv_aload_n hx hb dX8_setting_21 rfl (lv_at hl 0 rfl) ?_
  refine va_get (D := (dC, dI)) (ci := 8) (v := .ref a1) (C := RX8) (T := TX8) (N := 23) hx hb hts inlX8 hown hK hP 1 rfl rfl 0 (by decide) (hts _ mw_97) (fun _ h9 => h9) rfl dX8_setting_22 ?_
  refine lv_iload_n hx hb dX8_setting_25 rfl (lv_at hl 1 rfl) ?_
  refine va_iald hx hb hK hP 0 1 rfl rfl (vp_in_nI (n := 2) (by decide) (by decide)) dX8_setting_26 ?_
  refine my_topi (y := 1) (by exact hg.2.2.1) ?_
  have hP9 := hP.sub (ws' := [(h0, .inr (8, [.ref a1, .ref a2, .ref a3, .ref a4, .ref a5, .int 0, .int 0, .ref a6, .int 0, .int 0, .int 0, .int 0, .int 0, .int 0, .int 0, .int 0, .int (-1), .ref a7, .ref a8, .int 0, .ref a9, .ref b0, .int 0]))]) [1] rfl
  have hD9 := hD.sub (ws' := [(h0, .inr (8, [.ref a1, .ref a2, .ref a3, .ref a4, .ref a5, .int 0, .int 0, .ref a6, .int 0, .int 0, .int 0, .int 0, .int 0, .int 0, .int 0, .int 0, .int (-1), .ref a7, .ref a8, .int 0, .ref a9, .ref b0, .int 0]))]) [1] (by decide) rfl
  refine W.widen (k := 0) (n := 0) (by omega) (by omega) ?_
  exact W.iret (v := 1) hx hb hr (fun t ht hW => ⟨⟨1, (), rfl, rfl, by rw [ht]; exact hP9, hD9⟩, hS.F ht⟩) hS.2.2 dX8_setting_27
set_option maxHeartbeats 4000000 in
set_option maxRecDepth 100000 in
/-- X8_setting -/
theorem c_X8_setting_3 (l : Launch) (dC : Nat → ClassId) (dI : Nat → Nat → Nat) (cy : Nat → ClassId) (nb : Nat → Nat) (h0 : Nat) (a1 : Nat) (a2 : Nat) (a3 : Nat) (a4 : Nat) (a5 : Nat) (a6 : Nat) (a7 : Nat) (a8 : Nat) (a9 : Nat) (b0 : Nat) (x6 : Int32) (g : Nat → Int32) (sz : Nat) (hg : FN g) : Met l yX8_setting (wsg yX8_setting cX8_setting 2 (some .int)) ({ frames := 15, cells := 0, slots := 0, locals := 1000 }) (va_Pc [.ref h0, .int 3] (fun U => U.heap.size = sz ∧ va_P (dC, dI) vwCl [(h0, .inr (8, [.ref a1, .ref a2, .ref a3, .ref a4, .ref a5, .int 0, .int x6, .ref a6, .int 0, .int 0, .int 0, .int 0, .int 0, .int 0, .int 0, .int 0, .int (-1), .ref a7, .ref a8, .int 0, .ref a9, .ref b0, .int 0])), (a1, .inl (cy 1, 1037, .inl g))] U.heap ∧ va_K (dC, dI) vwCl (tyL cy) U ∧ va_D (fun _ => True) [(h0, .inr (8, [.ref a1, .ref a2, .ref a3, .ref a4, .ref a5, .int 0, .int x6, .ref a6, .int 0, .int 0, .int 0, .int 0, .int 0, .int 0, .int 0, .int 0, .int (-1), .ref a7, .ref a8, .int 0, .ref a9, .ref b0, .int 0])), (a1, .inl (cy 1, 1037, .inl g))] ∧ GE nb (va_A [(h0, .inr (8, [.ref a1, .ref a2, .ref a3, .ref a4, .ref a5, .int 0, .int x6, .ref a6, .int 0, .int 0, .int 0, .int 0, .int 0, .int 0, .int 0, .int 0, .int (-1), .ref a7, .ref a8, .int 0, .ref a9, .ref b0, .int 0])), (a1, .inl (cy 1, 1037, .inl g))] sz) U)) (va_Qi (fun (r : Int32) (_ : Unit) => r = 0) (fun _ t => va_P (dC, dI) vwCl [(h0, .inr (8, [.ref a1, .ref a2, .ref a3, .ref a4, .ref a5, .int 0, .int 0, .ref a6, .int 0, .int 0, .int 0, .int 0, .int 0, .int 0, .int 0, .int 0, .int (-1), .ref a7, .ref a8, .int 0, .ref a9, .ref b0, .int 0]))] t.heap ∧ va_D (va_A [(h0, .inr (8, [.ref a1, .ref a2, .ref a3, .ref a4, .ref a5, .int 0, .int x6, .ref a6, .int 0, .int 0, .int 0, .int 0, .int 0, .int 0, .int 0, .int 0, .int (-1), .ref a7, .ref a8, .int 0, .ref a9, .ref b0, .int 0])), (a1, .inl (cy 1, 1037, .inl g))] sz) [(h0, .inr (8, [.ref a1, .ref a2, .ref a3, .ref a4, .ref a5, .int 0, .int 0, .ref a6, .int 0, .int 0, .int 0, .int 0, .int 0, .int 0, .int 0, .int 0, .int (-1), .ref a7, .ref a8, .int 0, .ref a9, .ref b0, .int 0]))]) (va_A [(h0, .inr (8, [.ref a1, .ref a2, .ref a3, .ref a4, .ref a5, .int 0, .int x6, .ref a6, .int 0, .int 0, .int 0, .int 0, .int 0, .int 0, .int 0, .int 0, .int (-1), .ref a7, .ref a8, .int 0, .ref a9, .ref b0, .int 0])), (a1, .inl (cy 1, 1037, .inl g))] sz)) 0 0 (va_A [(h0, .inr (8, [.ref a1, .ref a2, .ref a3, .ref a4, .ref a5, .int 0, .int x6, .ref a6, .int 0, .int 0, .int 0, .int 0, .int 0, .int 0, .int 0, .int 0, .int (-1), .ref a7, .ref a8, .int 0, .ref a9, .ref b0, .int 0])), (a1, .inl (cy 1, 1037, .inl g))] sz) := by
  refine Met.ofW (cc := cX8_setting) (maxL := 2) (ret := (some .int)) (by decide) rfl ?_
  intro p e s m args below meth c s₁ B hml hv
  obtain ⟨rfl, hsz, hP, hK, hD0, hE⟩ := hv
  have hx := B.exec
  have hb := B.bytes
  have hr := B.returns
  have hts0 := atoms_spec (ws := (wsg yX8_setting cX8_setting 2 (some .int))) B.pre
  have hts : ∀ w ∈ wsL_law, w.before _ s = true := fun w h => hts0 w (List.mem_cons_of_mem _ h)
  have hown : s.vm.findClass RX8 = some m.cls := findClass_of_methodNamed B.named
  have hlocks := B.notSynchronized
  subst hsz
  have hD := hD0.self (sz := s.heap.size)
  generalize hAe : va_A [(h0, .inr (8, [.ref a1, .ref a2, .ref a3, .ref a4, .ref a5, .int 0, .int x6, .ref a6, .int 0, .int 0, .int 0, .int 0, .int 0, .int 0, .int 0, .int 0, .int (-1), .ref a7, .ref a8, .int 0, .ref a9, .ref b0, .int 0])), (a1, .inl (cy 1, 1037, .inl g))] s.heap.size = A at hD hE ⊢
  have hA : ∀ q : Nat, s.heap.size ≤ q → A q := fun q h => by rw [← hAe]; exact Or.inr h
  have hS : va_S A s.heap s.heap [] := va_S.rf
  have hP : va_P (dC, dI) vwCl [(h0, .inr (8, [.ref a1, .ref a2, .ref a3, .ref a4, .ref a5, .int 0, .int x6, .ref a6, .int 0, .int 0, .int 0, .int 0, .int 0, .int 0, .int 0, .int 0, .int (-1), .ref a7, .ref a8, .int 0, .ref a9, .ref b0, .int 0])), (a1, .inl (cy 1, 1037, .inl g))] s.heap := hP
  have hl := lv_entry ([.ref h0, .int 3]) (n := 2) (Nat.le_of_ble_eq_true rfl)
  rw [lg_entry_eq]
  generalize (lg_sl ([.ref h0, .int 3]) ++ List.replicate (2 - (lg_sl ([.ref h0, .int 3])).length) Slot.unset).toArray = ls at hl ⊢
  have hl : lv_has ls 2 [(0, .ref h0), (1, .int 3)] := hl
  generalize hHe : s.heap = H at hP hS ⊢
  have hS : va_S A s.heap H [] := by rw [hHe]; exact hS
  refine lv_aload_n hx hb dX8_setting_0 rfl (lv_at hl 0 rfl) ?_
  refine lv_iload_n hx hb dX8_setting_1 rfl (lv_at hl 1 rfl) ?_
  refine lv_i2l (v := 3) hx hb dX8_setting_2 (by decide) ?_
  refine lv_lconst (v := 0) hx hb dX8_setting_3 (by decide) ?_
  refine lv_ldc2 hx hb hown (hts _ mw_612) dX8_setting_4 ?_
  have hPc := hP.sub (ws' := []) [] rfl
  have hDc := hD.sub (ws' := []) [] (by decide) rfl
  have hFc := va_free (wc := []) hD hS hA [] rfl
  refine va_calli (va_runS (As := [.long 3, .long 0, .long 4]) (rest := [.ref h0]) ⟨hx, hb, hml, hown, hts⟩ (c_X8_in l dC dI cy nb 3 0 4 H.size) (va_cwS 3 hts (gS mw_445 mw_446 mw_5 mw_447) rfl rfl rfl (by decide +kernel) ⟨Nat.le_of_ble_eq_true rfl, Nat.le_of_ble_eq_true rfl⟩) ⟨fun a U g mk q => by obtain ⟨q0, q1, qP, qK, qD, qE⟩ := q; exact ⟨q0, q1, qP, va_K.moved (u := U) (U := U.calling g mk a) (Vm.Alike.refl U.vm) qK, qD, GE.calling qE⟩, fun U hU hW => ⟨rfl, by rw [hU], by rw [hU]; exact hPc, va_K.moved hW.alike hK, hDc.weaken (fun _ _ _ _ => trivial), GE.call hE hS hFc hU hW⟩⟩ rfl rfl hl.1 rfl (lv_room (Nat.le_of_ble_eq_true rfl)) dX8_setting_7 ⟨Nat.le_of_ble_eq_true rfl, Nat.le_of_ble_eq_true rfl⟩) hS (fun q _ h => hFc q h) hFc (fun r u t H1 locs ht hvm hw1 hB hz1 hk1 hS => ?_)
  obtain ⟨hP1, hD1⟩ := hB
  rw [ht] at hP1
  obtain ⟨hP, hD⟩ := va_join (wr := [(h0, .inr (8, [.ref a1, .ref a2, .ref a3, .ref a4, .ref a5, .int 0, .int x6, .ref a6, .int 0, .int 0, .int 0, .int 0, .int 0, .int 0, .int 0, .int 0, .int (-1), .ref a7, .ref a8, .int 0, .ref a9, .ref b0, .int 0])), (a1, .inl (cy 1, 1037, .inl g))]) (w1 := []) hP hD [] [0, 1] rfl rfl (by decide) (by decide) hk1 hFc hP1 hD1
  generalize H1 = H at hP hS ⊢
  have hP : va_P (dC, dI) vwCl [(h0, .inr (8, [.ref a1, .ref a2, .ref a3, .ref a4, .ref a5, .int 0, .int x6, .ref a6, .int 0, .int 0, .int 0, .int 0, .int 0, .int 0, .int 0, .int 0, .int (-1), .ref a7, .ref a8, .int 0, .ref a9, .ref b0, .int 0])), (a1, .inl (cy 1, 1037, .inl g))] H := hP
  have hD : va_D A [(h0, .inr (8, [.ref a1, .ref a2, .ref a3, .ref a4, .ref a5, .int 0, .int x6, .ref a6, .int 0, .int 0, .int 0, .int 0, .int 0, .int 0, .int 0, .int 0, .int (-1), .ref a7, .ref a8, .int 0, .ref a9, .ref b0, .int 0])), (a1, .inl (cy 1, 1037, .inl g))] := hD
  obtain rfl := hw1
  refine my_topi (y := 1) (by decide) ?_
  refine W.widen (k := 0) (n := 0) (by omega) (by omega) ?_
  refine lv_iconst (v := 1) hx hb dX8_setting_10 (by decide) ?_
  have hPc := hP.sub (ws' := [(h0, .inr (8, [.ref a1, .ref a2, .ref a3, .ref a4, .ref a5, .int 0, .int x6, .ref a6, .int 0, .int 0, .int 0, .int 0, .int 0, .int 0, .int 0, .int 0, .int (-1), .ref a7, .ref a8, .int 0, .ref a9, .ref b0, .int 0]))]) [0] rfl
  have hDc := hD.sub (ws' := [(h0, .inr (8, [.ref a1, .ref a2, .ref a3, .ref a4, .ref a5, .int 0, .int x6, .ref a6, .int 0, .int 0, .int 0, .int 0, .int 0, .int 0, .int 0, .int 0, .int (-1), .ref a7, .ref a8, .int 0, .ref a9, .ref b0, .int 0]))]) [0] (by decide) rfl
  have hFc := va_free (wc := [(h0, .inr (8, [.ref a1, .ref a2, .ref a3, .ref a4, .ref a5, .int 0, .int x6, .ref a6, .int 0, .int 0, .int 0, .int 0, .int 0, .int 0, .int 0, .int 0, .int (-1), .ref a7, .ref a8, .int 0, .ref a9, .ref b0, .int 0]))]) hD hS hA [0] rfl
  refine va_calli (va_runV (As := [.int 1, .int 1]) (rest := []) ⟨hx, hb, hml, hown, hts⟩ (c_X8_isThrown_1 l dC dI cy nb h0 (.ref a1) (.ref a2) (.ref a3) (.ref a4) (.ref a5) (.int 0) (.ref a6) (.int 0) (.int 0) (.int 0) (.int 0) (.int 0) (.int 0) (.int 0) (.int 0) (.int (-1)) (.ref a7) (.ref a8) (.int 0) (.ref a9) (.ref b0) (.int 0) x6 1 H.size) (cwV 2 hts (gV mw_580 mw_581 mw_582 mw_5 mw_583) rfl rfl rfl (by decide +kernel) ⟨Nat.le_of_ble_eq_true rfl, Nat.le_of_ble_eq_true rfl⟩) ⟨fun a U g mk q => by obtain ⟨q0, q1, qP, qK, qD, qE⟩ := q; exact ⟨q0, q1, qP, va_K.moved (u := U) (U := U.calling g mk a) (Vm.Alike.refl U.vm) qK, qD, GE.calling qE⟩, va_recv hK hP (ci := 8) (q0 := 0) rfl rfl, fun U hU hW => ⟨rfl, by rw [hU], by rw [hU]; exact hPc, va_K.moved hW.alike hK, hDc.weaken (fun _ _ _ _ => trivial), GE.call hE hS hFc hU hW⟩⟩ rfl rfl hl.1 rfl (lv_room (Nat.le_of_ble_eq_true rfl)) dX8_setting_11 ⟨Nat.le_of_ble_eq_true rfl, Nat.le_of_ble_eq_true rfl⟩) hS (fun q _ h => hFc q h) hFc (fun r u t H1 locs ht hvm hw2 hB hz1 hk1 hS => ?_)
  obtain ⟨hP1, hD1⟩ := hB
  rw [ht] at hP1
  obtain ⟨hP, hD⟩ := va_join (wr := [(a1, .inl (cy 1, 1037, .inl g))]) (w1 := [(h0, .inr (8, [.ref a1, .ref a2, .ref a3, .ref a4, .ref a5, .int 0, .int 0, .ref a6, .int 0, .int 0, .int 0, .int 0, .int 0, .int 0, .int 0, .int 0, .int (-1), .ref a7, .ref a8, .int 0, .ref a9, .ref b0, .int 0]))]) hP hD [0] [1] rfl rfl (by decide) (by decide) hk1 hFc hP1 hD1
  generalize H1 = H at hP hS ⊢
  have hP : va_P (dC, dI) vwCl [(a1, .inl (cy 1, 1037, .inl g)), (h0, .inr (8, [.ref a1, .ref a2, .ref a3, .ref a4, .ref a5, .int 0, .int 0, .ref a6, .int 0, .int 0, .int 0, .int 0, .int 0, .int 0, .int 0, .int 0, .int (-1), .ref a7, .ref a8, .int 0, .ref a9, .ref b0, .int 0]))] H := hP
  have hD : va_D A [(a1, .inl (cy 1, 1037, .inl g)), (h0, .inr (8, [.ref a1, .ref a2, .ref a3, .ref a4, .ref a5, .int 0, .int 0, .ref a6, .int 0, .int 0, .int 0, .int 0, .int 0, .int 0, .int 0, .int 0, .int (-1), .ref a7, .ref a8, .int 0, .ref a9, .ref b0, .int 0]))] := hD
  obtain rfl := hw2
  refine W.widen (k := 0) (n := 0) (by omega) (by omega) ?_
  refine lv_if_eq (tgt := 21) hx hb dX8_setting_14 (by decide) (fun _ => ?_) (fun h => absurd (by decide) h)
  refine lv_aload_n hx hb dX8_setting_21 rfl (lv_at hl 0 rfl) ?_
  refine va_get (D := (dC, dI)) (ci := 8) (v := .ref a1) (C := RX8) (T := TX8) (N := 23) hx hb hts inlX8 hown hK hP 1 rfl rfl 0 (by decide) (hts _ mw_97) (fun _ h9 => h9) rfl dX8_setting_22 ?_
  refine lv_iload_n hx hb dX8_setting_25 rfl (lv_at hl 1 rfl) ?_
  refine va_iald hx hb hK hP 0 1 rfl rfl (vp_in_nI (n := 3) (by decide) (by decide)) dX8_setting_26 ?_
  refine my_topi (y := 0) (by exact hg.2.2.2 3 (by decide) (by decide)) ?_
  have hP9 := hP.sub (ws' := [(h0, .inr (8, [.ref a1, .ref a2, .ref a3, .ref a4, .ref a5, .int 0, .int 0, .ref a6, .int 0, .int 0, .int 0, .int 0, .int 0, .int 0, .int 0, .int 0, .int (-1), .ref a7, .ref a8, .int 0, .ref a9, .ref b0, .int 0]))]) [1] rfl
  have hD9 := hD.sub (ws' := [(h0, .inr (8, [.ref a1, .ref a2, .ref a3, .ref a4, .ref a5, .int 0, .int 0, .ref a6, .int 0, .int 0, .int 0, .int 0, .int 0, .int 0, .int 0, .int 0, .int (-1), .ref a7, .ref a8, .int 0, .ref a9, .ref b0, .int 0]))]) [1] (by decide) rfl
  refine W.widen (k := 0) (n := 0) (by omega) (by omega) ?_
  exact W.iret (v := 0) hx hb hr (fun t ht hW => ⟨⟨0, (), rfl, rfl, by rw [ht]; exact hP9, hD9⟩, hS.F ht⟩) hS.2.2 dX8_setting_27
set_option maxHeartbeats 4000000 in
set_option maxRecDepth 100000 in
/-- X8_setting -/
theorem c_X8_setting_4 (l : Launch) (dC : Nat → ClassId) (dI : Nat → Nat → Nat) (cy : Nat → ClassId) (nb : Nat → Nat) (h0 : Nat) (a1 : Nat) (a2 : Nat) (a3 : Nat) (a4 : Nat) (a5 : Nat) (a6 : Nat) (a7 : Nat) (a8 : Nat) (a9 : Nat) (b0 : Nat) (x6 : Int32) (g : Nat → Int32) (sz : Nat) (hg : FN g) : Met l yX8_setting (wsg yX8_setting cX8_setting 2 (some .int)) ({ frames := 15, cells := 0, slots := 0, locals := 1000 }) (va_Pc [.ref h0, .int 4] (fun U => U.heap.size = sz ∧ va_P (dC, dI) vwCl [(h0, .inr (8, [.ref a1, .ref a2, .ref a3, .ref a4, .ref a5, .int 0, .int x6, .ref a6, .int 0, .int 0, .int 0, .int 0, .int 0, .int 0, .int 0, .int 0, .int (-1), .ref a7, .ref a8, .int 0, .ref a9, .ref b0, .int 0])), (a1, .inl (cy 1, 1037, .inl g))] U.heap ∧ va_K (dC, dI) vwCl (tyL cy) U ∧ va_D (fun _ => True) [(h0, .inr (8, [.ref a1, .ref a2, .ref a3, .ref a4, .ref a5, .int 0, .int x6, .ref a6, .int 0, .int 0, .int 0, .int 0, .int 0, .int 0, .int 0, .int 0, .int (-1), .ref a7, .ref a8, .int 0, .ref a9, .ref b0, .int 0])), (a1, .inl (cy 1, 1037, .inl g))] ∧ GE nb (va_A [(h0, .inr (8, [.ref a1, .ref a2, .ref a3, .ref a4, .ref a5, .int 0, .int x6, .ref a6, .int 0, .int 0, .int 0, .int 0, .int 0, .int 0, .int 0, .int 0, .int (-1), .ref a7, .ref a8, .int 0, .ref a9, .ref b0, .int 0])), (a1, .inl (cy 1, 1037, .inl g))] sz) U)) (va_Qi (fun (r : Int32) (_ : Unit) => r = 0) (fun _ t => va_P (dC, dI) vwCl [(h0, .inr (8, [.ref a1, .ref a2, .ref a3, .ref a4, .ref a5, .int 0, .int 0, .ref a6, .int 0, .int 0, .int 0, .int 0, .int 0, .int 0, .int 0, .int 0, .int (-1), .ref a7, .ref a8, .int 0, .ref a9, .ref b0, .int 0]))] t.heap ∧ va_D (va_A [(h0, .inr (8, [.ref a1, .ref a2, .ref a3, .ref a4, .ref a5, .int 0, .int x6, .ref a6, .int 0, .int 0, .int 0, .int 0, .int 0, .int 0, .int 0, .int 0, .int (-1), .ref a7, .ref a8, .int 0, .ref a9, .ref b0, .int 0])), (a1, .inl (cy 1, 1037, .inl g))] sz) [(h0, .inr (8, [.ref a1, .ref a2, .ref a3, .ref a4, .ref a5, .int 0, .int 0, .ref a6, .int 0, .int 0, .int 0, .int 0, .int 0, .int 0, .int 0, .int 0, .int (-1), .ref a7, .ref a8, .int 0, .ref a9, .ref b0, .int 0]))]) (va_A [(h0, .inr (8, [.ref a1, .ref a2, .ref a3, .ref a4, .ref a5, .int 0, .int x6, .ref a6, .int 0, .int 0, .int 0, .int 0, .int 0, .int 0, .int 0, .int 0, .int (-1), .ref a7, .ref a8, .int 0, .ref a9, .ref b0, .int 0])), (a1, .inl (cy 1, 1037, .inl g))] sz)) 0 0 (va_A [(h0, .inr (8, [.ref a1, .ref a2, .ref a3, .ref a4, .ref a5, .int 0, .int x6, .ref a6, .int 0, .int 0, .int 0, .int 0, .int 0, .int 0, .int 0, .int 0, .int (-1), .ref a7, .ref a8, .int 0, .ref a9, .ref b0, .int 0])), (a1, .inl (cy 1, 1037, .inl g))] sz) := by
  refine Met.ofW (cc := cX8_setting) (maxL := 2) (ret := (some .int)) (by decide) rfl ?_
  intro p e s m args below meth c s₁ B hml hv
  obtain ⟨rfl, hsz, hP, hK, hD0, hE⟩ := hv
  have hx := B.exec
  have hb := B.bytes
  have hr := B.returns
  have hts0 := atoms_spec (ws := (wsg yX8_setting cX8_setting 2 (some .int))) B.pre
  have hts : ∀ w ∈ wsL_law, w.before _ s = true := fun w h => hts0 w (List.mem_cons_of_mem _ h)
  have hown : s.vm.findClass RX8 = some m.cls := findClass_of_methodNamed B.named
  have hlocks := B.notSynchronized
  subst hsz
  have hD := hD0.self (sz := s.heap.size)
  generalize hAe : va_A [(h0, .inr (8, [.ref a1, .ref a2, .ref a3, .ref a4, .ref a5, .int 0, .int x6, .ref a6, .int 0, .int 0, .int 0, .int 0, .int 0, .int 0, .int 0, .int 0, .int (-1), .ref a7, .ref a8, .int 0, .ref a9, .ref b0, .int 0])), (a1, .inl (cy 1, 1037, .inl g))] s.heap.size = A at hD hE ⊢
  have hA : ∀ q : Nat, s.heap.size ≤ q → A q := fun q h => by rw [← hAe]; exact Or.inr h
  have hS : va_S A s.heap s.heap [] := va_S.rf
  have hP : va_P (dC, dI) vwCl [(h0, .inr (8, [.ref a1, .ref a2, .ref a3, .ref a4, .ref a5, .int 0, .int x6, .ref a6, .int 0, .int 0, .int 0, .int 0, .int 0, .int 0, .int 0, .int 0, .int (-1), .ref a7, .ref a8, .int 0, .ref a9, .ref b0, .int 0])), (a1, .inl (cy 1, 1037, .inl g))] s.heap := hP
  have hl := lv_entry ([.ref h0, .int 4]) (n := 2) (Nat.le_of_ble_eq_true rfl)
  rw [lg_entry_eq]
  generalize (lg_sl ([.ref h0, .int 4]) ++ List.replicate (2 - (lg_sl ([.ref h0, .int 4])).length) Slot.unset).toArray = ls at hl ⊢
  have hl : lv_has ls 2 [(0, .ref h0), (1, .int 4)] := hl
  generalize hHe : s.heap = H at hP hS ⊢
  have hS : va_S A s.heap H [] := by rw [hHe]; exact hS
  refine lv_aload_n hx hb dX8_setting_0 rfl (lv_at hl 0 rfl) ?_
  refine lv_iload_n hx hb dX8_setting_1 rfl (lv_at hl 1 rfl) ?_
  refine lv_i2l (v := 4) hx hb dX8_setting_2 (by decide) ?_
  refine lv_lconst (v := 0) hx hb dX8_setting_3 (by decide) ?_
  refine lv_ldc2 hx hb hown (hts _ mw_612) dX8_setting_4 ?_
  have hPc := hP.sub (ws' := []) [] rfl
  have hDc := hD.sub (ws' := []) [] (by decide) rfl
  have hFc := va_free (wc := []) hD hS hA [] rfl
  refine va_calli (va_runS (As := [.long 4, .long 0, .long 4]) (rest := [.ref h0]) ⟨hx, hb, hml, hown, hts⟩ (c_X8_in l dC dI cy nb 4 0 4 H.size) (va_cwS 3 hts (gS mw_445 mw_446 mw_5 mw_447) rfl rfl rfl (by decide +kernel) ⟨Nat.le_of_ble_eq_true rfl, Nat.le_of_ble_eq_true rfl⟩) ⟨fun a U g mk q => by obtain ⟨q0, q1, qP, qK, qD, qE⟩ := q; exact ⟨q0, q1, qP, va_K.moved (u := U) (U := U.calling g mk a) (Vm.Alike.refl U.vm) qK, qD, GE.calling qE⟩, fun U hU hW => ⟨rfl, by rw [hU], by rw [hU]; exact hPc, va_K.moved hW.alike hK, hDc.weaken (fun _ _ _ _ => trivial), GE.call hE hS hFc hU hW⟩⟩ rfl rfl hl.1 rfl (lv_room (Nat.le_of_ble_eq_true rfl)) dX8_setting_7 ⟨Nat.le_of_ble_eq_true rfl, Nat.le_of_ble_eq_true rfl⟩) hS (fun q _ h => hFc q h) hFc (fun r u t H1 locs ht hvm hw1 hB hz1 hk1 hS => ?_)
  obtain ⟨hP1, hD1⟩ := hB
  rw [ht] at hP1
  obtain ⟨hP, hD⟩ := va_join (wr := [(h0, .inr (8, [.ref a1, .ref a2, .ref a3, .ref a4, .ref a5, .int 0, .int x6, .ref a6, .int 0, .int 0, .int 0, .int 0, .int 0, .int 0, .int 0, .int 0, .int (-1), .ref a7, .ref a8, .int 0, .ref a9, .ref b0, .int 0])), (a1, .inl (cy 1, 1037, .inl g))]) (w1 := []) hP hD [] [0, 1] rfl rfl (by decide) (by decide) hk1 hFc hP1 hD1
  generalize H1 = H at hP hS ⊢
  have hP : va_P (dC, dI) vwCl [(h0, .inr (8, [.ref a1, .ref a2, .ref a3, .ref a4, .ref a5, .int 0, .int x6, .ref a6, .int 0, .int 0, .int 0, .int 0, .int 0, .int 0, .int 0, .int 0, .int (-1), .ref a7, .ref a8, .int 0, .ref a9, .ref b0, .int 0])), (a1, .inl (cy 1, 1037, .inl g))] H := hP
  have hD : va_D A [(h0, .inr (8, [.ref a1, .ref a2, .ref a3, .ref a4, .ref a5, .int 0, .int x6, .ref a6, .int 0, .int 0, .int 0, .int 0, .int 0, .int 0, .int 0, .int 0, .int (-1), .ref a7, .ref a8, .int 0, .ref a9, .ref b0, .int 0])), (a1, .inl (cy 1, 1037, .inl g))] := hD
  obtain rfl := hw1
  refine my_topi (y := 1) (by decide) ?_
  refine W.widen (k := 0) (n := 0) (by omega) (by omega) ?_
  refine lv_iconst (v := 1) hx hb dX8_setting_10 (by decide) ?_
  have hPc := hP.sub (ws' := [(h0, .inr (8, [.ref a1, .ref a2, .ref a3, .ref a4, .ref a5, .int 0, .int x6, .ref a6, .int 0, .int 0, .int 0, .int 0, .int 0, .int 0, .int 0, .int 0, .int (-1), .ref a7, .ref a8, .int 0, .ref a9, .ref b0, .int 0]))]) [0] rfl
  have hDc := hD.sub (ws' := [(h0, .inr (8, [.ref a1, .ref a2, .ref a3, .ref a4, .ref a5, .int 0, .int x6, .ref a6, .int 0, .int 0, .int 0, .int 0, .int 0, .int 0, .int 0, .int 0, .int (-1), .ref a7, .ref a8, .int 0, .ref a9, .ref b0, .int 0]))]) [0] (by decide) rfl
  have hFc := va_free (wc := [(h0, .inr (8, [.ref a1, .ref a2, .ref a3, .ref a4, .ref a5, .int 0, .int x6, .ref a6, .int 0, .int 0, .int 0, .int 0, .int 0, .int 0, .int 0, .int 0, .int (-1), .ref a7, .ref a8, .int 0, .ref a9, .ref b0, .int 0]))]) hD hS hA [0] rfl
  refine va_calli (va_runV (As := [.int 1, .int 1]) (rest := []) ⟨hx, hb, hml, hown, hts⟩ (c_X8_isThrown_1 l dC dI cy nb h0 (.ref a1) (.ref a2) (.ref a3) (.ref a4) (.ref a5) (.int 0) (.ref a6) (.int 0) (.int 0) (.int 0) (.int 0) (.int 0) (.int 0) (.int 0) (.int 0) (.int (-1)) (.ref a7) (.ref a8) (.int 0) (.ref a9) (.ref b0) (.int 0) x6 1 H.size) (cwV 2 hts (gV mw_580 mw_581 mw_582 mw_5 mw_583) rfl rfl rfl (by decide +kernel) ⟨Nat.le_of_ble_eq_true rfl, Nat.le_of_ble_eq_true rfl⟩) ⟨fun a U g mk q => by obtain ⟨q0, q1, qP, qK, qD, qE⟩ := q; exact ⟨q0, q1, qP, va_K.moved (u := U) (U := U.calling g mk a) (Vm.Alike.refl U.vm) qK, qD, GE.calling qE⟩, va_recv hK hP (ci := 8) (q0 := 0) rfl rfl, fun U hU hW => ⟨rfl, by rw [hU], by rw [hU]; exact hPc, va_K.moved hW.alike hK, hDc.weaken (fun _ _ _ _ => trivial), GE.call hE hS hFc hU hW⟩⟩ rfl rfl hl.1 rfl (lv_room (Nat.le_of_ble_eq_true rfl)) dX8_setting_11 ⟨Nat.le_of_ble_eq_true rfl, Nat.le_of_ble_eq_true rfl⟩) hS (fun q _ h => hFc q h) hFc (fun r u t H1 locs ht hvm hw2 hB hz1 hk1 hS => ?_)
  obtain ⟨hP1, hD1⟩ := hB
  rw [ht] at hP1
  obtain ⟨hP, hD⟩ := va_join (wr := [(a1, .inl (cy 1, 1037, .inl g))]) (w1 := [(h0, .inr (8, [.ref a1, .ref a2, .ref a3, .ref a4, .ref a5, .int 0, .int 0, .ref a6, .int 0, .int 0, .int 0, .int 0, .int 0, .int 0, .int 0, .int 0, .int (-1), .ref a7, .ref a8, .int 0, .ref a9, .ref b0, .int 0]))]) hP hD [0] [1] rfl rfl (by decide) (by decide) hk1 hFc hP1 hD1
  generalize H1 = H at hP hS ⊢
  have hP : va_P (dC, dI) vwCl [(a1, .inl (cy 1, 1037, .inl g)), (h0, .inr (8, [.ref a1, .ref a2, .ref a3, .ref a4, .ref a5, .int 0, .int 0, .ref a6, .int 0, .int 0, .int 0, .int 0, .int 0, .int 0, .int 0, .int 0, .int (-1), .ref a7, .ref a8, .int 0, .ref a9, .ref b0, .int 0]))] H := hP
  have hD : va_D A [(a1, .inl (cy 1, 1037, .inl g)), (h0, .inr (8, [.ref a1, .ref a2, .ref a3, .ref a4, .ref a5, .int 0, .int 0, .ref a6, .int 0, .int 0, .int 0, .int 0, .int 0, .int 0, .int 0, .int 0, .int (-1), .ref a7, .ref a8, .int 0, .ref a9, .ref b0, .int 0]))] := hD
  obtain rfl := hw2
  refine W.widen (k := 0) (n := 0) (by omega) (by omega) ?_
  refine lv_if_eq (tgt := 21) hx hb dX8_setting_14 (by decide) (fun _ => ?_) (fun h => absurd (by decide) h)
  refine lv_aload_n hx hb dX8_setting_21 rfl (lv_at hl 0 rfl) ?_
  refine va_get (D := (dC, dI)) (ci := 8) (v := .ref a1) (C := RX8) (T := TX8) (N := 23) hx hb hts inlX8 hown hK hP 1 rfl rfl 0 (by decide) (hts _ mw_97) (fun _ h9 => h9) rfl dX8_setting_22 ?_
  refine lv_iload_n hx hb dX8_setting_25 rfl (lv_at hl 1 rfl) ?_
  refine va_iald hx hb hK hP 0 1 rfl rfl (vp_in_nI (n := 4) (by decide) (by decide)) dX8_setting_26 ?_
  refine my_topi (y := 0) (by exact hg.2.2.2 4 (by decide) (by decide)) ?_
  have hP9 := hP.sub (ws' := [(h0, .inr (8, [.ref a1, .ref a2, .ref a3, .ref a4, .ref a5, .int 0, .int 0, .ref a6, .int 0, .int 0, .int 0, .int 0, .int 0, .int 0, .int 0, .int 0, .int (-1), .ref a7, .ref a8, .int 0, .ref a9, .ref b0, .int 0]))]) [1] rfl
  have hD9 := hD.sub (ws' := [(h0, .inr (8, [.ref a1, .ref a2, .ref a3, .ref a4, .ref a5, .int 0, .int 0, .ref a6, .int 0, .int 0, .int 0, .int 0, .int 0, .int 0, .int 0, .int 0, .int (-1), .ref a7, .ref a8, .int 0, .ref a9, .ref b0, .int 0]))]) [1] (by decide) rfl
  refine W.widen (k := 0) (n := 0) (by omega) (by omega) ?_
  exact W.iret (v := 0) hx hb hr (fun t ht hW => ⟨⟨0, (), rfl, rfl, by rw [ht]; exact hP9, hD9⟩, hS.F ht⟩) hS.2.2 dX8_setting_27
set_option maxHeartbeats 4000000 in
set_option maxRecDepth 100000 in
/-- X8_total -/
theorem c_X8_total_0 (l : Launch) (dC : Nat → ClassId) (dI : Nat → Nat → Nat) (cy : Nat → ClassId) (nb : Nat → Nat) (h0 : Nat) (a1 : Nat) (a2 : Nat) (a3 : Nat) (a4 : Nat) (a5 : Nat) (a6 : Nat) (a7 : Nat) (a8 : Nat) (a9 : Nat) (b0 : Nat) (x6 : Int32) (g : Nat → Int32) (sz : Nat) (hg : FN g) : Met l yX8_total (wsg yX8_total cX8_total 2 (some .int)) ({ frames := 15, cells := 0, slots := 0, locals := 1000 }) (va_Pc [.ref h0, .int 0] (fun U => U.heap.size = sz ∧ va_P (dC, dI) vwCl [(h0, .inr (8, [.ref a1, .ref a2, .ref a3, .ref a4, .ref a5, .int 0, .int x6, .ref a6, .int 0, .int 0, .int 0, .int 0, .int 0, .int 0, .int 0, .int 0, .int (-1), .ref a7, .ref a8, .int 0, .ref a9, .ref b0, .int 0])), (a1, .inl (cy 1, 1037, .inl g))] U.heap ∧ va_K (dC, dI) vwCl (tyL cy) U ∧ va_D (fun _ => True) [(h0, .inr (8, [.ref a1, .ref a2, .ref a3, .ref a4, .ref a5, .int 0, .int x6, .ref a6, .int 0, .int 0, .int 0, .int 0, .int 0, .int 0, .int 0, .int 0, .int (-1), .ref a7, .ref a8, .int 0, .ref a9, .ref b0, .int 0])), (a1, .inl (cy 1, 1037, .inl g))] ∧ GE nb (va_A [(h0, .inr (8, [.ref a1, .ref a2, .ref a3, .ref a4, .ref a5, .int 0, .int x6, .ref a6, .int 0, .int 0, .int 0, .int 0, .int 0, .int 0, .int 0, .int 0, .int (-1), .ref a7, .ref a8, .int 0, .ref a9, .ref b0, .int 0])), (a1, .inl (cy 1, 1037, .inl g))] sz) U)) (va_Qi (fun (r : Int32) (_ : Unit) => r = 0) (fun _ t => va_P (dC, dI) vwCl [(h0, .inr (8, [.ref a1, .ref a2, .ref a3, .ref a4, .ref a5, .int 0, .int 0, .ref a6, .int 0, .int 0, .int 0, .int 0, .int 0, .int 0, .int 0, .int 0, .int (-1), .ref a7, .ref a8, .int 0, .ref a9, .ref b0, .int 0]))] t.heap ∧ va_D (va_A [(h0, .inr (8, [.ref a1, .ref a2, .ref a3, .ref a4, .ref a5, .int 0, .int x6, .ref a6, .int 0, .int 0, .int 0, .int 0, .int 0, .int 0, .int 0, .int 0, .int (-1), .ref a7, .ref a8, .int 0, .ref a9, .ref b0, .int 0])), (a1, .inl (cy 1, 1037, .inl g))] sz) [(h0, .inr (8, [.ref a1, .ref a2, .ref a3, .ref a4, .ref a5, .int 0, .int 0, .ref a6, .int 0, .int 0, .int 0, .int 0, .int 0, .int 0, .int 0, .int 0, .int (-1), .ref a7, .ref a8, .int 0, .ref a9, .ref b0, .int 0]))]) (va_A [(h0, .inr (8, [.ref a1, .ref a2, .ref a3, .ref a4, .ref a5, .int 0, .int x6, .ref a6, .int 0, .int 0, .int 0, .int 0, .int 0, .int 0, .int 0, .int 0, .int (-1), .ref a7, .ref a8, .int 0, .ref a9, .ref b0, .int 0])), (a1, .inl (cy 1, 1037, .inl g))] sz)) 0 0 (va_A [(h0, .inr (8, [.ref a1, .ref a2, .ref a3, .ref a4, .ref a5, .int 0, .int x6, .ref a6, .int 0, .int 0, .int 0, .int 0, .int 0, .int 0, .int 0, .int 0, .int (-1), .ref a7, .ref a8, .int 0, .ref a9, .ref b0, .int 0])), (a1, .inl (cy 1, 1037, .inl g))] sz) := by
  refine Met.ofW (cc := cX8_total) (maxL := 2) (ret := (some .int)) (by decide) rfl ?_
  intro p e s m args below meth c s₁ B hml hv
  obtain ⟨rfl, hsz, hP, hK, hD0, hE⟩ := hv
  have hx := B.exec
  have hb := B.bytes
  have hr := B.returns
  have hts0 := atoms_spec (ws := (wsg yX8_total cX8_total 2 (some .int))) B.pre
  have hts : ∀ w ∈ wsL_law, w.before _ s = true := fun w h => hts0 w (List.mem_cons_of_mem _ h)
  have hown : s.vm.findClass RX8 = some m.cls := findClass_of_methodNamed B.named
  have hlocks := B.notSynchronized
  subst hsz
  have hD := hD0.self (sz := s.heap.size)
  generalize hAe : va_A [(h0, .inr (8, [.ref a1, .ref a2, .ref a3, .ref a4, .ref a5, .int 0, .int x6, .ref a6, .int 0, .int 0, .int 0, .int 0, .int 0, .int 0, .int 0, .int 0, .int (-1), .ref a7, .ref a8, .int 0, .ref a9, .ref b0, .int 0])), (a1, .inl (cy 1, 1037, .inl g))] s.heap.size = A at hD hE ⊢
  have hA : ∀ q : Nat, s.heap.size ≤ q → A q := fun q h => by rw [← hAe]; exact Or.inr h
  have hS : va_S A s.heap s.heap [] := va_S.rf
  have hP : va_P (dC, dI) vwCl [(h0, .inr (8, [.ref a1, .ref a2, .ref a3, .ref a4, .ref a5, .int 0, .int x6, .ref a6, .int 0, .int 0, .int 0, .int 0, .int 0, .int 0, .int 0, .int 0, .int (-1), .ref a7, .ref a8, .int 0, .ref a9, .ref b0, .int 0])), (a1, .inl (cy 1, 1037, .inl g))] s.heap := hP
  have hl := lv_entry ([.ref h0, .int 0]) (n := 2) (Nat.le_of_ble_eq_true rfl)
  rw [lg_entry_eq]
  generalize (lg_sl ([.ref h0, .int 0]) ++ List.replicate (2 - (lg_sl ([.ref h0, .int 0])).length) Slot.unset).toArray = ls at hl ⊢
  have hl : lv_has ls 2 [(0, .ref h0), (1, .int 0)] := hl
  generalize hHe : s.heap = H at hP hS ⊢
  have hS : va_S A s.heap H [] := by rw [hHe]; exact hS
  refine lv_aload_n hx hb dX8_total_0 rfl (lv_at hl 0 rfl) ?_
  refine lv_iload_n hx hb dX8_total_1 rfl (lv_at hl 1 rfl) ?_
  refine lv_i2l (v := 0) hx hb dX8_total_2 (by decide) ?_
  refine lv_lconst (v := 0) hx hb dX8_total_3 (by decide) ?_
  refine lv_ldc2 hx hb hown (hts _ mw_612) dX8_total_4 ?_
  have hPc := hP.sub (ws' := []) [] rfl
  have hDc := hD.sub (ws' := []) [] (by decide) rfl
  have hFc := va_free (wc := []) hD hS hA [] rfl
  refine va_calli (va_runS (As := [.long 0, .long 0, .long 4]) (rest := [.ref h0]) ⟨hx, hb, hml, hown, hts⟩ (c_X8_in l dC dI cy nb 0 0 4 H.size) (va_cwS 3 hts (gS mw_445 mw_446 mw_5 mw_447) rfl rfl rfl (by decide +kernel) ⟨Nat.le_of_ble_eq_true rfl, Nat.le_of_ble_eq_true rfl⟩) ⟨fun a U g mk q => by obtain ⟨q0, q1, qP, qK, qD, qE⟩ := q; exact ⟨q0, q1, qP, va_K.moved (u := U) (U := U.calling g mk a) (Vm.Alike.refl U.vm) qK, qD, GE.calling qE⟩, fun U hU hW => ⟨rfl, by rw [hU], by rw [hU]; exact hPc, va_K.moved hW.alike hK, hDc.weaken (fun _ _ _ _ => trivial), GE.call hE hS hFc hU hW⟩⟩ rfl rfl hl.1 rfl (lv_room (Nat.le_of_ble_eq_true rfl)) dX8_total_7 ⟨Nat.le_of_ble_eq_true rfl, Nat.le_of_ble_eq_true rfl⟩) hS (fun q _ h => hFc q h) hFc (fun r u t H1 locs ht hvm hw1 hB hz1 hk1 hS => ?_)
  obtain ⟨hP1, hD1⟩ := hB
  rw [ht] at hP1
  obtain ⟨hP, hD⟩ := va_join (wr := [(h0, .inr (8, [.ref a1, .ref a2, .ref a3, .ref a4, .ref a5, .int 0, .int x6, .ref a6, .int 0, .int 0, .int 0, .int 0, .int 0, .int 0, .int 0, .int 0, .int (-1), .ref a7, .ref a8, .int 0, .ref a9, .ref b0, .int 0])), (a1, .inl (cy 1, 1037, .inl g))]) (w1 := []) hP hD [] [0, 1] rfl rfl (by decide) (by decide) hk1 hFc hP1 hD1
  generalize H1 = H at hP hS ⊢
  have hP : va_P (dC, dI) vwCl [(h0, .inr (8, [.ref a1, .ref a2, .ref a3, .ref a4, .ref a5, .int 0, .int x6, .ref a6, .int 0, .int 0, .int 0, .int 0, .int 0, .int 0, .int 0, .int 0, .int (-1), .ref a7, .ref a8, .int 0, .ref a9, .ref b0, .int 0])), (a1, .inl (cy 1, 1037, .inl g))] H := hP
  have hD : va_D A [(h0, .inr (8, [.ref a1, .ref a2, .ref a3, .ref a4, .ref a5, .int 0, .int x6, .ref a6, .int 0, .int 0, .int 0, .int 0, .int 0, .int 0, .int 0, .int 0, .int (-1), .ref a7, .ref a8, .int 0, .ref a9, .ref b0, .int 0])), (a1, .inl (cy 1, 1037, .inl g))] := hD
  obtain rfl := hw1
  refine my_topi (y := 1) (by decide) ?_
  refine W.widen (k := 0) (n := 0) (by omega) (by omega) ?_
  refine lv_iconst (v := 1) hx hb dX8_total_10 (by decide) ?_
  have hPc := hP.sub (ws' := [(h0, .inr (8, [.ref a1, .ref a2, .ref a3, .ref a4, .ref a5, .int 0, .int x6, .ref a6, .int 0, .int 0, .int 0, .int 0, .int 0, .int 0, .int 0, .int 0, .int (-1), .ref a7, .ref a8, .int 0, .ref a9, .ref b0, .int 0]))]) [0] rfl
  have hDc := hD.sub (ws' := [(h0, .inr (8, [.ref a1, .ref a2, .ref a3, .ref a4, .ref a5, .int 0, .int x6, .ref a6, .int 0, .int 0, .int 0, .int 0, .int 0, .int 0, .int 0, .int 0, .int (-1), .ref a7, .ref a8, .int 0, .ref a9, .ref b0, .int 0]))]) [0] (by decide) rfl
  have hFc := va_free (wc := [(h0, .inr (8, [.ref a1, .ref a2, .ref a3, .ref a4, .ref a5, .int 0, .int x6, .ref a6, .int 0, .int 0, .int 0, .int 0, .int 0, .int 0, .int 0, .int 0, .int (-1), .ref a7, .ref a8, .int 0, .ref a9, .ref b0, .int 0]))]) hD hS hA [0] rfl
  refine va_calli (va_runV (As := [.int 1, .int 1]) (rest := []) ⟨hx, hb, hml, hown, hts⟩ (c_X8_isThrown_1 l dC dI cy nb h0 (.ref a1) (.ref a2) (.ref a3) (.ref a4) (.ref a5) (.int 0) (.ref a6) (.int 0) (.int 0) (.int 0) (.int 0) (.int 0) (.int 0) (.int 0) (.int 0) (.int (-1)) (.ref a7) (.ref a8) (.int 0) (.ref a9) (.ref b0) (.int 0) x6 1 H.size) (cwV 2 hts (gV mw_580 mw_581 mw_582 mw_5 mw_583) rfl rfl rfl (by decide +kernel) ⟨Nat.le_of_ble_eq_true rfl, Nat.le_of_ble_eq_true rfl⟩) ⟨fun a U g mk q => by obtain ⟨q0, q1, qP, qK, qD, qE⟩ := q; exact ⟨q0, q1, qP, va_K.moved (u := U) (U := U.calling g mk a) (Vm.Alike.refl U.vm) qK, qD, GE.calling qE⟩, va_recv hK hP (ci := 8) (q0 := 0) rfl rfl, fun U hU hW => ⟨rfl, by rw [hU], by rw [hU]; exact hPc, va_K.moved hW.alike hK, hDc.weaken (fun _ _ _ _ => trivial), GE.call hE hS hFc hU hW⟩⟩ rfl rfl hl.1 rfl (lv_room (Nat.le_of_ble_eq_true rfl)) dX8_total_11 ⟨Nat.le_of_ble_eq_true rfl, Nat.le_of_ble_eq_true rfl⟩) hS (fun q _ h => hFc q h) hFc (fun r u t H1 locs ht hvm hw2 hB hz1 hk1 hS => ?_)
  obtain ⟨hP1, hD1⟩ := hB
  rw [ht] at hP1
  obtain ⟨hP, hD⟩ := va_join (wr := [(a1, .inl (cy 1, 1037, .inl g))]) (w1 := [(h0, .inr (8, [.ref a1, .ref a2, .ref a3, .ref a4, .ref a5, .int 0, .int 0, .ref a6, .int 0, .int 0, .int 0, .int 0, .int 0, .int 0, .int 0, .int 0, .int (-1), .ref a7, .ref a8, .int 0, .ref a9, .ref b0, .int 0]))]) hP hD [0] [1] rfl rfl (by decide) (by decide) hk1 hFc hP1 hD1
  generalize H1 = H at hP hS ⊢
  have hP : va_P (dC, dI) vwCl [(a1, .inl (cy 1, 1037, .inl g)), (h0, .inr (8, [.ref a1, .ref a2, .ref a3, .ref a4, .ref a5, .int 0, .int 0, .ref a6, .int 0, .int 0, .int 0, .int 0, .int 0, .int 0, .int 0, .int 0, .int (-1), .ref a7, .ref a8, .int 0, .ref a9, .ref b0, .int 0]))] H := hP
  have hD : va_D A [(a1, .inl (cy 1, 1037, .inl g)), (h0, .inr (8, [.ref a1, .ref a2, .ref a3, .ref a4, .ref a5, .int 0, .int 0, .ref a6, .int 0, .int 0, .int 0, .int 0, .int 0, .int 0, .int 0, .int 0, .int (-1), .ref a7, .ref a8, .int 0, .ref a9, .ref b0, .int 0]))] := hD
  obtain rfl := hw2
  refine W.widen (k := 0) (n := 0) (by omega) (by omega) ?_
  refine lv_if_eq (tgt := 21) hx hb dX8_total_14 (by decide) (fun _ => ?_) (fun h => absurd (by decide) h)
  refine lv_aload_n hx hb dX8_total_21 rfl (lv_at hl 0 rfl) ?_
  refine va_get (D := (dC, dI)) (ci := 8) (v := .ref a1) (C := RX8) (T := TX8) (N := 23) hx hb hts inlX8 hown hK hP 1 rfl rfl 0 (by decide) (hts _ mw_97) (fun _ h9 => h9) rfl dX8_total_22 ?_
  refine lv_bipush (v := 12) hx hb dX8_total_25 (by decide) ?_
  refine lv_iload_n hx hb dX8_total_27 rfl (lv_at hl 1 rfl) ?_
  refine lv_iadd hx hb dX8_total_28 ?_
  refine my_topi (y := 12) (by decide) ?_
  refine va_iald hx hb hK hP 0 1 rfl rfl (vp_in_nI (n := 12) (by decide) (by decide)) dX8_total_29 ?_
  refine my_topi (y := 0) (by exact hg.2.2.2 12 (by decide) (by decide)) ?_
  have hP9 := hP.sub (ws' := [(h0, .inr (8, [.ref a1, .ref a2, .ref a3, .ref a4, .ref a5, .int 0, .int 0, .ref a6, .int 0, .int 0, .int 0, .int 0, .int 0, .int 0, .int 0, .int 0, .int (-1), .ref a7, .ref a8, .int 0, .ref a9, .ref b0, .int 0]))]) [1] rfl
  have hD9 := hD.sub (ws' := [(h0, .inr (8, [.ref a1, .ref a2, .ref a3, .ref a4, .ref a5, .int 0, .int 0, .ref a6, .int 0, .int 0, .int 0, .int 0, .int 0, .int 0, .int 0, .int 0, .int (-1), .ref a7, .ref a8, .int 0, .ref a9, .ref b0, .int 0]))]) [1] (by decide) rfl
  refine W.widen (k := 0) (n := 0) (by omega) (by omega) ?_
  exact W.iret (v := 0) hx hb hr (fun t ht hW => ⟨⟨0, (), rfl, rfl, by rw [ht]; exact hP9, hD9⟩, hS.F ht⟩) hS.2.2 dX8_total_30
set_option maxHeartbeats 4000000 in
set_option maxRecDepth 100000 in
/-- X8_total -/
theorem c_X8_total_1 (l : Launch) (dC : Nat → ClassId) (dI : Nat → Nat → Nat) (cy : Nat → ClassId) (nb : Nat → Nat) (h0 : Nat) (a1 : Nat) (a2 : Nat) (a3 : Nat) (a4 : Nat) (a5 : Nat) (a6 : Nat) (a7 : Nat) (a8 : Nat) (a9 : Nat) (b0 : Nat) (x6 : Int32) (g : Nat → Int32) (sz : Nat) (hg : FN g) : Met l yX8_total (wsg yX8_total cX8_total 2 (some .int)) ({ frames := 15, cells := 0, slots := 0, locals := 1000 }) (va_Pc [.ref h0, .int 1] (fun U => U.heap.size = sz ∧ va_P (dC, dI) vwCl [(h0, .inr (8, [.ref a1, .ref a2, .ref a3, .ref a4, .ref a5, .int 0, .int x6, .ref a6, .int 0, .int 0, .int 0, .int 0, .int 0, .int 0, .int 0, .int 0, .int (-1), .ref a7, .ref a8, .int 0, .ref a9, .ref b0, .int 0])), (a1, .inl (cy 1, 1037, .inl g))] U.heap ∧ va_K (dC, dI) vwCl (tyL cy) U ∧ va_D (fun _ => True) [(h0, .inr (8, [.ref a1, .ref a2, .ref a3, .ref a4, .ref a5, .int 0, .int x6, .ref a6, .int 0, .int 0, .int 0, .int 0, .int 0, .int 0, .int 0, .int 0, .int (-1), .ref a7, .ref a8, .int 0, .ref a9, .ref b0, .int 0])), (a1, .inl (cy 1, 1037, .inl g))] ∧ GE nb (va_A [(h0, .inr (8, [.ref a1, .ref a2, .ref a3, .ref a4, .ref a5, .int 0, .int x6, .ref a6, .int 0, .int 0, .int 0, .int 0, .int 0, .int 0, .int 0, .int 0, .int (-1), .ref a7, .ref a8, .int 0, .ref a9, .ref b0, .int 0])), (a1, .inl (cy 1, 1037, .inl g))] sz) U)) (va_Qi (fun (r : Int32) (_ : Unit) => r = 0) (fun _ t => va_P (dC, dI) vwCl [(h0, .inr (8, [.ref a1, .ref a2, .ref a3, .ref a4, .ref a5, .int 0, .int 0, .ref a6, .int 0, .int 0, .int 0, .int 0, .int 0, .int 0, .int 0, .int 0, .int (-1), .ref a7, .ref a8, .int 0, .ref a9, .ref b0, .int 0]))] t.heap ∧ va_D (va_A [(h0, .inr (8, [.ref a1, .ref a2, .ref a3, .ref a4, .ref a5, .int 0, .int x6, .ref a6, .int 0, .int 0, .int 0, .int 0, .int 0, .int 0, .int 0, .int 0, .int (-1), .ref a7, .ref a8, .int 0, .ref a9, .ref b0, .int 0])), (a1, .inl (cy 1, 1037, .inl g))] sz) [(h0, .inr (8, [.ref a1, .ref a2, .ref a3, .ref a4, .ref a5, .int 0, .int 0, .ref a6, .int 0, .int 0, .int 0, .int 0, .int 0, .int 0, .int 0, .int 0, .int (-1), .ref a7, .ref a8, .int 0, .ref a9, .ref b0, .int 0]))]) (va_A [(h0, .inr (8, [.ref a1, .ref a2, .ref a3, .ref a4, .ref a5, .int 0, .int x6, .ref a6, .int 0, .int 0, .int 0, .int 0, .int 0, .int 0, .int 0, .int 0, .int (-1), .ref a7, .ref a8, .int 0, .ref a9, .ref b0, .int 0])), (a1, .inl (cy 1, 1037, .inl g))] sz)) 0 0 (va_A [(h0, .inr (8, [.ref a1, .ref a2, .ref a3, .ref a4, .ref a5, .int 0, .int x6, .ref a6, .int 0, .int 0, .int 0, .int 0, .int 0, .int 0, .int 0, .int 0, .int (-1), .ref a7, .ref a8, .int 0, .ref a9, .ref b0, .int 0])), (a1, .inl (cy 1, 1037, .inl g))] sz) := by
  refine Met.ofW (cc := cX8_total) (maxL := 2) (ret := (some .int)) (by decide) rfl ?_
  intro p e s m args below meth c s₁ B hml hv
  obtain ⟨rfl, hsz, hP, hK, hD0, hE⟩ := hv
  have hx := B.exec
  have hb := B.bytes
  have hr := B.returns
  have hts0 := atoms_spec (ws := (wsg yX8_total cX8_total 2 (some .int))) B.pre
  have hts : ∀ w ∈ wsL_law, w.before _ s = true := fun w h => hts0 w (List.mem_cons_of_mem _ h)
  have hown : s.vm.findClass RX8 = some m.cls := findClass_of_methodNamed B.named
  have hlocks := B.notSynchronized
  subst hsz
  have hD := hD0.self (sz := s.heap.size)
  generalize hAe : va_A [(h0, .inr (8, [.ref a1, .ref a2, .ref a3, .ref a4, .ref a5, .int 0, .int x6, .ref a6, .int 0, .int 0, .int 0, .int 0, .int 0, .int 0, .int 0, .int 0, .int (-1), .ref a7, .ref a8, .int 0, .ref a9, .ref b0, .int 0])), (a1, .inl (cy 1, 1037, .inl g))] s.heap.size = A at hD hE ⊢
  have hA : ∀ q : Nat, s.heap.size ≤ q → A q := fun q h => by rw [← hAe]; exact Or.inr h
  have hS : va_S A s.heap s.heap [] := va_S.rf
  have hP : va_P (dC, dI) vwCl [(h0, .inr (8, [.ref a1, .ref a2, .ref a3, .ref a4, .ref a5, .int 0, .int x6, .ref a6, .int 0, .int 0, .int 0, .int 0, .int 0, .int 0, .int 0, .int 0, .int (-1), .ref a7, .ref a8, .int 0, .ref a9, .ref b0, .int 0])), (a1, .inl (cy 1, 1037, .inl g))] s.heap := hP
  have hl := lv_entry ([.ref h0, .int 1]) (n := 2) (Nat.le_of_ble_eq_true rfl)
  rw [lg_entry_eq]
  generalize (lg_sl ([.ref h0, .int 1]) ++ List.replicate (2 - (lg_sl ([.ref h0, .int 1])).length) Slot.unset).toArray = ls at hl ⊢
  have hl : lv_has ls 2 [(0, .ref h0), (1, .int 1)] := hl
  generalize hHe : s.heap = H at hP hS ⊢
  have hS : va_S A s.heap H [] := by rw [hHe]; exact hS
  refine lv_aload_n hx hb dX8_total_0 rfl (lv_at hl 0 rfl) ?_
  refine lv_iload_n hx hb dX8_total_1 rfl (lv_at hl 1 rfl) ?_
  refine lv_i2l (v := 1) hx hb dX8_total_2 (by decide) ?_
  refine lv_lconst (v := 0) hx hb dX8_total_3 (by decide) ?_
  refine lv_ldc2 hx hb hown (hts _ mw_612) dX8_total_4 ?_
  have hPc := hP.sub (ws' := []) [] rfl
  have hDc := hD.sub (ws' := []) [] (by decide) rfl
  have hFc := va_free (wc := []) hD hS hA [] rfl
  refine va_calli (va_runS (As := [.long 1, .long 0, .long 4]) (rest := [.ref h0]) ⟨hx, hb, hml, hown, hts⟩ (c_X8_in l dC dI cy nb 1 0 4 H.size) (va_cwS 3 hts (gS mw_445 mw_446 mw_5 mw_447) rfl rfl rfl (by decide +kernel) ⟨Nat.le_of_ble_eq_true rfl, Nat.le_of_ble_eq_true rfl⟩) ⟨fun a U g mk q => by obtain ⟨q0, q1, qP, qK, qD, qE⟩ := q; exact ⟨q0, q1, qP, va_K.moved (u := U) (U := U.calling g mk a) (Vm.Alike.refl U.vm) qK, qD, GE.calling qE⟩, fun U hU hW => ⟨rfl, by rw [hU], by rw [hU]; exact hPc, va_K.moved hW.alike hK, hDc.weaken (fun _ _ _ _ => trivial), GE.call hE hS hFc hU hW⟩⟩ rfl rfl hl.1 rfl (lv_room (Nat.le_of_ble_eq_true rfl)) dX8_total_7 ⟨Nat.le_of_ble_eq_true rfl, Nat.le_of_ble_eq_true rfl⟩) hS (fun q _ h => hFc q h) hFc (fun r u t H1 locs ht hvm hw1 hB hz1 hk1 hS => ?_)
  obtain ⟨hP1, hD1⟩ := hB
  rw [ht] at hP1
  obtain ⟨hP, hD⟩ := va_join (wr := [(h0, .inr (8, [.ref a1, .ref a2, .ref a3, .ref a4, .ref a5, .int 0, .int x6, .ref a6, .int 0, .int 0, .int 0, .int 0, .int 0, .int 0, .int 0, .int 0, .int (-1), .ref a7, .ref a8, .int 0, .ref a9, .ref b0, .int 0])), (a1, .inl (cy 1, 1037, .inl g))]) (w1 := []) hP hD [] [0, 1] rfl rfl (by decide) (by decide) hk1 hFc hP1 hD1
  generalize H1 = H at hP hS ⊢
  have hP : va_P (dC, dI) vwCl [(h0, .inr (8, [.ref a1, .ref a2, .ref a3, .ref a4, .ref a5, .int 0, .int x6, .ref a6, .int 0, .int 0, .int 0, .int 0, .int 0, .int 0, .int 0, .int 0, .int (-1), .ref a7, .ref a8, .int 0, .ref a9, .ref b0, .int 0])), (a1, .inl (cy 1, 1037, .inl g))] H := hP
  have hD : va_D A [(h0, .inr (8, [.ref a1, .ref a2, .ref a3, .ref a4, .ref a5, .int 0, .int x6, .ref a6, .int 0, .int 0, .int 0, .int 0, .int 0, .int 0, .int 0, .int 0, .int (-1), .ref a7, .ref a8, .int 0, .ref a9, .ref b0, .int 0])), (a1, .inl (cy 1, 1037, .inl g))] := hD
  obtain rfl := hw1
  refine my_topi (y := 1) (by decide) ?_
  refine W.widen (k := 0) (n := 0) (by omega) (by omega) ?_
  refine lv_iconst (v := 1) hx hb dX8_total_10 (by decide) ?_
  have hPc := hP.sub (ws' := [(h0, .inr (8, [.ref a1, .ref a2, .ref a3, .ref a4, .ref a5, .int 0, .int x6, .ref a6, .int 0, .int 0, .int 0, .int 0, .int 0, .int 0, .int 0, .int 0, .int (-1), .ref a7, .ref a8, .int 0, .ref a9, .ref b0, .int 0]))]) [0] rfl
  have hDc := hD.sub (ws' := [(h0, .inr (8, [.ref a1, .ref a2, .ref a3, .ref a4, .ref a5, .int 0, .int x6, .ref a6, .int 0, .int 0, .int 0, .int 0, .int 0, .int 0, .int 0, .int 0, .int (-1), .ref a7, .ref a8, .int 0, .ref a9, .ref b0, .int 0]))]) [0] (by decide) rfl
  have hFc := va_free (wc := [(h0, .inr (8, [.ref a1, .ref a2, .ref a3, .ref a4, .ref a5, .int 0, .int x6, .ref a6, .int 0, .int 0, .int 0, .int 0, .int 0, .int 0, .int 0, .int 0, .int (-1), .ref a7, .ref a8, .int 0, .ref a9, .ref b0, .int 0]))]) hD hS hA [0] rfl
  refine va_calli (va_runV (As := [.int 1, .int 1]) (rest := []) ⟨hx, hb, hml, hown, hts⟩ (c_X8_isThrown_1 l dC dI cy nb h0 (.ref a1) (.ref a2) (.ref a3) (.ref a4) (.ref a5) (.int 0) (.ref a6) (.int 0) (.int 0) (.int 0) (.int 0) (.int 0) (.int 0) (.int 0) (.int 0) (.int (-1)) (.ref a7) (.ref a8) (.int 0) (.ref a9) (.ref b0) (.int 0) x6 1 H.size) (cwV 2 hts (gV mw_580 mw_581 mw_582 mw_5 mw_583) rfl rfl rfl (by decide +kernel) ⟨Nat.le_of_ble_eq_true rfl, Nat.le_of_ble_eq_true rfl⟩) ⟨fun a U g mk q => by obtain ⟨q0, q1, qP, qK, qD, qE⟩ := q; exact ⟨q0, q1, qP, va_K.moved (u := U) (U := U.calling g mk a) (Vm.Alike.refl U.vm) qK, qD, GE.calling qE⟩, va_recv hK hP (ci := 8) (q0 := 0) rfl rfl, fun U hU hW => ⟨rfl, by rw [hU], by rw [hU]; exact hPc, va_K.moved hW.alike hK, hDc.weaken (fun _ _ _ _ => trivial), GE.call hE hS hFc hU hW⟩⟩ rfl rfl hl.1 rfl (lv_room (Nat.le_of_ble_eq_true rfl)) dX8_total_11 ⟨Nat.le_of_ble_eq_true rfl, Nat.le_of_ble_eq_true rfl⟩) hS (fun q _ h => hFc q h) hFc (fun r u t H1 locs ht hvm hw2 hB hz1 hk1 hS => ?_)
  obtain ⟨hP1, hD1⟩ := hB
  rw [ht] at hP1
  obtain ⟨hP, hD⟩ := va_join (wr := [(a1, .inl (cy 1, 1037, .inl g))]) (w1 := [(h0, .inr (8, [.ref a1, .ref a2, .ref a3, .ref a4, .ref a5, .int 0, .int 0, .ref a6, .int 0, .int 0, .int 0, .int 0, .int 0, .int 0, .int 0, .int 0, .int (-1), .ref a7, .ref a8, .int 0, .ref a9, .ref b0, .int 0]))]) hP hD [0] [1] rfl rfl (by decide) (by decide) hk1 hFc hP1 hD1
  generalize H1 = H at hP hS ⊢
  have hP : va_P (dC, dI) vwCl [(a1, .inl (cy 1, 1037, .inl g)), (h0, .inr (8, [.ref a1, .ref a2, .ref a3, .ref a4, .ref a5, .int 0, .int 0, .ref a6, .int 0, .int 0, .int 0, .int 0, .int 0, .int 0, .int 0, .int 0, .int (-1), .ref a7, .ref a8, .int 0, .ref a9, .ref b0, .int 0]))] H := hP
  have hD : va_D A [(a1, .inl (cy 1, 1037, .inl g)), (h0, .inr (8, [.ref a1, .ref a2, .ref a3, .ref a4, .ref a5, .int 0, .int 0, .ref a6, .int 0, .int 0, .int 0, .int 0, .int 0, .int 0, .int 0, .int 0, .int (-1), .ref a7, .ref a8, .int 0, .ref a9, .ref b0, .int 0]))] := hD
  obtain rfl := hw2
  refine W.widen (k := 0) (n := 0) (by omega) (by omega) ?_
  refine lv_if_eq (tgt := 21) hx hb dX8_total_14 (by decide) (fun _ => ?_) (fun h => absurd (by decide) h)
  refine lv_aload_n hx hb dX8_total_21 rfl (lv_at hl 0 rfl) ?_
  refine va_get (D := (dC, dI)) (ci := 8) (v := .ref a1) (C := RX8) (T := TX8) (N := 23) hx hb hts inlX8 hown hK hP 1 rfl rfl 0 (by decide) (hts _ mw_97) (fun _ h9 => h9) rfl dX8_total_22 ?_
  refine lv_bipush (v := 12) hx hb dX8_total_25 (by decide) ?_
  refine lv_iload_n hx hb dX8_total_27 rfl (lv_at hl 1 rfl) ?_
  refine lv_iadd hx hb dX8_total_28 ?_
  refine my_topi (y := 13) (by decide) ?_
  refine va_iald hx hb hK hP 0 1 rfl rfl (vp_in_nI (n := 13) (by decide) (by decide)) dX8_total_29 ?_
  refine my_topi (y := 0) (by exact hg.2.2.2 13 (by decide) (by decide)) ?_
  have hP9 := hP.sub (ws' := [(h0, .inr (8, [.ref a1, .ref a2, .ref a3, .ref a4, .ref a5, .int 0, .int 0, .ref a6, .int 0, .int 0, .int 0, .int 0, .int 0, .int 0, .int 0, .int 0, .int (-1), .ref a7, .ref a8, .int 0, .ref a9, .ref b0, .int 0]))]) [1] rfl
  have hD9 := hD.sub (ws' := [(h0, .inr (8, [.ref a1, .ref a2, .ref a3, .ref a4, .ref a5, .int 0, .int 0, .ref a6, .int 0, .int 0, .int 0, .int 0, .int 0, .int 0, .int 0, .int 0, .int (-1), .ref a7, .ref a8, .int 0, .ref a9, .ref b0, .int 0]))]) [1] (by decide) rfl
  refine W.widen (k := 0) (n := 0) (by omega) (by omega) ?_
  exact W.iret (v := 0) hx hb hr (fun t ht hW => ⟨⟨0, (), rfl, rfl, by rw [ht]; exact hP9, hD9⟩, hS.F ht⟩) hS.2.2 dX8_total_30
set_option maxHeartbeats 4000000 in
set_option maxRecDepth 100000 in
/-- X8_total -/
theorem c_X8_total_2 (l : Launch) (dC : Nat → ClassId) (dI : Nat → Nat → Nat) (cy : Nat → ClassId) (nb : Nat → Nat) (h0 : Nat) (a1 : Nat) (a2 : Nat) (a3 : Nat) (a4 : Nat) (a5 : Nat) (a6 : Nat) (a7 : Nat) (a8 : Nat) (a9 : Nat) (b0 : Nat) (x6 : Int32) (g : Nat → Int32) (sz : Nat) (hg : FN g) : Met l yX8_total (wsg yX8_total cX8_total 2 (some .int)) ({ frames := 15, cells := 0, slots := 0, locals := 1000 }) (va_Pc [.ref h0, .int 2] (fun U => U.heap.size = sz ∧ va_P (dC, dI) vwCl [(h0, .inr (8, [.ref a1, .ref a2, .ref a3, .ref a4, .ref a5, .int 0, .int x6, .ref a6, .int 0, .int 0, .int 0, .int 0, .int 0, .int 0, .int 0, .int 0, .int (-1), .ref a7, .ref a8, .int 0, .ref a9, .ref b0, .int 0])), (a1, .inl (cy 1, 1037, .inl g))] U.heap ∧ va_K (dC, dI) vwCl (tyL cy) U ∧ va_D (fun _ => True) [(h0, .inr (8, [.ref a1, .ref a2, .ref a3, .ref a4, .ref a5, .int 0, .int x6, .ref a6, .int 0, .int 0, .int 0, .int 0, .int 0, .int 0, .int 0, .int 0, .int (-1), .ref a7, .ref a8, .int 0, .ref a9, .ref b0, .int 0])), (a1, .inl (cy 1, 1037, .inl g))] ∧ GE nb (va_A [(h0, .inr (8, [.ref a1, .ref a2, .ref a3, .ref a4, .ref a5, .int 0, .int x6, .ref a6, .int 0, .int 0, .int 0, .int 0, .int 0, .int 0, .int 0, .int 0, .int (-1), .ref a7, .ref a8, .int 0, .ref a9, .ref b0, .int 0])), (a1, .inl (cy 1, 1037, .inl g))] sz) U)) (va_Qi (fun (r : Int32) (_ : Unit) => r = 0) (fun _ t => va_P (dC, dI) vwCl [(h0, .inr (8, [.ref a1, .ref a2, .ref a3, .ref a4, .ref a5, .int 0, .int 0, .ref a6, .int 0, .int 0, .int 0, .int 0, .int 0, .int 0, .int 0, .int 0, .int (-1), .ref a7, .ref a8, .int 0, .ref a9, .ref b0, .int 0]))] t.heap ∧ va_D (va_A [(h0, .inr (8, [.ref a1, .ref a2, .ref a3, .ref a4, .ref a5, .int 0, .int x6, .ref a6, .int 0, .int 0, .int 0, .int 0, .int 0, .int 0, .int 0, .int 0, .int (-1), .ref a7, .ref a8, .int 0, .ref a9, .ref b0, .int 0])), (a1, .inl (cy 1, 1037, .inl g))] sz) [(h0, .inr (8, [.ref a1, .ref a2, .ref a3, .ref a4, .ref a5, .int 0, .int 0, .ref a6, .int 0, .int 0, .int 0, .int 0, .int 0, .int 0, .int 0, .int 0, .int (-1), .ref a7, .ref a8, .int 0, .ref a9, .ref b0, .int 0]))]) (va_A [(h0, .inr (8, [.ref a1, .ref a2, .ref a3, .ref a4, .ref a5, .int 0, .int x6, .ref a6, .int 0, .int 0, .int 0, .int 0, .int 0, .int 0, .int 0, .int 0, .int (-1), .ref a7, .ref a8, .int 0, .ref a9, .ref b0, .int 0])), (a1, .inl (cy 1, 1037, .inl g))] sz)) 0 0 (va_A [(h0, .inr (8, [.ref a1, .ref a2, .ref a3, .ref a4, .ref a5, .int 0, .int x6, .ref a6, .int 0, .int 0, .int 0, .int 0, .int 0, .int 0, .int 0, .int 0, .int (-1), .ref a7, .ref a8, .int 0, .ref a9, .ref b0, .int 0])), (a1, .inl (cy 1, 1037, .inl g))] sz) := by
  refine Met.ofW (cc := cX8_total) (maxL := 2) (ret := (some .int)) (by decide) rfl ?_
  intro p e s m args below meth c s₁ B hml hv
  obtain ⟨rfl, hsz, hP, hK, hD0, hE⟩ := hv
  have hx := B.exec
  have hb := B.bytes
  have hr := B.returns
  have hts0 := atoms_spec (ws := (wsg yX8_total cX8_total 2 (some .int))) B.pre
  have hts : ∀ w ∈ wsL_law, w.before _ s = true := fun w h => hts0 w (List.mem_cons_of_mem _ h)
  have hown : s.vm.findClass RX8 = some m.cls := findClass_of_methodNamed B.named
  have hlocks := B.notSynchronized
  subst hsz
  have hD := hD0.self (sz := s.heap.size)
  generalize hAe : va_A [(h0, .inr (8, [.ref a1, .ref a2, .ref a3, .ref a4, .ref a5, .int 0, .int x6, .ref a6, .int 0, .int 0, .int 0, .int 0, .int 0, .int 0, .int 0, .int 0, .int (-1), .ref a7, .ref a8, .int 0, .ref a9, .ref b0, .int 0])), (a1, .inl (cy 1, 1037, .inl g))] s.heap.size = A at hD hE ⊢
  have hA : ∀ q : Nat, s.heap.size ≤ q → A q := fun q h => by rw [← hAe]; exact Or.inr h
  have hS : va_S A s.heap s.heap [] := va_S.rf
  have hP : va_P (dC, dI) vwCl [(h0, .inr (8, [.ref a1, .ref a2, .ref a3, .ref a4, .ref a5, .int 0, .int x6, .ref a6, .int 0, .int 0, .int 0, .int 0, .int 0, .int 0, .int 0, .int 0, .int (-1), .ref a7, .ref a8, .int 0, .ref a9, .ref b0, .int 0])), (a1, .inl (cy 1, 1037, .inl g))] s.heap := hP
  have hl := lv_entry ([.ref h0, .int 2]) (n := 2) (Nat.le_of_ble_eq_true rfl)
  rw [lg_entry_eq]
  generalize (lg_sl ([.ref h0, .int 2]) ++ List.replicate (2 - (lg_sl ([.ref h0, .int 2])).length) Slot.unset).toArray = ls at hl ⊢
  have hl : lv_has ls 2 [(0, .ref h0), (1, .int 2)] := hl
  generalize hHe : s.heap = H at hP hS ⊢
  have hS : va_S A s.heap H [] := by rw [hHe]; exact hS
  refine lv_aload_n hx hb dX8_total_0 rfl (lv_at hl 0 rfl) ?_
  refine lv_iload_n hx hb dX8_total_1 rfl (lv_at hl 1 rfl) ?_
  refine lv_i2l (v := 2) hx hb dX8_total_2 (by decide) ?_
  refine lv_lconst (v := 0) hx hb dX8_total_3 (by decide) ?_
  refine lv_ldc2 hx hb hown (hts _ mw_612) dX8_total_4 ?_
  have hPc := hP.sub (ws' := []) [] rfl
  have hDc := hD.sub (ws' := []) [] (by decide) rfl
  have hFc := va_free (wc := []) hD hS hA [] rfl
  refine va_calli (va_runS (As := [.long 2, .long 0, .long 4]) (rest := [.ref h0]) ⟨hx, hb, hml, hown, hts⟩ (c_X8_in l dC dI cy nb 2 0 4 H.size) (va_cwS 3 hts (gS mw_445 mw_446 mw_5 mw_447) rfl rfl rfl (by decide +kernel) ⟨Nat.le_of_ble_eq_true rfl, Nat.le_of_ble_eq_true rfl⟩) ⟨fun a U g mk q => by obtain ⟨q0, q1, qP, qK, qD, qE⟩ := q; exact ⟨q0, q1, qP, va_K.moved (u := U) (U := U.calling g mk a) (Vm.Alike.refl U.vm) qK, qD, GE.calling qE⟩, fun U hU hW => ⟨rfl, by rw [hU], by rw [hU]; exact hPc, va_K.moved hW.alike hK, hDc.weaken (fun _ _ _ _ => trivial), GE.call hE hS hFc hU hW⟩⟩ rfl rfl hl.1 rfl (lv_room (Nat.le_of_ble_eq_true rfl)) dX8_total_7 ⟨Nat.le_of_ble_eq_true rfl, Nat.le_of_ble_eq_true rfl⟩) hS (fun q _ h => hFc q h) hFc (fun r u t H1 locs ht hvm hw1 hB hz1 hk1 hS => ?_)
  obtain ⟨hP1, hD1⟩ := hB
  rw [ht] at hP1
  obtain ⟨hP, hD⟩ := va_join (wr := [(h0, .inr (8, [.ref a1, .ref a2, .ref a3, .ref a4, .ref a5, .int 0, .int x6, .ref a6, .int 0, .int 0, .int 0, .int 0, .int 0, .int 0, .int 0, .int 0, .int (-1), .ref a7, .ref a8, .int 0, .ref a9, .ref b0, .int 0])), (a1, .inl (cy 1, 1037, .inl g))]) (w1 := []) hP hD [] [0, 1] rfl rfl (by decide) (by decide) hk1 hFc hP1 hD1
  generalize H1 = H at hP hS ⊢
  have hP : va_P (dC, dI) vwCl [(h0, .inr (8, [.ref a1, .ref a2, .ref a3, .ref a4, .ref a5, .int 0, .int x6, .ref a6, .int 0, .int 0, .int 0, .int 0, .int 0, .int 0, .int 0, .int 0, .int (-1), .ref a7, .ref a8, .int 0, .ref a9, .ref b0, .int 0])), (a1, .inl (cy 1, 1037, .inl g))] H := hP
  have hD : va_D A [(h0, .inr (8, [.ref a1, .ref a2, .ref a3, .ref a4, .ref a5, .int 0, .int x6, .ref a6, .int 0, .int 0, .int 0, .int 0, .int 0, .int 0, .int 0, .int 0, .int (-1), .ref a7, .ref a8, .int 0, .ref a9, .ref b0, .int 0])), (a1, .inl (cy 1, 1037, .inl g))] := hD
  obtain rfl := hw1
  refine my_topi (y := 1) (by decide) ?_
  refine W.widen (k := 0) (n := 0) (by omega) (by omega) ?_
  refine lv_iconst (v := 1) hx hb dX8_total_10 (by decide) ?_
  have hPc := hP.sub (ws' := [(h0, .inr (8, [.ref a1, .ref a2, .ref a3, .ref a4, .ref a5, .int 0, .int x6, .ref a6, .int 0, .int 0, .int 0, .int 0, .int 0, .int 0, .int 0, .int 0, .int (-1), .ref a7, .ref a8, .int 0, .ref a9, .ref b0, .int 0]))]) [0] rfl
  have hDc := hD.sub (ws' := [(h0, .inr (8, [.ref a1, .ref a2, .ref a3, .ref a4, .ref a5, .int 0, .int x6, .ref a6, .int 0, .int 0, .int 0, .int 0, .int 0, .int 0, .int 0, .int 0, .int (-1), .ref a7, .ref a8, .int 0, .ref a9, .ref b0, .int 0]))]) [0] (by decide) rfl
  have hFc := va_free (wc := [(h0, .inr (8, [.ref a1, .ref a2, .ref a3, .ref a4, .ref a5, .int 0, .int x6, .ref a6, .int 0, .int 0, .int 0, .int 0, .int 0, .int 0, .int 0, .int 0, .int (-1), .ref a7, .ref a8, .int 0, .ref a9, .ref b0, .int 0]))]) hD hS hA [0] rfl
  refine va_calli (va_runV (As := [.int 1, .int 1]) (rest := []) ⟨hx, hb, hml, hown, hts⟩ (c_X8_isThrown_1 l dC dI cy nb h0 (.ref a1) (.ref a2) (.ref a3) (.ref a4) (.ref a5) (.int 0) (.ref a6) (.int 0) (.int 0) (.int 0) (.int 0) (.int 0) (.int 0) (.int 0) (.int 0) (.int (-1)) (.ref a7) (.ref a8) (.int 0) (.ref a9) (.ref b0) (.int 0) x6 1 H.size) (cwV 2 hts (gV mw_580 mw_581 mw_582 mw_5 mw_583) rfl rfl rfl (by decide +kernel) ⟨Nat.le_of_ble_eq_true rfl, Nat.le_of_ble_eq_true rfl⟩) ⟨fun a U g mk q => by obtain ⟨q0, q1, qP, qK, qD, qE⟩ := q; exact ⟨q0, q1, qP, va_K.moved (u := U) (U := U.calling g mk a) (Vm.Alike.refl U.vm) qK, qD, GE.calling qE⟩, va_recv hK hP (ci := 8) (q0 := 0) rfl rfl, fun U hU hW => ⟨rfl, by rw [hU], by rw [hU]; exact hPc, va_K.moved hW.alike hK, hDc.weaken (fun _ _ _ _ => trivial), GE.call hE hS hFc hU hW⟩⟩ rfl rfl hl.1 rfl (lv_room (Nat.le_of_ble_eq_true rfl)) dX8_total_11 ⟨Nat.le_of_ble_eq_true rfl, Nat.le_of_ble_eq_true rfl⟩) hS (fun q _ h => hFc q h) hFc (fun r u t H1 locs ht hvm hw2 hB hz1 hk1 hS => ?_)
  obtain ⟨hP1, hD1⟩ := hB
  rw [ht] at hP1
  obtain ⟨hP, hD⟩ := va_join (wr := [(a1, .inl (cy 1, 1037, .inl g))]) (w1 := [(h0, .inr (8, [.ref a1, .ref a2, .ref a3, .ref a4, .ref a5, .int 0, .int 0, .ref a6, .int 0, .int 0, .int 0, .int 0, .int 0, .int 0, .int 0, .int 0, .int (-1), .ref a7, .ref a8, .int 0, .ref a9, .ref b0, .int 0]))]) hP hD [0] [1] rfl rfl (by decide) (by decide) hk1 hFc hP1 hD1
  generalize H1 = H at hP hS ⊢
  have hP : va_P (dC, dI) vwCl [(a1, .inl (cy 1, 1037, .inl g)), (h0, .inr (8, [.ref a1, .ref a2, .ref a3, .ref a4, .ref a5, .int 0, .int 0, .ref a6, .int 0, .int 0, .int 0, .int 0, .int 0, .int 0, .int 0, .int 0, .int (-1), .ref a7, .ref a8, .int 0, .ref a9, .ref b0, .int 0]))] H := hP
  have hD : va_D A [(a1, .inl (cy 1, 1037, .inl g)), (h0, .inr (8, [.ref a1, .ref a2, .ref a3, .ref a4, .ref a5, .int 0, .int 0, .ref a6, .int 0, .int 0, .int 0, .int 0, .int 0, .int 0, .int 0, .int 0, .int (-1), .ref a7, .ref a8, .int 0, .ref a9, .ref b0, .int 0]))] := hD
  obtain rfl := hw2
  refine W.widen (k := 0) (n := 0) (by omega) (by omega) ?_
  refine lv_if_eq (tgt := 21) hx hb dX8_total_14 (by decide) (fun _ => ?_) (fun h => absurd (by decide) h)
  refine lv_aload_n hx hb dX8_total_21 rfl (lv_at hl 0 rfl) ?_
  refine va_get (D := (dC, dI)) (ci := 8) (v := .ref a1) (C := RX8) (T := TX8) (N := 23) hx hb hts inlX8 hown hK hP 1 rfl rfl 0 (by decide) (hts _ mw_97) (fun _ h9 => h9) rfl dX8_total_22 ?_
  refine lv_bipush (v := 12) hx hb dX8_total_25 (by decide) ?_
  refine lv_iload_n hx hb dX8_total_27 rfl (lv_at hl 1 rfl) ?_
  refine lv_iadd hx hb dX8_total_28 ?_
  refine my_topi (y := 14) (by decide) ?_
  refine va_iald hx hb hK hP 0 1 rfl rfl (vp_in_nI (n := 14) (by decide) (by decide)) dX8_total_29 ?_
  refine my_topi (y := 0) (by exact hg.2.2.2 14 (by decide) (by decide)) ?_
  have hP9 := hP.sub (ws' := [(h0, .inr (8, [.ref a1, .ref a2, .ref a3, .ref a4, .ref a5, .int 0, .int 0, .ref a6, .int 0, .int 0, .int 0, .int 0, .int 0, .int 0, .int 0, .int 0, .int (-1), .ref a7, .ref a8, .int 0, .ref a9, .ref b0, .int 0]))]) [1] rfl
  have hD9 := hD.sub (ws' := [(h0, .inr (8, [.ref a1, .ref a2, .ref a3, .ref a4, .ref a5, .int 0, .int 0, .ref a6, .int 0, .int 0, .int 0, .int 0, .int 0, .int 0, .int 0, .int 0, .int (-1), .ref a7, .ref a8, .int 0, .ref a9, .ref b0, .int 0]))]) [1] (by decide) rfl
  refine W.widen (k := 0) (n := 0) (by omega) (by omega) ?_
  exact W.iret (v := 0) hx hb hr (fun t ht hW => ⟨⟨0, (), rfl, rfl, by rw [ht]; exact hP9, hD9⟩, hS.F ht⟩) hS.2.2 dX8_total_30
set_option maxHeartbeats 4000000 in
set_option maxRecDepth 100000 in
/-- X8_total -/
theorem c_X8_total_3 (l : Launch) (dC : Nat → ClassId) (dI : Nat → Nat → Nat) (cy : Nat → ClassId) (nb : Nat → Nat) (h0 : Nat) (a1 : Nat) (a2 : Nat) (a3 : Nat) (a4 : Nat) (a5 : Nat) (a6 : Nat) (a7 : Nat) (a8 : Nat) (a9 : Nat) (b0 : Nat) (x6 : Int32) (g : Nat → Int32) (sz : Nat) (hg : FN g) : Met l yX8_total (wsg yX8_total cX8_total 2 (some .int)) ({ frames := 15, cells := 0, slots := 0, locals := 1000 }) (va_Pc [.ref h0, .int 3] (fun U => U.heap.size = sz ∧ va_P (dC, dI) vwCl [(h0, .inr (8, [.ref a1, .ref a2, .ref a3, .ref a4, .ref a5, .int 0, .int x6, .ref a6, .int 0, .int 0, .int 0, .int 0, .int 0, .int 0, .int 0, .int 0, .int (-1), .ref a7, .ref a8, .int 0, .ref a9, .ref b0, .int 0])), (a1, .inl (cy 1, 1037, .inl g))] U.heap ∧ va_K (dC, dI) vwCl (tyL cy) U ∧ va_D (fun _ => True) [(h0, .inr (8, [.ref a1, .ref a2, .ref a3, .ref a4, .ref a5, .int 0, .int x6, .ref a6, .int 0, .int 0, .int 0, .int 0, .int 0, .int 0, .int 0, .int 0, .int (-1), .ref a7, .ref a8, .int 0, .ref a9, .ref b0, .int 0])), (a1, .inl (cy 1, 1037, .inl g))] ∧ GE nb (va_A [(h0, .inr (8, [.ref a1, .ref a2, .ref a3, .ref a4, .ref a5, .int 0, .int x6, .ref a6, .int 0, .int 0, .int 0, .int 0, .int 0, .int 0, .int 0, .int 0, .int (-1), .ref a7, .ref a8, .int 0, .ref a9, .ref b0, .int 0])), (a1, .inl (cy 1, 1037, .inl g))] sz) U)) (va_Qi (fun (r : Int32) (_ : Unit) => r = 0) (fun _ t => va_P (dC, dI) vwCl [(h0, .inr (8, [.ref a1, .ref a2, .ref a3, .ref a4, .ref a5, .int 0, .int 0, .ref a6, .int 0, .int 0, .int 0, .int 0, .int 0, .int 0, .int 0, .int 0, .int (-1), .ref a7, .ref a8, .int 0, .ref a9, .ref b0, .int 0]))] t.heap ∧ va_D (va_A [(h0, .inr (8, [.ref a1, .ref a2, .ref a3, .ref a4, .ref a5, .int 0, .int x6, .ref a6, .int 0, .int 0, .int 0, .int 0, .int 0, .int 0, .int 0, .int 0, .int (-1), .ref a7, .ref a8, .int 0, .ref a9, .ref b0, .int 0])), (a1, .inl (cy 1, 1037, .inl g))] sz) [(h0, .inr (8, [.ref a1, .ref a2, .ref a3, .ref a4, .ref a5, .int 0, .int 0, .ref a6, .int 0, .int 0, .int 0, .int 0, .int 0, .int 0, .int 0, .int 0, .int (-1), .ref a7, .ref a8, .int 0, .ref a9, .ref b0, .int 0]))]) (va_A [(h0, .inr (8, [.ref a1, .ref a2, .ref a3, .ref a4, .ref a5, .int 0, .int x6, .ref a6, .int 0, .int 0, .int 0, .int 0, .int 0, .int 0, .int 0, .int 0, .int (-1), .ref a7, .ref a8, .int 0, .ref a9, .ref b0, .int 0])), (a1, .inl (cy 1, 1037, .inl g))] sz)) 0 0 (va_A [(h0, .inr (8, [.ref a1, .ref a2, .ref a3, .ref a4, .ref a5, .int 0, .int x6, .ref a6, .int 0, .int 0, .int 0, .int 0, .int 0, .int 0, .int 0, .int 0, .int (-1), .ref a7, .ref a8, .int 0, .ref a9, .ref b0, .int 0])), (a1, .inl (cy 1, 1037, .inl g))] sz) := by
  refine Met.ofW (cc := cX8_total) (maxL := 2) (ret := (some .int)) (by decide) rfl ?_
  intro p e s m args below meth c s₁ B hml hv
  obtain ⟨rfl, hsz, hP, hK, hD0, hE⟩ := hv
  have hx := B.exec
  have hb := B.bytes
  have hr := B.returns
  have hts0 := atoms_spec (ws := (wsg yX8_total cX8_total 2 (some .int))) B.pre
  have hts : ∀ w ∈ wsL_law, w.before _ s = true := fun w h => hts0 w (List.mem_cons_of_mem _ h)
  have hown : s.vm.findClass RX8 = some m.cls := findClass_of_methodNamed B.named
  have hlocks := B.notSynchronized
  subst hsz
  have hD := hD0.self (sz := s.heap.size)
  generalize hAe : va_A [(h0, .inr (8, [.ref a1, .ref a2, .ref a3, .ref a4, .ref a5, .int 0, .int x6, .ref a6, .int 0, .int 0, .int 0, .int 0, .int 0, .int 0, .int 0, .int 0, .int (-1), .ref a7, .ref a8, .int 0, .ref a9, .ref b0, .int 0])), (a1, .inl (cy 1, 1037, .inl g))] s.heap.size = A at hD hE ⊢
  have hA : ∀ q : Nat, s.heap.size ≤ q → A q := fun q h => by rw [← hAe]; exact Or.inr h
  have hS : va_S A s.heap s.heap [] := va_S.rf
  have hP : va_P (dC, dI) vwCl [(h0, .inr (8, [.ref a1, .ref a2, .ref a3, .ref a4, .ref a5, .int 0, .int x6, .ref a6, .int 0, .int 0, .int 0, .int 0, .int 0, .int 0, .int 0, .int 0, .int (-1), .ref a7, .ref a8, .int 0, .ref a9, .ref b0, .int 0])), (a1, .inl (cy 1, 1037, .inl g))] s.heap := hP
  have hl := lv_entry ([.ref h0, .int 3]) (n := 2) (Nat.le_of_ble_eq_true rfl)
  rw [lg_entry_eq]
  generalize (lg_sl ([.ref h0, .int 3]) ++ List.replicate (2 - (lg_sl ([.ref h0, .int 3])).length) Slot.unset).toArray = ls at hl ⊢
  have hl : lv_has ls 2 [(0, .ref h0), (1, .int 3)] := hl
  generalize hHe : s.heap = H at hP hS ⊢
  have hS : va_S A s.heap H [] := by rw [hHe]; exact hS
  refine lv_aload_n hx hb dX8_total_0 rfl (lv_at hl 0 rfl) ?_
  refine lv_iload_n hx hb dX8_total_1 rfl (lv_at hl 1 rfl) ?_
  refine lv_i2l (v := 3) hx hb dX8_total_2 (by decide) ?_
  refine lv_lconst (v := 0) hx hb dX8_total_3 (by decide) ?_
  refine lv_ldc2 hx hb hown (hts _ mw_612) dX8_total_4 ?_
  have hPc := hP.sub (ws' := []) [] rfl
  have hDc := hD.sub (ws' := []) [] (by decide) rfl
  have hFc := va_free (wc := []) hD hS hA [] rfl
  refine va_calli (va_runS (As := [.long 3, .long 0, .long 4]) (rest := [.ref h0]) ⟨hx, hb, hml, hown, hts⟩ (c_X8_in l dC dI cy nb 3 0 4 H.size) (va_cwS 3 hts (gS mw_445 mw_446 mw_5 mw_447) rfl rfl rfl (by decide +kernel) ⟨Nat.le_of_ble_eq_true rfl, Nat.le_of_ble_eq_true rfl⟩) ⟨fun a U g mk q => by obtain ⟨q0, q1, qP, qK, qD, qE⟩ := q; exact ⟨q0, q1, qP, va_K.moved (u := U) (U := U.calling g mk a) (Vm.Alike.refl U.vm) qK, qD, GE.calling qE⟩, fun U hU hW => ⟨rfl, by rw [hU], by rw [hU]; exact hPc, va_K.moved hW.alike hK, hDc.weaken (fun _ _ _ _ => trivial), GE.call hE hS hFc hU hW⟩⟩ rfl rfl hl.1 rfl (lv_room (Nat.le_of_ble_eq_true rfl)) dX8_total_7 ⟨Nat.le_of_ble_eq_true rfl, Nat.le_of_ble_eq_true rfl⟩) hS (fun q _ h => hFc q h) hFc (fun r u t H1 locs ht hvm hw1 hB hz1 hk1 hS => ?_)
  obtain ⟨hP1, hD1⟩ := hB
  rw [ht] at hP1
  obtain ⟨hP, hD⟩ := va_join (wr := [(h0, .inr (8, [.ref a1, .ref a2, .ref a3, .ref a4, .ref a5, .int 0, .int x6, .ref a6, .int 0, .int 0, .int 0, .int 0, .int 0, .int 0, .int 0, .int 0, .int (-1), .ref a7, .ref a8, .int 0, .ref a9, .ref b0, .int 0])), (a1, .inl (cy 1, 1037, .inl g))]) (w1 := []) hP hD [] [0, 1] rfl rfl (by decide) (by decide) hk1 hFc hP1 hD1
  generalize H1 = H at hP hS ⊢
  have hP : va_P (dC, dI) vwCl [(h0, .inr (8, [.ref a1, .ref a2, .ref a3, .ref a4, .ref a5, .int 0, .int x6, .ref a6, .int 0, .int 0, .int 0, .int 0, .int 0, .int 0, .int 0, .int 0, .int (-1), .ref a7, .ref a8, .int 0, .ref a9, .ref b0, .int 0])), (a1, .inl (cy 1, 1037, .inl g))] H := hP
  have hD : va_D A [(h0, .inr (8, [.ref a1, .ref a2, .ref a3, .ref a4, .ref a5, .int 0, .int x6, .ref a6, .int 0, .int 0, .int 0, .int 0, .int 0, .int 0, .int 0, .int 0, .int (-1), .ref a7, .ref a8, .int 0, .ref a9, .ref b0, .int 0])), (a1, .inl (cy 1, 1037, .inl g))] := hD
  obtain rfl := hw1
  refine my_topi (y := 1) (by decide) ?_
  refine W.widen (k := 0) (n := 0) (by omega) (by omega) ?_
  refine lv_iconst (v := 1) hx hb dX8_total_10 (by decide) ?_
  have hPc := hP.sub (ws' := [(h0, .inr (8, [.ref a1, .ref a2, .ref a3, .ref a4, .ref a5, .int 0, .int x6, .ref a6, .int 0, .int 0, .int 0, .int 0, .int 0, .int 0, .int 0, .int 0, .int (-1), .ref a7, .ref a8, .int 0, .ref a9, .ref b0, .int 0]))]) [0] rfl
  have hDc := hD.sub (ws' := [(h0, .inr (8, [.ref a1, .ref a2, .ref a3, .ref a4, .ref a5, .int 0, .int x6, .ref a6, .int 0, .int 0, .int 0, .int 0, .int 0, .int 0, .int 0, .int 0, .int (-1), .ref a7, .ref a8, .int 0, .ref a9, .ref b0, .int 0]))]) [0] (by decide) rfl
  have hFc := va_free (wc := [(h0, .inr (8, [.ref a1, .ref a2, .ref a3, .ref a4, .ref a5, .int 0, .int x6, .ref a6, .int 0, .int 0, .int 0, .int 0, .int 0, .int 0, .int 0, .int 0, .int (-1), .ref a7, .ref a8, .int 0, .ref a9, .ref b0, .int 0]))]) hD hS hA [0] rfl
  refine va_calli (va_runV (As := [.int 1, .int 1]) (rest := []) ⟨hx, hb, hml, hown, hts⟩ (c_X8_isThrown_1 l dC dI cy nb h0 (.ref a1) (.ref a2) (.ref a3) (.ref a4) (.ref a5) (.int 0) (.ref a6) (.int 0) (.int 0) (.int 0) (.int 0) (.int 0) (.int 0) (.int 0) (.int 0) (.int (-1)) (.ref a7) (.ref a8) (.int 0) (.ref a9) (.ref b0) (.int 0) x6 1 H.size) (cwV 2 hts (gV mw_580 mw_581 mw_582 mw_5 mw_583) rfl rfl rfl (by decide +kernel) ⟨Nat.le_of_ble_eq_true rfl, Nat.le_of_ble_eq_true rfl⟩) ⟨fun a U g mk q => by obtain ⟨q0, q1, qP, qK, qD, qE⟩ := q; exact ⟨q0, q1, qP, va_K.moved (u := U) (U := U.calling g mk a) (Vm.Alike.refl U.vm) qK, qD, GE.calling qE⟩, va_recv hK hP (ci := 8) (q0 := 0) rfl rfl, fun U hU hW => ⟨rfl, by rw [hU], by rw [hU]; exact hPc, va_K.moved hW.alike hK, hDc.weaken (fun _ _ _ _ => trivial), GE.call hE hS hFc hU hW⟩⟩ rfl rfl hl.1 rfl (lv_room (Nat.le_of_ble_eq_true rfl)) dX8_total_11 ⟨Nat.le_of_ble_eq_true rfl, Nat.le_of_ble_eq_true rfl⟩) hS (fun q _ h => hFc q h) hFc (fun r u t H1 locs ht hvm hw2 hB hz1 hk1 hS => ?_)
  obtain ⟨hP1, hD1⟩ := hB
  rw [ht] at hP1
  obtain ⟨hP, hD⟩ := va_join (wr := [(a1, .inl (cy 1, 1037, .inl g))]) (w1 := [(h0, .inr (8, [.ref a1, .ref a2, .ref a3, .ref a4, .ref a5, .int 0, .int 0, .ref a6, .int 0, .int 0, .int 0, .int 0, .int 0, .int 0, .int 0, .int 0, .int (-1), .ref a7, .ref a8, .int 0, .ref a9, .ref b0, .int 0]))]) hP hD [0] [1] rfl rfl (by decide) (by decide) hk1 hFc hP1 hD1
  generalize H1 = H at hP hS ⊢
  have hP : va_P (dC, dI) vwCl [(a1, .inl (cy 1, 1037, .inl g)), (h0, .inr (8, [.ref a1, .ref a2, .ref a3, .ref a4, .ref a5, .int 0, .int 0, .ref a6, .int 0, .int 0, .int 0, .int 0, .int 0, .int 0, .int 0, .int 0, .int (-1), .ref a7, .ref a8, .int 0, .ref a9, .ref b0, .int 0]))] H := hP
  have hD : va_D A [(a1, .inl (cy 1, 1037, .inl g)), (h0, .inr (8, [.ref a1, .ref a2, .ref a3, .ref a4, .ref a5, .int 0, .int 0, .ref a6, .int 0, .int 0, .int 0, .int 0, .int 0, .int 0, .int 0, .int 0, .int (-1), .ref a7, .ref a8, .int 0, .ref a9, .ref b0, .int 0]))] := hD
  obtain rfl := hw2
  refine W.widen (k := 0) (n := 0) (by omega) (by omega) ?_
  refine lv_if_eq (tgt := 21) hx hb dX8_total_14 (by decide) (fun _ => ?_) (fun h => absurd (by decide) h)
  refine lv_aload_n hx hb dX8_total_21 rfl (lv_at hl 0 rfl) ?_
  refine va_get (D := (dC, dI)) (ci := 8) (v := .ref a1) (C := RX8) (T := TX8) (N := 23) hx hb hts inlX8 hown hK hP 1 rfl rfl 0 (by decide) (hts _ mw_97) (fun _ h9 => h9) rfl dX8_total_22 ?_
  refine lv_bipush (v := 12) hx hb dX8_total_25 (by decide) ?_
  refine lv_iload_n hx hb dX8_total_27 rfl (lv_at hl 1 rfl) ?_
  refine lv_iadd hx hb dX8_total_28 ?_
  refine my_topi (y := 15) (by decide) ?_
  refine va_iald hx hb hK hP 0 1 rfl rfl (vp_in_nI (n := 15) (by decide) (by decide)) dX8_total_29 ?_
  refine my_topi (y := 0) (by exact hg.2.2.2 15 (by decide) (by decide)) ?_
  have hP9 := hP.sub (ws' := [(h0, .inr (8, [.ref a1, .ref a2, .ref a3, .ref a4, .ref a5, .int 0, .int 0, .ref a6, .int 0, .int 0, .int 0, .int 0, .int 0, .int 0, .int 0, .int 0, .int (-1), .ref a7, .ref a8, .int 0, .ref a9, .ref b0, .int 0]))]) [1] rfl
  have hD9 := hD.sub (ws' := [(h0, .inr (8, [.ref a1, .ref a2, .ref a3, .ref a4, .ref a5, .int 0, .int 0, .ref a6, .int 0, .int 0, .int 0, .int 0, .int 0, .int 0, .int 0, .int 0, .int (-1), .ref a7, .ref a8, .int 0, .ref a9, .ref b0, .int 0]))]) [1] (by decide) rfl
  refine W.widen (k := 0) (n := 0) (by omega) (by omega) ?_
  exact W.iret (v := 0) hx hb hr (fun t ht hW => ⟨⟨0, (), rfl, rfl, by rw [ht]; exact hP9, hD9⟩, hS.F ht⟩) hS.2.2 dX8_total_30
set_option maxHeartbeats 4000000 in
set_option maxRecDepth 100000 in
/-- X8_total -/
theorem c_X8_total_4 (l : Launch) (dC : Nat → ClassId) (dI : Nat → Nat → Nat) (cy : Nat → ClassId) (nb : Nat → Nat) (h0 : Nat) (a1 : Nat) (a2 : Nat) (a3 : Nat) (a4 : Nat) (a5 : Nat) (a6 : Nat) (a7 : Nat) (a8 : Nat) (a9 : Nat) (b0 : Nat) (x6 : Int32) (g : Nat → Int32) (sz : Nat) (hg : FN g) : Met l yX8_total (wsg yX8_total cX8_total 2 (some .int)) ({ frames := 15, cells := 0, slots := 0, locals := 1000 }) (va_Pc [.ref h0, .int 4] (fun U => U.heap.size = sz ∧ va_P (dC, dI) vwCl [(h0, .inr (8, [.ref a1, .ref a2, .ref a3, .ref a4, .ref a5, .int 0, .int x6, .ref a6, .int 0, .int 0, .int 0, .int 0, .int 0, .int 0, .int 0, .int 0, .int (-1), .ref a7, .ref a8, .int 0, .ref a9, .ref b0, .int 0])), (a1, .inl (cy 1, 1037, .inl g))] U.heap ∧ va_K (dC, dI) vwCl (tyL cy) U ∧ va_D (fun _ => True) [(h0, .inr (8, [.ref a1, .ref a2, .ref a3, .ref a4, .ref a5, .int 0, .int x6, .ref a6, .int 0, .int 0, .int 0, .int 0, .int 0, .int 0, .int 0, .int 0, .int (-1), .ref a7, .ref a8, .int 0, .ref a9, .ref b0, .int 0])), (a1, .inl (cy 1, 1037, .inl g))] ∧ GE nb (va_A [(h0, .inr (8, [.ref a1, .ref a2, .ref a3, .ref a4, .ref a5, .int 0, .int x6, .ref a6, .int 0, .int 0, .int 0, .int 0, .int 0, .int 0, .int 0, .int 0, .int (-1), .ref a7, .ref a8, .int 0, .ref a9, .ref b0, .int 0])), (a1, .inl (cy 1, 1037, .inl g))] sz) U)) (va_Qi (fun (r : Int32) (_ : Unit) => r = 0) (fun _ t => va_P (dC, dI) vwCl [(h0, .inr (8, [.ref a1, .ref a2, .ref a3, .ref a4, .ref a5, .int 0, .int 0, .ref a6, .int 0, .int 0, .int 0, .int 0, .int 0, .int 0, .int 0, .int 0, .int (-1), .ref a7, .ref a8, .int 0, .ref a9, .ref b0, .int 0]))] t.heap ∧ va_D (va_A [(h0, .inr (8, [.ref a1, .ref a2, .ref a3, .ref a4, .ref a5, .int 0, .int x6, .ref a6, .int 0, .int 0, .int 0, .int 0, .int 0, .int 0, .int 0, .int 0, .int (-1), .ref a7, .ref a8, .int 0, .ref a9, .ref b0, .int 0])), (a1, .inl (cy 1, 1037, .inl g))] sz) [(h0, .inr (8, [.ref a1, .ref a2, .ref a3, .ref a4, .ref a5, .int 0, .int 0, .ref a6, .int 0, .int 0, .int 0, .int 0, .int 0, .int 0, .int 0, .int 0, .int (-1), .ref a7, .ref a8, .int 0, .ref a9, .ref b0, .int 0]))]) (va_A [(h0, .inr (8, [.ref a1, .ref a2, .ref a3, .ref a4, .ref a5, .int 0, .int x6, .ref a6, .int 0, .int 0, .int 0, .int 0, .int 0, .int 0, .int 0, .int 0, .int (-1), .ref a7, .ref a8, .int 0, .ref a9, .ref b0, .int 0])), (a1, .inl (cy 1, 1037, .inl g))] sz)) 0 0 (va_A [(h0, .inr (8, [.ref a1, .ref a2, .ref a3, .ref a4, .ref a5, .int 0, .int x6, .ref a6, .int 0, .int 0, .int 0, .int 0, .int 0, .int 0, .int 0, .int 0, .int (-1), .ref a7, .ref a8, .int 0, .ref a9, .ref b0, .int 0])), (a1, .inl (cy 1, 1037, .inl g))] sz) := by
  refine Met.ofW (cc := cX8_total) (maxL := 2) (ret := (some .int)) (by decide) rfl ?_
  intro p e s m args below meth c s₁ B hml hv
  obtain ⟨rfl, hsz, hP, hK, hD0, hE⟩ := hv
  have hx := B.exec
  have hb := B.bytes
  have hr := B.returns
  have hts0 := atoms_spec (ws := (wsg yX8_total cX8_total 2 (some .int))) B.pre
  have hts : ∀ w ∈ wsL_law, w.before _ s = true := fun w h => hts0 w (List.mem_cons_of_mem _ h)
  have hown : s.vm.findClass RX8 = some m.cls := findClass_of_methodNamed B.named
  have hlocks := B.notSynchronized
  subst hsz
  have hD := hD0.self (sz := s.heap.size)
  generalize hAe : va_A [(h0, .inr (8, [.ref a1, .ref a2, .ref a3, .ref a4, .ref a5, .int 0, .int x6, .ref a6, .int 0, .int 0, .int 0, .int 0, .int 0, .int 0, .int 0, .int 0, .int (-1), .ref a7, .ref a8, .int 0, .ref a9, .ref b0, .int 0])), (a1, .inl (cy 1, 1037, .inl g))] s.heap.size = A at hD hE ⊢
  have hA : ∀ q : Nat, s.heap.size ≤ q → A q := fun q h => by rw [← hAe]; exact Or.inr h
  have hS : va_S A s.heap s.heap [] := va_S.rf
  have hP : va_P (dC, dI) vwCl [(h0, .inr (8, [.ref a1, .ref a2, .ref a3, .ref a4, .ref a5, .int 0, .int x6, .ref a6, .int 0, .int 0, .int 0, .int 0, .int 0, .int 0, .int 0, .int 0, .int (-1), .ref a7, .ref a8, .int 0, .ref a9, .ref b0, .int 0])), (a1, .inl (cy 1, 1037, .inl g))] s.heap := hP
  have hl := lv_entry ([.ref h0, .int 4]) (n := 2) (Nat.le_of_ble_eq_true rfl)
  rw [lg_entry_eq]
  generalize (lg_sl ([.ref h0, .int 4]) ++ List.replicate (2 - (lg_sl ([.ref h0, .int 4])).length) Slot.unset).toArray = ls at hl ⊢
  have hl : lv_has ls 2 [(0, .ref h0), (1, .int 4)] := hl
  generalize hHe : s.heap = H at hP hS ⊢
  have hS : va_S A s.heap H [] := by rw [hHe]; exact hS
  refine lv_aload_n hx hb dX8_total_0 rfl (lv_at hl 0 rfl) ?_
  refine lv_iload_n hx hb dX8_total_1 rfl (lv_at hl 1 rfl) ?_
  refine lv_i2l (v := 4) hx hb dX8_total_2 (by decide) ?_
  refine lv_lconst (v := 0) hx hb dX8_total_3 (by decide) ?_
  refine lv_ldc2 hx hb hown (hts _ mw_612) dX8_total_4 ?_
  have hPc := hP.sub (ws' := []) [] rfl
  have hDc := hD.sub (ws' := []) [] (by decide) rfl
  have hFc := va_free (wc := []) hD hS hA [] rfl
  refine va_calli (va_runS (As := [.long 4, .long 0, .long 4]) (rest := [.ref h0]) ⟨hx, hb, hml, hown, hts⟩ (c_X8_in l dC dI cy nb 4 0 4 H.size) (va_cwS 3 hts (gS mw_445 mw_446 mw_5 mw_447) rfl rfl rfl (by decide +kernel) ⟨Nat.le_of_ble_eq_true rfl, Nat.le_of_ble_eq_true rfl⟩) ⟨fun a U g mk q => by obtain ⟨q0, q1, qP, qK, qD, qE⟩ := q; exact ⟨q0, q1, qP, va_K.moved (u := U) (U := U.calling g mk a) (Vm.Alike.refl U.vm) qK, qD, GE.calling qE⟩, fun U hU hW => ⟨rfl, by rw [hU], by rw [hU]; exact hPc, va_K.moved hW.alike hK, hDc.weaken (fun _ _ _ _ => trivial), GE.call hE hS hFc hU hW⟩⟩ rfl rfl hl.1 rfl (lv_room (Nat.le_of_ble_eq_true rfl)) dX8_total_7 ⟨Nat.le_of_ble_eq_true rfl, Nat.le_of_ble_eq_true rfl⟩) hS (fun q _ h => hFc q h) hFc (fun r u t H1 locs ht hvm hw1 hB hz1 hk1 hS => ?_)
  obtain ⟨hP1, hD1⟩ := hB
  rw [ht] at hP1
  obtain ⟨hP, hD⟩ := va_join (wr := [(h0, .inr (8, [.ref a1, .ref a2, .ref a3, .ref a4, .ref a5, .int 0, .int x6, .ref a6, .int 0, .int 0, .int 0, .int 0, .int 0, .int 0, .int 0, .int 0, .int (-1), .ref a7, .ref a8, .int 0, .ref a9, .ref b0, .int 0])), (a1, .inl (cy 1, 1037, .inl g))]) (w1 := []) hP hD [] [0, 1] rfl rfl (by decide) (by decide) hk1 hFc hP1 hD1
  generalize H1 = H at hP hS ⊢
  have hP : va_P (dC, dI) vwCl [(h0, .inr (8, [.ref a1, .ref a2, .ref a3, .ref a4, .ref a5, .int 0, .int x6, .ref a6, .int 0, .int 0, .int 0, .int 0, .int 0, .int 0, .int 0, .int 0, .int (-1), .ref a7, .ref a8, .int 0, .ref a9, .ref b0, .int 0])), (a1, .inl (cy 1, 1037, .inl g))] H := hP
  have hD : va_D A [(h0, .inr (8, [.ref a1, .ref a2, .ref a3, .ref a4, .ref a5, .int 0, .int x6, .ref a6, .int 0, .int 0, .int 0, .int 0, .int 0, .int 0, .int 0, .int 0, .int (-1), .ref a7, .ref a8, .int 0, .ref a9, .ref b0, .int 0])), (a1, .inl (cy 1, 1037, .inl g))] := hD
  obtain rfl := hw1
  refine my_topi (y := 1) (by decide) ?_
  refine W.widen (k := 0) (n := 0) (by omega) (by omega) ?_
  refine lv_iconst (v := 1) hx hb dX8_total_10 (by decide) ?_
  have hPc := hP.sub (ws' := [(h0, .inr (8, [.ref a1, .ref a2, .ref a3, .ref a4, .ref a5, .int 0, .int x6, .ref a6, .int 0, .int 0, .int 0, .int 0, .int 0, .int 0, .int 0, .int 0, .int (-1), .ref a7, .ref a8, .int 0, .ref a9, .ref b0, .int 0]))]) [0] rfl
  have hDc := hD.sub (ws' := [(h0, .inr (8, [.ref a1, .ref a2, .ref a3, .ref a4, .ref a5, .int 0, .int x6, .ref a6, .int 0, .int 0, .int 0, .int 0, .int 0, .int 0, .int 0, .int 0, .int (-1), .ref a7, .ref a8, .int 0, .ref a9, .ref b0, .int 0]))]) [0] (by decide) rfl
  have hFc := va_free (wc := [(h0, .inr (8, [.ref a1, .ref a2, .ref a3, .ref a4, .ref a5, .int 0, .int x6, .ref a6, .int 0, .int 0, .int 0, .int 0, .int 0, .int 0, .int 0, .int 0, .int (-1), .ref a7, .ref a8, .int 0, .ref a9, .ref b0, .int 0]))]) hD hS hA [0] rfl
  refine va_calli (va_runV (As := [.int 1, .int 1]) (rest := []) ⟨hx, hb, hml, hown, hts⟩ (c_X8_isThrown_1 l dC dI cy nb h0 (.ref a1) (.ref a2) (.ref a3) (.ref a4) (.ref a5) (.int 0) (.ref a6) (.int 0) (.int 0) (.int 0) (.int 0) (.int 0) (.int 0) (.int 0) (.int 0) (.int (-1)) (.ref a7) (.ref a8) (.int 0) (.ref a9) (.ref b0) (.int 0) x6 1 H.size) (cwV 2 hts (gV mw_580 mw_581 mw_582 mw_5 mw_583) rfl rfl rfl (by decide +kernel) ⟨Nat.le_of_ble_eq_true rfl, Nat.le_of_ble_eq_true rfl⟩) ⟨fun a U g mk q => by obtain ⟨q0, q1, qP, qK, qD, qE⟩ := q; exact ⟨q0, q1, qP, va_K.moved (u := U) (U := U.calling g mk a) (Vm.Alike.refl U.vm) qK, qD, GE.calling qE⟩, va_recv hK hP (ci := 8) (q0 := 0) rfl rfl, fun U hU hW => ⟨rfl, by rw [hU], by rw [hU]; exact hPc, va_K.moved hW.alike hK, hDc.weaken (fun _ _ _ _ => trivial), GE.call hE hS hFc hU hW⟩⟩ rfl rfl hl.1 rfl (lv_room (Nat.le_of_ble_eq_true rfl)) dX8_total_11 ⟨Nat.le_of_ble_eq_true rfl, Nat.le_of_ble_eq_true rfl⟩) hS (fun q _ h => hFc q h) hFc (fun r u t H1 locs ht hvm hw2 hB hz1 hk1 hS => ?_)
  obtain ⟨hP1, hD1⟩ := hB
  rw [ht] at hP1
  obtain ⟨hP, hD⟩ := va_join (wr := [(a1, .inl (cy 1, 1037, .inl g))]) (w1 := [(h0, .inr (8, [.ref a1, .ref a2, .ref a3, .ref a4, .ref a5, .int 0, .int 0, .ref a6, .int 0, .int 0, .int 0, .int 0, .int 0, .int 0, .int 0, .int 0, .int (-1), .ref a7, .ref a8, .int 0, .ref a9, .ref b0, .int 0]))]) hP hD [0] [1] rfl rfl (by decide) (by decide) hk1 hFc hP1 hD1
  generalize H1 = H at hP hS ⊢
  have hP : va_P (dC, dI) vwCl [(a1, .inl (cy 1, 1037, .inl g)), (h0, .inr (8, [.ref a1, .ref a2, .ref a3, .ref a4, .ref a5, .int 0, .int 0, .ref a6, .int 0, .int 0, .int 0, .int 0, .int 0, .int 0, .int 0, .int 0, .int (-1), .ref a7, .ref a8, .int 0, .ref a9, .ref b0, .int 0]))] H := hP
  have hD : va_D A [(a1, .inl (cy 1, 1037, .inl g)), (h0, .inr (8, [.ref a1, .ref a2, .ref a3, .ref a4, .ref a5, .int 0, .int 0, .ref a6, .int 0, .int 0, .int 0, .int 0, .int 0, .int 0, .int 0, .int 0, .int (-1), .ref a7, .ref a8, .int 0, .ref a9, .ref b0, .int 0]))] := hD
  obtain rfl := hw2
  refine W.widen (k := 0) (n := 0) (by omega) (by omega) ?_
  refine lv_if_eq (tgt := 21) hx hb dX8_total_14 (by decide) (fun _ => ?_) (fun h => absurd (by decide) h)
  refine lv_aload_n hx hb dX8_total_21 rfl (lv_at hl 0 rfl) ?_
  refine va_get (D := (dC, dI)) (ci := 8) (v := .ref a1) (C := RX8) (T := TX8) (N := 23) hx hb hts inlX8 hown hK hP 1 rfl rfl 0 (by decide) (hts _ mw_97) (fun _ h9 => h9) rfl dX8_total_22 ?_
  refine lv_bipush (v := 12) hx hb dX8_total_25 (by decide) ?_
  refine lv_iload_n hx hb dX8_total_27 rfl (lv_at hl 1 rfl) ?_
  refine lv_iadd hx hb dX8_total_28 ?_
  refine my_topi (y := 16) (by decide) ?_
  refine va_iald hx hb hK hP 0 1 rfl rfl (vp_in_nI (n := 16) (by decide) (by decide)) dX8_total_29 ?_
  refine my_topi (y := 0) (by exact hg.2.2.2 16 (by decide) (by decide)) ?_
  have hP9 := hP.sub (ws' := [(h0, .inr (8, [.ref a1, .ref a2, .ref a3, .ref a4, .ref a5, .int 0, .int 0, .ref a6, .int 0, .int 0, .int 0, .int 0, .int 0, .int 0, .int 0, .int 0, .int (-1), .ref a7, .ref a8, .int 0, .ref a9, .ref b0, .int 0]))]) [1] rfl
  have hD9 := hD.sub (ws' := [(h0, .inr (8, [.ref a1, .ref a2, .ref a3, .ref a4, .ref a5, .int 0, .int 0, .ref a6, .int 0, .int 0, .int 0, .int 0, .int 0, .int 0, .int 0, .int 0, .int (-1), .ref a7, .ref a8, .int 0, .ref a9, .ref b0, .int 0]))]) [1] (by decide) rfl
  refine W.widen (k := 0) (n := 0) (by omega) (by omega) ?_
  exact W.iret (v := 0) hx hb hr (fun t ht hW => ⟨⟨0, (), rfl, rfl, by rw [ht]; exact hP9, hD9⟩, hS.F ht⟩) hS.2.2 dX8_total_30
set_option maxHeartbeats 4000000 in
set_option maxRecDepth 100000 in
/-- X8_restoreSnapshot -/
theorem c_X8_restoreSnapshot_0 (l : Launch) (dC : Nat → ClassId) (dI : Nat → Nat → Nat) (cy : Nat → ClassId) (nb : Nat → Nat) (h0 : Nat) (a1 : Nat) (a2 : Nat) (a3 : Nat) (a4 : Nat) (a5 : Nat) (a6 : Nat) (a7 : Nat) (a8 : Nat) (a9 : Nat) (b0 : Nat) (x6 : Int32) (g : Nat → Int32) (sz : Nat) (hg : FN g) : Met l yX8_restoreSnapshot (wsg yX8_restoreSnapshot cX8_restoreSnapshot 2 (some .int)) ({ frames := 15, cells := 0, slots := 0, locals := 1000 }) (va_Pc [.ref h0, .int 0] (fun U => U.heap.size = sz ∧ va_P (dC, dI) vwCl [(h0, .inr (8, [.ref a1, .ref a2, .ref a3, .ref a4, .ref a5, .int 0, .int x6, .ref a6, .int 0, .int 0, .int 0, .int 0, .int 0, .int 0, .int 0, .int 0, .int (-1), .ref a7, .ref a8, .int 0, .ref a9, .ref b0, .int 0])), (a1, .inl (cy 1, 1037, .inl g)), (a5, .inl (cy 2, 2, .inl (fun _ => 0)))] U.heap ∧ va_K (dC, dI) vwCl (tyL cy) U ∧ va_D (fun _ => True) [(h0, .inr (8, [.ref a1, .ref a2, .ref a3, .ref a4, .ref a5, .int 0, .int x6, .ref a6, .int 0, .int 0, .int 0, .int 0, .int 0, .int 0, .int 0, .int 0, .int (-1), .ref a7, .ref a8, .int 0, .ref a9, .ref b0, .int 0])), (a1, .inl (cy 1, 1037, .inl g)), (a5, .inl (cy 2, 2, .inl (fun _ => 0)))] ∧ GE nb (va_A [(h0, .inr (8, [.ref a1, .ref a2, .ref a3, .ref a4, .ref a5, .int 0, .int x6, .ref a6, .int 0, .int 0, .int 0, .int 0, .int 0, .int 0, .int 0, .int 0, .int (-1), .ref a7, .ref a8, .int 0, .ref a9, .ref b0, .int 0])), (a1, .inl (cy 1, 1037, .inl g)), (a5, .inl (cy 2, 2, .inl (fun _ => 0)))] sz) U)) (va_Qi (fun (r : Int32) (_ : Unit) => r = (-1)) (fun _ t => va_P (dC, dI) vwCl [(h0, .inr (8, [.ref a1, .ref a2, .ref a3, .ref a4, .ref a5, .int 0, .int 0, .ref a6, .int 0, .int 0, .int 0, .int 0, .int 0, .int 0, .int 0, .int 0, .int (-1), .ref a7, .ref a8, .int 0, .ref a9, .ref b0, .int 0]))] t.heap ∧ va_D (va_A [(h0, .inr (8, [.ref a1, .ref a2, .ref a3, .ref a4, .ref a5, .int 0, .int x6, .ref a6, .int 0, .int 0, .int 0, .int 0, .int 0, .int 0, .int 0, .int 0, .int (-1), .ref a7, .ref a8, .int 0, .ref a9, .ref b0, .int 0])), (a1, .inl (cy 1, 1037, .inl g)), (a5, .inl (cy 2, 2, .inl (fun _ => 0)))] sz) [(h0, .inr (8, [.ref a1, .ref a2, .ref a3, .ref a4, .ref a5, .int 0, .int 0, .ref a6, .int 0, .int 0, .int 0, .int 0, .int 0, .int 0, .int 0, .int 0, .int (-1), .ref a7, .ref a8, .int 0, .ref a9, .ref b0, .int 0]))]) (va_A [(h0, .inr (8, [.ref a1, .ref a2, .ref a3, .ref a4, .ref a5, .int 0, .int x6, .ref a6, .int 0, .int 0, .int 0, .int 0, .int 0, .int 0, .int 0, .int 0, .int (-1), .ref a7, .ref a8, .int 0, .ref a9, .ref b0, .int 0])), (a1, .inl (cy 1, 1037, .inl g)), (a5, .inl (cy 2, 2, .inl (fun _ => 0)))] sz)) 0 0 (va_A [(h0, .inr (8, [.ref a1, .ref a2, .ref a3, .ref a4, .ref a5, .int 0, .int x6, .ref a6, .int 0, .int 0, .int 0, .int 0, .int 0, .int 0, .int 0, .int 0, .int (-1), .ref a7, .ref a8, .int 0, .ref a9, .ref b0, .int 0])), (a1, .inl (cy 1, 1037, .inl g)), (a5, .inl (cy 2, 2, .inl (fun _ => 0)))] sz) := by
  refine Met.ofW (cc := cX8_restoreSnapshot) (maxL := 2) (ret := (some .int)) (by decide) rfl ?_
  intro p e s m args below meth c s₁ B hml hv
  obtain ⟨rfl, hsz, hP, hK, hD0, hE⟩ := hv
  have hx := B.exec
  have hb := B.bytes
  have hr := B.returns
  have hts0 := atoms_spec (ws := (wsg yX8_restoreSnapshot cX8_restoreSnapshot 2 (some .int))) B.pre
  have hts : ∀ w ∈ wsL_law, w.before _ s = true := fun w h => hts0 w (List.mem_cons_of_mem _ h)
  have hown : s.vm.findClass RX8 = some m.cls := findClass_of_methodNamed B.named
  have hlocks := B.notSynchronized
  subst hsz
  have hD := hD0.self (sz := s.heap.size)
  generalize hAe : va_A [(h0, .inr (8, [.ref a1, .ref a2, .ref a3, .ref a4, .ref a5, .int 0, .int x6, .ref a6, .int 0, .int 0, .int 0, .int 0, .int 0, .int 0, .int 0, .int 0, .int (-1), .ref a7, .ref a8, .int 0, .ref a9, .ref b0, .int 0])), (a1, .inl (cy 1, 1037, .inl g)), (a5, .inl (cy 2, 2, .inl (fun _ => 0)))] s.heap.size = A at hD hE ⊢
  have hA : ∀ q : Nat, s.heap.size ≤ q → A q := fun q h => by rw [← hAe]; exact Or.inr h
  have hS : va_S A s.heap s.heap [] := va_S.rf
  have hP : va_P (dC, dI) vwCl [(h0, .inr (8, [.ref a1, .ref a2, .ref a3, .ref a4, .ref a5, .int 0, .int x6, .ref a6, .int 0, .int 0, .int 0, .int 0, .int 0, .int 0, .int 0, .int 0, .int (-1), .ref a7, .ref a8, .int 0, .ref a9, .ref b0, .int 0])), (a1, .inl (cy 1, 1037, .inl g)), (a5, .inl (cy 2, 2, .inl (fun _ => 0)))] s.heap := hP
  have hl := lv_entry ([.ref h0, .int 0]) (n := 2) (Nat.le_of_ble_eq_true rfl)
  rw [lg_entry_eq]
  generalize (lg_sl ([.ref h0, .int 0]) ++ List.replicate (2 - (lg_sl ([.ref h0, .int 0])).length) Slot.unset).toArray = ls at hl ⊢
  have hl : lv_has ls 2 [(0, .ref h0), (1, .int 0)] := hl
  generalize hHe : s.heap = H at hP hS ⊢
  have hS : va_S A s.heap H [] := by rw [hHe]; exact hS
  refine lv_aload_n hx hb dX8_restoreSnapshot_0 rfl (lv_at hl 0 rfl) ?_
  refine lv_iload_n hx hb dX8_restoreSnapshot_1 rfl (lv_at hl 1 rfl) ?_
  refine lv_i2l (v := 0) hx hb dX8_restoreSnapshot_2 (by decide) ?_
  refine lv_lconst (v := 0) hx hb dX8_restoreSnapshot_3 (by decide) ?_
  refine lv_lconst (v := 1) hx hb dX8_restoreSnapshot_4 (by decide) ?_
  have hPc := hP.sub (ws' := []) [] rfl
  have hDc := hD.sub (ws' := []) [] (by decide) rfl
  have hFc := va_free (wc := []) hD hS hA [] rfl
  refine va_calli (va_runS (As := [.long 0, .long 0, .long 1]) (rest := [.ref h0]) ⟨hx, hb, hml, hown, hts⟩ (c_X8_in l dC dI cy nb 0 0 1 H.size) (va_cwS 3 hts (gS mw_445 mw_446 mw_5 mw_447) rfl rfl rfl (by decide +kernel) ⟨Nat.le_of_ble_eq_true rfl, Nat.le_of_ble_eq_true rfl⟩) ⟨fun a U g mk q => by obtain ⟨q0, q1, qP, qK, qD, qE⟩ := q; exact ⟨q0, q1, qP, va_K.moved (u := U) (U := U.calling g mk a) (Vm.Alike.refl U.vm) qK, qD, GE.calling qE⟩, fun U hU hW => ⟨rfl, by rw [hU], by rw [hU]; exact hPc, va_K.moved hW.alike hK, hDc.weaken (fun _ _ _ _ => trivial), GE.call hE hS hFc hU hW⟩⟩ rfl rfl hl.1 rfl (lv_room (Nat.le_of_ble_eq_true rfl)) dX8_restoreSnapshot_5 ⟨Nat.le_of_ble_eq_true rfl, Nat.le_of_ble_eq_true rfl⟩) hS (fun q _ h => hFc q h) hFc (fun r u t H1 locs ht hvm hw1 hB hz1 hk1 hS => ?_)
  obtain ⟨hP1, hD1⟩ := hB
  rw [ht] at hP1
  obtain ⟨hP, hD⟩ := va_join (wr := [(h0, .inr (8, [.ref a1, .ref a2, .ref a3, .ref a4, .ref a5, .int 0, .int x6, .ref a6, .int 0, .int 0, .int 0, .int 0, .int 0, .int 0, .int 0, .int 0, .int (-1), .ref a7, .ref a8, .int 0, .ref a9, .ref b0, .int 0])), (a1, .inl (cy 1, 1037, .inl g)), (a5, .inl (cy 2, 2, .inl (fun _ => 0)))]) (w1 := []) hP hD [] [0, 1, 2] rfl rfl (by decide) (by decide) hk1 hFc hP1 hD1
  generalize H1 = H at hP hS ⊢
  have hP : va_P (dC, dI) vwCl [(h0, .inr (8, [.ref a1, .ref a2, .ref a3, .ref a4, .ref a5, .int 0, .int x6, .ref a6, .int 0, .int 0, .int 0, .int 0, .int 0, .int 0, .int 0, .int 0, .int (-1), .ref a7, .ref a8, .int 0, .ref a9, .ref b0, .int 0])), (a1, .inl (cy 1, 1037, .inl g)), (a5, .inl (cy 2, 2, .inl (fun _ => 0)))] H := hP
  have hD : va_D A [(h0, .inr (8, [.ref a1, .ref a2, .ref a3, .ref a4, .ref a5, .int 0, .int x6, .ref a6, .int 0, .int 0, .int 0, .int 0, .int 0, .int 0, .int 0, .int 0, .int (-1), .ref a7, .ref a8, .int 0, .ref a9, .ref b0, .int 0])), (a1, .inl (cy 1, 1037, .inl g)), (a5, .inl (cy 2, 2, .inl (fun _ => 0)))] := hD
  obtain rfl := hw1
  refine my_topi (y := 1) (by decide) ?_
  refine W.widen (k := 0) (n := 0) (by omega) (by omega) ?_
  refine lv_iconst (v := 1) hx hb dX8_restoreSnapshot_8 (by decide) ?_
  have hPc := hP.sub (ws' := [(h0, .inr (8, [.ref a1, .ref a2, .ref a3, .ref a4, .ref a5, .int 0, .int x6, .ref a6, .int 0, .int 0, .int 0, .int 0, .int 0, .int 0, .int 0, .int 0, .int (-1), .ref a7, .ref a8, .int 0, .ref a9, .ref b0, .int 0]))]) [0] rfl
  have hDc := hD.sub (ws' := [(h0, .inr (8, [.ref a1, .ref a2, .ref a3, .ref a4, .ref a5, .int 0, .int x6, .ref a6, .int 0, .int 0, .int 0, .int 0, .int 0, .int 0, .int 0, .int 0, .int (-1), .ref a7, .ref a8, .int 0, .ref a9, .ref b0, .int 0]))]) [0] (by decide) rfl
  have hFc := va_free (wc := [(h0, .inr (8, [.ref a1, .ref a2, .ref a3, .ref a4, .ref a5, .int 0, .int x6, .ref a6, .int 0, .int 0, .int 0, .int 0, .int 0, .int 0, .int 0, .int 0, .int (-1), .ref a7, .ref a8, .int 0, .ref a9, .ref b0, .int 0]))]) hD hS hA [0] rfl
  refine va_calli (va_runV (As := [.int 1, .int 1]) (rest := []) ⟨hx, hb, hml, hown, hts⟩ (c_X8_isThrown_1 l dC dI cy nb h0 (.ref a1) (.ref a2) (.ref a3) (.ref a4) (.ref a5) (.int 0) (.ref a6) (.int 0) (.int 0) (.int 0) (.int 0) (.int 0) (.int 0) (.int 0) (.int 0) (.int (-1)) (.ref a7) (.ref a8) (.int 0) (.ref a9) (.ref b0) (.int 0) x6 1 H.size) (cwV 2 hts (gV mw_580 mw_581 mw_582 mw_5 mw_583) rfl rfl rfl (by decide +kernel) ⟨Nat.le_of_ble_eq_true rfl, Nat.le_of_ble_eq_true rfl⟩) ⟨fun a U g mk q => by obtain ⟨q0, q1, qP, qK, qD, qE⟩ := q; exact ⟨q0, q1, qP, va_K.moved (u := U) (U := U.calling g mk a) (Vm.Alike.refl U.vm) qK, qD, GE.calling qE⟩, va_recv hK hP (ci := 8) (q0 := 0) rfl rfl, fun U hU hW => ⟨rfl, by rw [hU], by rw [hU]; exact hPc, va_K.moved hW.alike hK, hDc.weaken (fun _ _ _ _ => trivial), GE.call hE hS hFc hU hW⟩⟩ rfl rfl hl.1 rfl (lv_room (Nat.le_of_ble_eq_true rfl)) dX8_restoreSnapshot_9 ⟨Nat.le_of_ble_eq_true rfl, Nat.le_of_ble_eq_true rfl⟩) hS (fun q _ h => hFc q h) hFc (fun r u t H1 locs ht hvm hw2 hB hz1 hk1 hS => ?_)
  obtain ⟨hP1, hD1⟩ := hB
  rw [ht] at hP1
  obtain ⟨hP, hD⟩ := va_join (wr := [(a1, .inl (cy 1, 1037, .inl g)), (a5, .inl (cy 2, 2, .inl (fun _ => 0)))]) (w1 := [(h0, .inr (8, [.ref a1, .ref a2, .ref a3, .ref a4, .ref a5, .int 0, .int 0, .ref a6, .int 0, .int 0, .int 0, .int 0, .int 0, .int 0, .int 0, .int 0, .int (-1), .ref a7, .ref a8, .int 0, .ref a9, .ref b0, .int 0]))]) hP hD [0] [1, 2] rfl rfl (by decide) (by decide) hk1 hFc hP1 hD1
  generalize H1 = H at hP hS ⊢
  have hP : va_P (dC, dI) vwCl [(a1, .inl (cy 1, 1037, .inl g)), (a5, .inl (cy 2, 2, .inl (fun _ => 0))), (h0, .inr (8, [.ref a1, .ref a2, .ref a3, .ref a4, .ref a5, .int 0, .int 0, .ref a6, .int 0, .int 0, .int 0, .int 0, .int 0, .int 0, .int 0, .int 0, .int (-1), .ref a7, .ref a8, .int 0, .ref a9, .ref b0, .int 0]))] H := hP
  have hD : va_D A [(a1, .inl (cy 1, 1037, .inl g)), (a5, .inl (cy 2, 2, .inl (fun _ => 0))), (h0, .inr (8, [.ref a1, .ref a2, .ref a3, .ref a4, .ref a5, .int 0, .int 0, .ref a6, .int 0, .int 0, .int 0, .int 0, .int 0, .int 0, .int 0, .int 0, .int (-1), .ref a7, .ref a8, .int 0, .ref a9, .ref b0, .int 0]))] := hD
  obtain rfl := hw2
  refine W.widen (k := 0) (n := 0) (by omega) (by omega) ?_
  refine lv_if_eq (tgt := 17) hx hb dX8_restoreSnapshot_12 (by decide) (fun _ => ?_) (fun h => absurd (by decide) h)
  refine lv_aload_n hx hb dX8_restoreSnapshot_17 rfl (lv_at hl 0 rfl) ?_
  refine va_get (D := (dC, dI)) (ci := 8) (v := .ref a5) (C := RX8) (T := TX8) (N := 23) hx hb hts inlX8 hown hK hP 2 rfl rfl 4 (by decide) (hts _ mw_102) (fun _ h9 => h9) rfl dX8_restoreSnapshot_18 ?_
  refine lv_iload_n hx hb dX8_restoreSnapshot_21 rfl (lv_at hl 1 rfl) ?_
  refine va_zald hx hb hK hP 1 2 rfl rfl (vp_in_nI (n := 0) (by decide) (by decide)) dX8_restoreSnapshot_22 ?_
  refine my_topi (y := 0) rfl ?_
  refine lv_if_ne (tgt := 28) hx hb dX8_restoreSnapshot_23 (by decide) (fun h => absurd h (by decide)) (fun _ => ?_)
  refine lv_iconst (v := (-1)) hx hb dX8_restoreSnapshot_26 (by decide) ?_
  have hP9 := hP.sub (ws' := [(h0, .inr (8, [.ref a1, .ref a2, .ref a3, .ref a4, .ref a5, .int 0, .int 0, .ref a6, .int 0, .int 0, .int 0, .int 0, .int 0, .int 0, .int 0, .int 0, .int (-1), .ref a7, .ref a8, .int 0, .ref a9, .ref b0, .int 0]))]) [2] rfl
  have hD9 := hD.sub (ws' := [(h0, .inr (8, [.ref a1, .ref a2, .ref a3, .ref a4, .ref a5, .int 0, .int 0, .ref a6, .int 0, .int 0, .int 0, .int 0, .int 0, .int 0, .int 0, .int 0, .int (-1), .ref a7, .ref a8, .int 0, .ref a9, .ref b0, .int 0]))]) [2] (by decide) rfl
  refine W.widen (k := 0) (n := 0) (by omega) (by omega) ?_
  exact W.iret (v := (-1)) hx hb hr (fun t ht hW => ⟨⟨(-1), (), rfl, rfl, by rw [ht]; exact hP9, hD9⟩, hS.F ht⟩) hS.2.2 dX8_restoreSnapshot_27
set_option maxHeartbeats 4000000 in
set_option maxRecDepth 100000 in
/-- X8_restoreSnapshot -/
theorem c_X8_restoreSnapshot_1 (l : Launch) (dC : Nat → ClassId) (dI : Nat → Nat → Nat) (cy : Nat → ClassId) (nb : Nat → Nat) (h0 : Nat) (a1 : Nat) (a2 : Nat) (a3 : Nat) (a4 : Nat) (a5 : Nat) (a6 : Nat) (a7 : Nat) (a8 : Nat) (a9 : Nat) (b0 : Nat) (x6 : Int32) (g : Nat → Int32) (sz : Nat) (hg : FN g) : Met l yX8_restoreSnapshot (wsg yX8_restoreSnapshot cX8_restoreSnapshot 2 (some .int)) ({ frames := 15, cells := 0, slots := 0, locals := 1000 }) (va_Pc [.ref h0, .int 1] (fun U => U.heap.size = sz ∧ va_P (dC, dI) vwCl [(h0, .inr (8, [.ref a1, .ref a2, .ref a3, .ref a4, .ref a5, .int 0, .int x6, .ref a6, .int 0, .int 0, .int 0, .int 0, .int 0, .int 0, .int 0, .int 0, .int (-1), .ref a7, .ref a8, .int 0, .ref a9, .ref b0, .int 0])), (a1, .inl (cy 1, 1037, .inl g)), (a5, .inl (cy 2, 2, .inl (fun _ => 0)))] U.heap ∧ va_K (dC, dI) vwCl (tyL cy) U ∧ va_D (fun _ => True) [(h0, .inr (8, [.ref a1, .ref a2, .ref a3, .ref a4, .ref a5, .int 0, .int x6, .ref a6, .int 0, .int 0, .int 0, .int 0, .int 0, .int 0, .int 0, .int 0, .int (-1), .ref a7, .ref a8, .int 0, .ref a9, .ref b0, .int 0])), (a1, .inl (cy 1, 1037, .inl g)), (a5, .inl (cy 2, 2, .inl (fun _ => 0)))] ∧ GE nb (va_A [(h0, .inr (8, [.ref a1, .ref a2, .ref a3, .ref a4, .ref a5, .int 0, .int x6, .ref a6, .int 0, .int 0, .int 0, .int 0, .int 0, .int 0, .int 0, .int 0, .int (-1), .ref a7, .ref a8, .int 0, .ref a9, .ref b0, .int 0])), (a1, .inl (cy 1, 1037, .inl g)), (a5, .inl (cy 2, 2, .inl (fun _ => 0)))] sz) U)) (va_Qi (fun (r : Int32) (_ : Unit) => r = (-1)) (fun _ t => va_P (dC, dI) vwCl [(h0, .inr (8, [.ref a1, .ref a2, .ref a3, .ref a4, .ref a5, .int 0, .int 0, .ref a6, .int 0, .int 0, .int 0, .int 0, .int 0, .int 0, .int 0, .int 0, .int (-1), .ref a7, .ref a8, .int 0, .ref a9, .ref b0, .int 0]))] t.heap ∧ va_D (va_A [(h0, .inr (8, [.ref a1, .ref a2, .ref a3, .ref a4, .ref a5, .int 0, .int x6, .ref a6, .int 0, .int 0, .int 0, .int 0, .int 0, .int 0, .int 0, .int 0, .int (-1), .ref a7, .ref a8, .int 0, .ref a9, .ref b0, .int 0])), (a1, .inl (cy 1, 1037, .inl g)), (a5, .inl (cy 2, 2, .inl (fun _ => 0)))] sz) [(h0, .inr (8, [.ref a1, .ref a2, .ref a3, .ref a4, .ref a5, .int 0, .int 0, .ref a6, .int 0, .int 0, .int 0, .int 0, .int 0, .int 0, .int 0, .int 0, .int (-1), .ref a7, .ref a8, .int 0, .ref a9, .ref b0, .int 0]))]) (va_A [(h0, .inr (8, [.ref a1, .ref a2, .ref a3, .ref a4, .ref a5, .int 0, .int x6, .ref a6, .int 0, .int 0, .int 0, .int 0, .int 0, .int 0, .int 0, .int 0, .int (-1), .ref a7, .ref a8, .int 0, .ref a9, .ref b0, .int 0])), (a1, .inl (cy 1, 1037, .inl g)), (a5, .inl (cy 2, 2, .inl (fun _ => 0)))] sz)) 0 0 (va_A [(h0, .inr (8, [.ref a1, .ref a2, .ref a3, .ref a4, .ref a5, .int 0, .int x6, .ref a6, .int 0, .int 0, .int 0, .int 0, .int 0, .int 0, .int 0, .int 0, .int (-1), .ref a7, .ref a8, .int 0, .ref a9, .ref b0, .int 0])), (a1, .inl (cy 1, 1037, .inl g)), (a5, .inl (cy 2, 2, .inl (fun _ => 0)))] sz) := by
  refine Met.ofW (cc := cX8_restoreSnapshot) (maxL := 2) (ret := (some .int)) (by decide) rfl ?_
  intro p e s m args below meth c s₁ B hml hv
  obtain ⟨rfl, hsz, hP, hK, hD0, hE⟩ := hv
  have hx := B.exec
  have hb := B.bytes
  have hr := B.returns
  have hts0 := atoms_spec (ws := (wsg yX8_restoreSnapshot cX8_restoreSnapshot 2 (some .int))) B.pre
  have hts : ∀ w ∈ wsL_law, w.before _ s = true := fun w h => hts0 w (List.mem_cons_of_mem _ h)
  have hown : s.vm.findClass RX8 = some m.cls := findClass_of_methodNamed B.named
  have hlocks := B.notSynchronized
  subst hsz
  have hD := hD0.self (sz := s.heap.size)
  generalize hAe : va_A [(h0, .inr (8, [.ref a1, .ref a2, .ref a3, .ref a4, .ref a5, .int 0, .int x6, .ref a6, .int 0, .int 0, .int 0, .int 0, .int 0, .int 0, .int 0, .int 0, .int (-1), .ref a7, .ref a8, .int 0, .ref a9, .ref b0, .int 0])), (a1, .inl (cy 1, 1037, .inl g)), (a5, .inl (cy 2, 2, .inl (fun _ => 0)))] s.heap.size = A at hD hE ⊢
  have hA : ∀ q : Nat, s.heap.size ≤ q → A q := fun q h => by rw [← hAe]; exact Or.inr h
  have hS : va_S A s.heap s.heap [] := va_S.rf
  have hP : va_P (dC, dI) vwCl [(h0, .inr (8, [.ref a1, .ref a2, .ref a3, .ref a4, .ref a5, .int 0, .int x6, .ref a6, .int 0, .int 0, .int 0, .int 0, .int 0, .int 0, .int 0, .int 0, .int (-1), .ref a7, .ref a8, .int 0, .ref a9, .ref b0, .int 0])), (a1, .inl (cy 1, 1037, .inl g)), (a5, .inl (cy 2, 2, .inl (fun _ => 0)))] s.heap := hP
  have hl := lv_entry ([.ref h0, .int 1]) (n := 2) (Nat.le_of_ble_eq_true rfl)
  rw [lg_entry_eq]
  generalize (lg_sl ([.ref h0, .int 1]) ++ List.replicate (2 - (lg_sl ([.ref h0, .int 1])).length) Slot.unset).toArray = ls at hl ⊢
  have hl : lv_has ls 2 [(0, .ref h0), (1, .int 1)] := hl
  generalize hHe : s.heap = H at hP hS ⊢
  have hS : va_S A s.heap H [] := by rw [hHe]; exact hS
  refine lv_aload_n hx hb dX8_restoreSnapshot_0 rfl (lv_at hl 0 rfl) ?_
  refine lv_iload_n hx hb dX8_restoreSnapshot_1 rfl (lv_at hl 1 rfl) ?_
  refine lv_i2l (v := 1) hx hb dX8_restoreSnapshot_2 (by decide) ?_
  refine lv_lconst (v := 0) hx hb dX8_restoreSnapshot_3 (by decide) ?_
  refine lv_lconst (v := 1) hx hb dX8_restoreSnapshot_4 (by decide) ?_
  have hPc := hP.sub (ws' := []) [] rfl
  have hDc := hD.sub (ws' := []) [] (by decide) rfl
  have hFc := va_free (wc := []) hD hS hA [] rfl
  refine va_calli (va_runS (As := [.long 1, .long 0, .long 1]) (rest := [.ref h0]) ⟨hx, hb, hml, hown, hts⟩ (c_X8_in l dC dI cy nb 1 0 1 H.size) (va_cwS 3 hts (gS mw_445 mw_446 mw_5 mw_447) rfl rfl rfl (by decide +kernel) ⟨Nat.le_of_ble_eq_true rfl, Nat.le_of_ble_eq_true rfl⟩) ⟨fun a U g mk q => by obtain ⟨q0, q1, qP, qK, qD, qE⟩ := q; exact ⟨q0, q1, qP, va_K.moved (u := U) (U := U.calling g mk a) (Vm.Alike.refl U.vm) qK, qD, GE.calling qE⟩, fun U hU hW => ⟨rfl, by rw [hU], by rw [hU]; exact hPc, va_K.moved hW.alike hK, hDc.weaken (fun _ _ _ _ => trivial), GE.call hE hS hFc hU hW⟩⟩ rfl rfl hl.1 rfl (lv_room (Nat.le_of_ble_eq_true rfl)) dX8_restoreSnapshot_5 ⟨Nat.le_of_ble_eq_true rfl, Nat.le_of_ble_eq_true rfl⟩) hS (fun q _ h => hFc q h) hFc (fun r u t H1 locs ht hvm hw1 hB hz1 hk1 hS => ?_)
  obtain ⟨hP1, hD1⟩ := hB
  rw [ht] at hP1
  obtain ⟨hP, hD⟩ := va_join (wr := [(h0, .inr (8, [.ref a1, .ref a2, .ref a3, .ref a4, .ref a5, .int 0, .int x6, .ref a6, .int 0, .int 0, .int 0, .int 0, .int 0, .int 0, .int 0, .int 0, .int (-1), .ref a7, .ref a8, .int 0, .ref a9, .ref b0, .int 0])), (a1, .inl (cy 1, 1037, .inl g)), (a5, .inl (cy 2, 2, .inl (fun _ => 0)))]) (w1 := []) hP hD [] [0, 1, 2] rfl rfl (by decide) (by decide) hk1 hFc hP1 hD1
  generalize H1 = H at hP hS ⊢
  have hP : va_P (dC, dI) vwCl [(h0, .inr (8, [.ref a1, .ref a2, .ref a3, .ref a4, .ref a5, .int 0, .int x6, .ref a6, .int 0, .int 0, .int 0, .int 0, .int 0, .int 0, .int 0, .int 0, .int (-1), .ref a7, .ref a8, .int 0, .ref a9, .ref b0, .int 0])), (a1, .inl (cy 1, 1037, .inl g)), (a5, .inl (cy 2, 2, .inl (fun _ => 0)))] H := hP
  have hD : va_D A [(h0, .inr (8, [.ref a1, .ref a2, .ref a3, .ref a4, .ref a5, .int 0, .int x6, .ref a6, .int 0, .int 0, .int 0, .int 0, .int 0, .int 0, .int 0, .int 0, .int (-1), .ref a7, .ref a8, .int 0, .ref a9, .ref b0, .int 0])), (a1, .inl (cy 1, 1037, .inl g)), (a5, .inl (cy 2, 2, .inl (fun _ => 0)))] := hD
  obtain rfl := hw1
  refine my_topi (y := 1) (by decide) ?_
  refine W.widen (k := 0) (n := 0) (by omega) (by omega) ?_
  refine lv_iconst (v := 1) hx hb dX8_restoreSnapshot_8 (by decide) ?_
  have hPc := hP.sub (ws' := [(h0, .inr (8, [.ref a1, .ref a2, .ref a3, .ref a4, .ref a5, .int 0, .int x6, .ref a6, .int 0, .int 0, .int 0, .int 0, .int 0, .int 0, .int 0, .int 0, .int (-1), .ref a7, .ref a8, .int 0, .ref a9, .ref b0, .int 0]))]) [0] rfl
  have hDc := hD.sub (ws' := [(h0, .inr (8, [.ref a1, .ref a2, .ref a3, .ref a4, .ref a5, .int 0, .int x6, .ref a6, .int 0, .int 0, .int 0, .int 0, .int 0, .int 0, .int 0, .int 0, .int (-1), .ref a7, .ref a8, .int 0, .ref a9, .ref b0, .int 0]))]) [0] (by decide) rfl
  have hFc := va_free (wc := [(h0, .inr (8, [.ref a1, .ref a2, .ref a3, .ref a4, .ref a5, .int 0, .int x6, .ref a6, .int 0, .int 0, .int 0, .int 0, .int 0, .int 0, .int 0, .int 0, .int (-1), .ref a7, .ref a8, .int 0, .ref a9, .ref b0, .int 0]))]) hD hS hA [0] rfl
  refine va_calli (va_runV (As := [.int 1, .int 1]) (rest := []) ⟨hx, hb, hml, hown, hts⟩ (c_X8_isThrown_1 l dC dI cy nb h0 (.ref a1) (.ref a2) (.ref a3) (.ref a4) (.ref a5) (.int 0) (.ref a6) (.int 0) (.int 0) (.int 0) (.int 0) (.int 0) (.int 0) (.int 0) (.int 0) (.int (-1)) (.ref a7) (.ref a8) (.int 0) (.ref a9) (.ref b0) (.int 0) x6 1 H.size) (cwV 2 hts (gV mw_580 mw_581 mw_582 mw_5 mw_583) rfl rfl rfl (by decide +kernel) ⟨Nat.le_of_ble_eq_true rfl, Nat.le_of_ble_eq_true rfl⟩) ⟨fun a U g mk q => by obtain ⟨q0, q1, qP, qK, qD, qE⟩ := q; exact ⟨q0, q1, qP, va_K.moved (u := U) (U := U.calling g mk a) (Vm.Alike.refl U.vm) qK, qD, GE.calling qE⟩, va_recv hK hP (ci := 8) (q0 := 0) rfl rfl, fun U hU hW => ⟨rfl, by rw [hU], by rw [hU]; exact hPc, va_K.moved hW.alike hK, hDc.weaken (fun _ _ _ _ => trivial), GE.call hE hS hFc hU hW⟩⟩ rfl rfl hl.1 rfl (lv_room (Nat.le_of_ble_eq_true rfl)) dX8_restoreSnapshot_9 ⟨Nat.le_of_ble_eq_true rfl, Nat.le_of_ble_eq_true rfl⟩) hS (fun q _ h => hFc q h) hFc (fun r u t H1 locs ht hvm hw2 hB hz1 hk1 hS => ?_)
  obtain ⟨hP1, hD1⟩ := hB
  rw [ht] at hP1
  obtain ⟨hP, hD⟩ := va_join (wr := [(a1, .inl (cy 1, 1037, .inl g)), (a5, .inl (cy 2, 2, .inl (fun _ => 0)))]) (w1 := [(h0, .inr (8, [.ref a1, .ref a2, .ref a3, .ref a4, .ref a5, .int 0, .int 0, .ref a6, .int 0, .int 0, .int 0, .int 0, .int 0, .int 0, .int 0, .int 0, .int (-1), .ref a7, .ref a8, .int 0, .ref a9, .ref b0, .int 0]))]) hP hD [0] [1, 2] rfl rfl (by decide) (by decide) hk1 hFc hP1 hD1
  generalize H1 = H at hP hS ⊢
  have hP : va_P (dC, dI) vwCl [(a1, .inl (cy 1, 1037, .inl g)), (a5, .inl (cy 2, 2, .inl (fun _ => 0))), (h0, .inr (8, [.ref a1, .ref a2, .ref a3, .ref a4, .ref a5, .int 0, .int 0, .ref a6, .int 0, .int 0, .int 0, .int 0, .int 0, .int 0, .int 0, .int 0, .int (-1), .ref a7, .ref a8, .int 0, .ref a9, .ref b0, .int 0]))] H := hP
  have hD : va_D A [(a1, .inl (cy 1, 1037, .inl g)), (a5, .inl (cy 2, 2, .inl (fun _ => 0))), (h0, .inr (8, [.ref a1, .ref a2, .ref a3, .ref a4, .ref a5, .int 0, .int 0, .ref a6, .int 0, .int 0, .int 0, .int 0, .int 0, .int 0, .int 0, .int 0, .int (-1), .ref a7, .ref a8, .int 0, .ref a9, .ref b0, .int 0]))] := hD
  obtain rfl := hw2
  refine W.widen (k := 0) (n := 0) (by omega) (by omega) ?_
  refine lv_if_eq (tgt := 17) hx hb dX8_restoreSnapshot_12 (by decide) (fun _ => ?_) (fun h => absurd (by decide) h)
  refine lv_aload_n hx hb dX8_restoreSnapshot_17 rfl (lv_at hl 0 rfl) ?_
  refine va_get (D := (dC, dI)) (ci := 8) (v := .ref a5) (C := RX8) (T := TX8) (N := 23) hx hb hts inlX8 hown hK hP 2 rfl rfl 4 (by decide) (hts _ mw_102) (fun _ h9 => h9) rfl dX8_restoreSnapshot_18 ?_
  refine lv_iload_n hx hb dX8_restoreSnapshot_21 rfl (lv_at hl 1 rfl) ?_
  refine va_zald hx hb hK hP 1 2 rfl rfl (vp_in_nI (n := 1) (by decide) (by decide)) dX8_restoreSnapshot_22 ?_
  refine my_topi (y := 0) rfl ?_
  refine lv_if_ne (tgt := 28) hx hb dX8_restoreSnapshot_23 (by decide) (fun h => absurd h (by decide)) (fun _ => ?_)
  refine lv_iconst (v := (-1)) hx hb dX8_restoreSnapshot_26 (by decide) ?_
  have hP9 := hP.sub (ws' := [(h0, .inr (8, [.ref a1, .ref a2, .ref a3, .ref a4, .ref a5, .int 0, .int 0, .ref a6, .int 0, .int 0, .int 0, .int 0, .int 0, .int 0, .int 0, .int 0, .int (-1), .ref a7, .ref a8, .int 0, .ref a9, .ref b0, .int 0]))]) [2] rfl
  have hD9 := hD.sub (ws' := [(h0, .inr (8, [.ref a1, .ref a2, .ref a3, .ref a4, .ref a5, .int 0, .int 0, .ref a6, .int 0, .int 0, .int 0, .int 0, .int 0, .int 0, .int 0, .int 0, .int (-1), .ref a7, .ref a8, .int 0, .ref a9, .ref b0, .int 0]))]) [2] (by decide) rfl
  refine W.widen (k := 0) (n := 0) (by omega) (by omega) ?_
  exact W.iret (v := (-1)) hx hb hr (fun t ht hW => ⟨⟨(-1), (), rfl, rfl, by rw [ht]; exact hP9, hD9⟩, hS.F ht⟩) hS.2.2 dX8_restoreSnapshot_27
set_option maxHeartbeats 4000000 in
set_option maxRecDepth 100000 in
/-- X8_saveSnapshot -/
theorem c_X8_saveSnapshot_0 (l : Launch) (dC : Nat → ClassId) (dI : Nat → Nat → Nat) (cy : Nat → ClassId) (nb : Nat → Nat) (h0 : Nat) (a1 : Nat) (a2 : Nat) (a3 : Nat) (a4 : Nat) (a5 : Nat) (a6 : Nat) (a7 : Nat) (a8 : Nat) (a9 : Nat) (b0 : Nat) (x6 : Int32) (g : Nat → Int32) (gc : Nat → Int32) (sz : Nat) (hg : FN g) : Met l yX8_saveSnapshot (wsg yX8_saveSnapshot cX8_saveSnapshot 2 (some .int)) ({ frames := 15, cells := 0, slots := 0, locals := 1000 }) (va_Pc [.ref h0, .int 0] (fun U => U.heap.size = sz ∧ va_P (dC, dI) vwCl [(h0, .inr (8, [.ref a1, .ref a2, .ref a3, .ref a4, .ref a5, .int 0, .int x6, .ref a6, .int 0, .int 0, .int 0, .int 0, .int 0, .int 0, .int 0, .int 0, .int (-1), .ref a7, .ref a8, .int 0, .ref a9, .ref b0, .int 0])), (a1, .inl (cy 1, 1037, .inl g)), (a4, .inl (cy 1, 2074, .inl gc)), (a5, .inl (cy 2, 2, .inl (fun _ => 0)))] U.heap ∧ va_K (dC, dI) vwCl (tyL cy) U ∧ va_D (fun _ => True) [(h0, .inr (8, [.ref a1, .ref a2, .ref a3, .ref a4, .ref a5, .int 0, .int x6, .ref a6, .int 0, .int 0, .int 0, .int 0, .int 0, .int 0, .int 0, .int 0, .int (-1), .ref a7, .ref a8, .int 0, .ref a9, .ref b0, .int 0])), (a1, .inl (cy 1, 1037, .inl g)), (a4, .inl (cy 1, 2074, .inl gc)), (a5, .inl (cy 2, 2, .inl (fun _ => 0)))] ∧ GE nb (va_A [(h0, .inr (8, [.ref a1, .ref a2, .ref a3, .ref a4, .ref a5, .int 0, .int x6, .ref a6, .int 0, .int 0, .int 0, .int 0, .int 0, .int 0, .int 0, .int 0, .int (-1), .ref a7, .ref a8, .int 0, .ref a9, .ref b0, .int 0])), (a1, .inl (cy 1, 1037, .inl g)), (a4, .inl (cy 1, 2074, .inl gc)), (a5, .inl (cy 2, 2, .inl (fun _ => 0)))] sz) U)) (va_Qi (fun (r : Int32) (_ : Unit) => r = 0) (fun _ t => va_P (dC, dI) vwCl [(h0, .inr (8, [.ref a1, .ref a2, .ref a3, .ref a4, .ref a5, .int 0, .int 0, .ref a6, .int 0, .int 0, .int 0, .int 0, .int 0, .int 0, .int 0, .int 0, .int (-1), .ref a7, .ref a8, .int 0, .ref a9, .ref b0, .int 0]))] t.heap ∧ va_D (va_A [(h0, .inr (8, [.ref a1, .ref a2, .ref a3, .ref a4, .ref a5, .int 0, .int x6, .ref a6, .int 0, .int 0, .int 0, .int 0, .int 0, .int 0, .int 0, .int 0, .int (-1), .ref a7, .ref a8, .int 0, .ref a9, .ref b0, .int 0])), (a1, .inl (cy 1, 1037, .inl g)), (a4, .inl (cy 1, 2074, .inl gc)), (a5, .inl (cy 2, 2, .inl (fun _ => 0)))] sz) [(h0, .inr (8, [.ref a1, .ref a2, .ref a3, .ref a4, .ref a5, .int 0, .int 0, .ref a6, .int 0, .int 0, .int 0, .int 0, .int 0, .int 0, .int 0, .int 0, .int (-1), .ref a7, .ref a8, .int 0, .ref a9, .ref b0, .int 0]))]) (va_A [(h0, .inr (8, [.ref a1, .ref a2, .ref a3, .ref a4, .ref a5, .int 0, .int x6, .ref a6, .int 0, .int 0, .int 0, .int 0, .int 0, .int 0, .int 0, .int 0, .int (-1), .ref a7, .ref a8, .int 0, .ref a9, .ref b0, .int 0])), (a1, .inl (cy 1, 1037, .inl g)), (a4, .inl (cy 1, 2074, .inl gc)), (a5, .inl (cy 2, 2, .inl (fun _ => 0)))] sz)) 0 0 (va_A [(h0, .inr (8, [.ref a1, .ref a2, .ref a3, .ref a4, .ref a5, .int 0, .int x6, .ref a6, .int 0, .int 0, .int 0, .int 0, .int 0, .int 0, .int 0, .int 0, .int (-1), .ref a7, .ref a8, .int 0, .ref a9, .ref b0, .int 0])), (a1, .inl (cy 1, 1037, .inl g)), (a4, .inl (cy 1, 2074, .inl gc)), (a5, .inl (cy 2, 2, .inl (fun _ => 0)))] sz) := by
  refine Met.ofW (cc := cX8_saveSnapshot) (maxL := 2) (ret := (some .int)) (by decide) rfl ?_
  intro p e s m args below meth c s₁ B hml hv
  obtain ⟨rfl, hsz, hP, hK, hD0, hE⟩ := hv
  have hx := B.exec
  have hb := B.bytes
  have hr := B.returns
  have hts0 := atoms_spec (ws := (wsg yX8_saveSnapshot cX8_saveSnapshot 2 (some .int))) B.pre
  have hts : ∀ w ∈ wsL_law, w.before _ s = true := fun w h => hts0 w (List.mem_cons_of_mem _ h)
  have hown : s.vm.findClass RX8 = some m.cls := findClass_of_methodNamed B.named
  have hlocks := B.notSynchronized
  subst hsz
  have hD := hD0.self (sz := s.heap.size)
  generalize hAe : va_A [(h0, .inr (8, [.ref a1, .ref a2, .ref a3, .ref a4, .ref a5, .int 0, .int x6, .ref a6, .int 0, .int 0, .int 0, .int 0, .int 0, .int 0, .int 0, .int 0, .int (-1), .ref a7, .ref a8, .int 0, .ref a9, .ref b0, .int 0])), (a1, .inl (cy 1, 1037, .inl g)), (a4, .inl (cy 1, 2074, .inl gc)), (a5, .inl (cy 2, 2, .inl (fun _ => 0)))] s.heap.size = A at hD hE ⊢
  have hA : ∀ q : Nat, s.heap.size ≤ q → A q := fun q h => by rw [← hAe]; exact Or.inr h
  have hS : va_S A s.heap s.heap [] := va_S.rf
  have hP : va_P (dC, dI) vwCl [(h0, .inr (8, [.ref a1, .ref a2, .ref a3, .ref a4, .ref a5, .int 0, .int x6, .ref a6, .int 0, .int 0, .int 0, .int 0, .int 0, .int 0, .int 0, .int 0, .int (-1), .ref a7, .ref a8, .int 0, .ref a9, .ref b0, .int 0])), (a1, .inl (cy 1, 1037, .inl g)), (a4, .inl (cy 1, 2074, .inl gc)), (a5, .inl (cy 2, 2, .inl (fun _ => 0)))] s.heap := hP
  have hl := lv_entry ([.ref h0, .int 0]) (n := 2) (Nat.le_of_ble_eq_true rfl)
  rw [lg_entry_eq]
  generalize (lg_sl ([.ref h0, .int 0]) ++ List.replicate (2 - (lg_sl ([.ref h0, .int 0])).length) Slot.unset).toArray = ls at hl ⊢
  have hl : lv_has ls 2 [(0, .ref h0), (1, .int 0)] := hl
  generalize hHe : s.heap = H at hP hS ⊢
  have hS : va_S A s.heap H [] := by rw [hHe]; exact hS
  refine lv_aload_n hx hb dX8_saveSnapshot_0 rfl (lv_at hl 0 rfl) ?_
  refine lv_iload_n hx hb dX8_saveSnapshot_1 rfl (lv_at hl 1 rfl) ?_
  refine lv_i2l (v := 0) hx hb dX8_saveSnapshot_2 (by decide) ?_
  refine lv_lconst (v := 0) hx hb dX8_saveSnapshot_3 (by decide) ?_
  refine lv_lconst (v := 1) hx hb dX8_saveSnapshot_4 (by decide) ?_
  have hPc := hP.sub (ws' := []) [] rfl
  have hDc := hD.sub (ws' := []) [] (by decide) rfl
  have hFc := va_free (wc := []) hD hS hA [] rfl
  refine va_calli (va_runS (As := [.long 0, .long 0, .long 1]) (rest := [.ref h0]) ⟨hx, hb, hml, hown, hts⟩ (c_X8_in l dC dI cy nb 0 0 1 H.size) (va_cwS 3 hts (gS mw_445 mw_446 mw_5 mw_447) rfl rfl rfl (by decide +kernel) ⟨Nat.le_of_ble_eq_true rfl, Nat.le_of_ble_eq_true rfl⟩) ⟨fun a U g mk q => by obtain ⟨q0, q1, qP, qK, qD, qE⟩ := q; exact ⟨q0, q1, qP, va_K.moved (u := U) (U := U.calling g mk a) (Vm.Alike.refl U.vm) qK, qD, GE.calling qE⟩, fun U hU hW => ⟨rfl, by rw [hU], by rw [hU]; exact hPc, va_K.moved hW.alike hK, hDc.weaken (fun _ _ _ _ => trivial), GE.call hE hS hFc hU hW⟩⟩ rfl rfl hl.1 rfl (lv_room (Nat.le_of_ble_eq_true rfl)) dX8_saveSnapshot_5 ⟨Nat.le_of_ble_eq_true rfl, Nat.le_of_ble_eq_true rfl⟩) hS (fun q _ h => hFc q h) hFc (fun r u t H1 locs ht hvm hw1 hB hz1 hk1 hS => ?_)
  obtain ⟨hP1, hD1⟩ := hB
  rw [ht] at hP1
  obtain ⟨hP, hD⟩ := va_join (wr := [(h0, .inr (8, [.ref a1, .ref a2, .ref a3, .ref a4, .ref a5, .int 0, .int x6, .ref a6, .int 0, .int 0, .int 0, .int 0, .int 0, .int 0, .int 0, .int 0, .int (-1), .ref a7, .ref a8, .int 0, .ref a9, .ref b0, .int 0])), (a1, .inl (cy 1, 1037, .inl g)), (a4, .inl (cy 1, 2074, .inl gc)), (a5, .inl (cy 2, 2, .inl (fun _ => 0)))]) (w1 := []) hP hD [] [0, 1, 2, 3] rfl rfl (by decide) (by decide) hk1 hFc hP1 hD1
  generalize H1 = H at hP hS ⊢
  have hP : va_P (dC, dI) vwCl [(h0, .inr (8, [.ref a1, .ref a2, .ref a3, .ref a4, .ref a5, .int 0, .int x6, .ref a6, .int 0, .int 0, .int 0, .int 0, .int 0, .int 0, .int 0, .int 0, .int (-1), .ref a7, .ref a8, .int 0, .ref a9, .ref b0, .int 0])), (a1, .inl (cy 1, 1037, .inl g)), (a4, .inl (cy 1, 2074, .inl gc)), (a5, .inl (cy 2, 2, .inl (fun _ => 0)))] H := hP
  have hD : va_D A [(h0, .inr (8, [.ref a1, .ref a2, .ref a3, .ref a4, .ref a5, .int 0, .int x6, .ref a6, .int 0, .int 0, .int 0, .int 0, .int 0, .int 0, .int 0, .int 0, .int (-1), .ref a7, .ref a8, .int 0, .ref a9, .ref b0, .int 0])), (a1, .inl (cy 1, 1037, .inl g)), (a4, .inl (cy 1, 2074, .inl gc)), (a5, .inl (cy 2, 2, .inl (fun _ => 0)))] := hD
  obtain rfl := hw1
  refine my_topi (y := 1) (by decide) ?_
  refine W.widen (k := 0) (n := 0) (by omega) (by omega) ?_
  refine lv_iconst (v := 1) hx hb dX8_saveSnapshot_8 (by decide) ?_
  have hPc := hP.sub (ws' := [(h0, .inr (8, [.ref a1, .ref a2, .ref a3, .ref a4, .ref a5, .int 0, .int x6, .ref a6, .int 0, .int 0, .int 0, .int 0, .int 0, .int 0, .int 0, .int 0, .int (-1), .ref a7, .ref a8, .int 0, .ref a9, .ref b0, .int 0]))]) [0] rfl
  have hDc := hD.sub (ws' := [(h0, .inr (8, [.ref a1, .ref a2, .ref a3, .ref a4, .ref a5, .int 0, .int x6, .ref a6, .int 0, .int 0, .int 0, .int 0, .int 0, .int 0, .int 0, .int 0, .int (-1), .ref a7, .ref a8, .int 0, .ref a9, .ref b0, .int 0]))]) [0] (by decide) rfl
  have hFc := va_free (wc := [(h0, .inr (8, [.ref a1, .ref a2, .ref a3, .ref a4, .ref a5, .int 0, .int x6, .ref a6, .int 0, .int 0, .int 0, .int 0, .int 0, .int 0, .int 0, .int 0, .int (-1), .ref a7, .ref a8, .int 0, .ref a9, .ref b0, .int 0]))]) hD hS hA [0] rfl
  refine va_calli (va_runV (As := [.int 1, .int 1]) (rest := []) ⟨hx, hb, hml, hown, hts⟩ (c_X8_isThrown_1 l dC dI cy nb h0 (.ref a1) (.ref a2) (.ref a3) (.ref a4) (.ref a5) (.int 0) (.ref a6) (.int 0) (.int 0) (.int 0) (.int 0) (.int 0) (.int 0) (.int 0) (.int 0) (.int (-1)) (.ref a7) (.ref a8) (.int 0) (.ref a9) (.ref b0) (.int 0) x6 1 H.size) (cwV 2 hts (gV mw_580 mw_581 mw_582 mw_5 mw_583) rfl rfl rfl (by decide +kernel) ⟨Nat.le_of_ble_eq_true rfl, Nat.le_of_ble_eq_true rfl⟩) ⟨fun a U g mk q => by obtain ⟨q0, q1, qP, qK, qD, qE⟩ := q; exact ⟨q0, q1, qP, va_K.moved (u := U) (U := U.calling g mk a) (Vm.Alike.refl U.vm) qK, qD, GE.calling qE⟩, va_recv hK hP (ci := 8) (q0 := 0) rfl rfl, fun U hU hW => ⟨rfl, by rw [hU], by rw [hU]; exact hPc, va_K.moved hW.alike hK, hDc.weaken (fun _ _ _ _ => trivial), GE.call hE hS hFc hU hW⟩⟩ rfl rfl hl.1 rfl (lv_room (Nat.le_of_ble_eq_true rfl)) dX8_saveSnapshot_9 ⟨Nat.le_of_ble_eq_true rfl, Nat.le_of_ble_eq_true rfl⟩) hS (fun q _ h => hFc q h) hFc (fun r u t H1 locs ht hvm hw2 hB hz1 hk1 hS => ?_)
  obtain ⟨hP1, hD1⟩ := hB
  rw [ht] at hP1
  obtain ⟨hP, hD⟩ := va_join (wr := [(a1, .inl (cy 1, 1037, .inl g)), (a4, .inl (cy 1, 2074, .inl gc)), (a5, .inl (cy 2, 2, .inl (fun _ => 0)))]) (w1 := [(h0, .inr (8, [.ref a1, .ref a2, .ref a3, .ref a4, .ref a5, .int 0, .int 0, .ref a6, .int 0, .int 0, .int 0, .int 0, .int 0, .int 0, .int 0, .int 0, .int (-1), .ref a7, .ref a8, .int 0, .ref a9, .ref b0, .int 0]))]) hP hD [0] [1, 2, 3] rfl rfl (by decide) (by decide) hk1 hFc hP1 hD1
  generalize H1 = H at hP hS ⊢
  have hP : va_P (dC, dI) vwCl [(a1, .inl (cy 1, 1037, .inl g)), (a4, .inl (cy 1, 2074, .inl gc)), (a5, .inl (cy 2, 2, .inl (fun _ => 0))), (h0, .inr (8, [.ref a1, .ref a2, .ref a3, .ref a4, .ref a5, .int 0, .int 0, .ref a6, .int 0, .int 0, .int 0, .int 0, .int 0, .int 0, .int 0, .int 0, .int (-1), .ref a7, .ref a8, .int 0, .ref a9, .ref b0, .int 0]))] H := hP
  have hD : va_D A [(a1, .inl (cy 1, 1037, .inl g)), (a4, .inl (cy 1, 2074, .inl gc)), (a5, .inl (cy 2, 2, .inl (fun _ => 0))), (h0, .inr (8, [.ref a1, .ref a2, .ref a3, .ref a4, .ref a5, .int 0, .int 0, .ref a6, .int 0, .int 0, .int 0, .int 0, .int 0, .int 0, .int 0, .int 0, .int (-1), .ref a7, .ref a8, .int 0, .ref a9, .ref b0, .int 0]))] := hD
  obtain rfl := hw2
  refine W.widen (k := 0) (n := 0) (by omega) (by omega) ?_
  refine lv_if_eq (tgt := 17) hx hb dX8_saveSnapshot_12 (by decide) (fun _ => ?_) (fun h => absurd (by decide) h)
  refine lv_aload_n hx hb dX8_saveSnapshot_17 rfl (lv_at hl 0 rfl) ?_
  refine va_get (D := (dC, dI)) (ci := 8) (v := .ref a1) (C := RX8) (T := TX8) (N := 23) hx hb hts inlX8 hown hK hP 3 rfl rfl 0 (by decide) (hts _ mw_97) (fun _ h9 => h9) rfl dX8_saveSnapshot_18 ?_
  refine lv_iconst (v := 0) hx hb dX8_saveSnapshot_21 (by decide) ?_
  refine lv_aload_n hx hb dX8_saveSnapshot_22 rfl (lv_at hl 0 rfl) ?_
  refine va_get (D := (dC, dI)) (ci := 8) (v := .ref a4) (C := RX8) (T := TX8) (N := 23) hx hb hts inlX8 hown hK hP 3 rfl rfl 3 (by decide) (hts _ mw_100) (fun _ h9 => h9) rfl dX8_saveSnapshot_23 ?_
  refine lv_iload_n hx hb dX8_saveSnapshot_26 rfl (lv_at hl 1 rfl) ?_
  have hPc := hP.sub (ws' := [(a1, .inl (cy 1, 1037, .inl g)), (a4, .inl (cy 1, 2074, .inl gc))]) [0, 1] rfl
  have hDc := hD.sub (ws' := [(a1, .inl (cy 1, 1037, .inl g)), (a4, .inl (cy 1, 2074, .inl gc))]) [0, 1] (by decide) rfl
  have hFc := va_free (wc := [(a1, .inl (cy 1, 1037, .inl g)), (a4, .inl (cy 1, 2074, .inl gc))]) hD hS hA [0, 1] rfl
  refine va_callv (va_runS (As := [.ref a1, .int 0, .ref a4, .int 0]) (rest := []) ⟨hx, hb, hml, hown, hts⟩ (c_X8_copies l dC dI cy nb a1 a4 0 0 1037 2074 g gc H.size (by decide) (by decide) (by decide)) (va_cwS 4 hts (gS mw_423 mw_424 mw_5 mw_425) rfl rfl rfl (by decide +kernel) ⟨Nat.le_of_ble_eq_true rfl, Nat.le_of_ble_eq_true rfl⟩) ⟨fun a U g mk q => by obtain ⟨q0, q1, qP, qK, qD, qE⟩ := q; exact ⟨q0, q1, qP, va_K.moved (u := U) (U := U.calling g mk a) (Vm.Alike.refl U.vm) qK, qD, GE.calling qE⟩, fun U hU hW => ⟨rfl, by rw [hU], by rw [hU]; exact hPc, va_K.moved hW.alike hK, hDc.weaken (fun _ _ _ _ => trivial), GE.call hE hS hFc hU hW⟩⟩ rfl rfl hl.1 rfl (lv_room (Nat.le_of_ble_eq_true rfl)) dX8_saveSnapshot_27 ⟨Nat.le_of_ble_eq_true rfl, Nat.le_of_ble_eq_true rfl⟩) hS (fun q _ h => hFc q h) hFc (fun u t H1 locs ht hvm hw5 hB hz1 hk1 hS => ?_)
  obtain ⟨g3, hg4, hP1, hD1⟩ := hB
  rw [ht] at hP1
  obtain ⟨hP, hD⟩ := va_join (wr := [(a5, .inl (cy 2, 2, .inl (fun _ => 0))), (h0, .inr (8, [.ref a1, .ref a2, .ref a3, .ref a4, .ref a5, .int 0, .int 0, .ref a6, .int 0, .int 0, .int 0, .int 0, .int 0, .int 0, .int 0, .int 0, .int (-1), .ref a7, .ref a8, .int 0, .ref a9, .ref b0, .int 0]))]) (w1 := [(a1, .inl (cy 1, 1037, .inl g)), (a4, .inl (cy 1, 2074, .inl g3))]) hP hD [0, 1] [2, 3] rfl rfl (by decide) (by decide) hk1 hFc hP1 hD1
  generalize H1 = H at hP hS ⊢
  have hP : va_P (dC, dI) vwCl [(a5, .inl (cy 2, 2, .inl (fun _ => 0))), (h0, .inr (8, [.ref a1, .ref a2, .ref a3, .ref a4, .ref a5, .int 0, .int 0, .ref a6, .int 0, .int 0, .int 0, .int 0, .int 0, .int 0, .int 0, .int 0, .int (-1), .ref a7, .ref a8, .int 0, .ref a9, .ref b0, .int 0])), (a1, .inl (cy 1, 1037, .inl g)), (a4, .inl (cy 1, 2074, .inl g3))] H := hP
  have hD : va_D A [(a5, .inl (cy 2, 2, .inl (fun _ => 0))), (h0, .inr (8, [.ref a1, .ref a2, .ref a3, .ref a4, .ref a5, .int 0, .int 0, .ref a6, .int 0, .int 0, .int 0, .int 0, .int 0, .int 0, .int 0, .int 0, .int (-1), .ref a7, .ref a8, .int 0, .ref a9, .ref b0, .int 0])), (a1, .inl (cy 1, 1037, .inl g)), (a4, .inl (cy 1, 2074, .inl g3))] := hD
  refine W.widen (k := 0) (n := 0) (by omega) (by omega) ?_
  refine lv_aload_n hx hb dX8_saveSnapshot_30 rfl (lv_at hl 0 rfl) ?_
  refine va_get (D := (dC, dI)) (ci := 8) (v := .ref a5) (C := RX8) (T := TX8) (N := 23) hx hb hts inlX8 hown hK hP 1 rfl rfl 4 (by decide) (hts _ mw_102) (fun _ h9 => h9) rfl dX8_saveSnapshot_31 ?_
  refine lv_iload_n hx hb dX8_saveSnapshot_34 rfl (lv_at hl 1 rfl) ?_
  refine lv_iconst (v := 1) hx hb dX8_saveSnapshot_35 (by decide) ?_
  refine va_zast hx hb hK hP hD hS 0 2 rfl rfl (vp_in_nI (n := 0) (by decide) (by decide)) dX8_saveSnapshot_36 (fun H locs hP hD hS => ?_)
  have hP : va_P (dC, dI) vwCl [(a5, .inl (cy 2, 2, .inl (upd (fun _ => 0) ((0 : Int32).toNatClampNeg) (vp_nar .boolean 1)))), (h0, .inr (8, [.ref a1, .ref a2, .ref a3, .ref a4, .ref a5, .int 0, .int 0, .ref a6, .int 0, .int 0, .int 0, .int 0, .int 0, .int 0, .int 0, .int 0, .int (-1), .ref a7, .ref a8, .int 0, .ref a9, .ref b0, .int 0])), (a1, .inl (cy 1, 1037, .inl g)), (a4, .inl (cy 1, 2074, .inl g3))] H := hP
  have hD : va_D A [(a5, .inl (cy 2, 2, .inl (upd (fun _ => 0) ((0 : Int32).toNatClampNeg) (vp_nar .boolean 1)))), (h0, .inr (8, [.ref a1, .ref a2, .ref a3, .ref a4, .ref a5, .int 0, .int 0, .ref a6, .int 0, .int 0, .int 0, .int 0, .int 0, .int 0, .int 0, .int 0, .int (-1), .ref a7, .ref a8, .int 0, .ref a9, .ref b0, .int 0])), (a1, .inl (cy 1, 1037, .inl g)), (a4, .inl (cy 1, 2074, .inl g3))] := hD
  refine lv_aload_n hx hb dX8_saveSnapshot_37 rfl (lv_at hl 0 rfl) ?_
  refine va_get (D := (dC, dI)) (ci := 8) (v := .ref a1) (C := RX8) (T := TX8) (N := 23) hx hb hts inlX8 hown hK hP 1 rfl rfl 0 (by decide) (hts _ mw_97) (fun _ h9 => h9) rfl dX8_saveSnapshot_38 ?_
  refine lv_bipush (v := 6) hx hb dX8_saveSnapshot_41 (by decide) ?_
  refine va_iald hx hb hK hP 2 1 rfl rfl (vp_in_nI (n := 6) (by decide) (by decide)) dX8_saveSnapshot_43 ?_
  refine my_topi (y := 0) (by exact hg.2.2.2 6 (by decide) (by decide)) ?_
  have hP9 := hP.sub (ws' := [(h0, .inr (8, [.ref a1, .ref a2, .ref a3, .ref a4, .ref a5, .int 0, .int 0, .ref a6, .int 0, .int 0, .int 0, .int 0, .int 0, .int 0, .int 0, .int 0, .int (-1), .ref a7, .ref a8, .int 0, .ref a9, .ref b0, .int 0]))]) [1] rfl
  have hD9 := hD.sub (ws' := [(h0, .inr (8, [.ref a1, .ref a2, .ref a3, .ref a4, .ref a5, .int 0, .int 0, .ref a6, .int 0, .int 0, .int 0, .int 0, .int 0, .int 0, .int 0, .int 0, .int (-1), .ref a7, .ref a8, .int 0, .ref a9, .ref b0, .int 0]))]) [1] (by decide) rfl
  refine W.widen (k := 0) (n := 0) (by omega) (by omega) ?_
  exact W.iret (v := 0) hx hb hr (fun t ht hW => ⟨⟨0, (), rfl, rfl, by rw [ht]; exact hP9, hD9⟩, hS.F ht⟩) hS.2.2 dX8_saveSnapshot_44
set_option maxHeartbeats 4000000 in
set_option maxRecDepth 100000 in
/-- X8_saveSnapshot -/
theorem c_X8_saveSnapshot_1 (l : Launch) (dC : Nat → ClassId) (dI : Nat → Nat → Nat) (cy : Nat → ClassId) (nb : Nat → Nat) (h0 : Nat) (a1 : Nat) (a2 : Nat) (a3 : Nat) (a4 : Nat) (a5 : Nat) (a6 : Nat) (a7 : Nat) (a8 : Nat) (a9 : Nat) (b0 : Nat) (x6 : Int32) (g : Nat → Int32) (gc : Nat → Int32) (sz : Nat) (hg : FN g) : Met l yX8_saveSnapshot (wsg yX8_saveSnapshot cX8_saveSnapshot 2 (some .int)) ({ frames := 15, cells := 0, slots := 0, locals := 1000 }) (va_Pc [.ref h0, .int 1] (fun U => U.heap.size = sz ∧ va_P (dC, dI) vwCl [(h0, .inr (8, [.ref a1, .ref a2, .ref a3, .ref a4, .ref a5, .int 0, .int x6, .ref a6, .int 0, .int 0, .int 0, .int 0, .int 0, .int 0, .int 0, .int 0, .int (-1), .ref a7, .ref a8, .int 0, .ref a9, .ref b0, .int 0])), (a1, .inl (cy 1, 1037, .inl g)), (a4, .inl (cy 1, 2074, .inl gc)), (a5, .inl (cy 2, 2, .inl (fun _ => 0)))] U.heap ∧ va_K (dC, dI) vwCl (tyL cy) U ∧ va_D (fun _ => True) [(h0, .inr (8, [.ref a1, .ref a2, .ref a3, .ref a4, .ref a5, .int 0, .int x6, .ref a6, .int 0, .int 0, .int 0, .int 0, .int 0, .int 0, .int 0, .int 0, .int (-1), .ref a7, .ref a8, .int 0, .ref a9, .ref b0, .int 0])), (a1, .inl (cy 1, 1037, .inl g)), (a4, .inl (cy 1, 2074, .inl gc)), (a5, .inl (cy 2, 2, .inl (fun _ => 0)))] ∧ GE nb (va_A [(h0, .inr (8, [.ref a1, .ref a2, .ref a3, .ref a4, .ref a5, .int 0, .int x6, .ref a6, .int 0, .int 0, .int 0, .int 0, .int 0, .int 0, .int 0, .int 0, .int (-1), .ref a7, .ref a8, .int 0, .ref a9, .ref b0, .int 0])), (a1, .inl (cy 1, 1037, .inl g)), (a4, .inl (cy 1, 2074, .inl gc)), (a5, .inl (cy 2, 2, .inl (fun _ => 0)))] sz) U)) (va_Qi (fun (r : Int32) (_ : Unit) => r = 0) (fun _ t => va_P (dC, dI) vwCl [(h0, .inr (8, [.ref a1, .ref a2, .ref a3, .ref a4, .ref a5, .int 0, .int 0, .ref a6, .int 0, .int 0, .int 0, .int 0, .int 0, .int 0, .int 0, .int 0, .int (-1), .ref a7, .ref a8, .int 0, .ref a9, .ref b0, .int 0]))] t.heap ∧ va_D (va_A [(h0, .inr (8, [.ref a1, .ref a2, .ref a3, .ref a4, .ref a5, .int 0, .int x6, .ref a6, .int 0, .int 0, .int 0, .int 0, .int 0, .int 0, .int 0, .int 0, .int (-1), .ref a7, .ref a8, .int 0, .ref a9, .ref b0, .int 0])), (a1, .inl (cy 1, 1037, .inl g)), (a4, .inl (cy 1, 2074, .inl gc)), (a5, .inl (cy 2, 2, .inl (fun _ => 0)))] sz) [(h0, .inr (8, [.ref a1, .ref a2, .ref a3, .ref a4, .ref a5, .int 0, .int 0, .ref a6, .int 0, .int 0, .int 0, .int 0, .int 0, .int 0, .int 0, .int 0, .int (-1), .ref a7, .ref a8, .int 0, .ref a9, .ref b0, .int 0]))]) (va_A [(h0, .inr (8, [.ref a1, .ref a2, .ref a3, .ref a4, .ref a5, .int 0, .int x6, .ref a6, .int 0, .int 0, .int 0, .int 0, .int 0, .int 0, .int 0, .int 0, .int (-1), .ref a7, .ref a8, .int 0, .ref a9, .ref b0, .int 0])), (a1, .inl (cy 1, 1037, .inl g)), (a4, .inl (cy 1, 2074, .inl gc)), (a5, .inl (cy 2, 2, .inl (fun _ => 0)))] sz)) 0 0 (va_A [(h0, .inr (8, [.ref a1, .ref a2, .ref a3, .ref a4, .ref a5, .int 0, .int x6, .ref a6, .int 0, .int 0, .int 0, .int 0, .int 0, .int 0, .int 0, .int 0, .int (-1), .ref a7, .ref a8, .int 0, .ref a9, .ref b0, .int 0])), (a1, .inl (cy 1, 1037, .inl g)), (a4, .inl (cy 1, 2074, .inl gc)), (a5, .inl (cy 2, 2, .inl (fun _ => 0)))] sz) := by
  refine Met.ofW (cc := cX8_saveSnapshot) (maxL := 2) (ret := (some .int)) (by decide) rfl ?_
  intro p e s m args below meth c s₁ B hml hv
  obtain ⟨rfl, hsz, hP, hK, hD0, hE⟩ := hv
  have hx := B.exec
  have hb := B.bytes
  have hr := B.returns
  have hts0 := atoms_spec (ws := (wsg yX8_saveSnapshot cX8_saveSnapshot 2 (some .int))) B.pre
  have hts : ∀ w ∈ wsL_law, w.before _ s = true := fun w h => hts0 w (List.mem_cons_of_mem _ h)
  have hown : s.vm.findClass RX8 = some m.cls := findClass_of_methodNamed B.named
  have hlocks := B.notSynchronized
  subst hsz
  have hD := hD0.self (sz := s.heap.size)
  generalize hAe : va_A [(h0, .inr (8, [.ref a1, .ref a2, .ref a3, .ref a4, .ref a5, .int 0, .int x6, .ref a6, .int 0, .int 0, .int 0, .int 0, .int 0, .int 0, .int 0, .int 0, .int (-1), .ref a7, .ref a8, .int 0, .ref a9, .ref b0, .int 0])), (a1, .inl (cy 1, 1037, .inl g)), (a4, .inl (cy 1, 2074, .inl gc)), (a5, .inl (cy 2, 2, .inl (fun _ => 0)))] s.heap.size = A at hD hE ⊢
  have hA : ∀ q : Nat, s.heap.size ≤ q → A q := fun q h => by rw [← hAe]; exact Or.inr h
  have hS : va_S A s.heap s.heap [] := va_S.rf
  have hP : va_P (dC, dI) vwCl [(h0, .inr (8, [.ref a1, .ref a2, .ref a3, .ref a4, .ref a5, .int 0, .int x6, .ref a6, .int 0, .int 0, .int 0, .int 0, .int 0, .int 0, .int 0, .int 0, .int (-1), .ref a7, .ref a8, .int 0, .ref a9, .ref b0, .int 0])), (a1, .inl (cy 1, 1037, .inl g)), (a4, .inl (cy 1, 2074, .inl gc)), (a5, .inl (cy 2, 2, .inl (fun _ => 0)))] s.heap := hP
  have hl := lv_entry ([.ref h0, .int 1]) (n := 2) (Nat.le_of_ble_eq_true rfl)
  rw [lg_entry_eq]
  generalize (lg_sl ([.ref h0, .int 1]) ++ List.replicate (2 - (lg_sl ([.ref h0, .int 1])).length) Slot.unset).toArray = ls at hl ⊢
  have hl : lv_has ls 2 [(0, .ref h0), (1, .int 1)] := hl
  generalize hHe : s.heap = H at hP hS ⊢
  have hS : va_S A s.heap H [] := by rw [hHe]; exact hS
  refine lv_aload_n hx hb dX8_saveSnapshot_0 rfl (lv_at hl 0 rfl) ?_
  refine lv_iload_n hx hb dX8_saveSnapshot_1 rfl (lv_at hl 1 rfl) ?_
  refine lv_i2l (v := 1) hx hb dX8_saveSnapshot_2 (by decide) ?_
  refine lv_lconst (v := 0) hx hb dX8_saveSnapshot_3 (by decide) ?_
  refine lv_lconst (v := 1) hx hb dX8_saveSnapshot_4 (by decide) ?_
  have hPc := hP.sub (ws' := []) [] rfl
  have hDc := hD.sub (ws' := []) [] (by decide) rfl
  have hFc := va_free (wc := []) hD hS hA [] rfl
  refine va_calli (va_runS (As := [.long 1, .long 0, .long 1]) (rest := [.ref h0]) ⟨hx, hb, hml, hown, hts⟩ (c_X8_in l dC dI cy nb 1 0 1 H.size) (va_cwS 3 hts (gS mw_445 mw_446 mw_5 mw_447) rfl rfl rfl (by decide +kernel) ⟨Nat.le_of_ble_eq_true rfl, Nat.le_of_ble_eq_true rfl⟩) ⟨fun a U g mk q => by obtain ⟨q0, q1, qP, qK, qD, qE⟩ := q; exact ⟨q0, q1, qP, va_K.moved (u := U) (U := U.calling g mk a) (Vm.Alike.refl U.vm) qK, qD, GE.calling qE⟩, fun U hU hW => ⟨rfl, by rw [hU], by rw [hU]; exact hPc, va_K.moved hW.alike hK, hDc.weaken (fun _ _ _ _ => trivial), GE.call hE hS hFc hU hW⟩⟩ rfl rfl hl.1 rfl (lv_room (Nat.le_of_ble_eq_true rfl)) dX8_saveSnapshot_5 ⟨Nat.le_of_ble_eq_true rfl, Nat.le_of_ble_eq_true rfl⟩) hS (fun q _ h => hFc q h) hFc (fun r u t H1 locs ht hvm hw1 hB hz1 hk1 hS => ?_)
  obtain ⟨hP1, hD1⟩ := hB
  rw [ht] at hP1
  obtain ⟨hP, hD⟩ := va_join (wr := [(h0, .inr (8, [.ref a1, .ref a2, .ref a3, .ref a4, .ref a5, .int 0, .int x6, .ref a6, .int 0, .int 0, .int 0, .int 0, .int 0, .int 0, .int 0, .int 0, .int (-1), .ref a7, .ref a8, .int 0, .ref a9, .ref b0, .int 0])), (a1, .inl (cy 1, 1037, .inl g)), (a4, .inl (cy 1, 2074, .inl gc)), (a5, .inl (cy 2, 2, .inl (fun _ => 0)))]) (w1 := []) hP hD [] [0, 1, 2, 3] rfl rfl (by decide) (by decide) hk1 hFc hP1 hD1
  generalize H1 = H at hP hS ⊢
  have hP : va_P (dC, dI) vwCl [(h0, .inr (8, [.ref a1, .ref a2, .ref a3, .ref a4, .ref a5, .int 0, .int x6, .ref a6, .int 0, .int 0, .int 0, .int 0, .int 0, .int 0, .int 0, .int 0, .int (-1), .ref a7, .ref a8, .int 0, .ref a9, .ref b0, .int 0])), (a1, .inl (cy 1, 1037, .inl g)), (a4, .inl (cy 1, 2074, .inl gc)), (a5, .inl (cy 2, 2, .inl (fun _ => 0)))] H := hP
  have hD : va_D A [(h0, .inr (8, [.ref a1, .ref a2, .ref a3, .ref a4, .ref a5, .int 0, .int x6, .ref a6, .int 0, .int 0, .int 0, .int 0, .int 0, .int 0, .int 0, .int 0, .int (-1), .ref a7, .ref a8, .int 0, .ref a9, .ref b0, .int 0])), (a1, .inl (cy 1, 1037, .inl g)), (a4, .inl (cy 1, 2074, .inl gc)), (a5, .inl (cy 2, 2, .inl (fun _ => 0)))] := hD
  obtain rfl := hw1
  refine my_topi (y := 1) (by decide) ?_
  refine W.widen (k := 0) (n := 0) (by omega) (by omega) ?_
  refine lv_iconst (v := 1) hx hb dX8_saveSnapshot_8 (by decide) ?_
  have hPc := hP.sub (ws' := [(h0, .inr (8, [.ref a1, .ref a2, .ref a3, .ref a4, .ref a5, .int 0, .int x6, .ref a6, .int 0, .int 0, .int 0, .int 0, .int 0, .int 0, .int 0, .int 0, .int (-1), .ref a7, .ref a8, .int 0, .ref a9, .ref b0, .int 0]))]) [0] rfl
  have hDc := hD.sub (ws' := [(h0, .inr (8, [.ref a1, .ref a2, .ref a3, .ref a4, .ref a5, .int 0, .int x6, .ref a6, .int 0, .int 0, .int 0, .int 0, .int 0, .int 0, .int 0, .int 0, .int (-1), .ref a7, .ref a8, .int 0, .ref a9, .ref b0, .int 0]))]) [0] (by decide) rfl
  have hFc := va_free (wc := [(h0, .inr (8, [.ref a1, .ref a2, .ref a3, .ref a4, .ref a5, .int 0, .int x6, .ref a6, .int 0, .int 0, .int 0, .int 0, .int 0, .int 0, .int 0, .int 0, .int (-1), .ref a7, .ref a8, .int 0, .ref a9, .ref b0, .int 0]))]) hD hS hA [0] rfl
  refine va_calli (va_runV (As := [.int 1, .int 1]) (rest := []) ⟨hx, hb, hml, hown, hts⟩ (c_X8_isThrown_1 l dC dI cy nb h0 (.ref a1) (.ref a2) (.ref a3) (.ref a4) (.ref a5) (.int 0) (.ref a6) (.int 0) (.int 0) (.int 0) (.int 0) (.int 0) (.int 0) (.int 0) (.int 0) (.int (-1)) (.ref a7) (.ref a8) (.int 0) (.ref a9) (.ref b0) (.int 0) x6 1 H.size) (cwV 2 hts (gV mw_580 mw_581 mw_582 mw_5 mw_583) rfl rfl rfl (by decide +kernel) ⟨Nat.le_of_ble_eq_true rfl, Nat.le_of_ble_eq_true rfl⟩) ⟨fun a U g mk q => by obtain ⟨q0, q1, qP, qK, qD, qE⟩ := q; exact ⟨q0, q1, qP, va_K.moved (u := U) (U := U.calling g mk a) (Vm.Alike.refl U.vm) qK, qD, GE.calling qE⟩, va_recv hK hP (ci := 8) (q0 := 0) rfl rfl, fun U hU hW => ⟨rfl, by rw [hU], by rw [hU]; exact hPc, va_K.moved hW.alike hK, hDc.weaken (fun _ _ _ _ => trivial), GE.call hE hS hFc hU hW⟩⟩ rfl rfl hl.1 rfl (lv_room (Nat.le_of_ble_eq_true rfl)) dX8_saveSnapshot_9 ⟨Nat.le_of_ble_eq_true rfl, Nat.le_of_ble_eq_true rfl⟩) hS (fun q _ h => hFc q h) hFc (fun r u t H1 locs ht hvm hw2 hB hz1 hk1 hS => ?_)
  obtain ⟨hP1, hD1⟩ := hB
  rw [ht] at hP1
  obtain ⟨hP, hD⟩ := va_join (wr := [(a1, .inl (cy 1, 1037, .inl g)), (a4, .inl (cy 1, 2074, .inl gc)), (a5, .inl (cy 2, 2, .inl (fun _ => 0)))]) (w1 := [(h0, .inr (8, [.ref a1, .ref a2, .ref a3, .ref a4, .ref a5, .int 0, .int 0, .ref a6, .int 0, .int 0, .int 0, .int 0, .int 0, .int 0, .int 0, .int 0, .int (-1), .ref a7, .ref a8, .int 0, .ref a9, .ref b0, .int 0]))]) hP hD [0] [1, 2, 3] rfl rfl (by decide) (by decide) hk1 hFc hP1 hD1
  generalize H1 = H at hP hS ⊢
  have hP : va_P (dC, dI) vwCl [(a1, .inl (cy 1, 1037, .inl g)), (a4, .inl (cy 1, 2074, .inl gc)), (a5, .inl (cy 2, 2, .inl (fun _ => 0))), (h0, .inr (8, [.ref a1, .ref a2, .ref a3, .ref a4, .ref a5, .int 0, .int 0, .ref a6, .int 0, .int 0, .int 0, .int 0, .int 0, .int 0, .int 0, .int 0, .int (-1), .ref a7, .ref a8, .int 0, .ref a9, .ref b0, .int 0]))] H := hP
  have hD : va_D A [(a1, .inl (cy 1, 1037, .inl g)), (a4, .inl (cy 1, 2074, .inl gc)), (a5, .inl (cy 2, 2, .inl (fun _ => 0))), (h0, .inr (8, [.ref a1, .ref a2, .ref a3, .ref a4, .ref a5, .int 0, .int 0, .ref a6, .int 0, .int 0, .int 0, .int 0, .int 0, .int 0, .int 0, .int 0, .int (-1), .ref a7, .ref a8, .int 0, .ref a9, .ref b0, .int 0]))] := hD
  obtain rfl := hw2
  refine W.widen (k := 0) (n := 0) (by omega) (by omega) ?_
  refine lv_if_eq (tgt := 17) hx hb dX8_saveSnapshot_12 (by decide) (fun _ => ?_) (fun h => absurd (by decide) h)
  refine lv_aload_n hx hb dX8_saveSnapshot_17 rfl (lv_at hl 0 rfl) ?_
  refine va_get (D := (dC, dI)) (ci := 8) (v := .ref a1) (C := RX8) (T := TX8) (N := 23) hx hb hts inlX8 hown hK hP 3 rfl rfl 0 (by decide) (hts _ mw_97) (fun _ h9 => h9) rfl dX8_saveSnapshot_18 ?_
  refine lv_iconst (v := 0) hx hb dX8_saveSnapshot_21 (by decide) ?_
  refine lv_aload_n hx hb dX8_saveSnapshot_22 rfl (lv_at hl 0 rfl) ?_
  refine va_get (D := (dC, dI)) (ci := 8) (v := .ref a4) (C := RX8) (T := TX8) (N := 23) hx hb hts inlX8 hown hK hP 3 rfl rfl 3 (by decide) (hts _ mw_100) (fun _ h9 => h9) rfl dX8_saveSnapshot_23 ?_
  refine lv_iload_n hx hb dX8_saveSnapshot_26 rfl (lv_at hl 1 rfl) ?_
  have hPc := hP.sub (ws' := [(a1, .inl (cy 1, 1037, .inl g)), (a4, .inl (cy 1, 2074, .inl gc))]) [0, 1] rfl
  have hDc := hD.sub (ws' := [(a1, .inl (cy 1, 1037, .inl g)), (a4, .inl (cy 1, 2074, .inl gc))]) [0, 1] (by decide) rfl
  have hFc := va_free (wc := [(a1, .inl (cy 1, 1037, .inl g)), (a4, .inl (cy 1, 2074, .inl gc))]) hD hS hA [0, 1] rfl
  refine va_callv (va_runS (As := [.ref a1, .int 0, .ref a4, .int 1]) (rest := []) ⟨hx, hb, hml, hown, hts⟩ (c_X8_copies l dC dI cy nb a1 a4 0 1 1037 2074 g gc H.size (by decide) (by decide) (by decide)) (va_cwS 4 hts (gS mw_423 mw_424 mw_5 mw_425) rfl rfl rfl (by decide +kernel) ⟨Nat.le_of_ble_eq_true rfl, Nat.le_of_ble_eq_true rfl⟩) ⟨fun a U g mk q => by obtain ⟨q0, q1, qP, qK, qD, qE⟩ := q; exact ⟨q0, q1, qP, va_K.moved (u := U) (U := U.calling g mk a) (Vm.Alike.refl U.vm) qK, qD, GE.calling qE⟩, fun U hU hW => ⟨rfl, by rw [hU], by rw [hU]; exact hPc, va_K.moved hW.alike hK, hDc.weaken (fun _ _ _ _ => trivial), GE.call hE hS hFc hU hW⟩⟩ rfl rfl hl.1 rfl (lv_room (Nat.le_of_ble_eq_true rfl)) dX8_saveSnapshot_27 ⟨Nat.le_of_ble_eq_true rfl, Nat.le_of_ble_eq_true rfl⟩) hS (fun q _ h => hFc q h) hFc (fun u t H1 locs ht hvm hw5 hB hz1 hk1 hS => ?_)
  obtain ⟨g3, hg4, hP1, hD1⟩ := hB
  rw [ht] at hP1
  obtain ⟨hP, hD⟩ := va_join (wr := [(a5, .inl (cy 2, 2, .inl (fun _ => 0))), (h0, .inr (8, [.ref a1, .ref a2, .ref a3, .ref a4, .ref a5, .int 0, .int 0, .ref a6, .int 0, .int 0, .int 0, .int 0, .int 0, .int 0, .int 0, .int 0, .int (-1), .ref a7, .ref a8, .int 0, .ref a9, .ref b0, .int 0]))]) (w1 := [(a1, .inl (cy 1, 1037, .inl g)), (a4, .inl (cy 1, 2074, .inl g3))]) hP hD [0, 1] [2, 3] rfl rfl (by decide) (by decide) hk1 hFc hP1 hD1
  generalize H1 = H at hP hS ⊢
  have hP : va_P (dC, dI) vwCl [(a5, .inl (cy 2, 2, .inl (fun _ => 0))), (h0, .inr (8, [.ref a1, .ref a2, .ref a3, .ref a4, .ref a5, .int 0, .int 0, .ref a6, .int 0, .int 0, .int 0, .int 0, .int 0, .int 0, .int 0, .int 0, .int (-1), .ref a7, .ref a8, .int 0, .ref a9, .ref b0, .int 0])), (a1, .inl (cy 1, 1037, .inl g)), (a4, .inl (cy 1, 2074, .inl g3))] H := hP
  have hD : va_D A [(a5, .inl (cy 2, 2, .inl (fun _ => 0))), (h0, .inr (8, [.ref a1, .ref a2, .ref a3, .ref a4, .ref a5, .int 0, .int 0, .ref a6, .int 0, .int 0, .int 0, .int 0, .int 0, .int 0, .int 0, .int 0, .int (-1), .ref a7, .ref a8, .int 0, .ref a9, .ref b0, .int 0])), (a1, .inl (cy 1, 1037, .inl g)), (a4, .inl (cy 1, 2074, .inl g3))] := hD
  refine W.widen (k := 0) (n := 0) (by omega) (by omega) ?_
  refine lv_aload_n hx hb dX8_saveSnapshot_30 rfl (lv_at hl 0 rfl) ?_
  refine va_get (D := (dC, dI)) (ci := 8) (v := .ref a5) (C := RX8) (T := TX8) (N := 23) hx hb hts inlX8 hown hK hP 1 rfl rfl 4 (by decide) (hts _ mw_102) (fun _ h9 => h9) rfl dX8_saveSnapshot_31 ?_
  refine lv_iload_n hx hb dX8_saveSnapshot_34 rfl (lv_at hl 1 rfl) ?_
  refine lv_iconst (v := 1) hx hb dX8_saveSnapshot_35 (by decide) ?_
  refine va_zast hx hb hK hP hD hS 0 2 rfl rfl (vp_in_nI (n := 1) (by decide) (by decide)) dX8_saveSnapshot_36 (fun H locs hP hD hS => ?_)
  have hP : va_P (dC, dI) vwCl [(a5, .inl (cy 2, 2, .inl (upd (fun _ => 0) ((1 : Int32).toNatClampNeg) (vp_nar .boolean 1)))), (h0, .inr (8, [.ref a1, .ref a2, .ref a3, .ref a4, .ref a5, .int 0, .int 0, .ref a6, .int 0, .int 0, .int 0, .int 0, .int 0, .int 0, .int 0, .int 0, .int (-1), .ref a7, .ref a8, .int 0, .ref a9, .ref b0, .int 0])), (a1, .inl (cy 1, 1037, .inl g)), (a4, .inl (cy 1, 2074, .inl g3))] H := hP
  have hD : va_D A [(a5, .inl (cy 2, 2, .inl (upd (fun _ => 0) ((1 : Int32).toNatClampNeg) (vp_nar .boolean 1)))), (h0, .inr (8, [.ref a1, .ref a2, .ref a3, .ref a4, .ref a5, .int 0, .int 0, .ref a6, .int 0, .int 0, .int 0, .int 0, .int 0, .int 0, .int 0, .int 0, .int (-1), .ref a7, .ref a8, .int 0, .ref a9, .ref b0, .int 0])), (a1, .inl (cy 1, 1037, .inl g)), (a4, .inl (cy 1, 2074, .inl g3))] := hD
  refine lv_aload_n hx hb dX8_saveSnapshot_37 rfl (lv_at hl 0 rfl) ?_
  refine va_get (D := (dC, dI)) (ci := 8) (v := .ref a1) (C := RX8) (T := TX8) (N := 23) hx hb hts inlX8 hown hK hP 1 rfl rfl 0 (by decide) (hts _ mw_97) (fun _ h9 => h9) rfl dX8_saveSnapshot_38 ?_
  refine lv_bipush (v := 6) hx hb dX8_saveSnapshot_41 (by decide) ?_
  refine va_iald hx hb hK hP 2 1 rfl rfl (vp_in_nI (n := 6) (by decide) (by decide)) dX8_saveSnapshot_43 ?_
  refine my_topi (y := 0) (by exact hg.2.2.2 6 (by decide) (by decide)) ?_
  have hP9 := hP.sub (ws' := [(h0, .inr (8, [.ref a1, .ref a2, .ref a3, .ref a4, .ref a5, .int 0, .int 0, .ref a6, .int 0, .int 0, .int 0, .int 0, .int 0, .int 0, .int 0, .int 0, .int (-1), .ref a7, .ref a8, .int 0, .ref a9, .ref b0, .int 0]))]) [1] rfl
  have hD9 := hD.sub (ws' := [(h0, .inr (8, [.ref a1, .ref a2, .ref a3, .ref a4, .ref a5, .int 0, .int 0, .ref a6, .int 0, .int 0, .int 0, .int 0, .int 0, .int 0, .int 0, .int 0, .int (-1), .ref a7, .ref a8, .int 0, .ref a9, .ref b0, .int 0]))]) [1] (by decide) rfl
  refine W.widen (k := 0) (n := 0) (by omega) (by omega) ?_
  exact W.iret (v := 0) hx hb hr (fun t ht hW => ⟨⟨0, (), rfl, rfl, by rw [ht]; exact hP9, hD9⟩, hS.F ht⟩) hS.2.2 dX8_saveSnapshot_44
set_option maxHeartbeats 4000000 in
set_option maxRecDepth 100000 in
/-- X8_puts -/
theorem c_X8_puts_2 (l : Launch) (dC : Nat → ClassId) (dI : Nat → Nat → Nat) (cy : Nat → ClassId) (nb : Nat → Nat) (h0 : Nat) (a1 : Nat) (a2 : Nat) (a3 : Nat) (a4 : Nat) (a5 : Nat) (a6 : Nat) (a7 : Nat) (a8 : Nat) (a9 : Nat) (b0 : Nat) (x6 : Int32) (g : Nat → Int32) (gp : Nat → Int32) (y : Nat) (sz : Nat) (hg : FN g) : Met l yX8_puts (wsg yX8_puts cX8_puts 4 (some .int)) ({ frames := 15, cells := 0, slots := 0, locals := 1000 }) (va_Pc [.ref h0, .int 2, .int (nI y)] (fun U => U.heap.size = sz ∧ va_P (dC, dI) vwCl [(h0, .inr (8, [.ref a1, .ref a2, .ref a3, .ref a4, .ref a5, .int 0, .int x6, .ref a6, .int 0, .int 0, .int 0, .int 0, .int 0, .int 0, .int 0, .int 0, .int (-1), .ref a7, .ref a8, .int 0, .ref a9, .ref b0, .int 0])), (a1, .inl (cy 1, 1037, .inl g)), (a3, .inl (cy 1, 8296, .inl gp))] U.heap ∧ va_K (dC, dI) vwCl (tyL cy) U ∧ va_D (fun _ => True) [(h0, .inr (8, [.ref a1, .ref a2, .ref a3, .ref a4, .ref a5, .int 0, .int x6, .ref a6, .int 0, .int 0, .int 0, .int 0, .int 0, .int 0, .int 0, .int 0, .int (-1), .ref a7, .ref a8, .int 0, .ref a9, .ref b0, .int 0])), (a1, .inl (cy 1, 1037, .inl g)), (a3, .inl (cy 1, 8296, .inl gp))] ∧ GE nb (va_A [(h0, .inr (8, [.ref a1, .ref a2, .ref a3, .ref a4, .ref a5, .int 0, .int x6, .ref a6, .int 0, .int 0, .int 0, .int 0, .int 0, .int 0, .int 0, .int 0, .int (-1), .ref a7, .ref a8, .int 0, .ref a9, .ref b0, .int 0])), (a1, .inl (cy 1, 1037, .inl g)), (a3, .inl (cy 1, 8296, .inl gp))] sz) U)) (va_Qi (fun (r : Int32) (_ : Unit) => r = 1) (fun _ t => va_P (dC, dI) vwCl [(h0, .inr (8, [.ref a1, .ref a2, .ref a3, .ref a4, .ref a5, .int 1, .int x6, .ref a6, .int 0, .int 0, .int 0, .int 0, .int 0, .int 0, .int 0, .int 0, .int (-1), .ref a7, .ref a8, .int 0, .ref a9, .ref b0, .int 0]))] t.heap ∧ va_D (va_A [(h0, .inr (8, [.ref a1, .ref a2, .ref a3, .ref a4, .ref a5, .int 0, .int x6, .ref a6, .int 0, .int 0, .int 0, .int 0, .int 0, .int 0, .int 0, .int 0, .int (-1), .ref a7, .ref a8, .int 0, .ref a9, .ref b0, .int 0])), (a1, .inl (cy 1, 1037, .inl g)), (a3, .inl (cy 1, 8296, .inl gp))] sz) [(h0, .inr (8, [.ref a1, .ref a2, .ref a3, .ref a4, .ref a5, .int 1, .int x6, .ref a6, .int 0, .int 0, .int 0, .int 0, .int 0, .int 0, .int 0, .int 0, .int (-1), .ref a7, .ref a8, .int 0, .ref a9, .ref b0, .int 0]))]) (va_A [(h0, .inr (8, [.ref a1, .ref a2, .ref a3, .ref a4, .ref a5, .int 0, .int x6, .ref a6, .int 0, .int 0, .int 0, .int 0, .int 0, .int 0, .int 0, .int 0, .int (-1), .ref a7, .ref a8, .int 0, .ref a9, .ref b0, .int 0])), (a1, .inl (cy 1, 1037, .inl g)), (a3, .inl (cy 1, 8296, .inl gp))] sz)) 0 0 (va_A [(h0, .inr (8, [.ref a1, .ref a2, .ref a3, .ref a4, .ref a5, .int 0, .int x6, .ref a6, .int 0, .int 0, .int 0, .int 0, .int 0, .int 0, .int 0, .int 0, .int (-1), .ref a7, .ref a8, .int 0, .ref a9, .ref b0, .int 0])), (a1, .inl (cy 1, 1037, .inl g)), (a3, .inl (cy 1, 8296, .inl gp))] sz) := by
  refine Met.ofW (cc := cX8_puts) (maxL := 4) (ret := (some .int)) (by decide) rfl ?_
  intro p e s m args below meth c s₁ B hml hv
  obtain ⟨rfl, hsz, hP, hK, hD0, hE⟩ := hv
  have hx := B.exec
  have hb := B.bytes
  have hr := B.returns
  have hts0 := atoms_spec (ws := (wsg yX8_puts cX8_puts 4 (some .int))) B.pre
  have hts : ∀ w ∈ wsL_law, w.before _ s = true := fun w h => hts0 w (List.mem_cons_of_mem _ h)
  have hown : s.vm.findClass RX8 = some m.cls := findClass_of_methodNamed B.named
  have hlocks := B.notSynchronized
  subst hsz
  have hD := hD0.self (sz := s.heap.size)
  generalize hAe : va_A [(h0, .inr (8, [.ref a1, .ref a2, .ref a3, .ref a4, .ref a5, .int 0, .int x6, .ref a6, .int 0, .int 0, .int 0, .int 0, .int 0, .int 0, .int 0, .int 0, .int (-1), .ref a7, .ref a8, .int 0, .ref a9, .ref b0, .int 0])), (a1, .inl (cy 1, 1037, .inl g)), (a3, .inl (cy 1, 8296, .inl gp))] s.heap.size = A at hD hE ⊢
  have hA : ∀ q : Nat, s.heap.size ≤ q → A q := fun q h => by rw [← hAe]; exact Or.inr h
  have hS : va_S A s.heap s.heap [] := va_S.rf
  have hP : va_P (dC, dI) vwCl [(h0, .inr (8, [.ref a1, .ref a2, .ref a3, .ref a4, .ref a5, .int 0, .int x6, .ref a6, .int 0, .int 0, .int 0, .int 0, .int 0, .int 0, .int 0, .int 0, .int (-1), .ref a7, .ref a8, .int 0, .ref a9, .ref b0, .int 0])), (a1, .inl (cy 1, 1037, .inl g)), (a3, .inl (cy 1, 8296, .inl gp))] s.heap := hP
  have hl := lv_entry ([.ref h0, .int 2, .int (nI y)]) (n := 4) (Nat.le_of_ble_eq_true rfl)
  rw [lg_entry_eq]
  generalize (lg_sl ([.ref h0, .int 2, .int (nI y)]) ++ List.replicate (4 - (lg_sl ([.ref h0, .int 2, .int (nI y)])).length) Slot.unset).toArray = ls at hl ⊢
  have hl : lv_has ls 4 [(0, .ref h0), (1, .int 2), (2, .int (nI y))] := hl
  generalize hHe : s.heap = H at hP hS ⊢
  have hS : va_S A s.heap H [] := by rw [hHe]; exact hS
  refine lv_aload_n hx hb dX8_puts_0 rfl (lv_at hl 0 rfl) ?_
  have hPc := hP.sub (ws' := [(h0, .inr (8, [.ref a1, .ref a2, .ref a3, .ref a4, .ref a5, .int 0, .int x6, .ref a6, .int 0, .int 0, .int 0, .int 0, .int 0, .int 0, .int 0, .int 0, .int (-1), .ref a7, .ref a8, .int 0, .ref a9, .ref b0, .int 0])), (a1, .inl (cy 1, 1037, .inl g)), (a3, .inl (cy 1, 8296, .inl gp))]) [0, 1, 2] rfl
  have hDc := hD.sub (ws' := [(h0, .inr (8, [.ref a1, .ref a2, .ref a3, .ref a4, .ref a5, .int 0, .int x6, .ref a6, .int 0, .int 0, .int 0, .int 0, .int 0, .int 0, .int 0, .int 0, .int (-1), .ref a7, .ref a8, .int 0, .ref a9, .ref b0, .int 0])), (a1, .inl (cy 1, 1037, .inl g)), (a3, .inl (cy 1, 8296, .inl gp))]) [0, 1, 2] (by decide) rfl
  have hFc := va_free (wc := [(h0, .inr (8, [.ref a1, .ref a2, .ref a3, .ref a4, .ref a5, .int 0, .int x6, .ref a6, .int 0, .int 0, .int 0, .int 0, .int 0, .int 0, .int 0, .int 0, .int (-1), .ref a7, .ref a8, .int 0, .ref a9, .ref b0, .int 0])), (a1, .inl (cy 1, 1037, .inl g)), (a3, .inl (cy 1, 8296, .inl gp))]) hD hS hA [0, 1, 2] rfl
  refine va_callv (va_runV (As := []) (rest := []) ⟨hx, hb, hml, hown, hts⟩ (c_X8_keeps l dC dI cy nb h0 a1 a2 a3 a4 a5 a6 a7 a8 a9 b0 x6 g gp H.size hg) (cwV 0 hts (gV mw_987 mw_988 mw_989 mw_5 mw_990) rfl rfl rfl (by decide +kernel) ⟨Nat.le_of_ble_eq_true rfl, Nat.le_of_ble_eq_true rfl⟩) ⟨fun a U g mk q => by obtain ⟨q0, q1, qP, qK, qD, qE⟩ := q; exact ⟨q0, q1, qP, va_K.moved (u := U) (U := U.calling g mk a) (Vm.Alike.refl U.vm) qK, qD, GE.calling qE⟩, va_recv hK hP (ci := 8) (q0 := 0) rfl rfl, fun U hU hW => ⟨rfl, by rw [hU], by rw [hU]; exact hPc, va_K.moved hW.alike hK, hDc.weaken (fun _ _ _ _ => trivial), GE.call hE hS hFc hU hW⟩⟩ rfl rfl hl.1 rfl (lv_room (Nat.le_of_ble_eq_true rfl)) dX8_puts_1 ⟨Nat.le_of_ble_eq_true rfl, Nat.le_of_ble_eq_true rfl⟩) hS (fun q _ h => hFc q h) hFc (fun u t H1 locs ht hvm hw1 hB hz1 hk1 hS => ?_)
  obtain ⟨hP1, hD1⟩ := hB
  rw [ht] at hP1
  obtain ⟨hP, hD⟩ := va_join (wr := []) (w1 := [(h0, .inr (8, [.ref a1, .ref a2, .ref a3, .ref a4, .ref a5, .int 1, .int x6, .ref a6, .int 0, .int 0, .int 0, .int 0, .int 0, .int 0, .int 0, .int 0, .int (-1), .ref a7, .ref a8, .int 0, .ref a9, .ref b0, .int 0])), (a1, .inl (cy 1, 1037, .inl g))]) hP hD [0, 1, 2] [] rfl rfl (by decide) (by decide) hk1 hFc hP1 hD1
  generalize H1 = H at hP hS ⊢
  have hP : va_P (dC, dI) vwCl [(h0, .inr (8, [.ref a1, .ref a2, .ref a3, .ref a4, .ref a5, .int 1, .int x6, .ref a6, .int 0, .int 0, .int 0, .int 0, .int 0, .int 0, .int 0, .int 0, .int (-1), .ref a7, .ref a8, .int 0, .ref a9, .ref b0, .int 0])), (a1, .inl (cy 1, 1037, .inl g))] H := hP
  have hD : va_D A [(h0, .inr (8, [.ref a1, .ref a2, .ref a3, .ref a4, .ref a5, .int 1, .int x6, .ref a6, .int 0, .int 0, .int 0, .int 0, .int 0, .int 0, .int 0, .int 0, .int (-1), .ref a7, .ref a8, .int 0, .ref a9, .ref b0, .int 0])), (a1, .inl (cy 1, 1037, .inl g))] := hD
  refine W.widen (k := 0) (n := 0) (by omega) (by omega) ?_
  refine lv_aload_n hx hb dX8_puts_4 rfl (lv_at hl 0 rfl) ?_
  refine va_get (D := (dC, dI)) (ci := 8) (v := .ref a1) (C := RX8) (T := TX8) (N := 23) hx hb hts inlX8 hown hK hP 0 rfl rfl 0 (by decide) (hts _ mw_97) (fun _ h9 => h9) rfl dX8_puts_5 ?_
  refine lv_iload_n hx hb dX8_puts_8 rfl (lv_at hl 1 rfl) ?_
  refine va_iald hx hb hK hP 1 1 rfl rfl (vp_in_nI (n := 2) (by decide) (by decide)) dX8_puts_9 ?_
  refine my_topi (y := 1) (by exact hg.2.2.1) ?_
  refine lv_istore_n (lv' := [(3, .int 1), (0, .ref h0), (1, .int 2), (2, .int (nI y))]) hx hb dX8_puts_10 rfl hl (by decide) rfl (fun ls hl => ?_)
  refine lv_aload_n hx hb dX8_puts_11 rfl (lv_at hl 1 rfl) ?_
  refine va_get (D := (dC, dI)) (ci := 8) (v := .ref a1) (C := RX8) (T := TX8) (N := 23) hx hb hts inlX8 hown hK hP 0 rfl rfl 0 (by decide) (hts _ mw_97) (fun _ h9 => h9) rfl dX8_puts_12 ?_
  refine lv_iload_n hx hb dX8_puts_15 rfl (lv_at hl 2 rfl) ?_
  refine lv_iload_n hx hb dX8_puts_16 rfl (lv_at hl 3 rfl) ?_
  refine va_iast hx hb hK hP hD hS 1 1 rfl rfl (vp_in_nI (n := 2) (by decide) (by decide)) dX8_puts_17 (fun H locs hP hD hS => ?_)
  have hP : va_P (dC, dI) vwCl [(h0, .inr (8, [.ref a1, .ref a2, .ref a3, .ref a4, .ref a5, .int 1, .int x6, .ref a6, .int 0, .int 0, .int 0, .int 0, .int 0, .int 0, .int 0, .int 0, .int (-1), .ref a7, .ref a8, .int 0, .ref a9, .ref b0, .int 0])), (a1, .inl (cy 1, 1037, .inl (upd g ((2 : Int32).toNatClampNeg) (nI y))))] H := hP
  have hD : va_D A [(h0, .inr (8, [.ref a1, .ref a2, .ref a3, .ref a4, .ref a5, .int 1, .int x6, .ref a6, .int 0, .int 0, .int 0, .int 0, .int 0, .int 0, .int 0, .int 0, .int (-1), .ref a7, .ref a8, .int 0, .ref a9, .ref b0, .int 0])), (a1, .inl (cy 1, 1037, .inl (upd g ((2 : Int32).toNatClampNeg) (nI y))))] := hD
  refine lv_iload_n hx hb dX8_puts_18 rfl (lv_at hl 0 rfl) ?_
  have hP9 := hP.sub (ws' := [(h0, .inr (8, [.ref a1, .ref a2, .ref a3, .ref a4, .ref a5, .int 1, .int x6, .ref a6, .int 0, .int 0, .int 0, .int 0, .int 0, .int 0, .int 0, .int 0, .int (-1), .ref a7, .ref a8, .int 0, .ref a9, .ref b0, .int 0]))]) [0] rfl
  have hD9 := hD.sub (ws' := [(h0, .inr (8, [.ref a1, .ref a2, .ref a3, .ref a4, .ref a5, .int 1, .int x6, .ref a6, .int 0, .int 0, .int 0, .int 0, .int 0, .int 0, .int 0, .int 0, .int (-1), .ref a7, .ref a8, .int 0, .ref a9, .ref b0, .int 0]))]) [0] (by decide) rfl
  refine W.widen (k := 0) (n := 0) (by omega) (by omega) ?_
  exact W.iret (v := 1) hx hb hr (fun t ht hW => ⟨⟨1, (), rfl, rfl, by rw [ht]; exact hP9, hD9⟩, hS.F ht⟩) hS.2.2 dX8_puts_19
set_option maxHeartbeats 4000000 in
set_option maxRecDepth 100000 in
/-- X8_puts -/
theorem c_X8_puts_1 (l : Launch) (dC : Nat → ClassId) (dI : Nat → Nat → Nat) (cy : Nat → ClassId) (nb : Nat → Nat) (h0 : Nat) (a1 : Nat) (a2 : Nat) (a3 : Nat) (a4 : Nat) (a5 : Nat) (a6 : Nat) (a7 : Nat) (a8 : Nat) (a9 : Nat) (b0 : Nat) (x6 : Int32) (g : Nat → Int32) (gp : Nat → Int32) (y : Nat) (sz : Nat) (hg : FN g) : Met l yX8_puts (wsg yX8_puts cX8_puts 4 (some .int)) ({ frames := 15, cells := 0, slots := 0, locals := 1000 }) (va_Pc [.ref h0, .int 1, .int (nI y)] (fun U => U.heap.size = sz ∧ va_P (dC, dI) vwCl [(h0, .inr (8, [.ref a1, .ref a2, .ref a3, .ref a4, .ref a5, .int 0, .int x6, .ref a6, .int 0, .int 0, .int 0, .int 0, .int 0, .int 0, .int 0, .int 0, .int (-1), .ref a7, .ref a8, .int 0, .ref a9, .ref b0, .int 0])), (a1, .inl (cy 1, 1037, .inl g)), (a3, .inl (cy 1, 8296, .inl gp))] U.heap ∧ va_K (dC, dI) vwCl (tyL cy) U ∧ va_D (fun _ => True) [(h0, .inr (8, [.ref a1, .ref a2, .ref a3, .ref a4, .ref a5, .int 0, .int x6, .ref a6, .int 0, .int 0, .int 0, .int 0, .int 0, .int 0, .int 0, .int 0, .int (-1), .ref a7, .ref a8, .int 0, .ref a9, .ref b0, .int 0])), (a1, .inl (cy 1, 1037, .inl g)), (a3, .inl (cy 1, 8296, .inl gp))] ∧ GE nb (va_A [(h0, .inr (8, [.ref a1, .ref a2, .ref a3, .ref a4, .ref a5, .int 0, .int x6, .ref a6, .int 0, .int 0, .int 0, .int 0, .int 0, .int 0, .int 0, .int 0, .int (-1), .ref a7, .ref a8, .int 0, .ref a9, .ref b0, .int 0])), (a1, .inl (cy 1, 1037, .inl g)), (a3, .inl (cy 1, 8296, .inl gp))] sz) U)) (va_Qi (fun (r : Int32) (_ : Unit) => r = 1) (fun _ t => va_P (dC, dI) vwCl [(h0, .inr (8, [.ref a1, .ref a2, .ref a3, .ref a4, .ref a5, .int 1, .int x6, .ref a6, .int 0, .int 0, .int 0, .int 0, .int 0, .int 0, .int 0, .int 0, .int (-1), .ref a7, .ref a8, .int 0, .ref a9, .ref b0, .int 0]))] t.heap ∧ va_D (va_A [(h0, .inr (8, [.ref a1, .ref a2, .ref a3, .ref a4, .ref a5, .int 0, .int x6, .ref a6, .int 0, .int 0, .int 0, .int 0, .int 0, .int 0, .int 0, .int 0, .int (-1), .ref a7, .ref a8, .int 0, .ref a9, .ref b0, .int 0])), (a1, .inl (cy 1, 1037, .inl g)), (a3, .inl (cy 1, 8296, .inl gp))] sz) [(h0, .inr (8, [.ref a1, .ref a2, .ref a3, .ref a4, .ref a5, .int 1, .int x6, .ref a6, .int 0, .int 0, .int 0, .int 0, .int 0, .int 0, .int 0, .int 0, .int (-1), .ref a7, .ref a8, .int 0, .ref a9, .ref b0, .int 0]))]) (va_A [(h0, .inr (8, [.ref a1, .ref a2, .ref a3, .ref a4, .ref a5, .int 0, .int x6, .ref a6, .int 0, .int 0, .int 0, .int 0, .int 0, .int 0, .int 0, .int 0, .int (-1), .ref a7, .ref a8, .int 0, .ref a9, .ref b0, .int 0])), (a1, .inl (cy 1, 1037, .inl g)), (a3, .inl (cy 1, 8296, .inl gp))] sz)) 0 0 (va_A [(h0, .inr (8, [.ref a1, .ref a2, .ref a3, .ref a4, .ref a5, .int 0, .int x6, .ref a6, .int 0, .int 0, .int 0, .int 0, .int 0, .int 0, .int 0, .int 0, .int (-1), .ref a7, .ref a8, .int 0, .ref a9, .ref b0, .int 0])), (a1, .inl (cy 1, 1037, .inl g)), (a3, .inl (cy 1, 8296, .inl gp))] sz) := by
  refine Met.ofW (cc := cX8_puts) (maxL := 4) (ret := (some .int)) (by decide) rfl ?_
  intro p e s m args below meth c s₁ B hml hv
  obtain ⟨rfl, hsz, hP, hK, hD0, hE⟩ := hv
  have hx := B.exec
  have hb := B.bytes
  have hr := B.returns
  have hts0 := atoms_spec (ws := (wsg yX8_puts cX8_puts 4 (some .int))) B.pre
  have hts : ∀ w ∈ wsL_law, w.before _ s = true := fun w h => hts0 w (List.mem_cons_of_mem _ h)
  have hown : s.vm.findClass RX8 = some m.cls := findClass_of_methodNamed B.named
  have hlocks := B.notSynchronized
  subst hsz
  have hD := hD0.self (sz := s.heap.size)
  generalize hAe : va_A [(h0, .inr (8, [.ref a1, .ref a2, .ref a3, .ref a4, .ref a5, .int 0, .int x6, .ref a6, .int 0, .int 0, .int 0, .int 0, .int 0, .int 0, .int 0, .int 0, .int (-1), .ref a7, .ref a8, .int 0, .ref a9, .ref b0, .int 0])), (a1, .inl (cy 1, 1037, .inl g)), (a3, .inl (cy 1, 8296, .inl gp))] s.heap.size = A at hD hE ⊢
  have hA : ∀ q : Nat, s.heap.size ≤ q → A q := fun q h => by rw [← hAe]; exact Or.inr h
  have hS : va_S A s.heap s.heap [] := va_S.rf
  have hP : va_P (dC, dI) vwCl [(h0, .inr (8, [.ref a1, .ref a2, .ref a3, .ref a4, .ref a5, .int 0, .int x6, .ref a6, .int 0, .int 0, .int 0, .int 0, .int 0, .int 0, .int 0, .int 0, .int (-1), .ref a7, .ref a8, .int 0, .ref a9, .ref b0, .int 0])), (a1, .inl (cy 1, 1037, .inl g)), (a3, .inl (cy 1, 8296, .inl gp))] s.heap := hP
  have hl := lv_entry ([.ref h0, .int 1, .int (nI y)]) (n := 4) (Nat.le_of_ble_eq_true rfl)
  rw [lg_entry_eq]
  generalize (lg_sl ([.ref h0, .int 1, .int (nI y)]) ++ List.replicate (4 - (lg_sl ([.ref h0, .int 1, .int (nI y)])).length) Slot.unset).toArray = ls at hl ⊢
  have hl : lv_has ls 4 [(0, .ref h0), (1, .int 1), (2, .int (nI y))] := hl
  generalize hHe : s.heap = H at hP hS ⊢
  have hS : va_S A s.heap H [] := by rw [hHe]; exact hS
  refine lv_aload_n hx hb dX8_puts_0 rfl (lv_at hl 0 rfl) ?_
  have hPc := hP.sub (ws' := [(h0, .inr (8, [.ref a1, .ref a2, .ref a3, .ref a4, .ref a5, .int 0, .int x6, .ref a6, .int 0, .int 0, .int 0, .int 0, .int 0, .int 0, .int 0, .int 0, .int (-1), .ref a7, .ref a8, .int 0, .ref a9, .ref b0, .int 0])), (a1, .inl (cy 1, 1037, .inl g)), (a3, .inl (cy 1, 8296, .inl gp))]) [0, 1, 2] rfl
  have hDc := hD.sub (ws' := [(h0, .inr (8, [.ref a1, .ref a2, .ref a3, .ref a4, .ref a5, .int 0, .int x6, .ref a6, .int 0, .int 0, .int 0, .int 0, .int 0, .int 0, .int 0, .int 0, .int (-1), .ref a7, .ref a8, .int 0, .ref a9, .ref b0, .int 0])), (a1, .inl (cy 1, 1037, .inl g)), (a3, .inl (cy 1, 8296, .inl gp))]) [0, 1, 2] (by decide) rfl
  have hFc := va_free (wc := [(h0, .inr (8, [.ref a1, .ref a2, .ref a3, .ref a4, .ref a5, .int 0, .int x6, .ref a6, .int 0, .int 0, .int 0, .int 0, .int 0, .int 0, .int 0, .int 0, .int (-1), .ref a7, .ref a8, .int 0, .ref a9, .ref b0, .int 0])), (a1, .inl (cy 1, 1037, .inl g)), (a3, .inl (cy 1, 8296, .inl gp))]) hD hS hA [0, 1, 2] rfl
  refine va_callv (va_runV (As := []) (rest := []) ⟨hx, hb, hml, hown, hts⟩ (c_X8_keeps l dC dI cy nb h0 a1 a2 a3 a4 a5 a6 a7 a8 a9 b0 x6 g gp H.size hg) (cwV 0 hts (gV mw_987 mw_988 mw_989 mw_5 mw_990) rfl rfl rfl (by decide +kernel) ⟨Nat.le_of_ble_eq_true rfl, Nat.le_of_ble_eq_true rfl⟩) ⟨fun a U g mk q => by obtain ⟨q0, q1, qP, qK, qD, qE⟩ := q; exact ⟨q0, q1, qP, va_K.moved (u := U) (U := U.calling g mk a) (Vm.Alike.refl U.vm) qK, qD, GE.calling qE⟩, va_recv hK hP (ci := 8) (q0 := 0) rfl rfl, fun U hU hW => ⟨rfl, by rw [hU], by rw [hU]; exact hPc, va_K.moved hW.alike hK, hDc.weaken (fun _ _ _ _ => trivial), GE.call hE hS hFc hU hW⟩⟩ rfl rfl hl.1 rfl (lv_room (Nat.le_of_ble_eq_true rfl)) dX8_puts_1 ⟨Nat.le_of_ble_eq_true rfl, Nat.le_of_ble_eq_true rfl⟩) hS (fun q _ h => hFc q h) hFc (fun u t H1 locs ht hvm hw1 hB hz1 hk1 hS => ?_)
  obtain ⟨hP1, hD1⟩ := hB
  rw [ht] at hP1
  obtain ⟨hP, hD⟩ := va_join (wr := []) (w1 := [(h0, .inr (8, [.ref a1, .ref a2, .ref a3, .ref a4, .ref a5, .int 1, .int x6, .ref a6, .int 0, .int 0, .int 0, .int 0, .int 0, .int 0, .int 0, .int 0, .int (-1), .ref a7, .ref a8, .int 0, .ref a9, .ref b0, .int 0])), (a1, .inl (cy 1, 1037, .inl g))]) hP hD [0, 1, 2] [] rfl rfl (by decide) (by decide) hk1 hFc hP1 hD1
  generalize H1 = H at hP hS ⊢
  have hP : va_P (dC, dI) vwCl [(h0, .inr (8, [.ref a1, .ref a2, .ref a3, .ref a4, .ref a5, .int 1, .int x6, .ref a6, .int 0, .int 0, .int 0, .int 0, .int 0, .int 0, .int 0, .int 0, .int (-1), .ref a7, .ref a8, .int 0, .ref a9, .ref b0, .int 0])), (a1, .inl (cy 1, 1037, .inl g))] H := hP
  have hD : va_D A [(h0, .inr (8, [.ref a1, .ref a2, .ref a3, .ref a4, .ref a5, .int 1, .int x6, .ref a6, .int 0, .int 0, .int 0, .int 0, .int 0, .int 0, .int 0, .int 0, .int (-1), .ref a7, .ref a8, .int 0, .ref a9, .ref b0, .int 0])), (a1, .inl (cy 1, 1037, .inl g))] := hD
  refine W.widen (k := 0) (n := 0) (by omega) (by omega) ?_
  refine lv_aload_n hx hb dX8_puts_4 rfl (lv_at hl 0 rfl) ?_
  refine va_get (D := (dC, dI)) (ci := 8) (v := .ref a1) (C := RX8) (T := TX8) (N := 23) hx hb hts inlX8 hown hK hP 0 rfl rfl 0 (by decide) (hts _ mw_97) (fun _ h9 => h9) rfl dX8_puts_5 ?_
  refine lv_iload_n hx hb dX8_puts_8 rfl (lv_at hl 1 rfl) ?_
  refine va_iald hx hb hK hP 1 1 rfl rfl (vp_in_nI (n := 1) (by decide) (by decide)) dX8_puts_9 ?_
  refine my_topi (y := 1) (by exact hg.2.1) ?_
  refine lv_istore_n (lv' := [(3, .int 1), (0, .ref h0), (1, .int 1), (2, .int (nI y))]) hx hb dX8_puts_10 rfl hl (by decide) rfl (fun ls hl => ?_)
  refine lv_aload_n hx hb dX8_puts_11 rfl (lv_at hl 1 rfl) ?_
  refine va_get (D := (dC, dI)) (ci := 8) (v := .ref a1) (C := RX8) (T := TX8) (N := 23) hx hb hts inlX8 hown hK hP 0 rfl rfl 0 (by decide) (hts _ mw_97) (fun _ h9 => h9) rfl dX8_puts_12 ?_
  refine lv_iload_n hx hb dX8_puts_15 rfl (lv_at hl 2 rfl) ?_
  refine lv_iload_n hx hb dX8_puts_16 rfl (lv_at hl 3 rfl) ?_
  refine va_iast hx hb hK hP hD hS 1 1 rfl rfl (vp_in_nI (n := 1) (by decide) (by decide)) dX8_puts_17 (fun H locs hP hD hS => ?_)
  have hP : va_P (dC, dI) vwCl [(h0, .inr (8, [.ref a1, .ref a2, .ref a3, .ref a4, .ref a5, .int 1, .int x6, .ref a6, .int 0, .int 0, .int 0, .int 0, .int 0, .int 0, .int 0, .int 0, .int (-1), .ref a7, .ref a8, .int 0, .ref a9, .ref b0, .int 0])), (a1, .inl (cy 1, 1037, .inl (upd g ((1 : Int32).toNatClampNeg) (nI y))))] H := hP
  have hD : va_D A [(h0, .inr (8, [.ref a1, .ref a2, .ref a3, .ref a4, .ref a5, .int 1, .int x6, .ref a6, .int 0, .int 0, .int 0, .int 0, .int 0, .int 0, .int 0, .int 0, .int (-1), .ref a7, .ref a8, .int 0, .ref a9, .ref b0, .int 0])), (a1, .inl (cy 1, 1037, .inl (upd g ((1 : Int32).toNatClampNeg) (nI y))))] := hD
  refine lv_iload_n hx hb dX8_puts_18 rfl (lv_at hl 0 rfl) ?_
  have hP9 := hP.sub (ws' := [(h0, .inr (8, [.ref a1, .ref a2, .ref a3, .ref a4, .ref a5, .int 1, .int x6, .ref a6, .int 0, .int 0, .int 0, .int 0, .int 0, .int 0, .int 0, .int 0, .int (-1), .ref a7, .ref a8, .int 0, .ref a9, .ref b0, .int 0]))]) [0] rfl
  have hD9 := hD.sub (ws' := [(h0, .inr (8, [.ref a1, .ref a2, .ref a3, .ref a4, .ref a5, .int 1, .int x6, .ref a6, .int 0, .int 0, .int 0, .int 0, .int 0, .int 0, .int 0, .int 0, .int (-1), .ref a7, .ref a8, .int 0, .ref a9, .ref b0, .int 0]))]) [0] (by decide) rfl
  refine W.widen (k := 0) (n := 0) (by omega) (by omega) ?_
  exact W.iret (v := 1) hx hb hr (fun t ht hW => ⟨⟨1, (), rfl, rfl, by rw [ht]; exact hP9, hD9⟩, hS.F ht⟩) hS.2.2 dX8_puts_19
set_option maxHeartbeats 4000000 in
set_option maxRecDepth 100000 in
/-- X8_setTries -/
theorem c_X8_setTries (l : Launch) (dC : Nat → ClassId) (dI : Nat → Nat → Nat) (cy : Nat → ClassId) (nb : Nat → Nat) (h0 : Nat) (a1 : Nat) (a2 : Nat) (a3 : Nat) (a4 : Nat) (a5 : Nat) (a6 : Nat) (a7 : Nat) (a8 : Nat) (a9 : Nat) (b0 : Nat) (x6 : Int32) (g : Nat → Int32) (gp : Nat → Int32) (y : Nat) (sz : Nat) (hg : FN g) (hy1 : 1 ≤ y) (hy2 : y ≤ 9) : Met l yX8_setTries (wsg yX8_setTries cX8_setTries 2 (some .int)) ({ frames := 16, cells := 0, slots := 0, locals := 1100 }) (va_Pc [.ref h0, .int (nI y)] (fun U => U.heap.size = sz ∧ va_P (dC, dI) vwCl [(h0, .inr (8, [.ref a1, .ref a2, .ref a3, .ref a4, .ref a5, .int 0, .int x6, .ref a6, .int 0, .int 0, .int 0, .int 0, .int 0, .int 0, .int 0, .int 0, .int (-1), .ref a7, .ref a8, .int 0, .ref a9, .ref b0, .int 0])), (a1, .inl (cy 1, 1037, .inl g)), (a3, .inl (cy 1, 8296, .inl gp))] U.heap ∧ va_K (dC, dI) vwCl (tyL cy) U ∧ va_D (fun _ => True) [(h0, .inr (8, [.ref a1, .ref a2, .ref a3, .ref a4, .ref a5, .int 0, .int x6, .ref a6, .int 0, .int 0, .int 0, .int 0, .int 0, .int 0, .int 0, .int 0, .int (-1), .ref a7, .ref a8, .int 0, .ref a9, .ref b0, .int 0])), (a1, .inl (cy 1, 1037, .inl g)), (a3, .inl (cy 1, 8296, .inl gp))] ∧ GE nb (va_A [(h0, .inr (8, [.ref a1, .ref a2, .ref a3, .ref a4, .ref a5, .int 0, .int x6, .ref a6, .int 0, .int 0, .int 0, .int 0, .int 0, .int 0, .int 0, .int 0, .int (-1), .ref a7, .ref a8, .int 0, .ref a9, .ref b0, .int 0])), (a1, .inl (cy 1, 1037, .inl g)), (a3, .inl (cy 1, 8296, .inl gp))] sz) U)) (va_Qi (fun (r : Int32) (_ : Unit) => r = 1) (fun _ t => va_P (dC, dI) vwCl [(h0, .inr (8, [.ref a1, .ref a2, .ref a3, .ref a4, .ref a5, .int 1, .int 0, .ref a6, .int 0, .int 0, .int 0, .int 0, .int 0, .int 0, .int 0, .int 0, .int (-1), .ref a7, .ref a8, .int 0, .ref a9, .ref b0, .int 0]))] t.heap ∧ va_D (va_A [(h0, .inr (8, [.ref a1, .ref a2, .ref a3, .ref a4, .ref a5, .int 0, .int x6, .ref a6, .int 0, .int 0, .int 0, .int 0, .int 0, .int 0, .int 0, .int 0, .int (-1), .ref a7, .ref a8, .int 0, .ref a9, .ref b0, .int 0])), (a1, .inl (cy 1, 1037, .inl g)), (a3, .inl (cy 1, 8296, .inl gp))] sz) [(h0, .inr (8, [.ref a1, .ref a2, .ref a3, .ref a4, .ref a5, .int 1, .int 0, .ref a6, .int 0, .int 0, .int 0, .int 0, .int 0, .int 0, .int 0, .int 0, .int (-1), .ref a7, .ref a8, .int 0, .ref a9, .ref b0, .int 0]))]) (va_A [(h0, .inr (8, [.ref a1, .ref a2, .ref a3, .ref a4, .ref a5, .int 0, .int x6, .ref a6, .int 0, .int 0, .int 0, .int 0, .int 0, .int 0, .int 0, .int 0, .int (-1), .ref a7, .ref a8, .int 0, .ref a9, .ref b0, .int 0])), (a1, .inl (cy 1, 1037, .inl g)), (a3, .inl (cy 1, 8296, .inl gp))] sz)) 0 0 (va_A [(h0, .inr (8, [.ref a1, .ref a2, .ref a3, .ref a4, .ref a5, .int 0, .int x6, .ref a6, .int 0, .int 0, .int 0, .int 0, .int 0, .int 0, .int 0, .int 0, .int (-1), .ref a7, .ref a8, .int 0, .ref a9, .ref b0, .int 0])), (a1, .inl (cy 1, 1037, .inl g)), (a3, .inl (cy 1, 8296, .inl gp))] sz) := by
  refine Met.ofW (cc := cX8_setTries) (maxL := 2) (ret := (some .int)) (by decide) rfl ?_
  intro p e s m args below meth c s₁ B hml hv
  obtain ⟨rfl, hsz, hP, hK, hD0, hE⟩ := hv
  have hx := B.exec
  have hb := B.bytes
  have hr := B.returns
  have hts0 := atoms_spec (ws := (wsg yX8_setTries cX8_setTries 2 (some .int))) B.pre
  have hts : ∀ w ∈ wsL_law, w.before _ s = true := fun w h => hts0 w (List.mem_cons_of_mem _ h)
  have hown : s.vm.findClass RX8 = some m.cls := findClass_of_methodNamed B.named
  have hlocks := B.notSynchronized
  subst hsz
  have hD := hD0.self (sz := s.heap.size)
  generalize hAe : va_A [(h0, .inr (8, [.ref a1, .ref a2, .ref a3, .ref a4, .ref a5, .int 0, .int x6, .ref a6, .int 0, .int 0, .int 0, .int 0, .int 0, .int 0, .int 0, .int 0, .int (-1), .ref a7, .ref a8, .int 0, .ref a9, .ref b0, .int 0])), (a1, .inl (cy 1, 1037, .inl g)), (a3, .inl (cy 1, 8296, .inl gp))] s.heap.size = A at hD hE ⊢
  have hA : ∀ q : Nat, s.heap.size ≤ q → A q := fun q h => by rw [← hAe]; exact Or.inr h
  have hS : va_S A s.heap s.heap [] := va_S.rf
  have hP : va_P (dC, dI) vwCl [(h0, .inr (8, [.ref a1, .ref a2, .ref a3, .ref a4, .ref a5, .int 0, .int x6, .ref a6, .int 0, .int 0, .int 0, .int 0, .int 0, .int 0, .int 0, .int 0, .int (-1), .ref a7, .ref a8, .int 0, .ref a9, .ref b0, .int 0])), (a1, .inl (cy 1, 1037, .inl g)), (a3, .inl (cy 1, 8296, .inl gp))] s.heap := hP
  have hl := lv_entry ([.ref h0, .int (nI y)]) (n := 2) (Nat.le_of_ble_eq_true rfl)
  rw [lg_entry_eq]
  generalize (lg_sl ([.ref h0, .int (nI y)]) ++ List.replicate (2 - (lg_sl ([.ref h0, .int (nI y)])).length) Slot.unset).toArray = ls at hl ⊢
  have hl : lv_has ls 2 [(0, .ref h0), (1, .int (nI y))] := hl
  generalize hHe : s.heap = H at hP hS ⊢
  have hS : va_S A s.heap H [] := by rw [hHe]; exact hS
  refine lv_aload_n hx hb dX8_setTries_0 rfl (lv_at hl 0 rfl) ?_
  refine lv_iload_n hx hb dX8_setTries_1 rfl (lv_at hl 1 rfl) ?_
  refine lv_i2l (v := ((nI y)).toInt64) hx hb dX8_setTries_2 rfl ?_
  refine lv_lconst (v := 1) hx hb dX8_setTries_3 (by decide) ?_
  refine lv_ldc2 hx hb hown (hts _ mw_579) dX8_setTries_4 ?_
  have hPc := hP.sub (ws' := []) [] rfl
  have hDc := hD.sub (ws' := []) [] (by decide) rfl
  have hFc := va_free (wc := []) hD hS hA [] rfl
  refine va_calli (va_runS (As := [.long ((nI y)).toInt64, .long 1, .long 9]) (rest := [.ref h0]) ⟨hx, hb, hml, hown, hts⟩ (c_X8_in l dC dI cy nb ((nI y)).toInt64 1 9 H.size) (va_cwS 3 hts (gS mw_445 mw_446 mw_5 mw_447) rfl rfl rfl (by decide +kernel) ⟨Nat.le_of_ble_eq_true rfl, Nat.le_of_ble_eq_true rfl⟩) ⟨fun a U g mk q => by obtain ⟨q0, q1, qP, qK, qD, qE⟩ := q; exact ⟨q0, q1, qP, va_K.moved (u := U) (U := U.calling g mk a) (Vm.Alike.refl U.vm) qK, qD, GE.calling qE⟩, fun U hU hW => ⟨rfl, by rw [hU], by rw [hU]; exact hPc, va_K.moved hW.alike hK, hDc.weaken (fun _ _ _ _ => trivial), GE.call hE hS hFc hU hW⟩⟩ rfl rfl hl.1 rfl (lv_room (Nat.le_of_ble_eq_true rfl)) dX8_setTries_7 ⟨Nat.le_of_ble_eq_true rfl, Nat.le_of_ble_eq_true rfl⟩) hS (fun q _ h => hFc q h) hFc (fun r u t H1 locs ht hvm hw1 hB hz1 hk1 hS => ?_)
  obtain ⟨hP1, hD1⟩ := hB
  rw [ht] at hP1
  obtain ⟨hP, hD⟩ := va_join (wr := [(h0, .inr (8, [.ref a1, .ref a2, .ref a3, .ref a4, .ref a5, .int 0, .int x6, .ref a6, .int 0, .int 0, .int 0, .int 0, .int 0, .int 0, .int 0, .int 0, .int (-1), .ref a7, .ref a8, .int 0, .ref a9, .ref b0, .int 0])), (a1, .inl (cy 1, 1037, .inl g)), (a3, .inl (cy 1, 8296, .inl gp))]) (w1 := []) hP hD [] [0, 1, 2] rfl rfl (by decide) (by decide) hk1 hFc hP1 hD1
  generalize H1 = H at hP hS ⊢
  have hP : va_P (dC, dI) vwCl [(h0, .inr (8, [.ref a1, .ref a2, .ref a3, .ref a4, .ref a5, .int 0, .int x6, .ref a6, .int 0, .int 0, .int 0, .int 0, .int 0, .int 0, .int 0, .int 0, .int (-1), .ref a7, .ref a8, .int 0, .ref a9, .ref b0, .int 0])), (a1, .inl (cy 1, 1037, .inl g)), (a3, .inl (cy 1, 8296, .inl gp))] H := hP
  have hD : va_D A [(h0, .inr (8, [.ref a1, .ref a2, .ref a3, .ref a4, .ref a5, .int 0, .int x6, .ref a6, .int 0, .int 0, .int 0, .int 0, .int 0, .int 0, .int 0, .int 0, .int (-1), .ref a7, .ref a8, .int 0, .ref a9, .ref b0, .int 0])), (a1, .inl (cy 1, 1037, .inl g)), (a3, .inl (cy 1, 8296, .inl gp))] := hD
  obtain rfl := hw1
  refine my_topi (y := 1) (by exact inB_nI (a := 1) (b := 9) hy1 hy2 (by decide)) ?_
  refine W.widen (k := 0) (n := 0) (by omega) (by omega) ?_
  refine lv_iconst (v := 1) hx hb dX8_setTries_10 (by decide) ?_
  have hPc := hP.sub (ws' := [(h0, .inr (8, [.ref a1, .ref a2, .ref a3, .ref a4, .ref a5, .int 0, .int x6, .ref a6, .int 0, .int 0, .int 0, .int 0, .int 0, .int 0, .int 0, .int 0, .int (-1), .ref a7, .ref a8, .int 0, .ref a9, .ref b0, .int 0]))]) [0] rfl
  have hDc := hD.sub (ws' := [(h0, .inr (8, [.ref a1, .ref a2, .ref a3, .ref a4, .ref a5, .int 0, .int x6, .ref a6, .int 0, .int 0, .int 0, .int 0, .int 0, .int 0, .int 0, .int 0, .int (-1), .ref a7, .ref a8, .int 0, .ref a9, .ref b0, .int 0]))]) [0] (by decide) rfl
  have hFc := va_free (wc := [(h0, .inr (8, [.ref a1, .ref a2, .ref a3, .ref a4, .ref a5, .int 0, .int x6, .ref a6, .int 0, .int 0, .int 0, .int 0, .int 0, .int 0, .int 0, .int 0, .int (-1), .ref a7, .ref a8, .int 0, .ref a9, .ref b0, .int 0]))]) hD hS hA [0] rfl
  refine va_calli (va_runV (As := [.int 1, .int 1]) (rest := []) ⟨hx, hb, hml, hown, hts⟩ (c_X8_isThrown_1 l dC dI cy nb h0 (.ref a1) (.ref a2) (.ref a3) (.ref a4) (.ref a5) (.int 0) (.ref a6) (.int 0) (.int 0) (.int 0) (.int 0) (.int 0) (.int 0) (.int 0) (.int 0) (.int (-1)) (.ref a7) (.ref a8) (.int 0) (.ref a9) (.ref b0) (.int 0) x6 1 H.size) (cwV 2 hts (gV mw_580 mw_581 mw_582 mw_5 mw_583) rfl rfl rfl (by decide +kernel) ⟨Nat.le_of_ble_eq_true rfl, Nat.le_of_ble_eq_true rfl⟩) ⟨fun a U g mk q => by obtain ⟨q0, q1, qP, qK, qD, qE⟩ := q; exact ⟨q0, q1, qP, va_K.moved (u := U) (U := U.calling g mk a) (Vm.Alike.refl U.vm) qK, qD, GE.calling qE⟩, va_recv hK hP (ci := 8) (q0 := 0) rfl rfl, fun U hU hW => ⟨rfl, by rw [hU], by rw [hU]; exact hPc, va_K.moved hW.alike hK, hDc.weaken (fun _ _ _ _ => trivial), GE.call hE hS hFc hU hW⟩⟩ rfl rfl hl.1 rfl (lv_room (Nat.le_of_ble_eq_true rfl)) dX8_setTries_11 ⟨Nat.le_of_ble_eq_true rfl, Nat.le_of_ble_eq_true rfl⟩) hS (fun q _ h => hFc q h) hFc (fun r u t H1 locs ht hvm hw2 hB hz1 hk1 hS => ?_)
  obtain ⟨hP1, hD1⟩ := hB
  rw [ht] at hP1
  obtain ⟨hP, hD⟩ := va_join (wr := [(a1, .inl (cy 1, 1037, .inl g)), (a3, .inl (cy 1, 8296, .inl gp))]) (w1 := [(h0, .inr (8, [.ref a1, .ref a2, .ref a3, .ref a4, .ref a5, .int 0, .int 0, .ref a6, .int 0, .int 0, .int 0, .int 0, .int 0, .int 0, .int 0, .int 0, .int (-1), .ref a7, .ref a8, .int 0, .ref a9, .ref b0, .int 0]))]) hP hD [0] [1, 2] rfl rfl (by decide) (by decide) hk1 hFc hP1 hD1
  generalize H1 = H at hP hS ⊢
  have hP : va_P (dC, dI) vwCl [(a1, .inl (cy 1, 1037, .inl g)), (a3, .inl (cy 1, 8296, .inl gp)), (h0, .inr (8, [.ref a1, .ref a2, .ref a3, .ref a4, .ref a5, .int 0, .int 0, .ref a6, .int 0, .int 0, .int 0, .int 0, .int 0, .int 0, .int 0, .int 0, .int (-1), .ref a7, .ref a8, .int 0, .ref a9, .ref b0, .int 0]))] H := hP
  have hD : va_D A [(a1, .inl (cy 1, 1037, .inl g)), (a3, .inl (cy 1, 8296, .inl gp)), (h0, .inr (8, [.ref a1, .ref a2, .ref a3, .ref a4, .ref a5, .int 0, .int 0, .ref a6, .int 0, .int 0, .int 0, .int 0, .int 0, .int 0, .int 0, .int 0, .int (-1), .ref a7, .ref a8, .int 0, .ref a9, .ref b0, .int 0]))] := hD
  obtain rfl := hw2
  refine W.widen (k := 0) (n := 0) (by omega) (by omega) ?_
  refine lv_if_eq (tgt := 21) hx hb dX8_setTries_14 (by decide) (fun _ => ?_) (fun h => absurd (by decide) h)
  refine lv_aload_n hx hb dX8_setTries_21 rfl (lv_at hl 0 rfl) ?_
  refine lv_iconst (v := 2) hx hb dX8_setTries_22 (by decide) ?_
  refine lv_iload_n hx hb dX8_setTries_23 rfl (lv_at hl 1 rfl) ?_
  have hPc := hP.sub (ws' := [(h0, .inr (8, [.ref a1, .ref a2, .ref a3, .ref a4, .ref a5, .int 0, .int 0, .ref a6, .int 0, .int 0, .int 0, .int 0, .int 0, .int 0, .int 0, .int 0, .int (-1), .ref a7, .ref a8, .int 0, .ref a9, .ref b0, .int 0])), (a1, .inl (cy 1, 1037, .inl g)), (a3, .inl (cy 1, 8296, .inl gp))]) [2, 0, 1] rfl
  have hDc := hD.sub (ws' := [(h0, .inr (8, [.ref a1, .ref a2, .ref a3, .ref a4, .ref a5, .int 0, .int 0, .ref a6, .int 0, .int 0, .int 0, .int 0, .int 0, .int 0, .int 0, .int 0, .int (-1), .ref a7, .ref a8, .int 0, .ref a9, .ref b0, .int 0])), (a1, .inl (cy 1, 1037, .inl g)), (a3, .inl (cy 1, 8296, .inl gp))]) [2, 0, 1] (by decide) rfl
  have hFc := va_free (wc := [(h0, .inr (8, [.ref a1, .ref a2, .ref a3, .ref a4, .ref a5, .int 0, .int 0, .ref a6, .int 0, .int 0, .int 0, .int 0, .int 0, .int 0, .int 0, .int 0, .int (-1), .ref a7, .ref a8, .int 0, .ref a9, .ref b0, .int 0])), (a1, .inl (cy 1, 1037, .inl g)), (a3, .inl (cy 1, 8296, .inl gp))]) hD hS hA [2, 0, 1] rfl
  refine va_calli (va_runV (As := [.int 2, .int (nI y)]) (rest := []) ⟨hx, hb, hml, hown, hts⟩ (c_X8_puts_2 l dC dI cy nb h0 a1 a2 a3 a4 a5 a6 a7 a8 a9 b0 0 g gp y H.size hg) (cwV 2 hts (gV mw_1032 mw_1033 mw_1034 mw_5 mw_1035) rfl rfl rfl (by decide +kernel) ⟨Nat.le_of_ble_eq_true rfl, Nat.le_of_ble_eq_true rfl⟩) ⟨fun a U g mk q => by obtain ⟨q0, q1, qP, qK, qD, qE⟩ := q; exact ⟨q0, q1, qP, va_K.moved (u := U) (U := U.calling g mk a) (Vm.Alike.refl U.vm) qK, qD, GE.calling qE⟩, va_recv hK hP (ci := 8) (q0 := 2) rfl rfl, fun U hU hW => ⟨rfl, by rw [hU], by rw [hU]; exact hPc, va_K.moved hW.alike hK, hDc.weaken (fun _ _ _ _ => trivial), GE.call hE hS hFc hU hW⟩⟩ rfl rfl hl.1 rfl (lv_room (Nat.le_of_ble_eq_true rfl)) dX8_setTries_24 ⟨Nat.le_of_ble_eq_true rfl, Nat.le_of_ble_eq_true rfl⟩) hS (fun q _ h => hFc q h) hFc (fun r u t H1 locs ht hvm hw3 hB hz1 hk1 hS => ?_)
  obtain ⟨hP1, hD1⟩ := hB
  rw [ht] at hP1
  obtain ⟨hP, hD⟩ := va_join (wr := []) (w1 := [(h0, .inr (8, [.ref a1, .ref a2, .ref a3, .ref a4, .ref a5, .int 1, .int 0, .ref a6, .int 0, .int 0, .int 0, .int 0, .int 0, .int 0, .int 0, .int 0, .int (-1), .ref a7, .ref a8, .int 0, .ref a9, .ref b0, .int 0]))]) hP hD [2, 0, 1] [] rfl rfl (by decide) (by decide) hk1 hFc hP1 hD1
  generalize H1 = H at hP hS ⊢
  have hP : va_P (dC, dI) vwCl [(h0, .inr (8, [.ref a1, .ref a2, .ref a3, .ref a4, .ref a5, .int 1, .int 0, .ref a6, .int 0, .int 0, .int 0, .int 0, .int 0, .int 0, .int 0, .int 0, .int (-1), .ref a7, .ref a8, .int 0, .ref a9, .ref b0, .int 0]))] H := hP
  have hD : va_D A [(h0, .inr (8, [.ref a1, .ref a2, .ref a3, .ref a4, .ref a5, .int 1, .int 0, .ref a6, .int 0, .int 0, .int 0, .int 0, .int 0, .int 0, .int 0, .int 0, .int (-1), .ref a7, .ref a8, .int 0, .ref a9, .ref b0, .int 0]))] := hD
  obtain rfl := hw3
  refine W.widen (k := 0) (n := 0) (by omega) (by omega) ?_
  have hP9 := hP.sub (ws' := [(h0, .inr (8, [.ref a1, .ref a2, .ref a3, .ref a4, .ref a5, .int 1, .int 0, .ref a6, .int 0, .int 0, .int 0, .int 0, .int 0, .int 0, .int 0, .int 0, .int (-1), .ref a7, .ref a8, .int 0, .ref a9, .ref b0, .int 0]))]) [0] rfl
  have hD9 := hD.sub (ws' := [(h0, .inr (8, [.ref a1, .ref a2, .ref a3, .ref a4, .ref a5, .int 1, .int 0, .ref a6, .int 0, .int 0, .int 0, .int 0, .int 0, .int 0, .int 0, .int 0, .int (-1), .ref a7, .ref a8, .int 0, .ref a9, .ref b0, .int 0]))]) [0] (by decide) rfl
  refine W.widen (k := 0) (n := 0) (by omega) (by omega) ?_
  exact W.iret (v := 1) hx hb hr (fun t ht hW => ⟨⟨1, (), rfl, rfl, by rw [ht]; exact hP9, hD9⟩, hS.F ht⟩) hS.2.2 dX8_setTries_27
set_option maxHeartbeats 4000000 in
set_option maxRecDepth 100000 in
/-- X8_setTray -/
theorem c_X8_setTray (l : Launch) (dC : Nat → ClassId) (dI : Nat → Nat → Nat) (cy : Nat → ClassId) (nb : Nat → Nat) (h0 : Nat) (a1 : Nat) (a2 : Nat) (a3 : Nat) (a4 : Nat) (a5 : Nat) (a6 : Nat) (a7 : Nat) (a8 : Nat) (a9 : Nat) (b0 : Nat) (x6 : Int32) (g : Nat → Int32) (gp : Nat → Int32) (y : Nat) (sz : Nat) (hg : FN g) (hy1 : 1 ≤ y) (hy2 : y ≤ 20) : Met l yX8_setTray (wsg yX8_setTray cX8_setTray 2 (some .int)) ({ frames := 16, cells := 0, slots := 0, locals := 1100 }) (va_Pc [.ref h0, .int (nI y)] (fun U => U.heap.size = sz ∧ va_P (dC, dI) vwCl [(h0, .inr (8, [.ref a1, .ref a2, .ref a3, .ref a4, .ref a5, .int 0, .int x6, .ref a6, .int 0, .int 0, .int 0, .int 0, .int 0, .int 0, .int 0, .int 0, .int (-1), .ref a7, .ref a8, .int 0, .ref a9, .ref b0, .int 0])), (a1, .inl (cy 1, 1037, .inl g)), (a3, .inl (cy 1, 8296, .inl gp))] U.heap ∧ va_K (dC, dI) vwCl (tyL cy) U ∧ va_D (fun _ => True) [(h0, .inr (8, [.ref a1, .ref a2, .ref a3, .ref a4, .ref a5, .int 0, .int x6, .ref a6, .int 0, .int 0, .int 0, .int 0, .int 0, .int 0, .int 0, .int 0, .int (-1), .ref a7, .ref a8, .int 0, .ref a9, .ref b0, .int 0])), (a1, .inl (cy 1, 1037, .inl g)), (a3, .inl (cy 1, 8296, .inl gp))] ∧ GE nb (va_A [(h0, .inr (8, [.ref a1, .ref a2, .ref a3, .ref a4, .ref a5, .int 0, .int x6, .ref a6, .int 0, .int 0, .int 0, .int 0, .int 0, .int 0, .int 0, .int 0, .int (-1), .ref a7, .ref a8, .int 0, .ref a9, .ref b0, .int 0])), (a1, .inl (cy 1, 1037, .inl g)), (a3, .inl (cy 1, 8296, .inl gp))] sz) U)) (va_Qi (fun (r : Int32) (_ : Unit) => r = 1) (fun _ t => va_P (dC, dI) vwCl [(h0, .inr (8, [.ref a1, .ref a2, .ref a3, .ref a4, .ref a5, .int 1, .int 0, .ref a6, .int 0, .int 0, .int 0, .int 0, .int 0, .int 0, .int 0, .int 0, .int (-1), .ref a7, .ref a8, .int 0, .ref a9, .ref b0, .int 0]))] t.heap ∧ va_D (va_A [(h0, .inr (8, [.ref a1, .ref a2, .ref a3, .ref a4, .ref a5, .int 0, .int x6, .ref a6, .int 0, .int 0, .int 0, .int 0, .int 0, .int 0, .int 0, .int 0, .int (-1), .ref a7, .ref a8, .int 0, .ref a9, .ref b0, .int 0])), (a1, .inl (cy 1, 1037, .inl g)), (a3, .inl (cy 1, 8296, .inl gp))] sz) [(h0, .inr (8, [.ref a1, .ref a2, .ref a3, .ref a4, .ref a5, .int 1, .int 0, .ref a6, .int 0, .int 0, .int 0, .int 0, .int 0, .int 0, .int 0, .int 0, .int (-1), .ref a7, .ref a8, .int 0, .ref a9, .ref b0, .int 0]))]) (va_A [(h0, .inr (8, [.ref a1, .ref a2, .ref a3, .ref a4, .ref a5, .int 0, .int x6, .ref a6, .int 0, .int 0, .int 0, .int 0, .int 0, .int 0, .int 0, .int 0, .int (-1), .ref a7, .ref a8, .int 0, .ref a9, .ref b0, .int 0])), (a1, .inl (cy 1, 1037, .inl g)), (a3, .inl (cy 1, 8296, .inl gp))] sz)) 0 0 (va_A [(h0, .inr (8, [.ref a1, .ref a2, .ref a3, .ref a4, .ref a5, .int 0, .int x6, .ref a6, .int 0, .int 0, .int 0, .int 0, .int 0, .int 0, .int 0, .int 0, .int (-1), .ref a7, .ref a8, .int 0, .ref a9, .ref b0, .int 0])), (a1, .inl (cy 1, 1037, .inl g)), (a3, .inl (cy 1, 8296, .inl gp))] sz) := by
  refine Met.ofW (cc := cX8_setTray) (maxL := 2) (ret := (some .int)) (by decide) rfl ?_
  intro p e s m args below meth c s₁ B hml hv
  obtain ⟨rfl, hsz, hP, hK, hD0, hE⟩ := hv
  have hx := B.exec
  have hb := B.bytes
  have hr := B.returns
  have hts0 := atoms_spec (ws := (wsg yX8_setTray cX8_setTray 2 (some .int))) B.pre
  have hts : ∀ w ∈ wsL_law, w.before _ s = true := fun w h => hts0 w (List.mem_cons_of_mem _ h)
  have hown : s.vm.findClass RX8 = some m.cls := findClass_of_methodNamed B.named
  have hlocks := B.notSynchronized
  subst hsz
  have hD := hD0.self (sz := s.heap.size)
  generalize hAe : va_A [(h0, .inr (8, [.ref a1, .ref a2, .ref a3, .ref a4, .ref a5, .int 0, .int x6, .ref a6, .int 0, .int 0, .int 0, .int 0, .int 0, .int 0, .int 0, .int 0, .int (-1), .ref a7, .ref a8, .int 0, .ref a9, .ref b0, .int 0])), (a1, .inl (cy 1, 1037, .inl g)), (a3, .inl (cy 1, 8296, .inl gp))] s.heap.size = A at hD hE ⊢
  have hA : ∀ q : Nat, s.heap.size ≤ q → A q := fun q h => by rw [← hAe]; exact Or.inr h
  have hS : va_S A s.heap s.heap [] := va_S.rf
  have hP : va_P (dC, dI) vwCl [(h0, .inr (8, [.ref a1, .ref a2, .ref a3, .ref a4, .ref a5, .int 0, .int x6, .ref a6, .int 0, .int 0, .int 0, .int 0, .int 0, .int 0, .int 0, .int 0, .int (-1), .ref a7, .ref a8, .int 0, .ref a9, .ref b0, .int 0])), (a1, .inl (cy 1, 1037, .inl g)), (a3, .inl (cy 1, 8296, .inl gp))] s.heap := hP
  have hl := lv_entry ([.ref h0, .int (nI y)]) (n := 2) (Nat.le_of_ble_eq_true rfl)
  rw [lg_entry_eq]
  generalize (lg_sl ([.ref h0, .int (nI y)]) ++ List.replicate (2 - (lg_sl ([.ref h0, .int (nI y)])).length) Slot.unset).toArray = ls at hl ⊢
  have hl : lv_has ls 2 [(0, .ref h0), (1, .int (nI y))] := hl
  generalize hHe : s.heap = H at hP hS ⊢
  have hS : va_S A s.heap H [] := by rw [hHe]; exact hS
  refine lv_aload_n hx hb dX8_setTray_0 rfl (lv_at hl 0 rfl) ?_
  refine lv_iload_n hx hb dX8_setTray_1 rfl (lv_at hl 1 rfl) ?_
  refine lv_i2l (v := ((nI y)).toInt64) hx hb dX8_setTray_2 rfl ?_
  refine lv_lconst (v := 1) hx hb dX8_setTray_3 (by decide) ?_
  refine lv_ldc2 hx hb hown (hts _ mw_1133) dX8_setTray_4 ?_
  have hPc := hP.sub (ws' := []) [] rfl
  have hDc := hD.sub (ws' := []) [] (by decide) rfl
  have hFc := va_free (wc := []) hD hS hA [] rfl
  refine va_calli (va_runS (As := [.long ((nI y)).toInt64, .long 1, .long 20]) (rest := [.ref h0]) ⟨hx, hb, hml, hown, hts⟩ (c_X8_in l dC dI cy nb ((nI y)).toInt64 1 20 H.size) (va_cwS 3 hts (gS mw_445 mw_446 mw_5 mw_447) rfl rfl rfl (by decide +kernel) ⟨Nat.le_of_ble_eq_true rfl, Nat.le_of_ble_eq_true rfl⟩) ⟨fun a U g mk q => by obtain ⟨q0, q1, qP, qK, qD, qE⟩ := q; exact ⟨q0, q1, qP, va_K.moved (u := U) (U := U.calling g mk a) (Vm.Alike.refl U.vm) qK, qD, GE.calling qE⟩, fun U hU hW => ⟨rfl, by rw [hU], by rw [hU]; exact hPc, va_K.moved hW.alike hK, hDc.weaken (fun _ _ _ _ => trivial), GE.call hE hS hFc hU hW⟩⟩ rfl rfl hl.1 rfl (lv_room (Nat.le_of_ble_eq_true rfl)) dX8_setTray_7 ⟨Nat.le_of_ble_eq_true rfl, Nat.le_of_ble_eq_true rfl⟩) hS (fun q _ h => hFc q h) hFc (fun r u t H1 locs ht hvm hw1 hB hz1 hk1 hS => ?_)
  obtain ⟨hP1, hD1⟩ := hB
  rw [ht] at hP1
  obtain ⟨hP, hD⟩ := va_join (wr := [(h0, .inr (8, [.ref a1, .ref a2, .ref a3, .ref a4, .ref a5, .int 0, .int x6, .ref a6, .int 0, .int 0, .int 0, .int 0, .int 0, .int 0, .int 0, .int 0, .int (-1), .ref a7, .ref a8, .int 0, .ref a9, .ref b0, .int 0])), (a1, .inl (cy 1, 1037, .inl g)), (a3, .inl (cy 1, 8296, .inl gp))]) (w1 := []) hP hD [] [0, 1, 2] rfl rfl (by decide) (by decide) hk1 hFc hP1 hD1
  generalize H1 = H at hP hS ⊢
  have hP : va_P (dC, dI) vwCl [(h0, .inr (8, [.ref a1, .ref a2, .ref a3, .ref a4, .ref a5, .int 0, .int x6, .ref a6, .int 0, .int 0, .int 0, .int 0, .int 0, .int 0, .int 0, .int 0, .int (-1), .ref a7, .ref a8, .int 0, .ref a9, .ref b0, .int 0])), (a1, .inl (cy 1, 1037, .inl g)), (a3, .inl (cy 1, 8296, .inl gp))] H := hP
  have hD : va_D A [(h0, .inr (8, [.ref a1, .ref a2, .ref a3, .ref a4, .ref a5, .int 0, .int x6, .ref a6, .int 0, .int 0, .int 0, .int 0, .int 0, .int 0, .int 0, .int 0, .int (-1), .ref a7, .ref a8, .int 0, .ref a9, .ref b0, .int 0])), (a1, .inl (cy 1, 1037, .inl g)), (a3, .inl (cy 1, 8296, .inl gp))] := hD
  obtain rfl := hw1
  refine my_topi (y := 1) (by exact inB_nI (a := 1) (b := 20) hy1 hy2 (by decide)) ?_
  refine W.widen (k := 0) (n := 0) (by omega) (by omega) ?_
  refine lv_iconst (v := 1) hx hb dX8_setTray_10 (by decide) ?_
  have hPc := hP.sub (ws' := [(h0, .inr (8, [.ref a1, .ref a2, .ref a3, .ref a4, .ref a5, .int 0, .int x6, .ref a6, .int 0, .int 0, .int 0, .int 0, .int 0, .int 0, .int 0, .int 0, .int (-1), .ref a7, .ref a8, .int 0, .ref a9, .ref b0, .int 0]))]) [0] rfl
  have hDc := hD.sub (ws' := [(h0, .inr (8, [.ref a1, .ref a2, .ref a3, .ref a4, .ref a5, .int 0, .int x6, .ref a6, .int 0, .int 0, .int 0, .int 0, .int 0, .int 0, .int 0, .int 0, .int (-1), .ref a7, .ref a8, .int 0, .ref a9, .ref b0, .int 0]))]) [0] (by decide) rfl
  have hFc := va_free (wc := [(h0, .inr (8, [.ref a1, .ref a2, .ref a3, .ref a4, .ref a5, .int 0, .int x6, .ref a6, .int 0, .int 0, .int 0, .int 0, .int 0, .int 0, .int 0, .int 0, .int (-1), .ref a7, .ref a8, .int 0, .ref a9, .ref b0, .int 0]))]) hD hS hA [0] rfl
  refine va_calli (va_runV (As := [.int 1, .int 1]) (rest := []) ⟨hx, hb, hml, hown, hts⟩ (c_X8_isThrown_1 l dC dI cy nb h0 (.ref a1) (.ref a2) (.ref a3) (.ref a4) (.ref a5) (.int 0) (.ref a6) (.int 0) (.int 0) (.int 0) (.int 0) (.int 0) (.int 0) (.int 0) (.int 0) (.int (-1)) (.ref a7) (.ref a8) (.int 0) (.ref a9) (.ref b0) (.int 0) x6 1 H.size) (cwV 2 hts (gV mw_580 mw_581 mw_582 mw_5 mw_583) rfl rfl rfl (by decide +kernel) ⟨Nat.le_of_ble_eq_true rfl, Nat.le_of_ble_eq_true rfl⟩) ⟨fun a U g mk q => by obtain ⟨q0, q1, qP, qK, qD, qE⟩ := q; exact ⟨q0, q1, qP, va_K.moved (u := U) (U := U.calling g mk a) (Vm.Alike.refl U.vm) qK, qD, GE.calling qE⟩, va_recv hK hP (ci := 8) (q0 := 0) rfl rfl, fun U hU hW => ⟨rfl, by rw [hU], by rw [hU]; exact hPc, va_K.moved hW.alike hK, hDc.weaken (fun _ _ _ _ => trivial), GE.call hE hS hFc hU hW⟩⟩ rfl rfl hl.1 rfl (lv_room (Nat.le_of_ble_eq_true rfl)) dX8_setTray_11 ⟨Nat.le_of_ble_eq_true rfl, Nat.le_of_ble_eq_true rfl⟩) hS (fun q _ h => hFc q h) hFc (fun r u t H1 locs ht hvm hw2 hB hz1 hk1 hS => ?_)
  obtain ⟨hP1, hD1⟩ := hB
  rw [ht] at hP1
  obtain ⟨hP, hD⟩ := va_join (wr := [(a1, .inl (cy 1, 1037, .inl g)), (a3, .inl (cy 1, 8296, .inl gp))]) (w1 := [(h0, .inr (8, [.ref a1, .ref a2, .ref a3, .ref a4, .ref a5, .int 0, .int 0, .ref a6, .int 0, .int 0, .int 0, .int 0, .int 0, .int 0, .int 0, .int 0, .int (-1), .ref a7, .ref a8, .int 0, .ref a9, .ref b0, .int 0]))]) hP hD [0] [1, 2] rfl rfl (by decide) (by decide) hk1 hFc hP1 hD1
  generalize H1 = H at hP hS ⊢
  have hP : va_P (dC, dI) vwCl [(a1, .inl (cy 1, 1037, .inl g)), (a3, .inl (cy 1, 8296, .inl gp)), (h0, .inr (8, [.ref a1, .ref a2, .ref a3, .ref a4, .ref a5, .int 0, .int 0, .ref a6, .int 0, .int 0, .int 0, .int 0, .int 0, .int 0, .int 0, .int 0, .int (-1), .ref a7, .ref a8, .int 0, .ref a9, .ref b0, .int 0]))] H := hP
  have hD : va_D A [(a1, .inl (cy 1, 1037, .inl g)), (a3, .inl (cy 1, 8296, .inl gp)), (h0, .inr (8, [.ref a1, .ref a2, .ref a3, .ref a4, .ref a5, .int 0, .int 0, .ref a6, .int 0, .int 0, .int 0, .int 0, .int 0, .int 0, .int 0, .int 0, .int (-1), .ref a7, .ref a8, .int 0, .ref a9, .ref b0, .int 0]))] := hD
  obtain rfl := hw2
  refine W.widen (k := 0) (n := 0) (by omega) (by omega) ?_
  refine lv_if_eq (tgt := 21) hx hb dX8_setTray_14 (by decide) (fun _ => ?_) (fun h => absurd (by decide) h)
  refine lv_aload_n hx hb dX8_setTray_21 rfl (lv_at hl 0 rfl) ?_
  refine lv_iconst (v := 1) hx hb dX8_setTray_22 (by decide) ?_
  refine lv_iload_n hx hb dX8_setTray_23 rfl (lv_at hl 1 rfl) ?_
  have hPc := hP.sub (ws' := [(h0, .inr (8, [.ref a1, .ref a2, .ref a3, .ref a4, .ref a5, .int 0, .int 0, .ref a6, .int 0, .int 0, .int 0, .int 0, .int 0, .int 0, .int 0, .int 0, .int (-1), .ref a7, .ref a8, .int 0, .ref a9, .ref b0, .int 0])), (a1, .inl (cy 1, 1037, .inl g)), (a3, .inl (cy 1, 8296, .inl gp))]) [2, 0, 1] rfl
  have hDc := hD.sub (ws' := [(h0, .inr (8, [.ref a1, .ref a2, .ref a3, .ref a4, .ref a5, .int 0, .int 0, .ref a6, .int 0, .int 0, .int 0, .int 0, .int 0, .int 0, .int 0, .int 0, .int (-1), .ref a7, .ref a8, .int 0, .ref a9, .ref b0, .int 0])), (a1, .inl (cy 1, 1037, .inl g)), (a3, .inl (cy 1, 8296, .inl gp))]) [2, 0, 1] (by decide) rfl
  have hFc := va_free (wc := [(h0, .inr (8, [.ref a1, .ref a2, .ref a3, .ref a4, .ref a5, .int 0, .int 0, .ref a6, .int 0, .int 0, .int 0, .int 0, .int 0, .int 0, .int 0, .int 0, .int (-1), .ref a7, .ref a8, .int 0, .ref a9, .ref b0, .int 0])), (a1, .inl (cy 1, 1037, .inl g)), (a3, .inl (cy 1, 8296, .inl gp))]) hD hS hA [2, 0, 1] rfl
  refine va_calli (va_runV (As := [.int 1, .int (nI y)]) (rest := []) ⟨hx, hb, hml, hown, hts⟩ (c_X8_puts_1 l dC dI cy nb h0 a1 a2 a3 a4 a5 a6 a7 a8 a9 b0 0 g gp y H.size hg) (cwV 2 hts (gV mw_1032 mw_1033 mw_1034 mw_5 mw_1035) rfl rfl rfl (by decide +kernel) ⟨Nat.le_of_ble_eq_true rfl, Nat.le_of_ble_eq_true rfl⟩) ⟨fun a U g mk q => by obtain ⟨q0, q1, qP, qK, qD, qE⟩ := q; exact ⟨q0, q1, qP, va_K.moved (u := U) (U := U.calling g mk a) (Vm.Alike.refl U.vm) qK, qD, GE.calling qE⟩, va_recv hK hP (ci := 8) (q0 := 2) rfl rfl, fun U hU hW => ⟨rfl, by rw [hU], by rw [hU]; exact hPc, va_K.moved hW.alike hK, hDc.weaken (fun _ _ _ _ => trivial), GE.call hE hS hFc hU hW⟩⟩ rfl rfl hl.1 rfl (lv_room (Nat.le_of_ble_eq_true rfl)) dX8_setTray_24 ⟨Nat.le_of_ble_eq_true rfl, Nat.le_of_ble_eq_true rfl⟩) hS (fun q _ h => hFc q h) hFc (fun r u t H1 locs ht hvm hw3 hB hz1 hk1 hS => ?_)
  obtain ⟨hP1, hD1⟩ := hB
  rw [ht] at hP1
  obtain ⟨hP, hD⟩ := va_join (wr := []) (w1 := [(h0, .inr (8, [.ref a1, .ref a2, .ref a3, .ref a4, .ref a5, .int 1, .int 0, .ref a6, .int 0, .int 0, .int 0, .int 0, .int 0, .int 0, .int 0, .int 0, .int (-1), .ref a7, .ref a8, .int 0, .ref a9, .ref b0, .int 0]))]) hP hD [2, 0, 1] [] rfl rfl (by decide) (by decide) hk1 hFc hP1 hD1
  generalize H1 = H at hP hS ⊢
  have hP : va_P (dC, dI) vwCl [(h0, .inr (8, [.ref a1, .ref a2, .ref a3, .ref a4, .ref a5, .int 1, .int 0, .ref a6, .int 0, .int 0, .int 0, .int 0, .int 0, .int 0, .int 0, .int 0, .int (-1), .ref a7, .ref a8, .int 0, .ref a9, .ref b0, .int 0]))] H := hP
  have hD : va_D A [(h0, .inr (8, [.ref a1, .ref a2, .ref a3, .ref a4, .ref a5, .int 1, .int 0, .ref a6, .int 0, .int 0, .int 0, .int 0, .int 0, .int 0, .int 0, .int 0, .int (-1), .ref a7, .ref a8, .int 0, .ref a9, .ref b0, .int 0]))] := hD
  obtain rfl := hw3
  refine W.widen (k := 0) (n := 0) (by omega) (by omega) ?_
  have hP9 := hP.sub (ws' := [(h0, .inr (8, [.ref a1, .ref a2, .ref a3, .ref a4, .ref a5, .int 1, .int 0, .ref a6, .int 0, .int 0, .int 0, .int 0, .int 0, .int 0, .int 0, .int 0, .int (-1), .ref a7, .ref a8, .int 0, .ref a9, .ref b0, .int 0]))]) [0] rfl
  have hD9 := hD.sub (ws' := [(h0, .inr (8, [.ref a1, .ref a2, .ref a3, .ref a4, .ref a5, .int 1, .int 0, .ref a6, .int 0, .int 0, .int 0, .int 0, .int 0, .int 0, .int 0, .int 0, .int (-1), .ref a7, .ref a8, .int 0, .ref a9, .ref b0, .int 0]))]) [0] (by decide) rfl
  refine W.widen (k := 0) (n := 0) (by omega) (by omega) ?_
  exact W.iret (v := 1) hx hb hr (fun t ht hW => ⟨⟨1, (), rfl, rfl, by rw [ht]; exact hP9, hD9⟩, hS.F ht⟩) hS.2.2 dX8_setTray_27
set_option maxHeartbeats 4000000 in
set_option maxRecDepth 100000 in
/-- X8_refill -/
theorem c_X8_refill (l : Launch) (dC : Nat → ClassId) (dI : Nat → Nat → Nat) (cy : Nat → ClassId) (nb : Nat → Nat) (h0 : Nat) (a1 : Nat) (a2 : Nat) (a3 : Nat) (a4 : Nat) (a5 : Nat) (a6 : Nat) (a7 : Nat) (a8 : Nat) (a9 : Nat) (b0 : Nat) (x6 : Int32) (g : Nat → Int32) (gp : Nat → Int32) (y : Nat) (sz : Nat) (hg : FN g) (hy1 : 1 ≤ y) (hy2 : y ≤ 999) : Met l yX8_refill (wsg yX8_refill cX8_refill 2 (some .int)) ({ frames := 15, cells := 0, slots := 0, locals := 1000 }) (va_Pc [.ref h0, .int (nI y)] (fun U => U.heap.size = sz ∧ va_P (dC, dI) vwCl [(h0, .inr (8, [.ref a1, .ref a2, .ref a3, .ref a4, .ref a5, .int 0, .int x6, .ref a6, .int 0, .int 0, .int 0, .int 0, .int 0, .int 0, .int 0, .int 0, .int (-1), .ref a7, .ref a8, .int 0, .ref a9, .ref b0, .int 0])), (a1, .inl (cy 1, 1037, .inl g)), (a3, .inl (cy 1, 8296, .inl gp))] U.heap ∧ va_K (dC, dI) vwCl (tyL cy) U ∧ va_D (fun _ => True) [(h0, .inr (8, [.ref a1, .ref a2, .ref a3, .ref a4, .ref a5, .int 0, .int x6, .ref a6, .int 0, .int 0, .int 0, .int 0, .int 0, .int 0, .int 0, .int 0, .int (-1), .ref a7, .ref a8, .int 0, .ref a9, .ref b0, .int 0])), (a1, .inl (cy 1, 1037, .inl g)), (a3, .inl (cy 1, 8296, .inl gp))] ∧ GE nb (va_A [(h0, .inr (8, [.ref a1, .ref a2, .ref a3, .ref a4, .ref a5, .int 0, .int x6, .ref a6, .int 0, .int 0, .int 0, .int 0, .int 0, .int 0, .int 0, .int 0, .int (-1), .ref a7, .ref a8, .int 0, .ref a9, .ref b0, .int 0])), (a1, .inl (cy 1, 1037, .inl g)), (a3, .inl (cy 1, 8296, .inl gp))] sz) U)) (va_Qi (fun (r : Int32) (_ : Unit) => r = (nI y)) (fun _ t => va_P (dC, dI) vwCl [(h0, .inr (8, [.ref a1, .ref a2, .ref a3, .ref a4, .ref a5, .int 1, .int 0, .ref a6, .int 0, .int 0, .int 0, .int 0, .int 0, .int 0, .int 0, .int 0, .int (-1), .ref a7, .ref a8, .int 0, .ref a9, .ref b0, .int 0]))] t.heap ∧ va_D (va_A [(h0, .inr (8, [.ref a1, .ref a2, .ref a3, .ref a4, .ref a5, .int 0, .int x6, .ref a6, .int 0, .int 0, .int 0, .int 0, .int 0, .int 0, .int 0, .int 0, .int (-1), .ref a7, .ref a8, .int 0, .ref a9, .ref b0, .int 0])), (a1, .inl (cy 1, 1037, .inl g)), (a3, .inl (cy 1, 8296, .inl gp))] sz) [(h0, .inr (8, [.ref a1, .ref a2, .ref a3, .ref a4, .ref a5, .int 1, .int 0, .ref a6, .int 0, .int 0, .int 0, .int 0, .int 0, .int 0, .int 0, .int 0, .int (-1), .ref a7, .ref a8, .int 0, .ref a9, .ref b0, .int 0]))]) (va_A [(h0, .inr (8, [.ref a1, .ref a2, .ref a3, .ref a4, .ref a5, .int 0, .int x6, .ref a6, .int 0, .int 0, .int 0, .int 0, .int 0, .int 0, .int 0, .int 0, .int (-1), .ref a7, .ref a8, .int 0, .ref a9, .ref b0, .int 0])), (a1, .inl (cy 1, 1037, .inl g)), (a3, .inl (cy 1, 8296, .inl gp))] sz)) 0 0 (va_A [(h0, .inr (8, [.ref a1, .ref a2, .ref a3, .ref a4, .ref a5, .int 0, .int x6, .ref a6, .int 0, .int 0, .int 0, .int 0, .int 0, .int 0, .int 0, .int 0, .int (-1), .ref a7, .ref a8, .int 0, .ref a9, .ref b0, .int 0])), (a1, .inl (cy 1, 1037, .inl g)), (a3, .inl (cy 1, 8296, .inl gp))] sz) := by
  refine Met.ofW (cc := cX8_refill) (maxL := 2) (ret := (some .int)) (by decide) rfl ?_
  intro p e s m args below meth c s₁ B hml hv
  obtain ⟨rfl, hsz, hP, hK, hD0, hE⟩ := hv
  have hx := B.exec
  have hb := B.bytes
  have hr := B.returns
  have hts0 := atoms_spec (ws := (wsg yX8_refill cX8_refill 2 (some .int))) B.pre
  have hts : ∀ w ∈ wsL_law, w.before _ s = true := fun w h => hts0 w (List.mem_cons_of_mem _ h)
  have hown : s.vm.findClass RX8 = some m.cls := findClass_of_methodNamed B.named
  have hlocks := B.notSynchronized
  subst hsz
  have hD := hD0.self (sz := s.heap.size)
  generalize hAe : va_A [(h0, .inr (8, [.ref a1, .ref a2, .ref a3, .ref a4, .ref a5, .int 0, .int x6, .ref a6, .int 0, .int 0, .int 0, .int 0, .int 0, .int 0, .int 0, .int 0, .int (-1), .ref a7, .ref a8, .int 0, .ref a9, .ref b0, .int 0])), (a1, .inl (cy 1, 1037, .inl g)), (a3, .inl (cy 1, 8296, .inl gp))] s.heap.size = A at hD hE ⊢
  have hA : ∀ q : Nat, s.heap.size ≤ q → A q := fun q h => by rw [← hAe]; exact Or.inr h
  have hS : va_S A s.heap s.heap [] := va_S.rf
  have hP : va_P (dC, dI) vwCl [(h0, .inr (8, [.ref a1, .ref a2, .ref a3, .ref a4, .ref a5, .int 0, .int x6, .ref a6, .int 0, .int 0, .int 0, .int 0, .int 0, .int 0, .int 0, .int 0, .int (-1), .ref a7, .ref a8, .int 0, .ref a9, .ref b0, .int 0])), (a1, .inl (cy 1, 1037, .inl g)), (a3, .inl (cy 1, 8296, .inl gp))] s.heap := hP
  have hl := lv_entry ([.ref h0, .int (nI y)]) (n := 2) (Nat.le_of_ble_eq_true rfl)
  rw [lg_entry_eq]
  generalize (lg_sl ([.ref h0, .int (nI y)]) ++ List.replicate (2 - (lg_sl ([.ref h0, .int (nI y)])).length) Slot.unset).toArray = ls at hl ⊢
  have hl : lv_has ls 2 [(0, .ref h0), (1, .int (nI y))] := hl
  generalize hHe : s.heap = H at hP hS ⊢
  have hS : va_S A s.heap H [] := by rw [hHe]; exact hS
  refine lv_aload_n hx hb dX8_refill_0 rfl (lv_at hl 0 rfl) ?_
  refine lv_iload_n hx hb dX8_refill_1 rfl (lv_at hl 1 rfl) ?_
  refine lv_i2l (v := ((nI y)).toInt64) hx hb dX8_refill_2 rfl ?_
  refine lv_lconst (v := 1) hx hb dX8_refill_3 (by decide) ?_
  refine lv_ldc2 hx hb hown (hts _ mw_1047) dX8_refill_4 ?_
  have hPc := hP.sub (ws' := []) [] rfl
  have hDc := hD.sub (ws' := []) [] (by decide) rfl
  have hFc := va_free (wc := []) hD hS hA [] rfl
  refine va_calli (va_runS (As := [.long ((nI y)).toInt64, .long 1, .long 999]) (rest := [.ref h0]) ⟨hx, hb, hml, hown, hts⟩ (c_X8_in l dC dI cy nb ((nI y)).toInt64 1 999 H.size) (va_cwS 3 hts (gS mw_445 mw_446 mw_5 mw_447) rfl rfl rfl (by decide +kernel) ⟨Nat.le_of_ble_eq_true rfl, Nat.le_of_ble_eq_true rfl⟩) ⟨fun a U g mk q => by obtain ⟨q0, q1, qP, qK, qD, qE⟩ := q; exact ⟨q0, q1, qP, va_K.moved (u := U) (U := U.calling g mk a) (Vm.Alike.refl U.vm) qK, qD, GE.calling qE⟩, fun U hU hW => ⟨rfl, by rw [hU], by rw [hU]; exact hPc, va_K.moved hW.alike hK, hDc.weaken (fun _ _ _ _ => trivial), GE.call hE hS hFc hU hW⟩⟩ rfl rfl hl.1 rfl (lv_room (Nat.le_of_ble_eq_true rfl)) dX8_refill_7 ⟨Nat.le_of_ble_eq_true rfl, Nat.le_of_ble_eq_true rfl⟩) hS (fun q _ h => hFc q h) hFc (fun r u t H1 locs ht hvm hw1 hB hz1 hk1 hS => ?_)
  obtain ⟨hP1, hD1⟩ := hB
  rw [ht] at hP1
  obtain ⟨hP, hD⟩ := va_join (wr := [(h0, .inr (8, [.ref a1, .ref a2, .ref a3, .ref a4, .ref a5, .int 0, .int x6, .ref a6, .int 0, .int 0, .int 0, .int 0, .int 0, .int 0, .int 0, .int 0, .int (-1), .ref a7, .ref a8, .int 0, .ref a9, .ref b0, .int 0])), (a1, .inl (cy 1, 1037, .inl g)), (a3, .inl (cy 1, 8296, .inl gp))]) (w1 := []) hP hD [] [0, 1, 2] rfl rfl (by decide) (by decide) hk1 hFc hP1 hD1
  generalize H1 = H at hP hS ⊢
  have hP : va_P (dC, dI) vwCl [(h0, .inr (8, [.ref a1, .ref a2, .ref a3, .ref a4, .ref a5, .int 0, .int x6, .ref a6, .int 0, .int 0, .int 0, .int 0, .int 0, .int 0, .int 0, .int 0, .int (-1), .ref a7, .ref a8, .int 0, .ref a9, .ref b0, .int 0])), (a1, .inl (cy 1, 1037, .inl g)), (a3, .inl (cy 1, 8296, .inl gp))] H := hP
  have hD : va_D A [(h0, .inr (8, [.ref a1, .ref a2, .ref a3, .ref a4, .ref a5, .int 0, .int x6, .ref a6, .int 0, .int 0, .int 0, .int 0, .int 0, .int 0, .int 0, .int 0, .int (-1), .ref a7, .ref a8, .int 0, .ref a9, .ref b0, .int 0])), (a1, .inl (cy 1, 1037, .inl g)), (a3, .inl (cy 1, 8296, .inl gp))] := hD
  obtain rfl := hw1
  refine my_topi (y := 1) (by exact inB_nI (a := 1) (b := 999) hy1 hy2 (by decide)) ?_
  refine W.widen (k := 0) (n := 0) (by omega) (by omega) ?_
  refine lv_iconst (v := 1) hx hb dX8_refill_10 (by decide) ?_
  have hPc := hP.sub (ws' := [(h0, .inr (8, [.ref a1, .ref a2, .ref a3, .ref a4, .ref a5, .int 0, .int x6, .ref a6, .int 0, .int 0, .int 0, .int 0, .int 0, .int 0, .int 0, .int 0, .int (-1), .ref a7, .ref a8, .int 0, .ref a9, .ref b0, .int 0]))]) [0] rfl
  have hDc := hD.sub (ws' := [(h0, .inr (8, [.ref a1, .ref a2, .ref a3, .ref a4, .ref a5, .int 0, .int x6, .ref a6, .int 0, .int 0, .int 0, .int 0, .int 0, .int 0, .int 0, .int 0, .int (-1), .ref a7, .ref a8, .int 0, .ref a9, .ref b0, .int 0]))]) [0] (by decide) rfl
  have hFc := va_free (wc := [(h0, .inr (8, [.ref a1, .ref a2, .ref a3, .ref a4, .ref a5, .int 0, .int x6, .ref a6, .int 0, .int 0, .int 0, .int 0, .int 0, .int 0, .int 0, .int 0, .int (-1), .ref a7, .ref a8, .int 0, .ref a9, .ref b0, .int 0]))]) hD hS hA [0] rfl
  refine va_calli (va_runV (As := [.int 1, .int 1]) (rest := []) ⟨hx, hb, hml, hown, hts⟩ (c_X8_isThrown_1 l dC dI cy nb h0 (.ref a1) (.ref a2) (.ref a3) (.ref a4) (.ref a5) (.int 0) (.ref a6) (.int 0) (.int 0) (.int 0) (.int 0) (.int 0) (.int 0) (.int 0) (.int 0) (.int (-1)) (.ref a7) (.ref a8) (.int 0) (.ref a9) (.ref b0) (.int 0) x6 1 H.size) (cwV 2 hts (gV mw_580 mw_581 mw_582 mw_5 mw_583) rfl rfl rfl (by decide +kernel) ⟨Nat.le_of_ble_eq_true rfl, Nat.le_of_ble_eq_true rfl⟩) ⟨fun a U g mk q => by obtain ⟨q0, q1, qP, qK, qD, qE⟩ := q; exact ⟨q0, q1, qP, va_K.moved (u := U) (U := U.calling g mk a) (Vm.Alike.refl U.vm) qK, qD, GE.calling qE⟩, va_recv hK hP (ci := 8) (q0 := 0) rfl rfl, fun U hU hW => ⟨rfl, by rw [hU], by rw [hU]; exact hPc, va_K.moved hW.alike hK, hDc.weaken (fun _ _ _ _ => trivial), GE.call hE hS hFc hU hW⟩⟩ rfl rfl hl.1 rfl (lv_room (Nat.le_of_ble_eq_true rfl)) dX8_refill_11 ⟨Nat.le_of_ble_eq_true rfl, Nat.le_of_ble_eq_true rfl⟩) hS (fun q _ h => hFc q h) hFc (fun r u t H1 locs ht hvm hw2 hB hz1 hk1 hS => ?_)
  obtain ⟨hP1, hD1⟩ := hB
  rw [ht] at hP1
  obtain ⟨hP, hD⟩ := va_join (wr := [(a1, .inl (cy 1, 1037, .inl g)), (a3, .inl (cy 1, 8296, .inl gp))]) (w1 := [(h0, .inr (8, [.ref a1, .ref a2, .ref a3, .ref a4, .ref a5, .int 0, .int 0, .ref a6, .int 0, .int 0, .int 0, .int 0, .int 0, .int 0, .int 0, .int 0, .int (-1), .ref a7, .ref a8, .int 0, .ref a9, .ref b0, .int 0]))]) hP hD [0] [1, 2] rfl rfl (by decide) (by decide) hk1 hFc hP1 hD1
  generalize H1 = H at hP hS ⊢
  have hP : va_P (dC, dI) vwCl [(a1, .inl (cy 1, 1037, .inl g)), (a3, .inl (cy 1, 8296, .inl gp)), (h0, .inr (8, [.ref a1, .ref a2, .ref a3, .ref a4, .ref a5, .int 0, .int 0, .ref a6, .int 0, .int 0, .int 0, .int 0, .int 0, .int 0, .int 0, .int 0, .int (-1), .ref a7, .ref a8, .int 0, .ref a9, .ref b0, .int 0]))] H := hP
  have hD : va_D A [(a1, .inl (cy 1, 1037, .inl g)), (a3, .inl (cy 1, 8296, .inl gp)), (h0, .inr (8, [.ref a1, .ref a2, .ref a3, .ref a4, .ref a5, .int 0, .int 0, .ref a6, .int 0, .int 0, .int 0, .int 0, .int 0, .int 0, .int 0, .int 0, .int (-1), .ref a7, .ref a8, .int 0, .ref a9, .ref b0, .int 0]))] := hD
  obtain rfl := hw2
  refine W.widen (k := 0) (n := 0) (by omega) (by omega) ?_
  refine lv_if_eq (tgt := 19) hx hb dX8_refill_14 (by decide) (fun _ => ?_) (fun h => absurd (by decide) h)
  refine lv_aload_n hx hb dX8_refill_19 rfl (lv_at hl 0 rfl) ?_
  refine va_get (D := (dC, dI)) (ci := 8) (v := .ref a1) (C := RX8) (T := TX8) (N := 23) hx hb hts inlX8 hown hK hP 2 rfl rfl 0 (by decide) (hts _ mw_97) (fun _ h9 => h9) rfl dX8_refill_20 ?_
  refine lv_iconst (v := 5) hx hb dX8_refill_23 (by decide) ?_
  refine va_iald hx hb hK hP 0 1 rfl rfl (vp_in_nI (n := 5) (by decide) (by decide)) dX8_refill_24 ?_
  refine my_topi (y := 0) (by exact hg.2.2.2 5 (by decide) (by decide)) ?_
  refine lv_iload_n hx hb dX8_refill_25 rfl (lv_at hl 1 rfl) ?_
  refine lv_iadd hx hb dX8_refill_26 ?_
  refine my_topi (y := (nI y)) (by exact my_0a _) ?_
  refine lv_sipush (v := 9999) hx hb dX8_refill_27 (by decide) ?_
  refine lv_icmp_le (tgt := 36) hx hb dX8_refill_30 (by decide) (fun c_30_1 => ?_) (fun c_30_1 => by exact absurd (nI_le (a := y) (b := 9999) (by omega) (by decide)) c_30_1)
  refine lv_aload_n hx hb dX8_refill_36 rfl (lv_at hl 0 rfl) ?_
  have hPc := hP.sub (ws' := [(h0, .inr (8, [.ref a1, .ref a2, .ref a3, .ref a4, .ref a5, .int 0, .int 0, .ref a6, .int 0, .int 0, .int 0, .int 0, .int 0, .int 0, .int 0, .int 0, .int (-1), .ref a7, .ref a8, .int 0, .ref a9, .ref b0, .int 0])), (a1, .inl (cy 1, 1037, .inl g)), (a3, .inl (cy 1, 8296, .inl gp))]) [2, 0, 1] rfl
  have hDc := hD.sub (ws' := [(h0, .inr (8, [.ref a1, .ref a2, .ref a3, .ref a4, .ref a5, .int 0, .int 0, .ref a6, .int 0, .int 0, .int 0, .int 0, .int 0, .int 0, .int 0, .int 0, .int (-1), .ref a7, .ref a8, .int 0, .ref a9, .ref b0, .int 0])), (a1, .inl (cy 1, 1037, .inl g)), (a3, .inl (cy 1, 8296, .inl gp))]) [2, 0, 1] (by decide) rfl
  have hFc := va_free (wc := [(h0, .inr (8, [.ref a1, .ref a2, .ref a3, .ref a4, .ref a5, .int 0, .int 0, .ref a6, .int 0, .int 0, .int 0, .int 0, .int 0, .int 0, .int 0, .int 0, .int (-1), .ref a7, .ref a8, .int 0, .ref a9, .ref b0, .int 0])), (a1, .inl (cy 1, 1037, .inl g)), (a3, .inl (cy 1, 8296, .inl gp))]) hD hS hA [2, 0, 1] rfl
  refine va_callv (va_runV (As := []) (rest := []) ⟨hx, hb, hml, hown, hts⟩ (c_X8_keeps l dC dI cy nb h0 a1 a2 a3 a4 a5 a6 a7 a8 a9 b0 0 g gp H.size hg) (cwV 0 hts (gV mw_987 mw_988 mw_989 mw_5 mw_990) rfl rfl rfl (by decide +kernel) ⟨Nat.le_of_ble_eq_true rfl, Nat.le_of_ble_eq_true rfl⟩) ⟨fun a U g mk q => by obtain ⟨q0, q1, qP, qK, qD, qE⟩ := q; exact ⟨q0, q1, qP, va_K.moved (u := U) (U := U.calling g mk a) (Vm.Alike.refl U.vm) qK, qD, GE.calling qE⟩, va_recv hK hP (ci := 8) (q0 := 2) rfl rfl, fun U hU hW => ⟨rfl, by rw [hU], by rw [hU]; exact hPc, va_K.moved hW.alike hK, hDc.weaken (fun _ _ _ _ => trivial), GE.call hE hS hFc hU hW⟩⟩ rfl rfl hl.1 rfl (lv_room (Nat.le_of_ble_eq_true rfl)) dX8_refill_37 ⟨Nat.le_of_ble_eq_true rfl, Nat.le_of_ble_eq_true rfl⟩) hS (fun q _ h => hFc q h) hFc (fun u t H1 locs ht hvm hw3 hB hz1 hk1 hS => ?_)
  obtain ⟨hP1, hD1⟩ := hB
  rw [ht] at hP1
  obtain ⟨hP, hD⟩ := va_join (wr := []) (w1 := [(h0, .inr (8, [.ref a1, .ref a2, .ref a3, .ref a4, .ref a5, .int 1, .int 0, .ref a6, .int 0, .int 0, .int 0, .int 0, .int 0, .int 0, .int 0, .int 0, .int (-1), .ref a7, .ref a8, .int 0, .ref a9, .ref b0, .int 0])), (a1, .inl (cy 1, 1037, .inl g))]) hP hD [2, 0, 1] [] rfl rfl (by decide) (by decide) hk1 hFc hP1 hD1
  generalize H1 = H at hP hS ⊢
  have hP : va_P (dC, dI) vwCl [(h0, .inr (8, [.ref a1, .ref a2, .ref a3, .ref a4, .ref a5, .int 1, .int 0, .ref a6, .int 0, .int 0, .int 0, .int 0, .int 0, .int 0, .int 0, .int 0, .int (-1), .ref a7, .ref a8, .int 0, .ref a9, .ref b0, .int 0])), (a1, .inl (cy 1, 1037, .inl g))] H := hP
  have hD : va_D A [(h0, .inr (8, [.ref a1, .ref a2, .ref a3, .ref a4, .ref a5, .int 1, .int 0, .ref a6, .int 0, .int 0, .int 0, .int 0, .int 0, .int 0, .int 0, .int 0, .int (-1), .ref a7, .ref a8, .int 0, .ref a9, .ref b0, .int 0])), (a1, .inl (cy 1, 1037, .inl g))] := hD
  refine W.widen (k := 0) (n := 0) (by omega) (by omega) ?_
  refine lv_aload_n hx hb dX8_refill_40 rfl (lv_at hl 0 rfl) ?_
  refine va_get (D := (dC, dI)) (ci := 8) (v := .ref a1) (C := RX8) (T := TX8) (N := 23) hx hb hts inlX8 hown hK hP 0 rfl rfl 0 (by decide) (hts _ mw_97) (fun _ h9 => h9) rfl dX8_refill_41 ?_
  refine lv_iconst (v := 5) hx hb dX8_refill_44 (by decide) ?_
  refine lv_dup2_11 hx hb dX8_refill_45 rfl rfl ?_
  refine va_iald hx hb hK hP 1 1 rfl rfl (vp_in_nI (n := 5) (by decide) (by decide)) dX8_refill_46 ?_
  refine my_topi (y := 0) (by exact hg.2.2.2 5 (by decide) (by decide)) ?_
  refine lv_iload_n hx hb dX8_refill_47 rfl (lv_at hl 1 rfl) ?_
  refine lv_iadd hx hb dX8_refill_48 ?_
  refine my_topi (y := (nI y)) (by exact my_0a _) ?_
  refine va_iast hx hb hK hP hD hS 1 1 rfl rfl (vp_in_nI (n := 5) (by decide) (by decide)) dX8_refill_49 (fun H locs hP hD hS => ?_)
  have hP : va_P (dC, dI) vwCl [(h0, .inr (8, [.ref a1, .ref a2, .ref a3, .ref a4, .ref a5, .int 1, .int 0, .ref a6, .int 0, .int 0, .int 0, .int 0, .int 0, .int 0, .int 0, .int 0, .int (-1), .ref a7, .ref a8, .int 0, .ref a9, .ref b0, .int 0])), (a1, .inl (cy 1, 1037, .inl (upd g ((5 : Int32).toNatClampNeg) (nI y))))] H := hP
  have hD : va_D A [(h0, .inr (8, [.ref a1, .ref a2, .ref a3, .ref a4, .ref a5, .int 1, .int 0, .ref a6, .int 0, .int 0, .int 0, .int 0, .int 0, .int 0, .int 0, .int 0, .int (-1), .ref a7, .ref a8, .int 0, .ref a9, .ref b0, .int 0])), (a1, .inl (cy 1, 1037, .inl (upd g ((5 : Int32).toNatClampNeg) (nI y))))] := hD
  refine lv_aload_n hx hb dX8_refill_50 rfl (lv_at hl 0 rfl) ?_
  refine va_get (D := (dC, dI)) (ci := 8) (v := .ref a1) (C := RX8) (T := TX8) (N := 23) hx hb hts inlX8 hown hK hP 0 rfl rfl 0 (by decide) (hts _ mw_97) (fun _ h9 => h9) rfl dX8_refill_51 ?_
  refine lv_iconst (v := 4) hx hb dX8_refill_54 (by decide) ?_
  refine lv_dup2_11 hx hb dX8_refill_55 rfl rfl ?_
  refine va_iald hx hb hK hP 1 1 rfl rfl (vp_in_nI (n := 4) (by decide) (by decide)) dX8_refill_56 ?_
  refine my_topi (y := (upd g ((5 : Int32).toNatClampNeg) (nI y)) 4) (by rfl) ?_
  refine lv_iload_n hx hb dX8_refill_57 rfl (lv_at hl 1 rfl) ?_
  refine lv_iadd hx hb dX8_refill_58 ?_
  refine my_topi (y := (nI y)) (by exact (congrArg (fun q : Int32 => q + nI y) (hg.2.2.2 4 (by decide) (by decide))).trans (my_0a _)) ?_
  refine va_iast hx hb hK hP hD hS 1 1 rfl rfl (vp_in_nI (n := 4) (by decide) (by decide)) dX8_refill_59 (fun H locs hP hD hS => ?_)
  have hP : va_P (dC, dI) vwCl [(h0, .inr (8, [.ref a1, .ref a2, .ref a3, .ref a4, .ref a5, .int 1, .int 0, .ref a6, .int 0, .int 0, .int 0, .int 0, .int 0, .int 0, .int 0, .int 0, .int (-1), .ref a7, .ref a8, .int 0, .ref a9, .ref b0, .int 0])), (a1, .inl (cy 1, 1037, .inl (upd (upd g ((5 : Int32).toNatClampNeg) (nI y)) ((4 : Int32).toNatClampNeg) (nI y))))] H := hP
  have hD : va_D A [(h0, .inr (8, [.ref a1, .ref a2, .ref a3, .ref a4, .ref a5, .int 1, .int 0, .ref a6, .int 0, .int 0, .int 0, .int 0, .int 0, .int 0, .int 0, .int 0, .int (-1), .ref a7, .ref a8, .int 0, .ref a9, .ref b0, .int 0])), (a1, .inl (cy 1, 1037, .inl (upd (upd g ((5 : Int32).toNatClampNeg) (nI y)) ((4 : Int32).toNatClampNeg) (nI y))))] := hD
  refine lv_aload_n hx hb dX8_refill_60 rfl (lv_at hl 0 rfl) ?_
  refine va_get (D := (dC, dI)) (ci := 8) (v := .ref a1) (C := RX8) (T := TX8) (N := 23) hx hb hts inlX8 hown hK hP 0 rfl rfl 0 (by decide) (hts _ mw_97) (fun _ h9 => h9) rfl dX8_refill_61 ?_
  refine lv_iconst (v := 5) hx hb dX8_refill_64 (by decide) ?_
  refine va_iald hx hb hK hP 1 1 rfl rfl (vp_in_nI (n := 5) (by decide) (by decide)) dX8_refill_65 ?_
  refine my_topi (y := (nI y)) (by rfl) ?_
  have hP9 := hP.sub (ws' := [(h0, .inr (8, [.ref a1, .ref a2, .ref a3, .ref a4, .ref a5, .int 1, .int 0, .ref a6, .int 0, .int 0, .int 0, .int 0, .int 0, .int 0, .int 0, .int 0, .int (-1), .ref a7, .ref a8, .int 0, .ref a9, .ref b0, .int 0]))]) [0] rfl
  have hD9 := hD.sub (ws' := [(h0, .inr (8, [.ref a1, .ref a2, .ref a3, .ref a4, .ref a5, .int 1, .int 0, .ref a6, .int 0, .int 0, .int 0, .int 0, .int 0, .int 0, .int 0, .int 0, .int (-1), .ref a7, .ref a8, .int 0, .ref a9, .ref b0, .int 0]))]) [0] (by decide) rfl
  refine W.widen (k := 0) (n := 0) (by omega) (by omega) ?_
  exact W.iret (v := (nI y)) hx hb hr (fun t ht hW => ⟨⟨(nI y), (), rfl, rfl, by rw [ht]; exact hP9, hD9⟩, hS.F ht⟩) hS.2.2 dX8_refill_66
set_option maxHeartbeats 4000000 in
set_option maxRecDepth 100000 in
/-- X8_count -/
theorem co_X8_count (l : Launch) (dC : Nat → ClassId) (dI : Nat → Nat → Nat) (cy : Nat → ClassId) (nb : Nat → Nat) (h0 : Nat) (a1 : Nat) (a2 : Nat) (a3 : Nat) (a4 : Nat) (a5 : Nat) (a6 : Nat) (a7 : Nat) (a8 : Nat) (a9 : Nat) (b0 : Nat) (x6 : Int32) (g : Nat → Int32) (z : Int32) (sz : Nat) (hg : FN g) (hz : inB (z).toInt64 0 9 = 0) : Met l yX8_count (wsg yX8_count cX8_count 2 (some .int)) ({ frames := 15, cells := 0, slots := 0, locals := 1000 }) (va_Pc [.ref h0, .int z] (fun U => U.heap.size = sz ∧ va_P (dC, dI) vwCl [(h0, .inr (8, [.ref a1, .ref a2, .ref a3, .ref a4, .ref a5, .int 0, .int x6, .ref a6, .int 0, .int 0, .int 0, .int 0, .int 0, .int 0, .int 0, .int 0, .int (-1), .ref a7, .ref a8, .int 0, .ref a9, .ref b0, .int 0])), (a1, .inl (cy 1, 1037, .inl g))] U.heap ∧ va_K (dC, dI) vwCl (tyL cy) U ∧ va_D (fun _ => True) [(h0, .inr (8, [.ref a1, .ref a2, .ref a3, .ref a4, .ref a5, .int 0, .int x6, .ref a6, .int 0, .int 0, .int 0, .int 0, .int 0, .int 0, .int 0, .int 0, .int (-1), .ref a7, .ref a8, .int 0, .ref a9, .ref b0, .int 0])), (a1, .inl (cy 1, 1037, .inl g))] ∧ GE nb (va_A [(h0, .inr (8, [.ref a1, .ref a2, .ref a3, .ref a4, .ref a5, .int 0, .int x6, .ref a6, .int 0, .int 0, .int 0, .int 0, .int 0, .int 0, .int 0, .int 0, .int (-1), .ref a7, .ref a8, .int 0, .ref a9, .ref b0, .int 0])), (a1, .inl (cy 1, 1037, .inl g))] sz) U)) (va_Qi (fun (r : Int32) (_ : Unit) => r = 0) (fun _ t => va_P (dC, dI) vwCl [(h0, .inr (8, [.ref a1, .ref a2, .ref a3, .ref a4, .ref a5, .int 0, .int 1, .ref a6, .int 0, .int 0, .int 0, .int 0, .int 0, .int 0, .int 0, .int 0, .int (-1), .ref a7, .ref a8, .int 0, .ref a9, .ref b0, .int 0]))] t.heap ∧ va_D (va_A [(h0, .inr (8, [.ref a1, .ref a2, .ref a3, .ref a4, .ref a5, .int 0, .int x6, .ref a6, .int 0, .int 0, .int 0, .int 0, .int 0, .int 0, .int 0, .int 0, .int (-1), .ref a7, .ref a8, .int 0, .ref a9, .ref b0, .int 0])), (a1, .inl (cy 1, 1037, .inl g))] sz) [(h0, .inr (8, [.ref a1, .ref a2, .ref a3, .ref a4, .ref a5, .int 0, .int 1, .ref a6, .int 0, .int 0, .int 0, .int 0, .int 0, .int 0, .int 0, .int 0, .int (-1), .ref a7, .ref a8, .int 0, .ref a9, .ref b0, .int 0]))]) (va_A [(h0, .inr (8, [.ref a1, .ref a2, .ref a3, .ref a4, .ref a5, .int 0, .int x6, .ref a6, .int 0, .int 0, .int 0, .int 0, .int 0, .int 0, .int 0, .int 0, .int (-1), .ref a7, .ref a8, .int 0, .ref a9, .ref b0, .int 0])), (a1, .inl (cy 1, 1037, .inl g))] sz)) 0 0 (va_A [(h0, .inr (8, [.ref a1, .ref a2, .ref a3, .ref a4, .ref a5, .int 0, .int x6, .ref a6, .int 0, .int 0, .int 0, .int 0, .int 0, .int 0, .int 0, .int 0, .int (-1), .ref a7, .ref a8, .int 0, .ref a9, .ref b0, .int 0])), (a1, .inl (cy 1, 1037, .inl g))] sz) := by
  refine Met.ofW (cc := cX8_count) (maxL := 2) (ret := (some .int)) (by decide) rfl ?_
  intro p e s m args below meth c s₁ B hml hv
  obtain ⟨rfl, hsz, hP, hK, hD0, hE⟩ := hv
  have hx := B.exec
  have hb := B.bytes
  have hr := B.returns
  have hts0 := atoms_spec (ws := (wsg yX8_count cX8_count 2 (some .int))) B.pre
  have hts : ∀ w ∈ wsL_law, w.before _ s = true := fun w h => hts0 w (List.mem_cons_of_mem _ h)
  have hown : s.vm.findClass RX8 = some m.cls := findClass_of_methodNamed B.named
  have hlocks := B.notSynchronized
  subst hsz
  have hD := hD0.self (sz := s.heap.size)
  generalize hAe : va_A [(h0, .inr (8, [.ref a1, .ref a2, .ref a3, .ref a4, .ref a5, .int 0, .int x6, .ref a6, .int 0, .int 0, .int 0, .int 0, .int 0, .int 0, .int 0, .int 0, .int (-1), .ref a7, .ref a8, .int 0, .ref a9, .ref b0, .int 0])), (a1, .inl (cy 1, 1037, .inl g))] s.heap.size = A at hD hE ⊢
  have hA : ∀ q : Nat, s.heap.size ≤ q → A q := fun q h => by rw [← hAe]; exact Or.inr h
  have hS : va_S A s.heap s.heap [] := va_S.rf
  have hP : va_P (dC, dI) vwCl [(h0, .inr (8, [.ref a1, .ref a2, .ref a3, .ref a4, .ref a5, .int 0, .int x6, .ref a6, .int 0, .int 0, .int 0, .int 0, .int 0, .int 0, .int 0, .int 0, .int (-1), .ref a7, .ref a8, .int 0, .ref a9, .ref b0, .int 0])), (a1, .inl (cy 1, 1037, .inl g))] s.heap := hP
  have hl := lv_entry ([.ref h0, .int z]) (n := 2) (Nat.le_of_ble_eq_true rfl)
  rw [lg_entry_eq]
  generalize (lg_sl ([.ref h0, .int z]) ++ List.replicate (2 - (lg_sl ([.ref h0, .int z])).length) Slot.unset).toArray = ls at hl ⊢
  have hl : lv_has ls 2 [(0, .ref h0), (1, .int z)] := hl
  generalize hHe : s.heap = H at hP hS ⊢
  have hS : va_S A s.heap H [] := by rw [hHe]; exact hS
  refine lv_aload_n hx hb dX8_count_0 rfl (lv_at hl 0 rfl) ?_
  refine lv_iload_n hx hb dX8_count_1 rfl (lv_at hl 1 rfl) ?_
  refine lv_i2l (v := (z).toInt64) hx hb dX8_count_2 rfl ?_
  refine lv_lconst (v := 0) hx hb dX8_count_3 (by decide) ?_
  refine lv_ldc2 hx hb hown (hts _ mw_579) dX8_count_4 ?_
  have hPc := hP.sub (ws' := []) [] rfl
  have hDc := hD.sub (ws' := []) [] (by decide) rfl
  have hFc := va_free (wc := []) hD hS hA [] rfl
  refine va_calli (va_runS (As := [.long (z).toInt64, .long 0, .long 9]) (rest := [.ref h0]) ⟨hx, hb, hml, hown, hts⟩ (c_X8_in l dC dI cy nb (z).toInt64 0 9 H.size) (va_cwS 3 hts (gS mw_445 mw_446 mw_5 mw_447) rfl rfl rfl (by decide +kernel) ⟨Nat.le_of_ble_eq_true rfl, Nat.le_of_ble_eq_true rfl⟩) ⟨fun a U g mk q => by obtain ⟨q0, q1, qP, qK, qD, qE⟩ := q; exact ⟨q0, q1, qP, va_K.moved (u := U) (U := U.calling g mk a) (Vm.Alike.refl U.vm) qK, qD, GE.calling qE⟩, fun U hU hW => ⟨rfl, by rw [hU], by rw [hU]; exact hPc, va_K.moved hW.alike hK, hDc.weaken (fun _ _ _ _ => trivial), GE.call hE hS hFc hU hW⟩⟩ rfl rfl hl.1 rfl (lv_room (Nat.le_of_ble_eq_true rfl)) dX8_count_7 ⟨Nat.le_of_ble_eq_true rfl, Nat.le_of_ble_eq_true rfl⟩) hS (fun q _ h => hFc q h) hFc (fun r u t H1 locs ht hvm hw1 hB hz1 hk1 hS => ?_)
  obtain ⟨hP1, hD1⟩ := hB
  rw [ht] at hP1
  obtain ⟨hP, hD⟩ := va_join (wr := [(h0, .inr (8, [.ref a1, .ref a2, .ref a3, .ref a4, .ref a5, .int 0, .int x6, .ref a6, .int 0, .int 0, .int 0, .int 0, .int 0, .int 0, .int 0, .int 0, .int (-1), .ref a7, .ref a8, .int 0, .ref a9, .ref b0, .int 0])), (a1, .inl (cy 1, 1037, .inl g))]) (w1 := []) hP hD [] [0, 1] rfl rfl (by decide) (by decide) hk1 hFc hP1 hD1
  generalize H1 = H at hP hS ⊢
  have hP : va_P (dC, dI) vwCl [(h0, .inr (8, [.ref a1, .ref a2, .ref a3, .ref a4, .ref a5, .int 0, .int x6, .ref a6, .int 0, .int 0, .int 0, .int 0, .int 0, .int 0, .int 0, .int 0, .int (-1), .ref a7, .ref a8, .int 0, .ref a9, .ref b0, .int 0])), (a1, .inl (cy 1, 1037, .inl g))] H := hP
  have hD : va_D A [(h0, .inr (8, [.ref a1, .ref a2, .ref a3, .ref a4, .ref a5, .int 0, .int x6, .ref a6, .int 0, .int 0, .int 0, .int 0, .int 0, .int 0, .int 0, .int 0, .int (-1), .ref a7, .ref a8, .int 0, .ref a9, .ref b0, .int 0])), (a1, .inl (cy 1, 1037, .inl g))] := hD
  obtain rfl := hw1
  refine my_topi (y := 0) (by exact hz) ?_
  refine W.widen (k := 0) (n := 0) (by omega) (by omega) ?_
  refine lv_iconst (v := 1) hx hb dX8_count_10 (by decide) ?_
  have hPc := hP.sub (ws' := [(h0, .inr (8, [.ref a1, .ref a2, .ref a3, .ref a4, .ref a5, .int 0, .int x6, .ref a6, .int 0, .int 0, .int 0, .int 0, .int 0, .int 0, .int 0, .int 0, .int (-1), .ref a7, .ref a8, .int 0, .ref a9, .ref b0, .int 0]))]) [0] rfl
  have hDc := hD.sub (ws' := [(h0, .inr (8, [.ref a1, .ref a2, .ref a3, .ref a4, .ref a5, .int 0, .int x6, .ref a6, .int 0, .int 0, .int 0, .int 0, .int 0, .int 0, .int 0, .int 0, .int (-1), .ref a7, .ref a8, .int 0, .ref a9, .ref b0, .int 0]))]) [0] (by decide) rfl
  have hFc := va_free (wc := [(h0, .inr (8, [.ref a1, .ref a2, .ref a3, .ref a4, .ref a5, .int 0, .int x6, .ref a6, .int 0, .int 0, .int 0, .int 0, .int 0, .int 0, .int 0, .int 0, .int (-1), .ref a7, .ref a8, .int 0, .ref a9, .ref b0, .int 0]))]) hD hS hA [0] rfl
  refine va_calli (va_runV (As := [.int 0, .int 1]) (rest := []) ⟨hx, hb, hml, hown, hts⟩ (c_X8_isThrown_0 l dC dI cy nb h0 (.ref a1) (.ref a2) (.ref a3) (.ref a4) (.ref a5) (.int 0) (.ref a6) (.int 0) (.int 0) (.int 0) (.int 0) (.int 0) (.int 0) (.int 0) (.int 0) (.int (-1)) (.ref a7) (.ref a8) (.int 0) (.ref a9) (.ref b0) (.int 0) x6 1 H.size) (cwV 2 hts (gV mw_580 mw_581 mw_582 mw_5 mw_583) rfl rfl rfl (by decide +kernel) ⟨Nat.le_of_ble_eq_true rfl, Nat.le_of_ble_eq_true rfl⟩) ⟨fun a U g mk q => by obtain ⟨q0, q1, qP, qK, qD, qE⟩ := q; exact ⟨q0, q1, qP, va_K.moved (u := U) (U := U.calling g mk a) (Vm.Alike.refl U.vm) qK, qD, GE.calling qE⟩, va_recv hK hP (ci := 8) (q0 := 0) rfl rfl, fun U hU hW => ⟨rfl, by rw [hU], by rw [hU]; exact hPc, va_K.moved hW.alike hK, hDc.weaken (fun _ _ _ _ => trivial), GE.call hE hS hFc hU hW⟩⟩ rfl rfl hl.1 rfl (lv_room (Nat.le_of_ble_eq_true rfl)) dX8_count_11 ⟨Nat.le_of_ble_eq_true rfl, Nat.le_of_ble_eq_true rfl⟩) hS (fun q _ h => hFc q h) hFc (fun r u t H1 locs ht hvm hw2 hB hz1 hk1 hS => ?_)
  obtain ⟨hP1, hD1⟩ := hB
  rw [ht] at hP1
  obtain ⟨hP, hD⟩ := va_join (wr := [(a1, .inl (cy 1, 1037, .inl g))]) (w1 := [(h0, .inr (8, [.ref a1, .ref a2, .ref a3, .ref a4, .ref a5, .int 0, .int 1, .ref a6, .int 0, .int 0, .int 0, .int 0, .int 0, .int 0, .int 0, .int 0, .int (-1), .ref a7, .ref a8, .int 0, .ref a9, .ref b0, .int 0]))]) hP hD [0] [1] rfl rfl (by decide) (by decide) hk1 hFc hP1 hD1
  generalize H1 = H at hP hS ⊢
  have hP : va_P (dC, dI) vwCl [(a1, .inl (cy 1, 1037, .inl g)), (h0, .inr (8, [.ref a1, .ref a2, .ref a3, .ref a4, .ref a5, .int 0, .int 1, .ref a6, .int 0, .int 0, .int 0, .int 0, .int 0, .int 0, .int 0, .int 0, .int (-1), .ref a7, .ref a8, .int 0, .ref a9, .ref b0, .int 0]))] H := hP
  have hD : va_D A [(a1, .inl (cy 1, 1037, .inl g)), (h0, .inr (8, [.ref a1, .ref a2, .ref a3, .ref a4, .ref a5, .int 0, .int 1, .ref a6, .int 0, .int 0, .int 0, .int 0, .int 0, .int 0, .int 0, .int 0, .int (-1), .ref a7, .ref a8, .int 0, .ref a9, .ref b0, .int 0]))] := hD
  obtain rfl := hw2
  refine W.widen (k := 0) (n := 0) (by omega) (by omega) ?_
  refine lv_if_eq (tgt := 19) hx hb dX8_count_14 (by decide) (fun h => absurd h (by decide)) (fun _ => ?_)
  refine lv_iconst (v := 0) hx hb dX8_count_17 (by decide) ?_
  have hP9 := hP.sub (ws' := [(h0, .inr (8, [.ref a1, .ref a2, .ref a3, .ref a4, .ref a5, .int 0, .int 1, .ref a6, .int 0, .int 0, .int 0, .int 0, .int 0, .int 0, .int 0, .int 0, .int (-1), .ref a7, .ref a8, .int 0, .ref a9, .ref b0, .int 0]))]) [1] rfl
  have hD9 := hD.sub (ws' := [(h0, .inr (8, [.ref a1, .ref a2, .ref a3, .ref a4, .ref a5, .int 0, .int 1, .ref a6, .int 0, .int 0, .int 0, .int 0, .int 0, .int 0, .int 0, .int 0, .int (-1), .ref a7, .ref a8, .int 0, .ref a9, .ref b0, .int 0]))]) [1] (by decide) rfl
  refine W.widen (k := 0) (n := 0) (by omega) (by omega) ?_
  exact W.iret (v := 0) hx hb hr (fun t ht hW => ⟨⟨0, (), rfl, rfl, by rw [ht]; exact hP9, hD9⟩, hS.F ht⟩) hS.2.2 dX8_count_18
set_option maxHeartbeats 4000000 in
set_option maxRecDepth 100000 in
/-- X8_setting -/
theorem co_X8_setting (l : Launch) (dC : Nat → ClassId) (dI : Nat → Nat → Nat) (cy : Nat → ClassId) (nb : Nat → Nat) (h0 : Nat) (a1 : Nat) (a2 : Nat) (a3 : Nat) (a4 : Nat) (a5 : Nat) (a6 : Nat) (a7 : Nat) (a8 : Nat) (a9 : Nat) (b0 : Nat) (x6 : Int32) (g : Nat → Int32) (z : Int32) (sz : Nat) (hg : FN g) (hz : inB (z).toInt64 0 4 = 0) : Met l yX8_setting (wsg yX8_setting cX8_setting 2 (some .int)) ({ frames := 15, cells := 0, slots := 0, locals := 1000 }) (va_Pc [.ref h0, .int z] (fun U => U.heap.size = sz ∧ va_P (dC, dI) vwCl [(h0, .inr (8, [.ref a1, .ref a2, .ref a3, .ref a4, .ref a5, .int 0, .int x6, .ref a6, .int 0, .int 0, .int 0, .int 0, .int 0, .int 0, .int 0, .int 0, .int (-1), .ref a7, .ref a8, .int 0, .ref a9, .ref b0, .int 0])), (a1, .inl (cy 1, 1037, .inl g))] U.heap ∧ va_K (dC, dI) vwCl (tyL cy) U ∧ va_D (fun _ => True) [(h0, .inr (8, [.ref a1, .ref a2, .ref a3, .ref a4, .ref a5, .int 0, .int x6, .ref a6, .int 0, .int 0, .int 0, .int 0, .int 0, .int 0, .int 0, .int 0, .int (-1), .ref a7, .ref a8, .int 0, .ref a9, .ref b0, .int 0])), (a1, .inl (cy 1, 1037, .inl g))] ∧ GE nb (va_A [(h0, .inr (8, [.ref a1, .ref a2, .ref a3, .ref a4, .ref a5, .int 0, .int x6, .ref a6, .int 0, .int 0, .int 0, .int 0, .int 0, .int 0, .int 0, .int 0, .int (-1), .ref a7, .ref a8, .int 0, .ref a9, .ref b0, .int 0])), (a1, .inl (cy 1, 1037, .inl g))] sz) U)) (va_Qi (fun (r : Int32) (_ : Unit) => r = 0) (fun _ t => va_P (dC, dI) vwCl [(h0, .inr (8, [.ref a1, .ref a2, .ref a3, .ref a4, .ref a5, .int 0, .int 1, .ref a6, .int 0, .int 0, .int 0, .int 0, .int 0, .int 0, .int 0, .int 0, .int (-1), .ref a7, .ref a8, .int 0, .ref a9, .ref b0, .int 0]))] t.heap ∧ va_D (va_A [(h0, .inr (8, [.ref a1, .ref a2, .ref a3, .ref a4, .ref a5, .int 0, .int x6, .ref a6, .int 0, .int 0, .int 0, .int 0, .int 0, .int 0, .int 0, .int 0, .int (-1), .ref a7, .ref a8, .int 0, .ref a9, .ref b0, .int 0])), (a1, .inl (cy 1, 1037, .inl g))] sz) [(h0, .inr (8, [.ref a1, .ref a2, .ref a3, .ref a4, .ref a5, .int 0, .int 1, .ref a6, .int 0, .int 0, .int 0, .int 0, .int 0, .int 0, .int 0, .int 0, .int (-1), .ref a7, .ref a8, .int 0, .ref a9, .ref b0, .int 0]))]) (va_A [(h0, .inr (8, [.ref a1, .ref a2, .ref a3, .ref a4, .ref a5, .int 0, .int x6, .ref a6, .int 0, .int 0, .int 0, .int 0, .int 0, .int 0, .int 0, .int 0, .int (-1), .ref a7, .ref a8, .int 0, .ref a9, .ref b0, .int 0])), (a1, .inl (cy 1, 1037, .inl g))] sz)) 0 0 (va_A [(h0, .inr (8, [.ref a1, .ref a2, .ref a3, .ref a4, .ref a5, .int 0, .int x6, .ref a6, .int 0, .int 0, .int 0, .int 0, .int 0, .int 0, .int 0, .int 0, .int (-1), .ref a7, .ref a8, .int 0, .ref a9, .ref b0, .int 0])), (a1, .inl (cy 1, 1037, .inl g))] sz) := by
  refine Met.ofW (cc := cX8_setting) (maxL := 2) (ret := (some .int)) (by decide) rfl ?_
  intro p e s m args below meth c s₁ B hml hv
  obtain ⟨rfl, hsz, hP, hK, hD0, hE⟩ := hv
  have hx := B.exec
  have hb := B.bytes
  have hr := B.returns
  have hts0 := atoms_spec (ws := (wsg yX8_setting cX8_setting 2 (some .int))) B.pre
  have hts : ∀ w ∈ wsL_law, w.before _ s = true := fun w h => hts0 w (List.mem_cons_of_mem _ h)
  have hown : s.vm.findClass RX8 = some m.cls := findClass_of_methodNamed B.named
  have hlocks := B.notSynchronized
  subst hsz
  have hD := hD0.self (sz := s.heap.size)
  generalize hAe : va_A [(h0, .inr (8, [.ref a1, .ref a2, .ref a3, .ref a4, .ref a5, .int 0, .int x6, .ref a6, .int 0, .int 0, .int 0, .int 0, .int 0, .int 0, .int 0, .int 0, .int (-1), .ref a7, .ref a8, .int 0, .ref a9, .ref b0, .int 0])), (a1, .inl (cy 1, 1037, .inl g))] s.heap.size = A at hD hE ⊢
  have hA : ∀ q : Nat, s.heap.size ≤ q → A q := fun q h => by rw [← hAe]; exact Or.inr h
  have hS : va_S A s.heap s.heap [] := va_S.rf
  have hP : va_P (dC, dI) vwCl [(h0, .inr (8, [.ref a1, .ref a2, .ref a3, .ref a4, .ref a5, .int 0, .int x6, .ref a6, .int 0, .int 0, .int 0, .int 0, .int 0, .int 0, .int 0, .int 0, .int (-1), .ref a7, .ref a8, .int 0, .ref a9, .ref b0, .int 0])), (a1, .inl (cy 1, 1037, .inl g))] s.heap := hP
  have hl := lv_entry ([.ref h0, .int z]) (n := 2) (Nat.le_of_ble_eq_true rfl)
  rw [lg_entry_eq]
  generalize (lg_sl ([.ref h0, .int z]) ++ List.replicate (2 - (lg_sl ([.ref h0, .int z])).length) Slot.unset).toArray = ls at hl ⊢
  have hl : lv_has ls 2 [(0, .ref h0), (1, .int z)] := hl
  generalize hHe : s.heap = H at hP hS ⊢
  have hS : va_S A s.heap H [] := by rw [hHe]; exact hS
  refine lv_aload_n hx hb dX8_setting_0 rfl (lv_at hl 0 rfl) ?_
  refine lv_iload_n hx hb dX8_setting_1 rfl (lv_at hl 1 rfl) ?_
  refine lv_i2l (v := (z).toInt64) hx hb dX8_setting_2 rfl ?_
  refine lv_lconst (v := 0) hx hb dX8_setting_3 (by decide) ?_
  refine lv_ldc2 hx hb hown (hts _ mw_612) dX8_setting_4 ?_
  have hPc := hP.sub (ws' := []) [] rfl
  have hDc := hD.sub (ws' := []) [] (by decide) rfl
  have hFc := va_free (wc := []) hD hS hA [] rfl
  refine va_calli (va_runS (As := [.long (z).toInt64, .long 0, .long 4]) (rest := [.ref h0]) ⟨hx, hb, hml, hown, hts⟩ (c_X8_in l dC dI cy nb (z).toInt64 0 4 H.size) (va_cwS 3 hts (gS mw_445 mw_446 mw_5 mw_447) rfl rfl rfl (by decide +kernel) ⟨Nat.le_of_ble_eq_true rfl, Nat.le_of_ble_eq_true rfl⟩) ⟨fun a U g mk q => by obtain ⟨q0, q1, qP, qK, qD, qE⟩ := q; exact ⟨q0, q1, qP, va_K.moved (u := U) (U := U.calling g mk a) (Vm.Alike.refl U.vm) qK, qD, GE.calling qE⟩, fun U hU hW => ⟨rfl, by rw [hU], by rw [hU]; exact hPc, va_K.moved hW.alike hK, hDc.weaken (fun _ _ _ _ => trivial), GE.call hE hS hFc hU hW⟩⟩ rfl rfl hl.1 rfl (lv_room (Nat.le_of_ble_eq_true rfl)) dX8_setting_7 ⟨Nat.le_of_ble_eq_true rfl, Nat.le_of_ble_eq_true rfl⟩) hS (fun q _ h => hFc q h) hFc (fun r u t H1 locs ht hvm hw1 hB hz1 hk1 hS => ?_)
  obtain ⟨hP1, hD1⟩ := hB
  rw [ht] at hP1
  obtain ⟨hP, hD⟩ := va_join (wr := [(h0, .inr (8, [.ref a1, .ref a2, .ref a3, .ref a4, .ref a5, .int 0, .int x6, .ref a6, .int 0, .int 0, .int 0, .int 0, .int 0, .int 0, .int 0, .int 0, .int (-1), .ref a7, .ref a8, .int 0, .ref a9, .ref b0, .int 0])), (a1, .inl (cy 1, 1037, .inl g))]) (w1 := []) hP hD [] [0, 1] rfl rfl (by decide) (by decide) hk1 hFc hP1 hD1
  generalize H1 = H at hP hS ⊢
  have hP : va_P (dC, dI) vwCl [(h0, .inr (8, [.ref a1, .ref a2, .ref a3, .ref a4, .ref a5, .int 0, .int x6, .ref a6, .int 0, .int 0, .int 0, .int 0, .int 0, .int 0, .int 0, .int 0, .int (-1), .ref a7, .ref a8, .int 0, .ref a9, .ref b0, .int 0])), (a1, .inl (cy 1, 1037, .inl g))] H := hP
  have hD : va_D A [(h0, .inr (8, [.ref a1, .ref a2, .ref a3, .ref a4, .ref a5, .int 0, .int x6, .ref a6, .int 0, .int 0, .int 0, .int 0, .int 0, .int 0, .int 0, .int 0, .int (-1), .ref a7, .ref a8, .int 0, .ref a9, .ref b0, .int 0])), (a1, .inl (cy 1, 1037, .inl g))] := hD
  obtain rfl := hw1
  refine my_topi (y := 0) (by exact hz) ?_
  refine W.widen (k := 0) (n := 0) (by omega) (by omega) ?_
  refine lv_iconst (v := 1) hx hb dX8_setting_10 (by decide) ?_
  have hPc := hP.sub (ws' := [(h0, .inr (8, [.ref a1, .ref a2, .ref a3, .ref a4, .ref a5, .int 0, .int x6, .ref a6, .int 0, .int 0, .int 0, .int 0, .int 0, .int 0, .int 0, .int 0, .int (-1), .ref a7, .ref a8, .int 0, .ref a9, .ref b0, .int 0]))]) [0] rfl
  have hDc := hD.sub (ws' := [(h0, .inr (8, [.ref a1, .ref a2, .ref a3, .ref a4, .ref a5, .int 0, .int x6, .ref a6, .int 0, .int 0, .int 0, .int 0, .int 0, .int 0, .int 0, .int 0, .int (-1), .ref a7, .ref a8, .int 0, .ref a9, .ref b0, .int 0]))]) [0] (by decide) rfl
  have hFc := va_free (wc := [(h0, .inr (8, [.ref a1, .ref a2, .ref a3, .ref a4, .ref a5, .int 0, .int x6, .ref a6, .int 0, .int 0, .int 0, .int 0, .int 0, .int 0, .int 0, .int 0, .int (-1), .ref a7, .ref a8, .int 0, .ref a9, .ref b0, .int 0]))]) hD hS hA [0] rfl
  refine va_calli (va_runV (As := [.int 0, .int 1]) (rest := []) ⟨hx, hb, hml, hown, hts⟩ (c_X8_isThrown_0 l dC dI cy nb h0 (.ref a1) (.ref a2) (.ref a3) (.ref a4) (.ref a5) (.int 0) (.ref a6) (.int 0) (.int 0) (.int 0) (.int 0) (.int 0) (.int 0) (.int 0) (.int 0) (.int (-1)) (.ref a7) (.ref a8) (.int 0) (.ref a9) (.ref b0) (.int 0) x6 1 H.size) (cwV 2 hts (gV mw_580 mw_581 mw_582 mw_5 mw_583) rfl rfl rfl (by decide +kernel) ⟨Nat.le_of_ble_eq_true rfl, Nat.le_of_ble_eq_true rfl⟩) ⟨fun a U g mk q => by obtain ⟨q0, q1, qP, qK, qD, qE⟩ := q; exact ⟨q0, q1, qP, va_K.moved (u := U) (U := U.calling g mk a) (Vm.Alike.refl U.vm) qK, qD, GE.calling qE⟩, va_recv hK hP (ci := 8) (q0 := 0) rfl rfl, fun U hU hW => ⟨rfl, by rw [hU], by rw [hU]; exact hPc, va_K.moved hW.alike hK, hDc.weaken (fun _ _ _ _ => trivial), GE.call hE hS hFc hU hW⟩⟩ rfl rfl hl.1 rfl (lv_room (Nat.le_of_ble_eq_true rfl)) dX8_setting_11 ⟨Nat.le_of_ble_eq_true rfl, Nat.le_of_ble_eq_true rfl⟩) hS (fun q _ h => hFc q h) hFc (fun r u t H1 locs ht hvm hw2 hB hz1 hk1 hS => ?_)
  obtain ⟨hP1, hD1⟩ := hB
  rw [ht] at hP1
  obtain ⟨hP, hD⟩ := va_join (wr := [(a1, .inl (cy 1, 1037, .inl g))]) (w1 := [(h0, .inr (8, [.ref a1, .ref a2, .ref a3, .ref a4, .ref a5, .int 0, .int 1, .ref a6, .int 0, .int 0, .int 0, .int 0, .int 0, .int 0, .int 0, .int 0, .int (-1), .ref a7, .ref a8, .int 0, .ref a9, .ref b0, .int 0]))]) hP hD [0] [1] rfl rfl (by decide) (by decide) hk1 hFc hP1 hD1
  generalize H1 = H at hP hS ⊢
  have hP : va_P (dC, dI) vwCl [(a1, .inl (cy 1, 1037, .inl g)), (h0, .inr (8, [.ref a1, .ref a2, .ref a3, .ref a4, .ref a5, .int 0, .int 1, .ref a6, .int 0, .int 0, .int 0, .int 0, .int 0, .int 0, .int 0, .int 0, .int (-1), .ref a7, .ref a8, .int 0, .ref a9, .ref b0, .int 0]))] H := hP
  have hD : va_D A [(a1, .inl (cy 1, 1037, .inl g)), (h0, .inr (8, [.ref a1, .ref a2, .ref a3, .ref a4, .ref a5, .int 0, .int 1, .ref a6, .int 0, .int 0, .int 0, .int 0, .int 0, .int 0, .int 0, .int 0, .int (-1), .ref a7, .ref a8, .int 0, .ref a9, .ref b0, .int 0]))] := hD
  obtain rfl := hw2
  refine W.widen (k := 0) (n := 0) (by omega) (by omega) ?_
  refine lv_if_eq (tgt := 21) hx hb dX8_setting_14 (by decide) (fun h => absurd h (by decide)) (fun _ => ?_)
  refine lv_iconst (v := 0) hx hb dX8_setting_17 (by decide) ?_
  refine lv_goto (tgt := 27) hx hb dX8_setting_18 (by decide) ?_
  have hP9 := hP.sub (ws' := [(h0, .inr (8, [.ref a1, .ref a2, .ref a3, .ref a4, .ref a5, .int 0, .int 1, .ref a6, .int 0, .int 0, .int 0, .int 0, .int 0, .int 0, .int 0, .int 0, .int (-1), .ref a7, .ref a8, .int 0, .ref a9, .ref b0, .int 0]))]) [1] rfl
  have hD9 := hD.sub (ws' := [(h0, .inr (8, [.ref a1, .ref a2, .ref a3, .ref a4, .ref a5, .int 0, .int 1, .ref a6, .int 0, .int 0, .int 0, .int 0, .int 0, .int 0, .int 0, .int 0, .int (-1), .ref a7, .ref a8, .int 0, .ref a9, .ref b0, .int 0]))]) [1] (by decide) rfl
  refine W.widen (k := 0) (n := 0) (by omega) (by omega) ?_
  exact W.iret (v := 0) hx hb hr (fun t ht hW => ⟨⟨0, (), rfl, rfl, by rw [ht]; exact hP9, hD9⟩, hS.F ht⟩) hS.2.2 dX8_setting_27
set_option maxHeartbeats 4000000 in
set_option maxRecDepth 100000 in
/-- X8_total -/
theorem co_X8_total (l : Launch) (dC : Nat → ClassId) (dI : Nat → Nat → Nat) (cy : Nat → ClassId) (nb : Nat → Nat) (h0 : Nat) (a1 : Nat) (a2 : Nat) (a3 : Nat) (a4 : Nat) (a5 : Nat) (a6 : Nat) (a7 : Nat) (a8 : Nat) (a9 : Nat) (b0 : Nat) (x6 : Int32) (g : Nat → Int32) (z : Int32) (sz : Nat) (hg : FN g) (hz : inB (z).toInt64 0 4 = 0) : Met l yX8_total (wsg yX8_total cX8_total 2 (some .int)) ({ frames := 15, cells := 0, slots := 0, locals := 1000 }) (va_Pc [.ref h0, .int z] (fun U => U.heap.size = sz ∧ va_P (dC, dI) vwCl [(h0, .inr (8, [.ref a1, .ref a2, .ref a3, .ref a4, .ref a5, .int 0, .int x6, .ref a6, .int 0, .int 0, .int 0, .int 0, .int 0, .int 0, .int 0, .int 0, .int (-1), .ref a7, .ref a8, .int 0, .ref a9, .ref b0, .int 0])), (a1, .inl (cy 1, 1037, .inl g))] U.heap ∧ va_K (dC, dI) vwCl (tyL cy) U ∧ va_D (fun _ => True) [(h0, .inr (8, [.ref a1, .ref a2, .ref a3, .ref a4, .ref a5, .int 0, .int x6, .ref a6, .int 0, .int 0, .int 0, .int 0, .int 0, .int 0, .int 0, .int 0, .int (-1), .ref a7, .ref a8, .int 0, .ref a9, .ref b0, .int 0])), (a1, .inl (cy 1, 1037, .inl g))] ∧ GE nb (va_A [(h0, .inr (8, [.ref a1, .ref a2, .ref a3, .ref a4, .ref a5, .int 0, .int x6, .ref a6, .int 0, .int 0, .int 0, .int 0, .int 0, .int 0, .int 0, .int 0, .int (-1), .ref a7, .ref a8, .int 0, .ref a9, .ref b0, .int 0])), (a1, .inl (cy 1, 1037, .inl g))] sz) U)) (va_Qi (fun (r : Int32) (_ : Unit) => r = 0) (fun _ t => va_P (dC, dI) vwCl [(h0, .inr (8, [.ref a1, .ref a2, .ref a3, .ref a4, .ref a5, .int 0, .int 1, .ref a6, .int 0, .int 0, .int 0, .int 0, .int 0, .int 0, .int 0, .int 0, .int (-1), .ref a7, .ref a8, .int 0, .ref a9, .ref b0, .int 0]))] t.heap ∧ va_D (va_A [(h0, .inr (8, [.ref a1, .ref a2, .ref a3, .ref a4, .ref a5, .int 0, .int x6, .ref a6, .int 0, .int 0, .int 0, .int 0, .int 0, .int 0, .int 0, .int 0, .int (-1), .ref a7, .ref a8, .int 0, .ref a9, .ref b0, .int 0])), (a1, .inl (cy 1, 1037, .inl g))] sz) [(h0, .inr (8, [.ref a1, .ref a2, .ref a3, .ref a4, .ref a5, .int 0, .int 1, .ref a6, .int 0, .int 0, .int 0, .int 0, .int 0, .int 0, .int 0, .int 0, .int (-1), .ref a7, .ref a8, .int 0, .ref a9, .ref b0, .int 0]))]) (va_A [(h0, .inr (8, [.ref a1, .ref a2, .ref a3, .ref a4, .ref a5, .int 0, .int x6, .ref a6, .int 0, .int 0, .int 0, .int 0, .int 0, .int 0, .int 0, .int 0, .int (-1), .ref a7, .ref a8, .int 0, .ref a9, .ref b0, .int 0])), (a1, .inl (cy 1, 1037, .inl g))] sz)) 0 0 (va_A [(h0, .inr (8, [.ref a1, .ref a2, .ref a3, .ref a4, .ref a5, .int 0, .int x6, .ref a6, .int 0, .int 0, .int 0, .int 0, .int 0, .int 0, .int 0, .int 0, .int (-1), .ref a7, .ref a8, .int 0, .ref a9, .ref b0, .int 0])), (a1, .inl (cy 1, 1037, .inl g))] sz) := by
  refine Met.ofW (cc := cX8_total) (maxL := 2) (ret := (some .int)) (by decide) rfl ?_
  intro p e s m args below meth c s₁ B hml hv
  obtain ⟨rfl, hsz, hP, hK, hD0, hE⟩ := hv
  have hx := B.exec
  have hb := B.bytes
  have hr := B.returns
  have hts0 := atoms_spec (ws := (wsg yX8_total cX8_total 2 (some .int))) B.pre
  have hts : ∀ w ∈ wsL_law, w.before _ s = true := fun w h => hts0 w (List.mem_cons_of_mem _ h)
  have hown : s.vm.findClass RX8 = some m.cls := findClass_of_methodNamed B.named
  have hlocks := B.notSynchronized
  subst hsz
  have hD := hD0.self (sz := s.heap.size)
  generalize hAe : va_A [(h0, .inr (8, [.ref a1, .ref a2, .ref a3, .ref a4, .ref a5, .int 0, .int x6, .ref a6, .int 0, .int 0, .int 0, .int 0, .int 0, .int 0, .int 0, .int 0, .int (-1), .ref a7, .ref a8, .int 0, .ref a9, .ref b0, .int 0])), (a1, .inl (cy 1, 1037, .inl g))] s.heap.size = A at hD hE ⊢
  have hA : ∀ q : Nat, s.heap.size ≤ q → A q := fun q h => by rw [← hAe]; exact Or.inr h
  have hS : va_S A s.heap s.heap [] := va_S.rf
  have hP : va_P (dC, dI) vwCl [(h0, .inr (8, [.ref a1, .ref a2, .ref a3, .ref a4, .ref a5, .int 0, .int x6, .ref a6, .int 0, .int 0, .int 0, .int 0, .int 0, .int 0, .int 0, .int 0, .int (-1), .ref a7, .ref a8, .int 0, .ref a9, .ref b0, .int 0])), (a1, .inl (cy 1, 1037, .inl g))] s.heap := hP
  have hl := lv_entry ([.ref h0, .int z]) (n := 2) (Nat.le_of_ble_eq_true rfl)
  rw [lg_entry_eq]
  generalize (lg_sl ([.ref h0, .int z]) ++ List.replicate (2 - (lg_sl ([.ref h0, .int z])).length) Slot.unset).toArray = ls at hl ⊢
  have hl : lv_has ls 2 [(0, .ref h0), (1, .int z)] := hl
  generalize hHe : s.heap = H at hP hS ⊢
  have hS : va_S A s.heap H [] := by rw [hHe]; exact hS
  refine lv_aload_n hx hb dX8_total_0 rfl (lv_at hl 0 rfl) ?_
  refine lv_iload_n hx hb dX8_total_1 rfl (lv_at hl 1 rfl) ?_
  refine lv_i2l (v := (z).toInt64) hx hb dX8_total_2 rfl ?_
  refine lv_lconst (v := 0) hx hb dX8_total_3 (by decide) ?_
  refine lv_ldc2 hx hb hown (hts _ mw_612) dX8_total_4 ?_
  have hPc := hP.sub (ws' := []) [] rfl
  have hDc := hD.sub (ws' := []) [] (by decide) rfl
  have hFc := va_free (wc := []) hD hS hA [] rfl
  refine va_calli (va_runS (As := [.long (z).toInt64, .long 0, .long 4]) (rest := [.ref h0]) ⟨hx, hb, hml, hown, hts⟩ (c_X8_in l dC dI cy nb (z).toInt64 0 4 H.size) (va_cwS 3 hts (gS mw_445 mw_446 mw_5 mw_447) rfl rfl rfl (by decide +kernel) ⟨Nat.le_of_ble_eq_true rfl, Nat.le_of_ble_eq_true rfl⟩) ⟨fun a U g mk q => by obtain ⟨q0, q1, qP, qK, qD, qE⟩ := q; exact ⟨q0, q1, qP, va_K.moved (u := U) (U := U.calling g mk a) (Vm.Alike.refl U.vm) qK, qD, GE.calling qE⟩, fun U hU hW => ⟨rfl, by rw [hU], by rw [hU]; exact hPc, va_K.moved hW.alike hK, hDc.weaken (fun _ _ _ _ => trivial), GE.call hE hS hFc hU hW⟩⟩ rfl rfl hl.1 rfl (lv_room (Nat.le_of_ble_eq_true rfl)) dX8_total_7 ⟨Nat.le_of_ble_eq_true rfl, Nat.le_of_ble_eq_true rfl⟩) hS (fun q _ h => hFc q h) hFc (fun r u t H1 locs ht hvm hw1 hB hz1 hk1 hS => ?_)
  obtain ⟨hP1, hD1⟩ := hB
  rw [ht] at hP1
  obtain ⟨hP, hD⟩ := va_join (wr := [(h0, .inr (8, [.ref a1, .ref a2, .ref a3, .ref a4, .ref a5, .int 0, .int x6, .ref a6, .int 0, .int 0, .int 0, .int 0, .int 0, .int 0, .int 0, .int 0, .int (-1), .ref a7, .ref a8, .int 0, .ref a9, .ref b0, .int 0])), (a1, .inl (cy 1, 1037, .inl g))]) (w1 := []) hP hD [] [0, 1] rfl rfl (by decide) (by decide) hk1 hFc hP1 hD1
  generalize H1 = H at hP hS ⊢
  have hP : va_P (dC, dI) vwCl [(h0, .inr (8, [.ref a1, .ref a2, .ref a3, .ref a4, .ref a5, .int 0, .int x6, .ref a6, .int 0, .int 0, .int 0, .int 0, .int 0, .int 0, .int 0, .int 0, .int (-1), .ref a7, .ref a8, .int 0, .ref a9, .ref b0, .int 0])), (a1, .inl (cy 1, 1037, .inl g))] H := hP
  have hD : va_D A [(h0, .inr (8, [.ref a1, .ref a2, .ref a3, .ref a4, .ref a5, .int 0, .int x6, .ref a6, .int 0, .int 0, .int 0, .int 0, .int 0, .int 0, .int 0, .int 0, .int (-1), .ref a7, .ref a8, .int 0, .ref a9, .ref b0, .int 0])), (a1, .inl (cy 1, 1037, .inl g))] := hD
  obtain rfl := hw1
  refine my_topi (y := 0) (by exact hz) ?_
  refine W.widen (k := 0) (n := 0) (by omega) (by omega) ?_
  refine lv_iconst (v := 1) hx hb dX8_total_10 (by decide) ?_
  have hPc := hP.sub (ws' := [(h0, .inr (8, [.ref a1, .ref a2, .ref a3, .ref a4, .ref a5, .int 0, .int x6, .ref a6, .int 0, .int 0, .int 0, .int 0, .int 0, .int 0, .int 0, .int 0, .int (-1), .ref a7, .ref a8, .int 0, .ref a9, .ref b0, .int 0]))]) [0] rfl
  have hDc := hD.sub (ws' := [(h0, .inr (8, [.ref a1, .ref a2, .ref a3, .ref a4, .ref a5, .int 0, .int x6, .ref a6, .int 0, .int 0, .int 0, .int 0, .int 0, .int 0, .int 0, .int 0, .int (-1), .ref a7, .ref a8, .int 0, .ref a9, .ref b0, .int 0]))]) [0] (by decide) rfl
  have hFc := va_free (wc := [(h0, .inr (8, [.ref a1, .ref a2, .ref a3, .ref a4, .ref a5, .int 0, .int x6, .ref a6, .int 0, .int 0, .int 0, .int 0, .int 0, .int 0, .int 0, .int 0, .int (-1), .ref a7, .ref a8, .int 0, .ref a9, .ref b0, .int 0]))]) hD hS hA [0] rfl
  refine va_calli (va_runV (As := [.int 0, .int 1]) (rest := []) ⟨hx, hb, hml, hown, hts⟩ (c_X8_isThrown_0 l dC dI cy nb h0 (.ref a1) (.ref a2) (.ref a3) (.ref a4) (.ref a5) (.int 0) (.ref a6) (.int 0) (.int 0) (.int 0) (.int 0) (.int 0) (.int 0) (.int 0) (.int 0) (.int (-1)) (.ref a7) (.ref a8) (.int 0) (.ref a9) (.ref b0) (.int 0) x6 1 H.size) (cwV 2 hts (gV mw_580 mw_581 mw_582 mw_5 mw_583) rfl rfl rfl (by decide +kernel) ⟨Nat.le_of_ble_eq_true rfl, Nat.le_of_ble_eq_true rfl⟩) ⟨fun a U g mk q => by obtain ⟨q0, q1, qP, qK, qD, qE⟩ := q; exact ⟨q0, q1, qP, va_K.moved (u := U) (U := U.calling g mk a) (Vm.Alike.refl U.vm) qK, qD, GE.calling qE⟩, va_recv hK hP (ci := 8) (q0 := 0) rfl rfl, fun U hU hW => ⟨rfl, by rw [hU], by rw [hU]; exact hPc, va_K.moved hW.alike hK, hDc.weaken (fun _ _ _ _ => trivial), GE.call hE hS hFc hU hW⟩⟩ rfl rfl hl.1 rfl (lv_room (Nat.le_of_ble_eq_true rfl)) dX8_total_11 ⟨Nat.le_of_ble_eq_true rfl, Nat.le_of_ble_eq_true rfl⟩) hS (fun q _ h => hFc q h) hFc (fun r u t H1 locs ht hvm hw2 hB hz1 hk1 hS => ?_)
  obtain ⟨hP1, hD1⟩ := hB
  rw [ht] at hP1
  obtain ⟨hP, hD⟩ := va_join (wr := [(a1, .inl (cy 1, 1037, .inl g))]) (w1 := [(h0, .inr (8, [.ref a1, .ref a2, .ref a3, .ref a4, .ref a5, .int 0, .int 1, .ref a6, .int 0, .int 0, .int 0, .int 0, .int 0, .int 0, .int 0, .int 0, .int (-1), .ref a7, .ref a8, .int 0, .ref a9, .ref b0, .int 0]))]) hP hD [0] [1] rfl rfl (by decide) (by decide) hk1 hFc hP1 hD1
  generalize H1 = H at hP hS ⊢
  have hP : va_P (dC, dI) vwCl [(a1, .inl (cy 1, 1037, .inl g)), (h0, .inr (8, [.ref a1, .ref a2, .ref a3, .ref a4, .ref a5, .int 0, .int 1, .ref a6, .int 0, .int 0, .int 0, .int 0, .int 0, .int 0, .int 0, .int 0, .int (-1), .ref a7, .ref a8, .int 0, .ref a9, .ref b0, .int 0]))] H := hP
  have hD : va_D A [(a1, .inl (cy 1, 1037, .inl g)), (h0, .inr (8, [.ref a1, .ref a2, .ref a3, .ref a4, .ref a5, .int 0, .int 1, .ref a6, .int 0, .int 0, .int 0, .int 0, .int 0, .int 0, .int 0, .int 0, .int (-1), .ref a7, .ref a8, .int 0, .ref a9, .ref b0, .int 0]))] := hD
  obtain rfl := hw2
  refine W.widen (k := 0) (n := 0) (by omega) (by omega) ?_
  refine lv_if_eq (tgt := 21) hx hb dX8_total_14 (by decide) (fun h => absurd h (by decide)) (fun _ => ?_)
  refine lv_iconst (v := 0) hx hb dX8_total_17 (by decide) ?_
  refine lv_goto (tgt := 30) hx hb dX8_total_18 (by decide) ?_
  have hP9 := hP.sub (ws' := [(h0, .inr (8, [.ref a1, .ref a2, .ref a3, .ref a4, .ref a5, .int 0, .int 1, .ref a6, .int 0, .int 0, .int 0, .int 0, .int 0, .int 0, .int 0, .int 0, .int (-1), .ref a7, .ref a8, .int 0, .ref a9, .ref b0, .int 0]))]) [1] rfl
  have hD9 := hD.sub (ws' := [(h0, .inr (8, [.ref a1, .ref a2, .ref a3, .ref a4, .ref a5, .int 0, .int 1, .ref a6, .int 0, .int 0, .int 0, .int 0, .int 0, .int 0, .int 0, .int 0, .int (-1), .ref a7, .ref a8, .int 0, .ref a9, .ref b0, .int 0]))]) [1] (by decide) rfl
  refine W.widen (k := 0) (n := 0) (by omega) (by omega) ?_
  exact W.iret (v := 0) hx hb hr (fun t ht hW => ⟨⟨0, (), rfl, rfl, by rw [ht]; exact hP9, hD9⟩, hS.F ht⟩) hS.2.2 dX8_total_30
set_option maxHeartbeats 4000000 in
set_option maxRecDepth 100000 in
/-- X8_restoreSnapshot -/
theorem co_X8_restoreSnapshot (l : Launch) (dC : Nat → ClassId) (dI : Nat → Nat → Nat) (cy : Nat → ClassId) (nb : Nat → Nat) (h0 : Nat) (a1 : Nat) (a2 : Nat) (a3 : Nat) (a4 : Nat) (a5 : Nat) (a6 : Nat) (a7 : Nat) (a8 : Nat) (a9 : Nat) (b0 : Nat) (x6 : Int32) (g : Nat → Int32) (z : Int32) (sz : Nat) (hg : FN g) (hz : inB (z).toInt64 0 1 = 0) : Met l yX8_restoreSnapshot (wsg yX8_restoreSnapshot cX8_restoreSnapshot 2 (some .int)) ({ frames := 15, cells := 0, slots := 0, locals := 1000 }) (va_Pc [.ref h0, .int z] (fun U => U.heap.size = sz ∧ va_P (dC, dI) vwCl [(h0, .inr (8, [.ref a1, .ref a2, .ref a3, .ref a4, .ref a5, .int 0, .int x6, .ref a6, .int 0, .int 0, .int 0, .int 0, .int 0, .int 0, .int 0, .int 0, .int (-1), .ref a7, .ref a8, .int 0, .ref a9, .ref b0, .int 0])), (a1, .inl (cy 1, 1037, .inl g))] U.heap ∧ va_K (dC, dI) vwCl (tyL cy) U ∧ va_D (fun _ => True) [(h0, .inr (8, [.ref a1, .ref a2, .ref a3, .ref a4, .ref a5, .int 0, .int x6, .ref a6, .int 0, .int 0, .int 0, .int 0, .int 0, .int 0, .int 0, .int 0, .int (-1), .ref a7, .ref a8, .int 0, .ref a9, .ref b0, .int 0])), (a1, .inl (cy 1, 1037, .inl g))] ∧ GE nb (va_A [(h0, .inr (8, [.ref a1, .ref a2, .ref a3, .ref a4, .ref a5, .int 0, .int x6, .ref a6, .int 0, .int 0, .int 0, .int 0, .int 0, .int 0, .int 0, .int 0, .int (-1), .ref a7, .ref a8, .int 0, .ref a9, .ref b0, .int 0])), (a1, .inl (cy 1, 1037, .inl g))] sz) U)) (va_Qi (fun (r : Int32) (_ : Unit) => r = 0) (fun _ t => va_P (dC, dI) vwCl [(h0, .inr (8, [.ref a1, .ref a2, .ref a3, .ref a4, .ref a5, .int 0, .int 1, .ref a6, .int 0, .int 0, .int 0, .int 0, .int 0, .int 0, .int 0, .int 0, .int (-1), .ref a7, .ref a8, .int 0, .ref a9, .ref b0, .int 0]))] t.heap ∧ va_D (va_A [(h0, .inr (8, [.ref a1, .ref a2, .ref a3, .ref a4, .ref a5, .int 0, .int x6, .ref a6, .int 0, .int 0, .int 0, .int 0, .int 0, .int 0, .int 0, .int 0, .int (-1), .ref a7, .ref a8, .int 0, .ref a9, .ref b0, .int 0])), (a1, .inl (cy 1, 1037, .inl g))] sz) [(h0, .inr (8, [.ref a1, .ref a2, .ref a3, .ref a4, .ref a5, .int 0, .int 1, .ref a6, .int 0, .int 0, .int 0, .int 0, .int 0, .int 0, .int 0, .int 0, .int (-1), .ref a7, .ref a8, .int 0, .ref a9, .ref b0, .int 0]))]) (va_A [(h0, .inr (8, [.ref a1, .ref a2, .ref a3, .ref a4, .ref a5, .int 0, .int x6, .ref a6, .int 0, .int 0, .int 0, .int 0, .int 0, .int 0, .int 0, .int 0, .int (-1), .ref a7, .ref a8, .int 0, .ref a9, .ref b0, .int 0])), (a1, .inl (cy 1, 1037, .inl g))] sz)) 0 0 (va_A [(h0, .inr (8, [.ref a1, .ref a2, .ref a3, .ref a4, .ref a5, .int 0, .int x6, .ref a6, .int 0, .int 0, .int 0, .int 0, .int 0, .int 0, .int 0, .int 0, .int (-1), .ref a7, .ref a8, .int 0, .ref a9, .ref b0, .int 0])), (a1, .inl (cy 1, 1037, .inl g))] sz) := by
  refine Met.ofW (cc := cX8_restoreSnapshot) (maxL := 2) (ret := (some .int)) (by decide) rfl ?_
  intro p e s m args below meth c s₁ B hml hv
  obtain ⟨rfl, hsz, hP, hK, hD0, hE⟩ := hv
  have hx := B.exec
  have hb := B.bytes
  have hr := B.returns
  have hts0 := atoms_spec (ws := (wsg yX8_restoreSnapshot cX8_restoreSnapshot 2 (some .int))) B.pre
  have hts : ∀ w ∈ wsL_law, w.before _ s = true := fun w h => hts0 w (List.mem_cons_of_mem _ h)
  have hown : s.vm.findClass RX8 = some m.cls := findClass_of_methodNamed B.named
  have hlocks := B.notSynchronized
  subst hsz
  have hD := hD0.self (sz := s.heap.size)
  generalize hAe : va_A [(h0, .inr (8, [.ref a1, .ref a2, .ref a3, .ref a4, .ref a5, .int 0, .int x6, .ref a6, .int 0, .int 0, .int 0, .int 0, .int 0, .int 0, .int 0, .int 0, .int (-1), .ref a7, .ref a8, .int 0, .ref a9, .ref b0, .int 0])), (a1, .inl (cy 1, 1037, .inl g))] s.heap.size = A at hD hE ⊢
  have hA : ∀ q : Nat, s.heap.size ≤ q → A q := fun q h => by rw [← hAe]; exact Or.inr h
  have hS : va_S A s.heap s.heap [] := va_S.rf
  have hP : va_P (dC, dI) vwCl [(h0, .inr (8, [.ref a1, .ref a2, .ref a3, .ref a4, .ref a5, .int 0, .int x6, .ref a6, .int 0, .int 0, .int 0, .int 0, .int 0, .int 0, .int 0, .int 0, .int (-1), .ref a7, .ref a8, .int 0, .ref a9, .ref b0, .int 0])), (a1, .inl (cy 1, 1037, .inl g))] s.heap := hP
  have hl := lv_entry ([.ref h0, .int z]) (n := 2) (Nat.le_of_ble_eq_true rfl)
  rw [lg_entry_eq]
  generalize (lg_sl ([.ref h0, .int z]) ++ List.replicate (2 - (lg_sl ([.ref h0, .int z])).length) Slot.unset).toArray = ls at hl ⊢
  have hl : lv_has ls 2 [(0, .ref h0), (1, .int z)] := hl
  generalize hHe : s.heap = H at hP hS ⊢
  have hS : va_S A s.heap H [] := by rw [hHe]; exact hS
  refine lv_aload_n hx hb dX8_restoreSnapshot_0 rfl (lv_at hl 0 rfl) ?_
  refine lv_iload_n hx hb dX8_restoreSnapshot_1 rfl (lv_at hl 1 rfl) ?_
  refine lv_i2l (v := (z).toInt64) hx hb dX8_restoreSnapshot_2 rfl ?_
  refine lv_lconst (v := 0) hx hb dX8_restoreSnapshot_3 (by decide) ?_
  refine lv_lconst (v := 1) hx hb dX8_restoreSnapshot_4 (by decide) ?_
  have hPc := hP.sub (ws' := []) [] rfl
  have hDc := hD.sub (ws' := []) [] (by decide) rfl
  have hFc := va_free (wc := []) hD hS hA [] rfl
  refine va_calli (va_runS (As := [.long (z).toInt64, .long 0, .long 1]) (rest := [.ref h0]) ⟨hx, hb, hml, hown, hts⟩ (c_X8_in l dC dI cy nb (z).toInt64 0 1 H.size) (va_cwS 3 hts (gS mw_445 mw_446 mw_5 mw_447) rfl rfl rfl (by decide +kernel) ⟨Nat.le_of_ble_eq_true rfl, Nat.le_of_ble_eq_true rfl⟩) ⟨fun a U g mk q => by obtain ⟨q0, q1, qP, qK, qD, qE⟩ := q; exact ⟨q0, q1, qP, va_K.moved (u := U) (U := U.calling g mk a) (Vm.Alike.refl U.vm) qK, qD, GE.calling qE⟩, fun U hU hW => ⟨rfl, by rw [hU], by rw [hU]; exact hPc, va_K.moved hW.alike hK, hDc.weaken (fun _ _ _ _ => trivial), GE.call hE hS hFc hU hW⟩⟩ rfl rfl hl.1 rfl (lv_room (Nat.le_of_ble_eq_true rfl)) dX8_restoreSnapshot_5 ⟨Nat.le_of_ble_eq_true rfl, Nat.le_of_ble_eq_true rfl⟩) hS (fun q _ h => hFc q h) hFc (fun r u t H1 locs ht hvm hw1 hB hz1 hk1 hS => ?_)
  obtain ⟨hP1, hD1⟩ := hB
  rw [ht] at hP1
  obtain ⟨hP, hD⟩ := va_join (wr := [(h0, .inr (8, [.ref a1, .ref a2, .ref a3, .ref a4, .ref a5, .int 0, .int x6, .ref a6, .int 0, .int 0, .int 0, .int 0, .int 0, .int 0, .int 0, .int 0, .int (-1), .ref a7, .ref a8, .int 0, .ref a9, .ref b0, .int 0])), (a1, .inl (cy 1, 1037, .inl g))]) (w1 := []) hP hD [] [0, 1] rfl rfl (by decide) (by decide) hk1 hFc hP1 hD1
  generalize H1 = H at hP hS ⊢
  have hP : va_P (dC, dI) vwCl [(h0, .inr (8, [.ref a1, .ref a2, .ref a3, .ref a4, .ref a5, .int 0, .int x6, .ref a6, .int 0, .int 0, .int 0, .int 0, .int 0, .int 0, .int 0, .int 0, .int (-1), .ref a7, .ref a8, .int 0, .ref a9, .ref b0, .int 0])), (a1, .inl (cy 1, 1037, .inl g))] H := hP
  have hD : va_D A [(h0, .inr (8, [.ref a1, .ref a2, .ref a3, .ref a4, .ref a5, .int 0, .int x6, .ref a6, .int 0, .int 0, .int 0, .int 0, .int 0, .int 0, .int 0, .int 0, .int (-1), .ref a7, .ref a8, .int 0, .ref a9, .ref b0, .int 0])), (a1, .inl (cy 1, 1037, .inl g))] := hD
  obtain rfl := hw1
  refine my_topi (y := 0) (by exact hz) ?_
  refine W.widen (k := 0) (n := 0) (by omega) (by omega) ?_
  refine lv_iconst (v := 1) hx hb dX8_restoreSnapshot_8 (by decide) ?_
  have hPc := hP.sub (ws' := [(h0, .inr (8, [.ref a1, .ref a2, .ref a3, .ref a4, .ref a5, .int 0, .int x6, .ref a6, .int 0, .int 0, .int 0, .int 0, .int 0, .int 0, .int 0, .int 0, .int (-1), .ref a7, .ref a8, .int 0, .ref a9, .ref b0, .int 0]))]) [0] rfl
  have hDc := hD.sub (ws' := [(h0, .inr (8, [.ref a1, .ref a2, .ref a3, .ref a4, .ref a5, .int 0, .int x6, .ref a6, .int 0, .int 0, .int 0, .int 0, .int 0, .int 0, .int 0, .int 0, .int (-1), .ref a7, .ref a8, .int 0, .ref a9, .ref b0, .int 0]))]) [0] (by decide) rfl
  have hFc := va_free (wc := [(h0, .inr (8, [.ref a1, .ref a2, .ref a3, .ref a4, .ref a5, .int 0, .int x6, .ref a6, .int 0, .int 0, .int 0, .int 0, .int 0, .int 0, .int 0, .int 0, .int (-1), .ref a7, .ref a8, .int 0, .ref a9, .ref b0, .int 0]))]) hD hS hA [0] rfl
  refine va_calli (va_runV (As := [.int 0, .int 1]) (rest := []) ⟨hx, hb, hml, hown, hts⟩ (c_X8_isThrown_0 l dC dI cy nb h0 (.ref a1) (.ref a2) (.ref a3) (.ref a4) (.ref a5) (.int 0) (.ref a6) (.int 0) (.int 0) (.int 0) (.int 0) (.int 0) (.int 0) (.int 0) (.int 0) (.int (-1)) (.ref a7) (.ref a8) (.int 0) (.ref a9) (.ref b0) (.int 0) x6 1 H.size) (cwV 2 hts (gV mw_580 mw_581 mw_582 mw_5 mw_583) rfl rfl rfl (by decide +kernel) ⟨Nat.le_of_ble_eq_true rfl, Nat.le_of_ble_eq_true rfl⟩) ⟨fun a U g mk q => by obtain ⟨q0, q1, qP, qK, qD, qE⟩ := q; exact ⟨q0, q1, qP, va_K.moved (u := U) (U := U.calling g mk a) (Vm.Alike.refl U.vm) qK, qD, GE.calling qE⟩, va_recv hK hP (ci := 8) (q0 := 0) rfl rfl, fun U hU hW => ⟨rfl, by rw [hU], by rw [hU]; exact hPc, va_K.moved hW.alike hK, hDc.weaken (fun _ _ _ _ => trivial), GE.call hE hS hFc hU hW⟩⟩ rfl rfl hl.1 rfl (lv_room (Nat.le_of_ble_eq_true rfl)) dX8_restoreSnapshot_9 ⟨Nat.le_of_ble_eq_true rfl, Nat.le_of_ble_eq_true rfl⟩) hS (fun q _ h => hFc q h) hFc (fun r u t H1 locs ht hvm hw2 hB hz1 hk1 hS => ?_)
  obtain ⟨hP1, hD1⟩ := hB
  rw [ht] at hP1
  obtain ⟨hP, hD⟩ := va_join (wr := [(a1, .inl (cy 1, 1037, .inl g))]) (w1 := [(h0, .inr (8, [.ref a1, .ref a2, .ref a3, .ref a4, .ref a5, .int 0, .int 1, .ref a6, .int 0, .int 0, .int 0, .int 0, .int 0, .int 0, .int 0, .int 0, .int (-1), .ref a7, .ref a8, .int 0, .ref a9, .ref b0, .int 0]))]) hP hD [0] [1] rfl rfl (by decide) (by decide) hk1 hFc hP1 hD1
  generalize H1 = H at hP hS ⊢
  have hP : va_P (dC, dI) vwCl [(a1, .inl (cy 1, 1037, .inl g)), (h0, .inr (8, [.ref a1, .ref a2, .ref a3, .ref a4, .ref a5, .int 0, .int 1, .ref a6, .int 0, .int 0, .int 0, .int 0, .int 0, .int 0, .int 0, .int 0, .int (-1), .ref a7, .ref a8, .int 0, .ref a9, .ref b0, .int 0]))] H := hP
  have hD : va_D A [(a1, .inl (cy 1, 1037, .inl g)), (h0, .inr (8, [.ref a1, .ref a2, .ref a3, .ref a4, .ref a5, .int 0, .int 1, .ref a6, .int 0, .int 0, .int 0, .int 0, .int 0, .int 0, .int 0, .int 0, .int (-1), .ref a7, .ref a8, .int 0, .ref a9, .ref b0, .int 0]))] := hD
  obtain rfl := hw2
  refine W.widen (k := 0) (n := 0) (by omega) (by omega) ?_
  refine lv_if_eq (tgt := 17) hx hb dX8_restoreSnapshot_12 (by decide) (fun h => absurd h (by decide)) (fun _ => ?_)
  refine lv_iconst (v := 0) hx hb dX8_restoreSnapshot_15 (by decide) ?_
  have hP9 := hP.sub (ws' := [(h0, .inr (8, [.ref a1, .ref a2, .ref a3, .ref a4, .ref a5, .int 0, .int 1, .ref a6, .int 0, .int 0, .int 0, .int 0, .int 0, .int 0, .int 0, .int 0, .int (-1), .ref a7, .ref a8, .int 0, .ref a9, .ref b0, .int 0]))]) [1] rfl
  have hD9 := hD.sub (ws' := [(h0, .inr (8, [.ref a1, .ref a2, .ref a3, .ref a4, .ref a5, .int 0, .int 1, .ref a6, .int 0, .int 0, .int 0, .int 0, .int 0, .int 0, .int 0, .int 0, .int (-1), .ref a7, .ref a8, .int 0, .ref a9, .ref b0, .int 0]))]) [1] (by decide) rfl
  refine W.widen (k := 0) (n := 0) (by omega) (by omega) ?_
  exact W.iret (v := 0) hx hb hr (fun t ht hW => ⟨⟨0, (), rfl, rfl, by rw [ht]; exact hP9, hD9⟩, hS.F ht⟩) hS.2.2 dX8_restoreSnapshot_16
set_option maxHeartbeats 4000000 in
set_option maxRecDepth 100000 in
/-- X8_saveSnapshot -/
theorem co_X8_saveSnapshot (l : Launch) (dC : Nat → ClassId) (dI : Nat → Nat → Nat) (cy : Nat → ClassId) (nb : Nat → Nat) (h0 : Nat) (a1 : Nat) (a2 : Nat) (a3 : Nat) (a4 : Nat) (a5 : Nat) (a6 : Nat) (a7 : Nat) (a8 : Nat) (a9 : Nat) (b0 : Nat) (x6 : Int32) (g : Nat → Int32) (z : Int32) (sz : Nat) (hg : FN g) (hz : inB (z).toInt64 0 1 = 0) : Met l yX8_saveSnapshot (wsg yX8_saveSnapshot cX8_saveSnapshot 2 (some .int)) ({ frames := 15, cells := 0, slots := 0, locals := 1000 }) (va_Pc [.ref h0, .int z] (fun U => U.heap.size = sz ∧ va_P (dC, dI) vwCl [(h0, .inr (8, [.ref a1, .ref a2, .ref a3, .ref a4, .ref a5, .int 0, .int x6, .ref a6, .int 0, .int 0, .int 0, .int 0, .int 0, .int 0, .int 0, .int 0, .int (-1), .ref a7, .ref a8, .int 0, .ref a9, .ref b0, .int 0])), (a1, .inl (cy 1, 1037, .inl g))] U.heap ∧ va_K (dC, dI) vwCl (tyL cy) U ∧ va_D (fun _ => True) [(h0, .inr (8, [.ref a1, .ref a2, .ref a3, .ref a4, .ref a5, .int 0, .int x6, .ref a6, .int 0, .int 0, .int 0, .int 0, .int 0, .int 0, .int 0, .int 0, .int (-1), .ref a7, .ref a8, .int 0, .ref a9, .ref b0, .int 0])), (a1, .inl (cy 1, 1037, .inl g))] ∧ GE nb (va_A [(h0, .inr (8, [.ref a1, .ref a2, .ref a3, .ref a4, .ref a5, .int 0, .int x6, .ref a6, .int 0, .int 0, .int 0, .int 0, .int 0, .int 0, .int 0, .int 0, .int (-1), .ref a7, .ref a8, .int 0, .ref a9, .ref b0, .int 0])), (a1, .inl (cy 1, 1037, .inl g))] sz) U)) (va_Qi (fun (r : Int32) (_ : Unit) => r = 0) (fun _ t => va_P (dC, dI) vwCl [(h0, .inr (8, [.ref a1, .ref a2, .ref a3, .ref a4, .ref a5, .int 0, .int 1, .ref a6, .int 0, .int 0, .int 0, .int 0, .int 0, .int 0, .int 0, .int 0, .int (-1), .ref a7, .ref a8, .int 0, .ref a9, .ref b0, .int 0]))] t.heap ∧ va_D (va_A [(h0, .inr (8, [.ref a1, .ref a2, .ref a3, .ref a4, .ref a5, .int 0, .int x6, .ref a6, .int 0, .int 0, .int 0, .int 0, .int 0, .int 0, .int 0, .int 0, .int (-1), .ref a7, .ref a8, .int 0, .ref a9, .ref b0, .int 0])), (a1, .inl (cy 1, 1037, .inl g))] sz) [(h0, .inr (8, [.ref a1, .ref a2, .ref a3, .ref a4, .ref a5, .int 0, .int 1, .ref a6, .int 0, .int 0, .int 0, .int 0, .int 0, .int 0, .int 0, .int 0, .int (-1), .ref a7, .ref a8, .int 0, .ref a9, .ref b0, .int 0]))]) (va_A [(h0, .inr (8, [.ref a1, .ref a2, .ref a3, .ref a4, .ref a5, .int 0, .int x6, .ref a6, .int 0, .int 0, .int 0, .int 0, .int 0, .int 0, .int 0, .int 0, .int (-1), .ref a7, .ref a8, .int 0, .ref a9, .ref b0, .int 0])), (a1, .inl (cy 1, 1037, .inl g))] sz)) 0 0 (va_A [(h0, .inr (8, [.ref a1, .ref a2, .ref a3, .ref a4, .ref a5, .int 0, .int x6, .ref a6, .int 0, .int 0, .int 0, .int 0, .int 0, .int 0, .int 0, .int 0, .int (-1), .ref a7, .ref a8, .int 0, .ref a9, .ref b0, .int 0])), (a1, .inl (cy 1, 1037, .inl g))] sz) := by
  refine Met.ofW (cc := cX8_saveSnapshot) (maxL := 2) (ret := (some .int)) (by decide) rfl ?_
  intro p e s m args below meth c s₁ B hml hv
  obtain ⟨rfl, hsz, hP, hK, hD0, hE⟩ := hv
  have hx := B.exec
  have hb := B.bytes
  have hr := B.returns
  have hts0 := atoms_spec (ws := (wsg yX8_saveSnapshot cX8_saveSnapshot 2 (some .int))) B.pre
  have hts : ∀ w ∈ wsL_law, w.before _ s = true := fun w h => hts0 w (List.mem_cons_of_mem _ h)
  have hown : s.vm.findClass RX8 = some m.cls := findClass_of_methodNamed B.named
  have hlocks := B.notSynchronized
  subst hsz
  have hD := hD0.self (sz := s.heap.size)
  generalize hAe : va_A [(h0, .inr (8, [.ref a1, .ref a2, .ref a3, .ref a4, .ref a5, .int 0, .int x6, .ref a6, .int 0, .int 0, .int 0, .int 0, .int 0, .int 0, .int 0, .int 0, .int (-1), .ref a7, .ref a8, .int 0, .ref a9, .ref b0, .int 0])), (a1, .inl (cy 1, 1037, .inl g))] s.heap.size = A at hD hE ⊢
  have hA : ∀ q : Nat, s.heap.size ≤ q → A q := fun q h => by rw [← hAe]; exact Or.inr h
  have hS : va_S A s.heap s.heap [] := va_S.rf
  have hP : va_P (dC, dI) vwCl [(h0, .inr (8, [.ref a1, .ref a2, .ref a3, .ref a4, .ref a5, .int 0, .int x6, .ref a6, .int 0, .int 0, .int 0, .int 0, .int 0, .int 0, .int 0, .int 0, .int (-1), .ref a7, .ref a8, .int 0, .ref a9, .ref b0, .int 0])), (a1, .inl (cy 1, 1037, .inl g))] s.heap := hP
  have hl := lv_entry ([.ref h0, .int z]) (n := 2) (Nat.le_of_ble_eq_true rfl)
  rw [lg_entry_eq]
  generalize (lg_sl ([.ref h0, .int z]) ++ List.replicate (2 - (lg_sl ([.ref h0, .int z])).length) Slot.unset).toArray = ls at hl ⊢
  have hl : lv_has ls 2 [(0, .ref h0), (1, .int z)] := hl
  generalize hHe : s.heap = H at hP hS ⊢
  have hS : va_S A s.heap H [] := by rw [hHe]; exact hS
  refine lv_aload_n hx hb dX8_saveSnapshot_0 rfl (lv_at hl 0 rfl) ?_
  refine lv_iload_n hx hb dX8_saveSnapshot_1 rfl (lv_at hl 1 rfl) ?_
  refine lv_i2l (v := (z).toInt64) hx hb dX8_saveSnapshot_2 rfl ?_
  refine lv_lconst (v := 0) hx hb dX8_saveSnapshot_3 (by decide) ?_
  refine lv_lconst (v := 1) hx hb dX8_saveSnapshot_4 (by decide) ?_
  have hPc := hP.sub (ws' := []) [] rfl
  have hDc := hD.sub (ws' := []) [] (by decide) rfl
  have hFc := va_free (wc := []) hD hS hA [] rfl
  refine va_calli (va_runS (As := [.long (z).toInt64, .long 0, .long 1]) (rest := [.ref h0]) ⟨hx, hb, hml, hown, hts⟩ (c_X8_in l dC dI cy nb (z).toInt64 0 1 H.size) (va_cwS 3 hts (gS mw_445 mw_446 mw_5 mw_447) rfl rfl rfl (by decide +kernel) ⟨Nat.le_of_ble_eq_true rfl, Nat.le_of_ble_eq_true rfl⟩) ⟨fun a U g mk q => by obtain ⟨q0, q1, qP, qK, qD, qE⟩ := q; exact ⟨q0, q1, qP, va_K.moved (u := U) (U := U.calling g mk a) (Vm.Alike.refl U.vm) qK, qD, GE.calling qE⟩, fun U hU hW => ⟨rfl, by rw [hU], by rw [hU]; exact hPc, va_K.moved hW.alike hK, hDc.weaken (fun _ _ _ _ => trivial), GE.call hE hS hFc hU hW⟩⟩ rfl rfl hl.1 rfl (lv_room (Nat.le_of_ble_eq_true rfl)) dX8_saveSnapshot_5 ⟨Nat.le_of_ble_eq_true rfl, Nat.le_of_ble_eq_true rfl⟩) hS (fun q _ h => hFc q h) hFc (fun r u t H1 locs ht hvm hw1 hB hz1 hk1 hS => ?_)
  obtain ⟨hP1, hD1⟩ := hB
  rw [ht] at hP1
  obtain ⟨hP, hD⟩ := va_join (wr := [(h0, .inr (8, [.ref a1, .ref a2, .ref a3, .ref a4, .ref a5, .int 0, .int x6, .ref a6, .int 0, .int 0, .int 0, .int 0, .int 0, .int 0, .int 0, .int 0, .int (-1), .ref a7, .ref a8, .int 0, .ref a9, .ref b0, .int 0])), (a1, .inl (cy 1, 1037, .inl g))]) (w1 := []) hP hD [] [0, 1] rfl rfl (by decide) (by decide) hk1 hFc hP1 hD1
  generalize H1 = H at hP hS ⊢
  have hP : va_P (dC, dI) vwCl [(h0, .inr (8, [.ref a1, .ref a2, .ref a3, .ref a4, .ref a5, .int 0, .int x6, .ref a6, .int 0, .int 0, .int 0, .int 0, .int 0, .int 0, .int 0, .int 0, .int (-1), .ref a7, .ref a8, .int 0, .ref a9, .ref b0, .int 0])), (a1, .inl (cy 1, 1037, .inl g))] H := hP
  have hD : va_D A [(h0, .inr (8, [.ref a1, .ref a2, .ref a3, .ref a4, .ref a5, .int 0, .int x6, .ref a6, .int 0, .int 0, .int 0, .int 0, .int 0, .int 0, .int 0, .int 0, .int (-1), .ref a7, .ref a8, .int 0, .ref a9, .ref b0, .int 0])), (a1, .inl (cy 1, 1037, .inl g))] := hD
  obtain rfl := hw1
  refine my_topi (y := 0) (by exact hz) ?_
  refine W.widen (k := 0) (n := 0) (by omega) (by omega) ?_
  refine lv_iconst (v := 1) hx hb dX8_saveSnapshot_8 (by decide) ?_
  have hPc := hP.sub (ws' := [(h0, .inr (8, [.ref a1, .ref a2, .ref a3, .ref a4, .ref a5, .int 0, .int x6, .ref a6, .int 0, .int 0, .int 0, .int 0, .int 0, .int 0, .int 0, .int 0, .int (-1), .ref a7, .ref a8, .int 0, .ref a9, .ref b0, .int 0]))]) [0] rfl
  have hDc := hD.sub (ws' := [(h0, .inr (8, [.ref a1, .ref a2, .ref a3, .ref a4, .ref a5, .int 0, .int x6, .ref a6, .int 0, .int 0, .int 0, .int 0, .int 0, .int 0, .int 0, .int 0, .int (-1), .ref a7, .ref a8, .int 0, .ref a9, .ref b0, .int 0]))]) [0] (by decide) rfl
  have hFc := va_free (wc := [(h0, .inr (8, [.ref a1, .ref a2, .ref a3, .ref a4, .ref a5, .int 0, .int x6, .ref a6, .int 0, .int 0, .int 0, .int 0, .int 0, .int 0, .int 0, .int 0, .int (-1), .ref a7, .ref a8, .int 0, .ref a9, .ref b0, .int 0]))]) hD hS hA [0] rfl
  refine va_calli (va_runV (As := [.int 0, .int 1]) (rest := []) ⟨hx, hb, hml, hown, hts⟩ (c_X8_isThrown_0 l dC dI cy nb h0 (.ref a1) (.ref a2) (.ref a3) (.ref a4) (.ref a5) (.int 0) (.ref a6) (.int 0) (.int 0) (.int 0) (.int 0) (.int 0) (.int 0) (.int 0) (.int 0) (.int (-1)) (.ref a7) (.ref a8) (.int 0) (.ref a9) (.ref b0) (.int 0) x6 1 H.size) (cwV 2 hts (gV mw_580 mw_581 mw_582 mw_5 mw_583) rfl rfl rfl (by decide +kernel) ⟨Nat.le_of_ble_eq_true rfl, Nat.le_of_ble_eq_true rfl⟩) ⟨fun a U g mk q => by obtain ⟨q0, q1, qP, qK, qD, qE⟩ := q; exact ⟨q0, q1, qP, va_K.moved (u := U) (U := U.calling g mk a) (Vm.Alike.refl U.vm) qK, qD, GE.calling qE⟩, va_recv hK hP (ci := 8) (q0 := 0) rfl rfl, fun U hU hW => ⟨rfl, by rw [hU], by rw [hU]; exact hPc, va_K.moved hW.alike hK, hDc.weaken (fun _ _ _ _ => trivial), GE.call hE hS hFc hU hW⟩⟩ rfl rfl hl.1 rfl (lv_room (Nat.le_of_ble_eq_true rfl)) dX8_saveSnapshot_9 ⟨Nat.le_of_ble_eq_true rfl, Nat.le_of_ble_eq_true rfl⟩) hS (fun q _ h => hFc q h) hFc (fun r u t H1 locs ht hvm hw2 hB hz1 hk1 hS => ?_)
  obtain ⟨hP1, hD1⟩ := hB
  rw [ht] at hP1
  obtain ⟨hP, hD⟩ := va_join (wr := [(a1, .inl (cy 1, 1037, .inl g))]) (w1 := [(h0, .inr (8, [.ref a1, .ref a2, .ref a3, .ref a4, .ref a5, .int 0, .int 1, .ref a6, .int 0, .int 0, .int 0, .int 0, .int 0, .int 0, .int 0, .int 0, .int (-1), .ref a7, .ref a8, .int 0, .ref a9, .ref b0, .int 0]))]) hP hD [0] [1] rfl rfl (by decide) (by decide) hk1 hFc hP1 hD1
  generalize H1 = H at hP hS ⊢
  have hP : va_P (dC, dI) vwCl [(a1, .inl (cy 1, 1037, .inl g)), (h0, .inr (8, [.ref a1, .ref a2, .ref a3, .ref a4, .ref a5, .int 0, .int 1, .ref a6, .int 0, .int 0, .int 0, .int 0, .int 0, .int 0, .int 0, .int 0, .int (-1), .ref a7, .ref a8, .int 0, .ref a9, .ref b0, .int 0]))] H := hP
  have hD : va_D A [(a1, .inl (cy 1, 1037, .inl g)), (h0, .inr (8, [.ref a1, .ref a2, .ref a3, .ref a4, .ref a5, .int 0, .int 1, .ref a6, .int 0, .int 0, .int 0, .int 0, .int 0, .int 0, .int 0, .int 0, .int (-1), .ref a7, .ref a8, .int 0, .ref a9, .ref b0, .int 0]))] := hD
  obtain rfl := hw2
  refine W.widen (k := 0) (n := 0) (by omega) (by omega) ?_
  refine lv_if_eq (tgt := 17) hx hb dX8_saveSnapshot_12 (by decide) (fun h => absurd h (by decide)) (fun _ => ?_)
  refine lv_iconst (v := 0) hx hb dX8_saveSnapshot_15 (by decide) ?_
  have hP9 := hP.sub (ws' := [(h0, .inr (8, [.ref a1, .ref a2, .ref a3, .ref a4, .ref a5, .int 0, .int 1, .ref a6, .int 0, .int 0, .int 0, .int 0, .int 0, .int 0, .int 0, .int 0, .int (-1), .ref a7, .ref a8, .int 0, .ref a9, .ref b0, .int 0]))]) [1] rfl
  have hD9 := hD.sub (ws' := [(h0, .inr (8, [.ref a1, .ref a2, .ref a3, .ref a4, .ref a5, .int 0, .int 1, .ref a6, .int 0, .int 0, .int 0, .int 0, .int 0, .int 0, .int 0, .int 0, .int (-1), .ref a7, .ref a8, .int 0, .ref a9, .ref b0, .int 0]))]) [1] (by decide) rfl
  refine W.widen (k := 0) (n := 0) (by omega) (by omega) ?_
  exact W.iret (v := 0) hx hb hr (fun t ht hW => ⟨⟨0, (), rfl, rfl, by rw [ht]; exact hP9, hD9⟩, hS.F ht⟩) hS.2.2 dX8_saveSnapshot_16
set_option maxHeartbeats 4000000 in
set_option maxRecDepth 100000 in
/-- X8_setTries -/
theorem co_X8_setTries (l : Launch) (dC : Nat → ClassId) (dI : Nat → Nat → Nat) (cy : Nat → ClassId) (nb : Nat → Nat) (h0 : Nat) (a1 : Nat) (a2 : Nat) (a3 : Nat) (a4 : Nat) (a5 : Nat) (a6 : Nat) (a7 : Nat) (a8 : Nat) (a9 : Nat) (b0 : Nat) (x6 : Int32) (g : Nat → Int32) (z : Int32) (sz : Nat) (hg : FN g) (hz : inB (z).toInt64 1 9 = 0) : Met l yX8_setTries (wsg yX8_setTries cX8_setTries 2 (some .int)) ({ frames := 15, cells := 0, slots := 0, locals := 1000 }) (va_Pc [.ref h0, .int z] (fun U => U.heap.size = sz ∧ va_P (dC, dI) vwCl [(h0, .inr (8, [.ref a1, .ref a2, .ref a3, .ref a4, .ref a5, .int 0, .int x6, .ref a6, .int 0, .int 0, .int 0, .int 0, .int 0, .int 0, .int 0, .int 0, .int (-1), .ref a7, .ref a8, .int 0, .ref a9, .ref b0, .int 0])), (a1, .inl (cy 1, 1037, .inl g))] U.heap ∧ va_K (dC, dI) vwCl (tyL cy) U ∧ va_D (fun _ => True) [(h0, .inr (8, [.ref a1, .ref a2, .ref a3, .ref a4, .ref a5, .int 0, .int x6, .ref a6, .int 0, .int 0, .int 0, .int 0, .int 0, .int 0, .int 0, .int 0, .int (-1), .ref a7, .ref a8, .int 0, .ref a9, .ref b0, .int 0])), (a1, .inl (cy 1, 1037, .inl g))] ∧ GE nb (va_A [(h0, .inr (8, [.ref a1, .ref a2, .ref a3, .ref a4, .ref a5, .int 0, .int x6, .ref a6, .int 0, .int 0, .int 0, .int 0, .int 0, .int 0, .int 0, .int 0, .int (-1), .ref a7, .ref a8, .int 0, .ref a9, .ref b0, .int 0])), (a1, .inl (cy 1, 1037, .inl g))] sz) U)) (va_Qi (fun (r : Int32) (_ : Unit) => r = 0) (fun _ t => va_P (dC, dI) vwCl [(h0, .inr (8, [.ref a1, .ref a2, .ref a3, .ref a4, .ref a5, .int 0, .int 1, .ref a6, .int 0, .int 0, .int 0, .int 0, .int 0, .int 0, .int 0, .int 0, .int (-1), .ref a7, .ref a8, .int 0, .ref a9, .ref b0, .int 0]))] t.heap ∧ va_D (va_A [(h0, .inr (8, [.ref a1, .ref a2, .ref a3, .ref a4, .ref a5, .int 0, .int x6, .ref a6, .int 0, .int 0, .int 0, .int 0, .int 0, .int 0, .int 0, .int 0, .int (-1), .ref a7, .ref a8, .int 0, .ref a9, .ref b0, .int 0])), (a1, .inl (cy 1, 1037, .inl g))] sz) [(h0, .inr (8, [.ref a1, .ref a2, .ref a3, .ref a4, .ref a5, .int 0, .int 1, .ref a6, .int 0, .int 0, .int 0, .int 0, .int 0, .int 0, .int 0, .int 0, .int (-1), .ref a7, .ref a8, .int 0, .ref a9, .ref b0, .int 0]))]) (va_A [(h0, .inr (8, [.ref a1, .ref a2, .ref a3, .ref a4, .ref a5, .int 0, .int x6, .ref a6, .int 0, .int 0, .int 0, .int 0, .int 0, .int 0, .int 0, .int 0, .int (-1), .ref a7, .ref a8, .int 0, .ref a9, .ref b0, .int 0])), (a1, .inl (cy 1, 1037, .inl g))] sz)) 0 0 (va_A [(h0, .inr (8, [.ref a1, .ref a2, .ref a3, .ref a4, .ref a5, .int 0, .int x6, .ref a6, .int 0, .int 0, .int 0, .int 0, .int 0, .int 0, .int 0, .int 0, .int (-1), .ref a7, .ref a8, .int 0, .ref a9, .ref b0, .int 0])), (a1, .inl (cy 1, 1037, .inl g))] sz) := by
  refine Met.ofW (cc := cX8_setTries) (maxL := 2) (ret := (some .int)) (by decide) rfl ?_
  intro p e s m args below meth c s₁ B hml hv
  obtain ⟨rfl, hsz, hP, hK, hD0, hE⟩ := hv
  have hx := B.exec
  have hb := B.bytes
  have hr := B.returns
  have hts0 := atoms_spec (ws := (wsg yX8_setTries cX8_setTries 2 (some .int))) B.pre
  have hts : ∀ w ∈ wsL_law, w.before _ s = true := fun w h => hts0 w (List.mem_cons_of_mem _ h)
  have hown : s.vm.findClass RX8 = some m.cls := findClass_of_methodNamed B.named
  have hlocks := B.notSynchronized
  subst hsz
  have hD := hD0.self (sz := s.heap.size)
  generalize hAe : va_A [(h0, .inr (8, [.ref a1, .ref a2, .ref a3, .ref a4, .ref a5, .int 0, .int x6, .ref a6, .int 0, .int 0, .int 0, .int 0, .int 0, .int 0, .int 0, .int 0, .int (-1), .ref a7, .ref a8, .int 0, .ref a9, .ref b0, .int 0])), (a1, .inl (cy 1, 1037, .inl g))] s.heap.size = A at hD hE ⊢
  have hA : ∀ q : Nat, s.heap.size ≤ q → A q := fun q h => by rw [← hAe]; exact Or.inr h
  have hS : va_S A s.heap s.heap [] := va_S.rf
  have hP : va_P (dC, dI) vwCl [(h0, .inr (8, [.ref a1, .ref a2, .ref a3, .ref a4, .ref a5, .int 0, .int x6, .ref a6, .int 0, .int 0, .int 0, .int 0, .int 0, .int 0, .int 0, .int 0, .int (-1), .ref a7, .ref a8, .int 0, .ref a9, .ref b0, .int 0])), (a1, .inl (cy 1, 1037, .inl g))] s.heap := hP
  have hl := lv_entry ([.ref h0, .int z]) (n := 2) (Nat.le_of_ble_eq_true rfl)
  rw [lg_entry_eq]
  generalize (lg_sl ([.ref h0, .int z]) ++ List.replicate (2 - (lg_sl ([.ref h0, .int z])).length) Slot.unset).toArray = ls at hl ⊢
  have hl : lv_has ls 2 [(0, .ref h0), (1, .int z)] := hl
  generalize hHe : s.heap = H at hP hS ⊢
  have hS : va_S A s.heap H [] := by rw [hHe]; exact hS
  refine lv_aload_n hx hb dX8_setTries_0 rfl (lv_at hl 0 rfl) ?_
  refine lv_iload_n hx hb dX8_setTries_1 rfl (lv_at hl 1 rfl) ?_
  refine lv_i2l (v := (z).toInt64) hx hb dX8_setTries_2 rfl ?_
  refine lv_lconst (v := 1) hx hb dX8_setTries_3 (by decide) ?_
  refine lv_ldc2 hx hb hown (hts _ mw_579) dX8_setTries_4 ?_
  have hPc := hP.sub (ws' := []) [] rfl
  have hDc := hD.sub (ws' := []) [] (by decide) rfl
  have hFc := va_free (wc := []) hD hS hA [] rfl
  refine va_calli (va_runS (As := [.long (z).toInt64, .long 1, .long 9]) (rest := [.ref h0]) ⟨hx, hb, hml, hown, hts⟩ (c_X8_in l dC dI cy nb (z).toInt64 1 9 H.size) (va_cwS 3 hts (gS mw_445 mw_446 mw_5 mw_447) rfl rfl rfl (by decide +kernel) ⟨Nat.le_of_ble_eq_true rfl, Nat.le_of_ble_eq_true rfl⟩) ⟨fun a U g mk q => by obtain ⟨q0, q1, qP, qK, qD, qE⟩ := q; exact ⟨q0, q1, qP, va_K.moved (u := U) (U := U.calling g mk a) (Vm.Alike.refl U.vm) qK, qD, GE.calling qE⟩, fun U hU hW => ⟨rfl, by rw [hU], by rw [hU]; exact hPc, va_K.moved hW.alike hK, hDc.weaken (fun _ _ _ _ => trivial), GE.call hE hS hFc hU hW⟩⟩ rfl rfl hl.1 rfl (lv_room (Nat.le_of_ble_eq_true rfl)) dX8_setTries_7 ⟨Nat.le_of_ble_eq_true rfl, Nat.le_of_ble_eq_true rfl⟩) hS (fun q _ h => hFc q h) hFc (fun r u t H1 locs ht hvm hw1 hB hz1 hk1 hS => ?_)
  obtain ⟨hP1, hD1⟩ := hB
  rw [ht] at hP1
  obtain ⟨hP, hD⟩ := va_join (wr := [(h0, .inr (8, [.ref a1, .ref a2, .ref a3, .ref a4, .ref a5, .int 0, .int x6, .ref a6, .int 0, .int 0, .int 0, .int 0, .int 0, .int 0, .int 0, .int 0, .int (-1), .ref a7, .ref a8, .int 0, .ref a9, .ref b0, .int 0])), (a1, .inl (cy 1, 1037, .inl g))]) (w1 := []) hP hD [] [0, 1] rfl rfl (by decide) (by decide) hk1 hFc hP1 hD1
  generalize H1 = H at hP hS ⊢
  have hP : va_P (dC, dI) vwCl [(h0, .inr (8, [.ref a1, .ref a2, .ref a3, .ref a4, .ref a5, .int 0, .int x6, .ref a6, .int 0, .int 0, .int 0, .int 0, .int 0, .int 0, .int 0, .int 0, .int (-1), .ref a7, .ref a8, .int 0, .ref a9, .ref b0, .int 0])), (a1, .inl (cy 1, 1037, .inl g))] H := hP
  have hD : va_D A [(h0, .inr (8, [.ref a1, .ref a2, .ref a3, .ref a4, .ref a5, .int 0, .int x6, .ref a6, .int 0, .int 0, .int 0, .int 0, .int 0, .int 0, .int 0, .int 0, .int (-1), .ref a7, .ref a8, .int 0, .ref a9, .ref b0, .int 0])), (a1, .inl (cy 1, 1037, .inl g))] := hD
  obtain rfl := hw1
  refine my_topi (y := 0) (by exact hz) ?_
  refine W.widen (k := 0) (n := 0) (by omega) (by omega) ?_
  refine lv_iconst (v := 1) hx hb dX8_setTries_10 (by decide) ?_
  have hPc := hP.sub (ws' := [(h0, .inr (8, [.ref a1, .ref a2, .ref a3, .ref a4, .ref a5, .int 0, .int x6, .ref a6, .int 0, .int 0, .int 0, .int 0, .int 0, .int 0, .int 0, .int 0, .int (-1), .ref a7, .ref a8, .int 0, .ref a9, .ref b0, .int 0]))]) [0] rfl
  have hDc := hD.sub (ws' := [(h0, .inr (8, [.ref a1, .ref a2, .ref a3, .ref a4, .ref a5, .int 0, .int x6, .ref a6, .int 0, .int 0, .int 0, .int 0, .int 0, .int 0, .int 0, .int 0, .int (-1), .ref a7, .ref a8, .int 0, .ref a9, .ref b0, .int 0]))]) [0] (by decide) rfl
  have hFc := va_free (wc := [(h0, .inr (8, [.ref a1, .ref a2, .ref a3, .ref a4, .ref a5, .int 0, .int x6, .ref a6, .int 0, .int 0, .int 0, .int 0, .int 0, .int 0, .int 0, .int 0, .int (-1), .ref a7, .ref a8, .int 0, .ref a9, .ref b0, .int 0]))]) hD hS hA [0] rfl
  refine va_calli (va_runV (As := [.int 0, .int 1]) (rest := []) ⟨hx, hb, hml, hown, hts⟩ (c_X8_isThrown_0 l dC dI cy nb h0 (.ref a1) (.ref a2) (.ref a3) (.ref a4) (.ref a5) (.int 0) (.ref a6) (.int 0) (.int 0) (.int 0) (.int 0) (.int 0) (.int 0) (.int 0) (.int 0) (.int (-1)) (.ref a7) (.ref a8) (.int 0) (.ref a9) (.ref b0) (.int 0) x6 1 H.size) (cwV 2 hts (gV mw_580 mw_581 mw_582 mw_5 mw_583) rfl rfl rfl (by decide +kernel) ⟨Nat.le_of_ble_eq_true rfl, Nat.le_of_ble_eq_true rfl⟩) ⟨fun a U g mk q => by obtain ⟨q0, q1, qP, qK, qD, qE⟩ := q; exact ⟨q0, q1, qP, va_K.moved (u := U) (U := U.calling g mk a) (Vm.Alike.refl U.vm) qK, qD, GE.calling qE⟩, va_recv hK hP (ci := 8) (q0 := 0) rfl rfl, fun U hU hW => ⟨rfl, by rw [hU], by rw [hU]; exact hPc, va_K.moved hW.alike hK, hDc.weaken (fun _ _ _ _ => trivial), GE.call hE hS hFc hU hW⟩⟩ rfl rfl hl.1 rfl (lv_room (Nat.le_of_ble_eq_true rfl)) dX8_setTries_11 ⟨Nat.le_of_ble_eq_true rfl, Nat.le_of_ble_eq_true rfl⟩) hS (fun q _ h => hFc q h) hFc (fun r u t H1 locs ht hvm hw2 hB hz1 hk1 hS => ?_)
  obtain ⟨hP1, hD1⟩ := hB
  rw [ht] at hP1
  obtain ⟨hP, hD⟩ := va_join (wr := [(a1, .inl (cy 1, 1037, .inl g))]) (w1 := [(h0, .inr (8, [.ref a1, .ref a2, .ref a3, .ref a4, .ref a5, .int 0, .int 1, .ref a6, .int 0, .int 0, .int 0, .int 0, .int 0, .int 0, .int 0, .int 0, .int (-1), .ref a7, .ref a8, .int 0, .ref a9, .ref b0, .int 0]))]) hP hD [0] [1] rfl rfl (by decide) (by decide) hk1 hFc hP1 hD1
  generalize H1 = H at hP hS ⊢
  have hP : va_P (dC, dI) vwCl [(a1, .inl (cy 1, 1037, .inl g)), (h0, .inr (8, [.ref a1, .ref a2, .ref a3, .ref a4, .ref a5, .int 0, .int 1, .ref a6, .int 0, .int 0, .int 0, .int 0, .int 0, .int 0, .int 0, .int 0, .int (-1), .ref a7, .ref a8, .int 0, .ref a9, .ref b0, .int 0]))] H := hP
  have hD : va_D A [(a1, .inl (cy 1, 1037, .inl g)), (h0, .inr (8, [.ref a1, .ref a2, .ref a3, .ref a4, .ref a5, .int 0, .int 1, .ref a6, .int 0, .int 0, .int 0, .int 0, .int 0, .int 0, .int 0, .int 0, .int (-1), .ref a7, .ref a8, .int 0, .ref a9, .ref b0, .int 0]))] := hD
  obtain rfl := hw2
  refine W.widen (k := 0) (n := 0) (by omega) (by omega) ?_
  refine lv_if_eq (tgt := 21) hx hb dX8_setTries_14 (by decide) (fun h => absurd h (by decide)) (fun _ => ?_)
  refine lv_iconst (v := 0) hx hb dX8_setTries_17 (by decide) ?_
  refine lv_goto (tgt := 27) hx hb dX8_setTries_18 (by decide) ?_
  have hP9 := hP.sub (ws' := [(h0, .inr (8, [.ref a1, .ref a2, .ref a3, .ref a4, .ref a5, .int 0, .int 1, .ref a6, .int 0, .int 0, .int 0, .int 0, .int 0, .int 0, .int 0, .int 0, .int (-1), .ref a7, .ref a8, .int 0, .ref a9, .ref b0, .int 0]))]) [1] rfl
  have hD9 := hD.sub (ws' := [(h0, .inr (8, [.ref a1, .ref a2, .ref a3, .ref a4, .ref a5, .int 0, .int 1, .ref a6, .int 0, .int 0, .int 0, .int 0, .int 0, .int 0, .int 0, .int 0, .int (-1), .ref a7, .ref a8, .int 0, .ref a9, .ref b0, .int 0]))]) [1] (by decide) rfl
  refine W.widen (k := 0) (n := 0) (by omega) (by omega) ?_
  exact W.iret (v := 0) hx hb hr (fun t ht hW => ⟨⟨0, (), rfl, rfl, by rw [ht]; exact hP9, hD9⟩, hS.F ht⟩) hS.2.2 dX8_setTries_27
set_option maxHeartbeats 4000000 in
set_option maxRecDepth 100000 in
/-- X8_setTray -/
theorem co_X8_setTray (l : Launch) (dC : Nat → ClassId) (dI : Nat → Nat → Nat) (cy : Nat → ClassId) (nb : Nat → Nat) (h0 : Nat) (a1 : Nat) (a2 : Nat) (a3 : Nat) (a4 : Nat) (a5 : Nat) (a6 : Nat) (a7 : Nat) (a8 : Nat) (a9 : Nat) (b0 : Nat) (x6 : Int32) (g : Nat → Int32) (z : Int32) (sz : Nat) (hg : FN g) (hz : inB (z).toInt64 1 20 = 0) : Met l yX8_setTray (wsg yX8_setTray cX8_setTray 2 (some .int)) ({ frames := 15, cells := 0, slots := 0, locals := 1000 }) (va_Pc [.ref h0, .int z] (fun U => U.heap.size = sz ∧ va_P (dC, dI) vwCl [(h0, .inr (8, [.ref a1, .ref a2, .ref a3, .ref a4, .ref a5, .int 0, .int x6, .ref a6, .int 0, .int 0, .int 0, .int 0, .int 0, .int 0, .int 0, .int 0, .int (-1), .ref a7, .ref a8, .int 0, .ref a9, .ref b0, .int 0])), (a1, .inl (cy 1, 1037, .inl g))] U.heap ∧ va_K (dC, dI) vwCl (tyL cy) U ∧ va_D (fun _ => True) [(h0, .inr (8, [.ref a1, .ref a2, .ref a3, .ref a4, .ref a5, .int 0, .int x6, .ref a6, .int 0, .int 0, .int 0, .int 0, .int 0, .int 0, .int 0, .int 0, .int (-1), .ref a7, .ref a8, .int 0, .ref a9, .ref b0, .int 0])), (a1, .inl (cy 1, 1037, .inl g))] ∧ GE nb (va_A [(h0, .inr (8, [.ref a1, .ref a2, .ref a3, .ref a4, .ref a5, .int 0, .int x6, .ref a6, .int 0, .int 0, .int 0, .int 0, .int 0, .int 0, .int 0, .int 0, .int (-1), .ref a7, .ref a8, .int 0, .ref a9, .ref b0, .int 0])), (a1, .inl (cy 1, 1037, .inl g))] sz) U)) (va_Qi (fun (r : Int32) (_ : Unit) => r = 0) (fun _ t => va_P (dC, dI) vwCl [(h0, .inr (8, [.ref a1, .ref a2, .ref a3, .ref a4, .ref a5, .int 0, .int 1, .ref a6, .int 0, .int 0, .int 0, .int 0, .int 0, .int 0, .int 0, .int 0, .int (-1), .ref a7, .ref a8, .int 0, .ref a9, .ref b0, .int 0]))] t.heap ∧ va_D (va_A [(h0, .inr (8, [.ref a1, .ref a2, .ref a3, .ref a4, .ref a5, .int 0, .int x6, .ref a6, .int 0, .int 0, .int 0, .int 0, .int 0, .int 0, .int 0, .int 0, .int (-1), .ref a7, .ref a8, .int 0, .ref a9, .ref b0, .int 0])), (a1, .inl (cy 1, 1037, .inl g))] sz) [(h0, .inr (8, [.ref a1, .ref a2, .ref a3, .ref a4, .ref a5, .int 0, .int 1, .ref a6, .int 0, .int 0, .int 0, .int 0, .int 0, .int 0, .int 0, .int 0, .int (-1), .ref a7, .ref a8, .int 0, .ref a9, .ref b0, .int 0]))]) (va_A [(h0, .inr (8, [.ref a1, .ref a2, .ref a3, .ref a4, .ref a5, .int 0, .int x6, .ref a6, .int 0, .int 0, .int 0, .int 0, .int 0, .int 0, .int 0, .int 0, .int (-1), .ref a7, .ref a8, .int 0, .ref a9, .ref b0, .int 0])), (a1, .inl (cy 1, 1037, .inl g))] sz)) 0 0 (va_A [(h0, .inr (8, [.ref a1, .ref a2, .ref a3, .ref a4, .ref a5, .int 0, .int x6, .ref a6, .int 0, .int 0, .int 0, .int 0, .int 0, .int 0, .int 0, .int 0, .int (-1), .ref a7, .ref a8, .int 0, .ref a9, .ref b0, .int 0])), (a1, .inl (cy 1, 1037, .inl g))] sz) := by
  refine Met.ofW (cc := cX8_setTray) (maxL := 2) (ret := (some .int)) (by decide) rfl ?_
  intro p e s m args below meth c s₁ B hml hv
  obtain ⟨rfl, hsz, hP, hK, hD0, hE⟩ := hv
  have hx := B.exec
  have hb := B.bytes
  have hr := B.returns
  have hts0 := atoms_spec (ws := (wsg yX8_setTray cX8_setTray 2 (some .int))) B.pre
  have hts : ∀ w ∈ wsL_law, w.before _ s = true := fun w h => hts0 w (List.mem_cons_of_mem _ h)
  have hown : s.vm.findClass RX8 = some m.cls := findClass_of_methodNamed B.named
  have hlocks := B.notSynchronized
  subst hsz
  have hD := hD0.self (sz := s.heap.size)
  generalize hAe : va_A [(h0, .inr (8, [.ref a1, .ref a2, .ref a3, .ref a4, .ref a5, .int 0, .int x6, .ref a6, .int 0, .int 0, .int 0, .int 0, .int 0, .int 0, .int 0, .int 0, .int (-1), .ref a7, .ref a8, .int 0, .ref a9, .ref b0, .int 0])), (a1, .inl (cy 1, 1037, .inl g))] s.heap.size = A at hD hE ⊢
  have hA : ∀ q : Nat, s.heap.size ≤ q → A q := fun q h => by rw [← hAe]; exact Or.inr h
  have hS : va_S A s.heap s.heap [] := va_S.rf
  have hP : va_P (dC, dI) vwCl [(h0, .inr (8, [.ref a1, .ref a2, .ref a3, .ref a4, .ref a5, .int 0, .int x6, .ref a6, .int 0, .int 0, .int 0, .int 0, .int 0, .int 0, .int 0, .int 0, .int (-1), .ref a7, .ref a8, .int 0, .ref a9, .ref b0, .int 0])), (a1, .inl (cy 1, 1037, .inl g))] s.heap := hP
  have hl := lv_entry ([.ref h0, .int z]) (n := 2) (Nat.le_of_ble_eq_true rfl)
  rw [lg_entry_eq]
  generalize (lg_sl ([.ref h0, .int z]) ++ List.replicate (2 - (lg_sl ([.ref h0, .int z])).length) Slot.unset).toArray = ls at hl ⊢
  have hl : lv_has ls 2 [(0, .ref h0), (1, .int z)] := hl
  generalize hHe : s.heap = H at hP hS ⊢
  have hS : va_S A s.heap H [] := by rw [hHe]; exact hS
  refine lv_aload_n hx hb dX8_setTray_0 rfl (lv_at hl 0 rfl) ?_
  refine lv_iload_n hx hb dX8_setTray_1 rfl (lv_at hl 1 rfl) ?_
  refine lv_i2l (v := (z).toInt64) hx hb dX8_setTray_2 rfl ?_
  refine lv_lconst (v := 1) hx hb dX8_setTray_3 (by decide) ?_
  refine lv_ldc2 hx hb hown (hts _ mw_1133) dX8_setTray_4 ?_
  have hPc := hP.sub (ws' := []) [] rfl
  have hDc := hD.sub (ws' := []) [] (by decide) rfl
  have hFc := va_free (wc := []) hD hS hA [] rfl
  refine va_calli (va_runS (As := [.long (z).toInt64, .long 1, .long 20]) (rest := [.ref h0]) ⟨hx, hb, hml, hown, hts⟩ (c_X8_in l dC dI cy nb (z).toInt64 1 20 H.size) (va_cwS 3 hts (gS mw_445 mw_446 mw_5 mw_447) rfl rfl rfl (by decide +kernel) ⟨Nat.le_of_ble_eq_true rfl, Nat.le_of_ble_eq_true rfl⟩) ⟨fun a U g mk q => by obtain ⟨q0, q1, qP, qK, qD, qE⟩ := q; exact ⟨q0, q1, qP, va_K.moved (u := U) (U := U.calling g mk a) (Vm.Alike.refl U.vm) qK, qD, GE.calling qE⟩, fun U hU hW => ⟨rfl, by rw [hU], by rw [hU]; exact hPc, va_K.moved hW.alike hK, hDc.weaken (fun _ _ _ _ => trivial), GE.call hE hS hFc hU hW⟩⟩ rfl rfl hl.1 rfl (lv_room (Nat.le_of_ble_eq_true rfl)) dX8_setTray_7 ⟨Nat.le_of_ble_eq_true rfl, Nat.le_of_ble_eq_true rfl⟩) hS (fun q _ h => hFc q h) hFc (fun r u t H1 locs ht hvm hw1 hB hz1 hk1 hS => ?_)
  obtain ⟨hP1, hD1⟩ := hB
  rw [ht] at hP1
  obtain ⟨hP, hD⟩ := va_join (wr := [(h0, .inr (8, [.ref a1, .ref a2, .ref a3, .ref a4, .ref a5, .int 0, .int x6, .ref a6, .int 0, .int 0, .int 0, .int 0, .int 0, .int 0, .int 0, .int 0, .int (-1), .ref a7, .ref a8, .int 0, .ref a9, .ref b0, .int 0])), (a1, .inl (cy 1, 1037, .inl g))]) (w1 := []) hP hD [] [0, 1] rfl rfl (by decide) (by decide) hk1 hFc hP1 hD1
  generalize H1 = H at hP hS ⊢
  have hP : va_P (dC, dI) vwCl [(h0, .inr (8, [.ref a1, .ref a2, .ref a3, .ref a4, .ref a5, .int 0, .int x6, .ref a6, .int 0, .int 0, .int 0, .int 0, .int 0, .int 0, .int 0, .int 0, .int (-1), .ref a7, .ref a8, .int 0, .ref a9, .ref b0, .int 0])), (a1, .inl (cy 1, 1037, .inl g))] H := hP
  have hD : va_D A [(h0, .inr (8, [.ref a1, .ref a2, .ref a3, .ref a4, .ref a5, .int 0, .int x6, .ref a6, .int 0, .int 0, .int 0, .int 0, .int 0, .int 0, .int 0, .int 0, .int (-1), .ref a7, .ref a8, .int 0, .ref a9, .ref b0, .int 0])), (a1, .inl (cy 1, 1037, .inl g))] := hD
  obtain rfl := hw1
  refine my_topi (y := 0) (by exact hz) ?_
  refine W.widen (k := 0) (n := 0) (by omega) (by omega) ?_
  refine lv_iconst (v := 1) hx hb dX8_setTray_10 (by decide) ?_
  have hPc := hP.sub (ws' := [(h0, .inr (8, [.ref a1, .ref a2, .ref a3, .ref a4, .ref a5, .int 0, .int x6, .ref a6, .int 0, .int 0, .int 0, .int 0, .int 0, .int 0, .int 0, .int 0, .int (-1), .ref a7, .ref a8, .int 0, .ref a9, .ref b0, .int 0]))]) [0] rfl
  have hDc := hD.sub (ws' := [(h0, .inr (8, [.ref a1, .ref a2, .ref a3, .ref a4, .ref a5, .int 0, .int x6, .ref a6, .int 0, .int 0, .int 0, .int 0, .int 0, .int 0, .int 0, .int 0, .int (-1), .ref a7, .ref a8, .int 0, .ref a9, .ref b0, .int 0]))]) [0] (by decide) rfl
  have hFc := va_free (wc := [(h0, .inr (8, [.ref a1, .ref a2, .ref a3, .ref a4, .ref a5, .int 0, .int x6, .ref a6, .int 0, .int 0, .int 0, .int 0, .int 0, .int 0, .int 0, .int 0, .int (-1), .ref a7, .ref a8, .int 0, .ref a9, .ref b0, .int 0]))]) hD hS hA [0] rfl
  refine va_calli (va_runV (As := [.int 0, .int 1]) (rest := []) ⟨hx, hb, hml, hown, hts⟩ (c_X8_isThrown_0 l dC dI cy nb h0 (.ref a1) (.ref a2) (.ref a3) (.ref a4) (.ref a5) (.int 0) (.ref a6) (.int 0) (.int 0) (.int 0) (.int 0) (.int 0) (.int 0) (.int 0) (.int 0) (.int (-1)) (.ref a7) (.ref a8) (.int 0) (.ref a9) (.ref b0) (.int 0) x6 1 H.size) (cwV 2 hts (gV mw_580 mw_581 mw_582 mw_5 mw_583) rfl rfl rfl (by decide +kernel) ⟨Nat.le_of_ble_eq_true rfl, Nat.le_of_ble_eq_true rfl⟩) ⟨fun a U g mk q => by obtain ⟨q0, q1, qP, qK, qD, qE⟩ := q; exact ⟨q0, q1, qP, va_K.moved (u := U) (U := U.calling g mk a) (Vm.Alike.refl U.vm) qK, qD, GE.calling qE⟩, va_recv hK hP (ci := 8) (q0 := 0) rfl rfl, fun U hU hW => ⟨rfl, by rw [hU], by rw [hU]; exact hPc, va_K.moved hW.alike hK, hDc.weaken (fun _ _ _ _ => trivial), GE.call hE hS hFc hU hW⟩⟩ rfl rfl hl.1 rfl (lv_room (Nat.le_of_ble_eq_true rfl)) dX8_setTray_11 ⟨Nat.le_of_ble_eq_true rfl, Nat.le_of_ble_eq_true rfl⟩) hS (fun q _ h => hFc q h) hFc (fun r u t H1 locs ht hvm hw2 hB hz1 hk1 hS => ?_)
  obtain ⟨hP1, hD1⟩ := hB
  rw [ht] at hP1
  obtain ⟨hP, hD⟩ := va_join (wr := [(a1, .inl (cy 1, 1037, .inl g))]) (w1 := [(h0, .inr (8, [.ref a1, .ref a2, .ref a3, .ref a4, .ref a5, .int 0, .int 1, .ref a6, .int 0, .int 0, .int 0, .int 0, .int 0, .int 0, .int 0, .int 0, .int (-1), .ref a7, .ref a8, .int 0, .ref a9, .ref b0, .int 0]))]) hP hD [0] [1] rfl rfl (by decide) (by decide) hk1 hFc hP1 hD1
  generalize H1 = H at hP hS ⊢
  have hP : va_P (dC, dI) vwCl [(a1, .inl (cy 1, 1037, .inl g)), (h0, .inr (8, [.ref a1, .ref a2, .ref a3, .ref a4, .ref a5, .int 0, .int 1, .ref a6, .int 0, .int 0, .int 0, .int 0, .int 0, .int 0, .int 0, .int 0, .int (-1), .ref a7, .ref a8, .int 0, .ref a9, .ref b0, .int 0]))] H := hP
  have hD : va_D A [(a1, .inl (cy 1, 1037, .inl g)), (h0, .inr (8, [.ref a1, .ref a2, .ref a3, .ref a4, .ref a5, .int 0, .int 1, .ref a6, .int 0, .int 0, .int 0, .int 0, .int 0, .int 0, .int 0, .int 0, .int (-1), .ref a7, .ref a8, .int 0, .ref a9, .ref b0, .int 0]))] := hD
  obtain rfl := hw2
  refine W.widen (k := 0) (n := 0) (by omega) (by omega) ?_
  refine lv_if_eq (tgt := 21) hx hb dX8_setTray_14 (by decide) (fun h => absurd h (by decide)) (fun _ => ?_)
  refine lv_iconst (v := 0) hx hb dX8_setTray_17 (by decide) ?_
  refine lv_goto (tgt := 27) hx hb dX8_setTray_18 (by decide) ?_
  have hP9 := hP.sub (ws' := [(h0, .inr (8, [.ref a1, .ref a2, .ref a3, .ref a4, .ref a5, .int 0, .int 1, .ref a6, .int 0, .int 0, .int 0, .int 0, .int 0, .int 0, .int 0, .int 0, .int (-1), .ref a7, .ref a8, .int 0, .ref a9, .ref b0, .int 0]))]) [1] rfl
  have hD9 := hD.sub (ws' := [(h0, .inr (8, [.ref a1, .ref a2, .ref a3, .ref a4, .ref a5, .int 0, .int 1, .ref a6, .int 0, .int 0, .int 0, .int 0, .int 0, .int 0, .int 0, .int 0, .int (-1), .ref a7, .ref a8, .int 0, .ref a9, .ref b0, .int 0]))]) [1] (by decide) rfl
  refine W.widen (k := 0) (n := 0) (by omega) (by omega) ?_
  exact W.iret (v := 0) hx hb hr (fun t ht hW => ⟨⟨0, (), rfl, rfl, by rw [ht]; exact hP9, hD9⟩, hS.F ht⟩) hS.2.2 dX8_setTray_27
set_option maxHeartbeats 4000000 in
set_option maxRecDepth 100000 in
/-- X8_refill -/
theorem co_X8_refill (l : Launch) (dC : Nat → ClassId) (dI : Nat → Nat → Nat) (cy : Nat → ClassId) (nb : Nat → Nat) (h0 : Nat) (a1 : Nat) (a2 : Nat) (a3 : Nat) (a4 : Nat) (a5 : Nat) (a6 : Nat) (a7 : Nat) (a8 : Nat) (a9 : Nat) (b0 : Nat) (x6 : Int32) (g : Nat → Int32) (z : Int32) (sz : Nat) (hg : FN g) (hz : inB (z).toInt64 1 999 = 0) : Met l yX8_refill (wsg yX8_refill cX8_refill 2 (some .int)) ({ frames := 15, cells := 0, slots := 0, locals := 1000 }) (va_Pc [.ref h0, .int z] (fun U => U.heap.size = sz ∧ va_P (dC, dI) vwCl [(h0, .inr (8, [.ref a1, .ref a2, .ref a3, .ref a4, .ref a5, .int 0, .int x6, .ref a6, .int 0, .int 0, .int 0, .int 0, .int 0, .int 0, .int 0, .int 0, .int (-1), .ref a7, .ref a8, .int 0, .ref a9, .ref b0, .int 0])), (a1, .inl (cy 1, 1037, .inl g))] U.heap ∧ va_K (dC, dI) vwCl (tyL cy) U ∧ va_D (fun _ => True) [(h0, .inr (8, [.ref a1, .ref a2, .ref a3, .ref a4, .ref a5, .int 0, .int x6, .ref a6, .int 0, .int 0, .int 0, .int 0, .int 0, .int 0, .int 0, .int 0, .int (-1), .ref a7, .ref a8, .int 0, .ref a9, .ref b0, .int 0])), (a1, .inl (cy 1, 1037, .inl g))] ∧ GE nb (va_A [(h0, .inr (8, [.ref a1, .ref a2, .ref a3, .ref a4, .ref a5, .int 0, .int x6, .ref a6, .int 0, .int 0, .int 0, .int 0, .int 0, .int 0, .int 0, .int 0, .int (-1), .ref a7, .ref a8, .int 0, .ref a9, .ref b0, .int 0])), (a1, .inl (cy 1, 1037, .inl g))] sz) U)) (va_Qi (fun (r : Int32) (_ : Unit) => r = 0) (fun _ t => va_P (dC, dI) vwCl [(h0, .inr (8, [.ref a1, .ref a2, .ref a3, .ref a4, .ref a5, .int 0, .int 1, .ref a6, .int 0, .int 0, .int 0, .int 0, .int 0, .int 0, .int 0, .int 0, .int (-1), .ref a7, .ref a8, .int 0, .ref a9, .ref b0, .int 0]))] t.heap ∧ va_D (va_A [(h0, .inr (8, [.ref a1, .ref a2, .ref a3, .ref a4, .ref a5, .int 0, .int x6, .ref a6, .int 0, .int 0, .int 0, .int 0, .int 0, .int 0, .int 0, .int 0, .int (-1), .ref a7, .ref a8, .int 0, .ref a9, .ref b0, .int 0])), (a1, .inl (cy 1, 1037, .inl g))] sz) [(h0, .inr (8, [.ref a1, .ref a2, .ref a3, .ref a4, .ref a5, .int 0, .int 1, .ref a6, .int 0, .int 0, .int 0, .int 0, .int 0, .int 0, .int 0, .int 0, .int (-1), .ref a7, .ref a8, .int 0, .ref a9, .ref b0, .int 0]))]) (va_A [(h0, .inr (8, [.ref a1, .ref a2, .ref a3, .ref a4, .ref a5, .int 0, .int x6, .ref a6, .int 0, .int 0, .int 0, .int 0, .int 0, .int 0, .int 0, .int 0, .int (-1), .ref a7, .ref a8, .int 0, .ref a9, .ref b0, .int 0])), (a1, .inl (cy 1, 1037, .inl g))] sz)) 0 0 (va_A [(h0, .inr (8, [.ref a1, .ref a2, .ref a3, .ref a4, .ref a5, .int 0, .int x6, .ref a6, .int 0, .int 0, .int 0, .int 0, .int 0, .int 0, .int 0, .int 0, .int (-1), .ref a7, .ref a8, .int 0, .ref a9, .ref b0, .int 0])), (a1, .inl (cy 1, 1037, .inl g))] sz) := by
  refine Met.ofW (cc := cX8_refill) (maxL := 2) (ret := (some .int)) (by decide) rfl ?_
  intro p e s m args below meth c s₁ B hml hv
  obtain ⟨rfl, hsz, hP, hK, hD0, hE⟩ := hv
  have hx := B.exec
  have hb := B.bytes
  have hr := B.returns
  have hts0 := atoms_spec (ws := (wsg yX8_refill cX8_refill 2 (some .int))) B.pre
  have hts : ∀ w ∈ wsL_law, w.before _ s = true := fun w h => hts0 w (List.mem_cons_of_mem _ h)
  have hown : s.vm.findClass RX8 = some m.cls := findClass_of_methodNamed B.named
  have hlocks := B.notSynchronized
  subst hsz
  have hD := hD0.self (sz := s.heap.size)
  generalize hAe : va_A [(h0, .inr (8, [.ref a1, .ref a2, .ref a3, .ref a4, .ref a5, .int 0, .int x6, .ref a6, .int 0, .int 0, .int 0, .int 0, .int 0, .int 0, .int 0, .int 0, .int (-1), .ref a7, .ref a8, .int 0, .ref a9, .ref b0, .int 0])), (a1, .inl (cy 1, 1037, .inl g))] s.heap.size = A at hD hE ⊢
  have hA : ∀ q : Nat, s.heap.size ≤ q → A q := fun q h => by rw [← hAe]; exact Or.inr h
  have hS : va_S A s.heap s.heap [] := va_S.rf
  have hP : va_P (dC, dI) vwCl [(h0, .inr (8, [.ref a1, .ref a2, .ref a3, .ref a4, .ref a5, .int 0, .int x6, .ref a6, .int 0, .int 0, .int 0, .int 0, .int 0, .int 0, .int 0, .int 0, .int (-1), .ref a7, .ref a8, .int 0, .ref a9, .ref b0, .int 0])), (a1, .inl (cy 1, 1037, .inl g))] s.heap := hP
  have hl := lv_entry ([.ref h0, .int z]) (n := 2) (Nat.le_of_ble_eq_true rfl)
  rw [lg_entry_eq]
  generalize (lg_sl ([.ref h0, .int z]) ++ List.replicate (2 - (lg_sl ([.ref h0, .int z])).length) Slot.unset).toArray = ls at hl ⊢
  have hl : lv_has ls 2 [(0, .ref h0), (1, .int z)] := hl
  generalize hHe : s.heap = H at hP hS ⊢
  have hS : va_S A s.heap H [] := by rw [hHe]; exact hS
  refine lv_aload_n hx hb dX8_refill_0 rfl (lv_at hl 0 rfl) ?_
  refine lv_iload_n hx hb dX8_refill_1 rfl (lv_at hl 1 rfl) ?_
  refine lv_i2l (v := (z).toInt64) hx hb dX8_refill_2 rfl ?_
  refine lv_lconst (v := 1) hx hb dX8_refill_3 (by decide) ?_
  refine lv_ldc2 hx hb hown (hts _ mw_1047) dX8_refill_4 ?_
  have hPc := hP.sub (ws' := []) [] rfl
  have hDc := hD.sub (ws' := []) [] (by decide) rfl
  have hFc := va_free (wc := []) hD hS hA [] rfl
  refine va_calli (va_runS (As := [.long (z).toInt64, .long 1, .long 999]) (rest := [.ref h0]) ⟨hx, hb, hml, hown, hts⟩ (c_X8_in l dC dI cy nb (z).toInt64 1 999 H.size) (va_cwS 3 hts (gS mw_445 mw_446 mw_5 mw_447) rfl rfl rfl (by decide +kernel) ⟨Nat.le_of_ble_eq_true rfl, Nat.le_of_ble_eq_true rfl⟩) ⟨fun a U g mk q => by obtain ⟨q0, q1, qP, qK, qD, qE⟩ := q; exact ⟨q0, q1, qP, va_K.moved (u := U) (U := U.calling g mk a) (Vm.Alike.refl U.vm) qK, qD, GE.calling qE⟩, fun U hU hW => ⟨rfl, by rw [hU], by rw [hU]; exact hPc, va_K.moved hW.alike hK, hDc.weaken (fun _ _ _ _ => trivial), GE.call hE hS hFc hU hW⟩⟩ rfl rfl hl.1 rfl (lv_room (Nat.le_of_ble_eq_true rfl)) dX8_refill_7 ⟨Nat.le_of_ble_eq_true rfl, Nat.le_of_ble_eq_true rfl⟩) hS (fun q _ h => hFc q h) hFc (fun r u t H1 locs ht hvm hw1 hB hz1 hk1 hS => ?_)
  obtain ⟨hP1, hD1⟩ := hB
  rw [ht] at hP1
  obtain ⟨hP, hD⟩ := va_join (wr := [(h0, .inr (8, [.ref a1, .ref a2, .ref a3, .ref a4, .ref a5, .int 0, .int x6, .ref a6, .int 0, .int 0, .int 0, .int 0, .int 0, .int 0, .int 0, .int 0, .int (-1), .ref a7, .ref a8, .int 0, .ref a9, .ref b0, .int 0])), (a1, .inl (cy 1, 1037, .inl g))]) (w1 := []) hP hD [] [0, 1] rfl rfl (by decide) (by decide) hk1 hFc hP1 hD1
  generalize H1 = H at hP hS ⊢
  have hP : va_P (dC, dI) vwCl [(h0, .inr (8, [.ref a1, .ref a2, .ref a3, .ref a4, .ref a5, .int 0, .int x6, .ref a6, .int 0, .int 0, .int 0, .int 0, .int 0, .int 0, .int 0, .int 0, .int (-1), .ref a7, .ref a8, .int 0, .ref a9, .ref b0, .int 0])), (a1, .inl (cy 1, 1037, .inl g))] H := hP
  have hD : va_D A [(h0, .inr (8, [.ref a1, .ref a2, .ref a3, .ref a4, .ref a5, .int 0, .int x6, .ref a6, .int 0, .int 0, .int 0, .int 0, .int 0, .int 0, .int 0, .int 0, .int (-1), .ref a7, .ref a8, .int 0, .ref a9, .ref b0, .int 0])), (a1, .inl (cy 1, 1037, .inl g))] := hD
  obtain rfl := hw1
  refine my_topi (y := 0) (by exact hz) ?_
  refine W.widen (k := 0) (n := 0) (by omega) (by omega) ?_
  refine lv_iconst (v := 1) hx hb dX8_refill_10 (by decide) ?_
  have hPc := hP.sub (ws' := [(h0, .inr (8, [.ref a1, .ref a2, .ref a3, .ref a4, .ref a5, .int 0, .int x6, .ref a6, .int 0, .int 0, .int 0, .int 0, .int 0, .int 0, .int 0, .int 0, .int (-1), .ref a7, .ref a8, .int 0, .ref a9, .ref b0, .int 0]))]) [0] rfl
  have hDc := hD.sub (ws' := [(h0, .inr (8, [.ref a1, .ref a2, .ref a3, .ref a4, .ref a5, .int 0, .int x6, .ref a6, .int 0, .int 0, .int 0, .int 0, .int 0, .int 0, .int 0, .int 0, .int (-1), .ref a7, .ref a8, .int 0, .ref a9, .ref b0, .int 0]))]) [0] (by decide) rfl
  have hFc := va_free (wc := [(h0, .inr (8, [.ref a1, .ref a2, .ref a3, .ref a4, .ref a5, .int 0, .int x6, .ref a6, .int 0, .int 0, .int 0, .int 0, .int 0, .int 0, .int 0, .int 0, .int (-1), .ref a7, .ref a8, .int 0, .ref a9, .ref b0, .int 0]))]) hD hS hA [0] rfl
  refine va_calli (va_runV (As := [.int 0, .int 1]) (rest := []) ⟨hx, hb, hml, hown, hts⟩ (c_X8_isThrown_0 l dC dI cy nb h0 (.ref a1) (.ref a2) (.ref a3) (.ref a4) (.ref a5) (.int 0) (.ref a6) (.int 0) (.int 0) (.int 0) (.int 0) (.int 0) (.int 0) (.int 0) (.int 0) (.int (-1)) (.ref a7) (.ref a8) (.int 0) (.ref a9) (.ref b0) (.int 0) x6 1 H.size) (cwV 2 hts (gV mw_580 mw_581 mw_582 mw_5 mw_583) rfl rfl rfl (by decide +kernel) ⟨Nat.le_of_ble_eq_true rfl, Nat.le_of_ble_eq_true rfl⟩) ⟨fun a U g mk q => by obtain ⟨q0, q1, qP, qK, qD, qE⟩ := q; exact ⟨q0, q1, qP, va_K.moved (u := U) (U := U.calling g mk a) (Vm.Alike.refl U.vm) qK, qD, GE.calling qE⟩, va_recv hK hP (ci := 8) (q0 := 0) rfl rfl, fun U hU hW => ⟨rfl, by rw [hU], by rw [hU]; exact hPc, va_K.moved hW.alike hK, hDc.weaken (fun _ _ _ _ => trivial), GE.call hE hS hFc hU hW⟩⟩ rfl rfl hl.1 rfl (lv_room (Nat.le_of_ble_eq_true rfl)) dX8_refill_11 ⟨Nat.le_of_ble_eq_true rfl, Nat.le_of_ble_eq_true rfl⟩) hS (fun q _ h => hFc q h) hFc (fun r u t H1 locs ht hvm hw2 hB hz1 hk1 hS => ?_)
  obtain ⟨hP1, hD1⟩ := hB
  rw [ht] at hP1
  obtain ⟨hP, hD⟩ := va_join (wr := [(a1, .inl (cy 1, 1037, .inl g))]) (w1 := [(h0, .inr (8, [.ref a1, .ref a2, .ref a3, .ref a4, .ref a5, .int 0, .int 1, .ref a6, .int 0, .int 0, .int 0, .int 0, .int 0, .int 0, .int 0, .int 0, .int (-1), .ref a7, .ref a8, .int 0, .ref a9, .ref b0, .int 0]))]) hP hD [0] [1] rfl rfl (by decide) (by decide) hk1 hFc hP1 hD1
  generalize H1 = H at hP hS ⊢
  have hP : va_P (dC, dI) vwCl [(a1, .inl (cy 1, 1037, .inl g)), (h0, .inr (8, [.ref a1, .ref a2, .ref a3, .ref a4, .ref a5, .int 0, .int 1, .ref a6, .int 0, .int 0, .int 0, .int 0, .int 0, .int 0, .int 0, .int 0, .int (-1), .ref a7, .ref a8, .int 0, .ref a9, .ref b0, .int 0]))] H := hP
  have hD : va_D A [(a1, .inl (cy 1, 1037, .inl g)), (h0, .inr (8, [.ref a1, .ref a2, .ref a3, .ref a4, .ref a5, .int 0, .int 1, .ref a6, .int 0, .int 0, .int 0, .int 0, .int 0, .int 0, .int 0, .int 0, .int (-1), .ref a7, .ref a8, .int 0, .ref a9, .ref b0, .int 0]))] := hD
  obtain rfl := hw2
  refine W.widen (k := 0) (n := 0) (by omega) (by omega) ?_
  refine lv_if_eq (tgt := 19) hx hb dX8_refill_14 (by decide) (fun h => absurd h (by decide)) (fun _ => ?_)
  refine lv_iconst (v := 0) hx hb dX8_refill_17 (by decide) ?_
  have hP9 := hP.sub (ws' := [(h0, .inr (8, [.ref a1, .ref a2, .ref a3, .ref a4, .ref a5, .int 0, .int 1, .ref a6, .int 0, .int 0, .int 0, .int 0, .int 0, .int 0, .int 0, .int 0, .int (-1), .ref a7, .ref a8, .int 0, .ref a9, .ref b0, .int 0]))]) [1] rfl
  have hD9 := hD.sub (ws' := [(h0, .inr (8, [.ref a1, .ref a2, .ref a3, .ref a4, .ref a5, .int 0, .int 1, .ref a6, .int 0, .int 0, .int 0, .int 0, .int 0, .int 0, .int 0, .int 0, .int (-1), .ref a7, .ref a8, .int 0, .ref a9, .ref b0, .int 0]))]) [1] (by decide) rfl
  refine W.widen (k := 0) (n := 0) (by omega) (by omega) ?_
  exact W.iret (v := 0) hx hb hr (fun t ht hW => ⟨⟨0, (), rfl, rfl, by rw [ht]; exact hP9, hD9⟩, hS.F ht⟩) hS.2.2 dX8_refill_18
set_option maxHeartbeats 4000000 in
set_option maxRecDepth 100000 in
/-- X8_run -/
theorem co_X8_run (l : Launch) (dC : Nat → ClassId) (dI : Nat → Nat → Nat) (cy : Nat → ClassId) (nb : Nat → Nat) (h0 : Nat) (a1 : Nat) (a2 : Nat) (a3 : Nat) (a4 : Nat) (a5 : Nat) (a6 : Nat) (a7 : Nat) (a8 : Nat) (a9 : Nat) (b0 : Nat) (x6 : Int32) (g : Nat → Int32) (z : Int32) (sz : Nat) (hg : FN g) (hz : inB (z).toInt64 1 2000 = 0) : Met l yX8_run (wsg yX8_run cX8_run 3 (some .int)) ({ frames := 15, cells := 0, slots := 0, locals := 1000 }) (va_Pc [.ref h0, .int z] (fun U => U.heap.size = sz ∧ va_P (dC, dI) vwCl [(h0, .inr (8, [.ref a1, .ref a2, .ref a3, .ref a4, .ref a5, .int 0, .int x6, .ref a6, .int 0, .int 0, .int 0, .int 0, .int 0, .int 0, .int 0, .int 0, .int (-1), .ref a7, .ref a8, .int 0, .ref a9, .ref b0, .int 0])), (a1, .inl (cy 1, 1037, .inl g))] U.heap ∧ va_K (dC, dI) vwCl (tyL cy) U ∧ va_D (fun _ => True) [(h0, .inr (8, [.ref a1, .ref a2, .ref a3, .ref a4, .ref a5, .int 0, .int x6, .ref a6, .int 0, .int 0, .int 0, .int 0, .int 0, .int 0, .int 0, .int 0, .int (-1), .ref a7, .ref a8, .int 0, .ref a9, .ref b0, .int 0])), (a1, .inl (cy 1, 1037, .inl g))] ∧ GE nb (va_A [(h0, .inr (8, [.ref a1, .ref a2, .ref a3, .ref a4, .ref a5, .int 0, .int x6, .ref a6, .int 0, .int 0, .int 0, .int 0, .int 0, .int 0, .int 0, .int 0, .int (-1), .ref a7, .ref a8, .int 0, .ref a9, .ref b0, .int 0])), (a1, .inl (cy 1, 1037, .inl g))] sz) U)) (va_Qi (fun (r : Int32) (_ : Unit) => r = 0) (fun _ t => va_P (dC, dI) vwCl [(h0, .inr (8, [.ref a1, .ref a2, .ref a3, .ref a4, .ref a5, .int 0, .int 1, .ref a6, .int 0, .int 0, .int 0, .int 0, .int 0, .int 0, .int 0, .int 0, .int (-1), .ref a7, .ref a8, .int 0, .ref a9, .ref b0, .int 0]))] t.heap ∧ va_D (va_A [(h0, .inr (8, [.ref a1, .ref a2, .ref a3, .ref a4, .ref a5, .int 0, .int x6, .ref a6, .int 0, .int 0, .int 0, .int 0, .int 0, .int 0, .int 0, .int 0, .int (-1), .ref a7, .ref a8, .int 0, .ref a9, .ref b0, .int 0])), (a1, .inl (cy 1, 1037, .inl g))] sz) [(h0, .inr (8, [.ref a1, .ref a2, .ref a3, .ref a4, .ref a5, .int 0, .int 1, .ref a6, .int 0, .int 0, .int 0, .int 0, .int 0, .int 0, .int 0, .int 0, .int (-1), .ref a7, .ref a8, .int 0, .ref a9, .ref b0, .int 0]))]) (va_A [(h0, .inr (8, [.ref a1, .ref a2, .ref a3, .ref a4, .ref a5, .int 0, .int x6, .ref a6, .int 0, .int 0, .int 0, .int 0, .int 0, .int 0, .int 0, .int 0, .int (-1), .ref a7, .ref a8, .int 0, .ref a9, .ref b0, .int 0])), (a1, .inl (cy 1, 1037, .inl g))] sz)) 0 0 (va_A [(h0, .inr (8, [.ref a1, .ref a2, .ref a3, .ref a4, .ref a5, .int 0, .int x6, .ref a6, .int 0, .int 0, .int 0, .int 0, .int 0, .int 0, .int 0, .int 0, .int (-1), .ref a7, .ref a8, .int 0, .ref a9, .ref b0, .int 0])), (a1, .inl (cy 1, 1037, .inl g))] sz) := by
  refine Met.ofW (cc := cX8_run) (maxL := 3) (ret := (some .int)) (by decide) rfl ?_
  intro p e s m args below meth c s₁ B hml hv
  obtain ⟨rfl, hsz, hP, hK, hD0, hE⟩ := hv
  have hx := B.exec
  have hb := B.bytes
  have hr := B.returns
  have hts0 := atoms_spec (ws := (wsg yX8_run cX8_run 3 (some .int))) B.pre
  have hts : ∀ w ∈ wsL_law, w.before _ s = true := fun w h => hts0 w (List.mem_cons_of_mem _ h)
  have hown : s.vm.findClass RX8 = some m.cls := findClass_of_methodNamed B.named
  have hlocks := B.notSynchronized
  subst hsz
  have hD := hD0.self (sz := s.heap.size)
  generalize hAe : va_A [(h0, .inr (8, [.ref a1, .ref a2, .ref a3, .ref a4, .ref a5, .int 0, .int x6, .ref a6, .int 0, .int 0, .int 0, .int 0, .int 0, .int 0, .int 0, .int 0, .int (-1), .ref a7, .ref a8, .int 0, .ref a9, .ref b0, .int 0])), (a1, .inl (cy 1, 1037, .inl g))] s.heap.size = A at hD hE ⊢
  have hA : ∀ q : Nat, s.heap.size ≤ q → A q := fun q h => by rw [← hAe]; exact Or.inr h
  have hS : va_S A s.heap s.heap [] := va_S.rf
  have hP : va_P (dC, dI) vwCl [(h0, .inr (8, [.ref a1, .ref a2, .ref a3, .ref a4, .ref a5, .int 0, .int x6, .ref a6, .int 0, .int 0, .int 0, .int 0, .int 0, .int 0, .int 0, .int 0, .int (-1), .ref a7, .ref a8, .int 0, .ref a9, .ref b0, .int 0])), (a1, .inl (cy 1, 1037, .inl g))] s.heap := hP
  have hl := lv_entry ([.ref h0, .int z]) (n := 3) (Nat.le_of_ble_eq_true rfl)
  rw [lg_entry_eq]
  generalize (lg_sl ([.ref h0, .int z]) ++ List.replicate (3 - (lg_sl ([.ref h0, .int z])).length) Slot.unset).toArray = ls at hl ⊢
  have hl : lv_has ls 3 [(0, .ref h0), (1, .int z)] := hl
  generalize hHe : s.heap = H at hP hS ⊢
  have hS : va_S A s.heap H [] := by rw [hHe]; exact hS
  refine lv_aload_n hx hb dX8_run_0 rfl (lv_at hl 0 rfl) ?_
  refine lv_iload_n hx hb dX8_run_1 rfl (lv_at hl 1 rfl) ?_
  refine lv_i2l (v := (z).toInt64) hx hb dX8_run_2 rfl ?_
  refine lv_lconst (v := 1) hx hb dX8_run_3 (by decide) ?_
  refine lv_ldc2 hx hb hown (hts _ mw_1230) dX8_run_4 ?_
  have hPc := hP.sub (ws' := []) [] rfl
  have hDc := hD.sub (ws' := []) [] (by decide) rfl
  have hFc := va_free (wc := []) hD hS hA [] rfl
  refine va_calli (va_runS (As := [.long (z).toInt64, .long 1, .long 2000]) (rest := [.ref h0]) ⟨hx, hb, hml, hown, hts⟩ (c_X8_in l dC dI cy nb (z).toInt64 1 2000 H.size) (va_cwS 3 hts (gS mw_445 mw_446 mw_5 mw_447) rfl rfl rfl (by decide +kernel) ⟨Nat.le_of_ble_eq_true rfl, Nat.le_of_ble_eq_true rfl⟩) ⟨fun a U g mk q => by obtain ⟨q0, q1, qP, qK, qD, qE⟩ := q; exact ⟨q0, q1, qP, va_K.moved (u := U) (U := U.calling g mk a) (Vm.Alike.refl U.vm) qK, qD, GE.calling qE⟩, fun U hU hW => ⟨rfl, by rw [hU], by rw [hU]; exact hPc, va_K.moved hW.alike hK, hDc.weaken (fun _ _ _ _ => trivial), GE.call hE hS hFc hU hW⟩⟩ rfl rfl hl.1 rfl (lv_room (Nat.le_of_ble_eq_true rfl)) dX8_run_7 ⟨Nat.le_of_ble_eq_true rfl, Nat.le_of_ble_eq_true rfl⟩) hS (fun q _ h => hFc q h) hFc (fun r u t H1 locs ht hvm hw1 hB hz1 hk1 hS => ?_)
  obtain ⟨hP1, hD1⟩ := hB
  rw [ht] at hP1
  obtain ⟨hP, hD⟩ := va_join (wr := [(h0, .inr (8, [.ref a1, .ref a2, .ref a3, .ref a4, .ref a5, .int 0, .int x6, .ref a6, .int 0, .int 0, .int 0, .int 0, .int 0, .int 0, .int 0, .int 0, .int (-1), .ref a7, .ref a8, .int 0, .ref a9, .ref b0, .int 0])), (a1, .inl (cy 1, 1037, .inl g))]) (w1 := []) hP hD [] [0, 1] rfl rfl (by decide) (by decide) hk1 hFc hP1 hD1
  generalize H1 = H at hP hS ⊢
  have hP : va_P (dC, dI) vwCl [(h0, .inr (8, [.ref a1, .ref a2, .ref a3, .ref a4, .ref a5, .int 0, .int x6, .ref a6, .int 0, .int 0, .int 0, .int 0, .int 0, .int 0, .int 0, .int 0, .int (-1), .ref a7, .ref a8, .int 0, .ref a9, .ref b0, .int 0])), (a1, .inl (cy 1, 1037, .inl g))] H := hP
  have hD : va_D A [(h0, .inr (8, [.ref a1, .ref a2, .ref a3, .ref a4, .ref a5, .int 0, .int x6, .ref a6, .int 0, .int 0, .int 0, .int 0, .int 0, .int 0, .int 0, .int 0, .int (-1), .ref a7, .ref a8, .int 0, .ref a9, .ref b0, .int 0])), (a1, .inl (cy 1, 1037, .inl g))] := hD
  obtain rfl := hw1
  refine my_topi (y := 0) (by exact hz) ?_
  refine W.widen (k := 0) (n := 0) (by omega) (by omega) ?_
  refine lv_iconst (v := 1) hx hb dX8_run_10 (by decide) ?_
  have hPc := hP.sub (ws' := [(h0, .inr (8, [.ref a1, .ref a2, .ref a3, .ref a4, .ref a5, .int 0, .int x6, .ref a6, .int 0, .int 0, .int 0, .int 0, .int 0, .int 0, .int 0, .int 0, .int (-1), .ref a7, .ref a8, .int 0, .ref a9, .ref b0, .int 0]))]) [0] rfl
  have hDc := hD.sub (ws' := [(h0, .inr (8, [.ref a1, .ref a2, .ref a3, .ref a4, .ref a5, .int 0, .int x6, .ref a6, .int 0, .int 0, .int 0, .int 0, .int 0, .int 0, .int 0, .int 0, .int (-1), .ref a7, .ref a8, .int 0, .ref a9, .ref b0, .int 0]))]) [0] (by decide) rfl
  have hFc := va_free (wc := [(h0, .inr (8, [.ref a1, .ref a2, .ref a3, .ref a4, .ref a5, .int 0, .int x6, .ref a6, .int 0, .int 0, .int 0, .int 0, .int 0, .int 0, .int 0, .int 0, .int (-1), .ref a7, .ref a8, .int 0, .ref a9, .ref b0, .int 0]))]) hD hS hA [0] rfl
  refine va_calli (va_runV (As := [.int 0, .int 1]) (rest := []) ⟨hx, hb, hml, hown, hts⟩ (c_X8_isThrown_0 l dC dI cy nb h0 (.ref a1) (.ref a2) (.ref a3) (.ref a4) (.ref a5) (.int 0) (.ref a6) (.int 0) (.int 0) (.int 0) (.int 0) (.int 0) (.int 0) (.int 0) (.int 0) (.int (-1)) (.ref a7) (.ref a8) (.int 0) (.ref a9) (.ref b0) (.int 0) x6 1 H.size) (cwV 2 hts (gV mw_580 mw_581 mw_582 mw_5 mw_583) rfl rfl rfl (by decide +kernel) ⟨Nat.le_of_ble_eq_true rfl, Nat.le_of_ble_eq_true rfl⟩) ⟨fun a U g mk q => by obtain ⟨q0, q1, qP, qK, qD, qE⟩ := q; exact ⟨q0, q1, qP, va_K.moved (u := U) (U := U.calling g mk a) (Vm.Alike.refl U.vm) qK, qD, GE.calling qE⟩, va_recv hK hP (ci := 8) (q0 := 0) rfl rfl, fun U hU hW => ⟨rfl, by rw [hU], by rw [hU]; exact hPc, va_K.moved hW.alike hK, hDc.weaken (fun _ _ _ _ => trivial), GE.call hE hS hFc hU hW⟩⟩ rfl rfl hl.1 rfl (lv_room (Nat.le_of_ble_eq_true rfl)) dX8_run_11 ⟨Nat.le_of_ble_eq_true rfl, Nat.le_of_ble_eq_true rfl⟩) hS (fun q _ h => hFc q h) hFc (fun r u t H1 locs ht hvm hw2 hB hz1 hk1 hS => ?_)
  obtain ⟨hP1, hD1⟩ := hB
  rw [ht] at hP1
  obtain ⟨hP, hD⟩ := va_join (wr := [(a1, .inl (cy 1, 1037, .inl g))]) (w1 := [(h0, .inr (8, [.ref a1, .ref a2, .ref a3, .ref a4, .ref a5, .int 0, .int 1, .ref a6, .int 0, .int 0, .int 0, .int 0, .int 0, .int 0, .int 0, .int 0, .int (-1), .ref a7, .ref a8, .int 0, .ref a9, .ref b0, .int 0]))]) hP hD [0] [1] rfl rfl (by decide) (by decide) hk1 hFc hP1 hD1
  generalize H1 = H at hP hS ⊢
  have hP : va_P (dC, dI) vwCl [(a1, .inl (cy 1, 1037, .inl g)), (h0, .inr (8, [.ref a1, .ref a2, .ref a3, .ref a4, .ref a5, .int 0, .int 1, .ref a6, .int 0, .int 0, .int 0, .int 0, .int 0, .int 0, .int 0, .int 0, .int (-1), .ref a7, .ref a8, .int 0, .ref a9, .ref b0, .int 0]))] H := hP
  have hD : va_D A [(a1, .inl (cy 1, 1037, .inl g)), (h0, .inr (8, [.ref a1, .ref a2, .ref a3, .ref a4, .ref a5, .int 0, .int 1, .ref a6, .int 0, .int 0, .int 0, .int 0, .int 0, .int 0, .int 0, .int 0, .int (-1), .ref a7, .ref a8, .int 0, .ref a9, .ref b0, .int 0]))] := hD
  obtain rfl := hw2
  refine W.widen (k := 0) (n := 0) (by omega) (by omega) ?_
  refine lv_if_eq (tgt := 19) hx hb dX8_run_14 (by decide) (fun h => absurd h (by decide)) (fun _ => ?_)
  refine lv_iconst (v := 0) hx hb dX8_run_17 (by decide) ?_
  have hP9 := hP.sub (ws' := [(h0, .inr (8, [.ref a1, .ref a2, .ref a3, .ref a4, .ref a5, .int 0, .int 1, .ref a6, .int 0, .int 0, .int 0, .int 0, .int 0, .int 0, .int 0, .int 0, .int (-1), .ref a7, .ref a8, .int 0, .ref a9, .ref b0, .int 0]))]) [1] rfl
  have hD9 := hD.sub (ws' := [(h0, .inr (8, [.ref a1, .ref a2, .ref a3, .ref a4, .ref a5, .int 0, .int 1, .ref a6, .int 0, .int 0, .int 0, .int 0, .int 0, .int 0, .int 0, .int 0, .int (-1), .ref a7, .ref a8, .int 0, .ref a9, .ref b0, .int 0]))]) [1] (by decide) rfl
  refine W.widen (k := 0) (n := 0) (by omega) (by omega) ?_
  exact W.iret (v := 0) hx hb hr (fun t ht hW => ⟨⟨0, (), rfl, rfl, by rw [ht]; exact hP9, hD9⟩, hS.F ht⟩) hS.2.2 dX8_run_18
set_option maxHeartbeats 4000000 in
set_option maxRecDepth 100000 in
/-- X8_runToLeave -/
theorem co_X8_runToLeave (l : Launch) (dC : Nat → ClassId) (dI : Nat → Nat → Nat) (cy : Nat → ClassId) (nb : Nat → Nat) (h0 : Nat) (a1 : Nat) (a2 : Nat) (a3 : Nat) (a4 : Nat) (a5 : Nat) (a6 : Nat) (a7 : Nat) (a8 : Nat) (a9 : Nat) (b0 : Nat) (x6 : Int32) (g : Nat → Int32) (z : Int32) (sz : Nat) (hg : FN g) (hz : inB (z).toInt64 1 2000 = 0) : Met l yX8_runToLeave (wsg yX8_runToLeave cX8_runToLeave 4 (some .int)) ({ frames := 15, cells := 0, slots := 0, locals := 1000 }) (va_Pc [.ref h0, .int z] (fun U => U.heap.size = sz ∧ va_P (dC, dI) vwCl [(h0, .inr (8, [.ref a1, .ref a2, .ref a3, .ref a4, .ref a5, .int 0, .int x6, .ref a6, .int 0, .int 0, .int 0, .int 0, .int 0, .int 0, .int 0, .int 0, .int (-1), .ref a7, .ref a8, .int 0, .ref a9, .ref b0, .int 0])), (a1, .inl (cy 1, 1037, .inl g))] U.heap ∧ va_K (dC, dI) vwCl (tyL cy) U ∧ va_D (fun _ => True) [(h0, .inr (8, [.ref a1, .ref a2, .ref a3, .ref a4, .ref a5, .int 0, .int x6, .ref a6, .int 0, .int 0, .int 0, .int 0, .int 0, .int 0, .int 0, .int 0, .int (-1), .ref a7, .ref a8, .int 0, .ref a9, .ref b0, .int 0])), (a1, .inl (cy 1, 1037, .inl g))] ∧ GE nb (va_A [(h0, .inr (8, [.ref a1, .ref a2, .ref a3, .ref a4, .ref a5, .int 0, .int x6, .ref a6, .int 0, .int 0, .int 0, .int 0, .int 0, .int 0, .int 0, .int 0, .int (-1), .ref a7, .ref a8, .int 0, .ref a9, .ref b0, .int 0])), (a1, .inl (cy 1, 1037, .inl g))] sz) U)) (va_Qi (fun (r : Int32) (_ : Unit) => r = 0) (fun _ t => va_P (dC, dI) vwCl [(h0, .inr (8, [.ref a1, .ref a2, .ref a3, .ref a4, .ref a5, .int 0, .int 1, .ref a6, .int 0, .int 0, .int 0, .int 0, .int 0, .int 0, .int 0, .int 0, .int (-1), .ref a7, .ref a8, .int 0, .ref a9, .ref b0, .int 0]))] t.heap ∧ va_D (va_A [(h0, .inr (8, [.ref a1, .ref a2, .ref a3, .ref a4, .ref a5, .int 0, .int x6, .ref a6, .int 0, .int 0, .int 0, .int 0, .int 0, .int 0, .int 0, .int 0, .int (-1), .ref a7, .ref a8, .int 0, .ref a9, .ref b0, .int 0])), (a1, .inl (cy 1, 1037, .inl g))] sz) [(h0, .inr (8, [.ref a1, .ref a2, .ref a3, .ref a4, .ref a5, .int 0, .int 1, .ref a6, .int 0, .int 0, .int 0, .int 0, .int 0, .int 0, .int 0, .int 0, .int (-1), .ref a7, .ref a8, .int 0, .ref a9, .ref b0, .int 0]))]) (va_A [(h0, .inr (8, [.ref a1, .ref a2, .ref a3, .ref a4, .ref a5, .int 0, .int x6, .ref a6, .int 0, .int 0, .int 0, .int 0, .int 0, .int 0, .int 0, .int 0, .int (-1), .ref a7, .ref a8, .int 0, .ref a9, .ref b0, .int 0])), (a1, .inl (cy 1, 1037, .inl g))] sz)) 0 0 (va_A [(h0, .inr (8, [.ref a1, .ref a2, .ref a3, .ref a4, .ref a5, .int 0, .int x6, .ref a6, .int 0, .int 0, .int 0, .int 0, .int 0, .int 0, .int 0, .int 0, .int (-1), .ref a7, .ref a8, .int 0, .ref a9, .ref b0, .int 0])), (a1, .inl (cy 1, 1037, .inl g))] sz) := by
  refine Met.ofW (cc := cX8_runToLeave) (maxL := 4) (ret := (some .int)) (by decide) rfl ?_
  intro p e s m args below meth c s₁ B hml hv
  obtain ⟨rfl, hsz, hP, hK, hD0, hE⟩ := hv
  have hx := B.exec
  have hb := B.bytes
  have hr := B.returns
  have hts0 := atoms_spec (ws := (wsg yX8_runToLeave cX8_runToLeave 4 (some .int))) B.pre
  have hts : ∀ w ∈ wsL_law, w.before _ s = true := fun w h => hts0 w (List.mem_cons_of_mem _ h)
  have hown : s.vm.findClass RX8 = some m.cls := findClass_of_methodNamed B.named
  have hlocks := B.notSynchronized
  subst hsz
  have hD := hD0.self (sz := s.heap.size)
  generalize hAe : va_A [(h0, .inr (8, [.ref a1, .ref a2, .ref a3, .ref a4, .ref a5, .int 0, .int x6, .ref a6, .int 0, .int 0, .int 0, .int 0, .int 0, .int 0, .int 0, .int 0, .int (-1), .ref a7, .ref a8, .int 0, .ref a9, .ref b0, .int 0])), (a1, .inl (cy 1, 1037, .inl g))] s.heap.size = A at hD hE ⊢
  have hA : ∀ q : Nat, s.heap.size ≤ q → A q := fun q h => by rw [← hAe]; exact Or.inr h
  have hS : va_S A s.heap s.heap [] := va_S.rf
  have hP : va_P (dC, dI) vwCl [(h0, .inr (8, [.ref a1, .ref a2, .ref a3, .ref a4, .ref a5, .int 0, .int x6, .ref a6, .int 0, .int 0, .int 0, .int 0, .int 0, .int 0, .int 0, .int 0, .int (-1), .ref a7, .ref a8, .int 0, .ref a9, .ref b0, .int 0])), (a1, .inl (cy 1, 1037, .inl g))] s.heap := hP
  have hl := lv_entry ([.ref h0, .int z]) (n := 4) (Nat.le_of_ble_eq_true rfl)
  rw [lg_entry_eq]
  generalize (lg_sl ([.ref h0, .int z]) ++ List.replicate (4 - (lg_sl ([.ref h0, .int z])).length) Slot.unset).toArray = ls at hl ⊢
  have hl : lv_has ls 4 [(0, .ref h0), (1, .int z)] := hl
  generalize hHe : s.heap = H at hP hS ⊢
  have hS : va_S A s.heap H [] := by rw [hHe]; exact hS
  refine lv_aload_n hx hb dX8_runToLeave_0 rfl (lv_at hl 0 rfl) ?_
  refine lv_iload_n hx hb dX8_runToLeave_1 rfl (lv_at hl 1 rfl) ?_
  refine lv_i2l (v := (z).toInt64) hx hb dX8_runToLeave_2 rfl ?_
  refine lv_lconst (v := 1) hx hb dX8_runToLeave_3 (by decide) ?_
  refine lv_ldc2 hx hb hown (hts _ mw_1230) dX8_runToLeave_4 ?_
  have hPc := hP.sub (ws' := []) [] rfl
  have hDc := hD.sub (ws' := []) [] (by decide) rfl
  have hFc := va_free (wc := []) hD hS hA [] rfl
  refine va_calli (va_runS (As := [.long (z).toInt64, .long 1, .long 2000]) (rest := [.ref h0]) ⟨hx, hb, hml, hown, hts⟩ (c_X8_in l dC dI cy nb (z).toInt64 1 2000 H.size) (va_cwS 3 hts (gS mw_445 mw_446 mw_5 mw_447) rfl rfl rfl (by decide +kernel) ⟨Nat.le_of_ble_eq_true rfl, Nat.le_of_ble_eq_true rfl⟩) ⟨fun a U g mk q => by obtain ⟨q0, q1, qP, qK, qD, qE⟩ := q; exact ⟨q0, q1, qP, va_K.moved (u := U) (U := U.calling g mk a) (Vm.Alike.refl U.vm) qK, qD, GE.calling qE⟩, fun U hU hW => ⟨rfl, by rw [hU], by rw [hU]; exact hPc, va_K.moved hW.alike hK, hDc.weaken (fun _ _ _ _ => trivial), GE.call hE hS hFc hU hW⟩⟩ rfl rfl hl.1 rfl (lv_room (Nat.le_of_ble_eq_true rfl)) dX8_runToLeave_7 ⟨Nat.le_of_ble_eq_true rfl, Nat.le_of_ble_eq_true rfl⟩) hS (fun q _ h => hFc q h) hFc (fun r u t H1 locs ht hvm hw1 hB hz1 hk1 hS => ?_)
  obtain ⟨hP1, hD1⟩ := hB
  rw [ht] at hP1
  obtain ⟨hP, hD⟩ := va_join (wr := [(h0, .inr (8, [.ref a1, .ref a2, .ref a3, .ref a4, .ref a5, .int 0, .int x6, .ref a6, .int 0, .int 0, .int 0, .int 0, .int 0, .int 0, .int 0, .int 0, .int (-1), .ref a7, .ref a8, .int 0, .ref a9, .ref b0, .int 0])), (a1, .inl (cy 1, 1037, .inl g))]) (w1 := []) hP hD [] [0, 1] rfl rfl (by decide) (by decide) hk1 hFc hP1 hD1
  generalize H1 = H at hP hS ⊢
  have hP : va_P (dC, dI) vwCl [(h0, .inr (8, [.ref a1, .ref a2, .ref a3, .ref a4, .ref a5, .int 0, .int x6, .ref a6, .int 0, .int 0, .int 0, .int 0, .int 0, .int 0, .int 0, .int 0, .int (-1), .ref a7, .ref a8, .int 0, .ref a9, .ref b0, .int 0])), (a1, .inl (cy 1, 1037, .inl g))] H := hP
  have hD : va_D A [(h0, .inr (8, [.ref a1, .ref a2, .ref a3, .ref a4, .ref a5, .int 0, .int x6, .ref a6, .int 0, .int 0, .int 0, .int 0, .int 0, .int 0, .int 0, .int 0, .int (-1), .ref a7, .ref a8, .int 0, .ref a9, .ref b0, .int 0])), (a1, .inl (cy 1, 1037, .inl g))] := hD
  obtain rfl := hw1
  refine my_topi (y := 0) (by exact hz) ?_
  refine W.widen (k := 0) (n := 0) (by omega) (by omega) ?_
  refine lv_iconst (v := 1) hx hb dX8_runToLeave_10 (by decide) ?_
  have hPc := hP.sub (ws' := [(h0, .inr (8, [.ref a1, .ref a2, .ref a3, .ref a4, .ref a5, .int 0, .int x6, .ref a6, .int 0, .int 0, .int 0, .int 0, .int 0, .int 0, .int 0, .int 0, .int (-1), .ref a7, .ref a8, .int 0, .ref a9, .ref b0, .int 0]))]) [0] rfl
  have hDc := hD.sub (ws' := [(h0, .inr (8, [.ref a1, .ref a2, .ref a3, .ref a4, .ref a5, .int 0, .int x6, .ref a6, .int 0, .int 0, .int 0, .int 0, .int 0, .int 0, .int 0, .int 0, .int (-1), .ref a7, .ref a8, .int 0, .ref a9, .ref b0, .int 0]))]) [0] (by decide) rfl
  have hFc := va_free (wc := [(h0, .inr (8, [.ref a1, .ref a2, .ref a3, .ref a4, .ref a5, .int 0, .int x6, .ref a6, .int 0, .int 0, .int 0, .int 0, .int 0, .int 0, .int 0, .int 0, .int (-1), .ref a7, .ref a8, .int 0, .ref a9, .ref b0, .int 0]))]) hD hS hA [0] rfl
  refine va_calli (va_runV (As := [.int 0, .int 1]) (rest := []) ⟨hx, hb, hml, hown, hts⟩ (c_X8_isThrown_0 l dC dI cy nb h0 (.ref a1) (.ref a2) (.ref a3) (.ref a4) (.ref a5) (.int 0) (.ref a6) (.int 0) (.int 0) (.int 0) (.int 0) (.int 0) (.int 0) (.int 0) (.int 0) (.int (-1)) (.ref a7) (.ref a8) (.int 0) (.ref a9) (.ref b0) (.int 0) x6 1 H.size) (cwV 2 hts (gV mw_580 mw_581 mw_582 mw_5 mw_583) rfl rfl rfl (by decide +kernel) ⟨Nat.le_of_ble_eq_true rfl, Nat.le_of_ble_eq_true rfl⟩) ⟨fun a U g mk q => by obtain ⟨q0, q1, qP, qK, qD, qE⟩ := q; exact ⟨q0, q1, qP, va_K.moved (u := U) (U := U.calling g mk a) (Vm.Alike.refl U.vm) qK, qD, GE.calling qE⟩, va_recv hK hP (ci := 8) (q0 := 0) rfl rfl, fun U hU hW => ⟨rfl, by rw [hU], by rw [hU]; exact hPc, va_K.moved hW.alike hK, hDc.weaken (fun _ _ _ _ => trivial), GE.call hE hS hFc hU hW⟩⟩ rfl rfl hl.1 rfl (lv_room (Nat.le_of_ble_eq_true rfl)) dX8_runToLeave_11 ⟨Nat.le_of_ble_eq_true rfl, Nat.le_of_ble_eq_true rfl⟩) hS (fun q _ h => hFc q h) hFc (fun r u t H1 locs ht hvm hw2 hB hz1 hk1 hS => ?_)
  obtain ⟨hP1, hD1⟩ := hB
  rw [ht] at hP1
  obtain ⟨hP, hD⟩ := va_join (wr := [(a1, .inl (cy 1, 1037, .inl g))]) (w1 := [(h0, .inr (8, [.ref a1, .ref a2, .ref a3, .ref a4, .ref a5, .int 0, .int 1, .ref a6, .int 0, .int 0, .int 0, .int 0, .int 0, .int 0, .int 0, .int 0, .int (-1), .ref a7, .ref a8, .int 0, .ref a9, .ref b0, .int 0]))]) hP hD [0] [1] rfl rfl (by decide) (by decide) hk1 hFc hP1 hD1
  generalize H1 = H at hP hS ⊢
  have hP : va_P (dC, dI) vwCl [(a1, .inl (cy 1, 1037, .inl g)), (h0, .inr (8, [.ref a1, .ref a2, .ref a3, .ref a4, .ref a5, .int 0, .int 1, .ref a6, .int 0, .int 0, .int 0, .int 0, .int 0, .int 0, .int 0, .int 0, .int (-1), .ref a7, .ref a8, .int 0, .ref a9, .ref b0, .int 0]))] H := hP
  have hD : va_D A [(a1, .inl (cy 1, 1037, .inl g)), (h0, .inr (8, [.ref a1, .ref a2, .ref a3, .ref a4, .ref a5, .int 0, .int 1, .ref a6, .int 0, .int 0, .int 0, .int 0, .int 0, .int 0, .int 0, .int 0, .int (-1), .ref a7, .ref a8, .int 0, .ref a9, .ref b0, .int 0]))] := hD
  obtain rfl := hw2
  refine W.widen (k := 0) (n := 0) (by omega) (by omega) ?_
  refine lv_if_eq (tgt := 19) hx hb dX8_runToLeave_14 (by decide) (fun h => absurd h (by decide)) (fun _ => ?_)
  refine lv_iconst (v := 0) hx hb dX8_runToLeave_17 (by decide) ?_
  have hP9 := hP.sub (ws' := [(h0, .inr (8, [.ref a1, .ref a2, .ref a3, .ref a4, .ref a5, .int 0, .int 1, .ref a6, .int 0, .int 0, .int 0, .int 0, .int 0, .int 0, .int 0, .int 0, .int (-1), .ref a7, .ref a8, .int 0, .ref a9, .ref b0, .int 0]))]) [1] rfl
  have hD9 := hD.sub (ws' := [(h0, .inr (8, [.ref a1, .ref a2, .ref a3, .ref a4, .ref a5, .int 0, .int 1, .ref a6, .int 0, .int 0, .int 0, .int 0, .int 0, .int 0, .int 0, .int 0, .int (-1), .ref a7, .ref a8, .int 0, .ref a9, .ref b0, .int 0]))]) [1] (by decide) rfl
  refine W.widen (k := 0) (n := 0) (by omega) (by omega) ?_
  exact W.iret (v := 0) hx hb hr (fun t ht hW => ⟨⟨0, (), rfl, rfl, by rw [ht]; exact hP9, hD9⟩, hS.F ht⟩) hS.2.2 dX8_runToLeave_18
set_option maxHeartbeats 4000000 in
set_option maxRecDepth 100000 in
/-- X8_leftIn -/
theorem co_X8_leftIn (l : Launch) (dC : Nat → ClassId) (dI : Nat → Nat → Nat) (cy : Nat → ClassId) (nb : Nat → Nat) (h0 : Nat) (a1 : Nat) (a2 : Nat) (a3 : Nat) (a4 : Nat) (a5 : Nat) (a6 : Nat) (a7 : Nat) (a8 : Nat) (a9 : Nat) (b0 : Nat) (x6 : Int32) (g : Nat → Int32) (z : Int32) (sz : Nat) (hg : FN g) (hz : inB (z).toInt64 1 2000 = 0) : Met l yX8_leftIn (wsg yX8_leftIn cX8_leftIn 2 (some .int)) ({ frames := 15, cells := 0, slots := 0, locals := 1000 }) (va_Pc [.ref h0, .int z] (fun U => U.heap.size = sz ∧ va_P (dC, dI) vwCl [(h0, .inr (8, [.ref a1, .ref a2, .ref a3, .ref a4, .ref a5, .int 0, .int x6, .ref a6, .int 0, .int 0, .int 0, .int 0, .int 0, .int 0, .int 0, .int 0, .int (-1), .ref a7, .ref a8, .int 0, .ref a9, .ref b0, .int 0])), (a1, .inl (cy 1, 1037, .inl g))] U.heap ∧ va_K (dC, dI) vwCl (tyL cy) U ∧ va_D (fun _ => True) [(h0, .inr (8, [.ref a1, .ref a2, .ref a3, .ref a4, .ref a5, .int 0, .int x6, .ref a6, .int 0, .int 0, .int 0, .int 0, .int 0, .int 0, .int 0, .int 0, .int (-1), .ref a7, .ref a8, .int 0, .ref a9, .ref b0, .int 0])), (a1, .inl (cy 1, 1037, .inl g))] ∧ GE nb (va_A [(h0, .inr (8, [.ref a1, .ref a2, .ref a3, .ref a4, .ref a5, .int 0, .int x6, .ref a6, .int 0, .int 0, .int 0, .int 0, .int 0, .int 0, .int 0, .int 0, .int (-1), .ref a7, .ref a8, .int 0, .ref a9, .ref b0, .int 0])), (a1, .inl (cy 1, 1037, .inl g))] sz) U)) (va_Qi (fun (r : Int32) (_ : Unit) => r = 0) (fun _ t => va_P (dC, dI) vwCl [(h0, .inr (8, [.ref a1, .ref a2, .ref a3, .ref a4, .ref a5, .int 0, .int 1, .ref a6, .int 0, .int 0, .int 0, .int 0, .int 0, .int 0, .int 0, .int 0, .int (-1), .ref a7, .ref a8, .int 0, .ref a9, .ref b0, .int 0]))] t.heap ∧ va_D (va_A [(h0, .inr (8, [.ref a1, .ref a2, .ref a3, .ref a4, .ref a5, .int 0, .int x6, .ref a6, .int 0, .int 0, .int 0, .int 0, .int 0, .int 0, .int 0, .int 0, .int (-1), .ref a7, .ref a8, .int 0, .ref a9, .ref b0, .int 0])), (a1, .inl (cy 1, 1037, .inl g))] sz) [(h0, .inr (8, [.ref a1, .ref a2, .ref a3, .ref a4, .ref a5, .int 0, .int 1, .ref a6, .int 0, .int 0, .int 0, .int 0, .int 0, .int 0, .int 0, .int 0, .int (-1), .ref a7, .ref a8, .int 0, .ref a9, .ref b0, .int 0]))]) (va_A [(h0, .inr (8, [.ref a1, .ref a2, .ref a3, .ref a4, .ref a5, .int 0, .int x6, .ref a6, .int 0, .int 0, .int 0, .int 0, .int 0, .int 0, .int 0, .int 0, .int (-1), .ref a7, .ref a8, .int 0, .ref a9, .ref b0, .int 0])), (a1, .inl (cy 1, 1037, .inl g))] sz)) 0 0 (va_A [(h0, .inr (8, [.ref a1, .ref a2, .ref a3, .ref a4, .ref a5, .int 0, .int x6, .ref a6, .int 0, .int 0, .int 0, .int 0, .int 0, .int 0, .int 0, .int 0, .int (-1), .ref a7, .ref a8, .int 0, .ref a9, .ref b0, .int 0])), (a1, .inl (cy 1, 1037, .inl g))] sz) := by
  refine Met.ofW (cc := cX8_leftIn) (maxL := 2) (ret := (some .int)) (by decide) rfl ?_
  intro p e s m args below meth c s₁ B hml hv
  obtain ⟨rfl, hsz, hP, hK, hD0, hE⟩ := hv
  have hx := B.exec
  have hb := B.bytes
  have hr := B.returns
  have hts0 := atoms_spec (ws := (wsg yX8_leftIn cX8_leftIn 2 (some .int))) B.pre
  have hts : ∀ w ∈ wsL_law, w.before _ s = true := fun w h => hts0 w (List.mem_cons_of_mem _ h)
  have hown : s.vm.findClass RX8 = some m.cls := findClass_of_methodNamed B.named
  have hlocks := B.notSynchronized
  subst hsz
  have hD := hD0.self (sz := s.heap.size)
  generalize hAe : va_A [(h0, .inr (8, [.ref a1, .ref a2, .ref a3, .ref a4, .ref a5, .int 0, .int x6, .ref a6, .int 0, .int 0, .int 0, .int 0, .int 0, .int 0, .int 0, .int 0, .int (-1), .ref a7, .ref a8, .int 0, .ref a9, .ref b0, .int 0])), (a1, .inl (cy 1, 1037, .inl g))] s.heap.size = A at hD hE ⊢
  have hA : ∀ q : Nat, s.heap.size ≤ q → A q := fun q h => by rw [← hAe]; exact Or.inr h
  have hS : va_S A s.heap s.heap [] := va_S.rf
  have hP : va_P (dC, dI) vwCl [(h0, .inr (8, [.ref a1, .ref a2, .ref a3, .ref a4, .ref a5, .int 0, .int x6, .ref a6, .int 0, .int 0, .int 0, .int 0, .int 0, .int 0, .int 0, .int 0, .int (-1), .ref a7, .ref a8, .int 0, .ref a9, .ref b0, .int 0])), (a1, .inl (cy 1, 1037, .inl g))] s.heap := hP
  have hl := lv_entry ([.ref h0, .int z]) (n := 2) (Nat.le_of_ble_eq_true rfl)
  rw [lg_entry_eq]
  generalize (lg_sl ([.ref h0, .int z]) ++ List.replicate (2 - (lg_sl ([.ref h0, .int z])).length) Slot.unset).toArray = ls at hl ⊢
  have hl : lv_has ls 2 [(0, .ref h0), (1, .int z)] := hl
  generalize hHe : s.heap = H at hP hS ⊢
  have hS : va_S A s.heap H [] := by rw [hHe]; exact hS
  refine lv_aload_n hx hb dX8_leftIn_0 rfl (lv_at hl 0 rfl) ?_
  refine lv_iload_n hx hb dX8_leftIn_1 rfl (lv_at hl 1 rfl) ?_
  refine lv_i2l (v := (z).toInt64) hx hb dX8_leftIn_2 rfl ?_
  refine lv_lconst (v := 1) hx hb dX8_leftIn_3 (by decide) ?_
  refine lv_ldc2 hx hb hown (hts _ mw_1230) dX8_leftIn_4 ?_
  have hPc := hP.sub (ws' := []) [] rfl
  have hDc := hD.sub (ws' := []) [] (by decide) rfl
  have hFc := va_free (wc := []) hD hS hA [] rfl
  refine va_calli (va_runS (As := [.long (z).toInt64, .long 1, .long 2000]) (rest := [.ref h0]) ⟨hx, hb, hml, hown, hts⟩ (c_X8_in l dC dI cy nb (z).toInt64 1 2000 H.size) (va_cwS 3 hts (gS mw_445 mw_446 mw_5 mw_447) rfl rfl rfl (by decide +kernel) ⟨Nat.le_of_ble_eq_true rfl, Nat.le_of_ble_eq_true rfl⟩) ⟨fun a U g mk q => by obtain ⟨q0, q1, qP, qK, qD, qE⟩ := q; exact ⟨q0, q1, qP, va_K.moved (u := U) (U := U.calling g mk a) (Vm.Alike.refl U.vm) qK, qD, GE.calling qE⟩, fun U hU hW => ⟨rfl, by rw [hU], by rw [hU]; exact hPc, va_K.moved hW.alike hK, hDc.weaken (fun _ _ _ _ => trivial), GE.call hE hS hFc hU hW⟩⟩ rfl rfl hl.1 rfl (lv_room (Nat.le_of_ble_eq_true rfl)) dX8_leftIn_7 ⟨Nat.le_of_ble_eq_true rfl, Nat.le_of_ble_eq_true rfl⟩) hS (fun q _ h => hFc q h) hFc (fun r u t H1 locs ht hvm hw1 hB hz1 hk1 hS => ?_)
  obtain ⟨hP1, hD1⟩ := hB
  rw [ht] at hP1
  obtain ⟨hP, hD⟩ := va_join (wr := [(h0, .inr (8, [.ref a1, .ref a2, .ref a3, .ref a4, .ref a5, .int 0, .int x6, .ref a6, .int 0, .int 0, .int 0, .int 0, .int 0, .int 0, .int 0, .int 0, .int (-1), .ref a7, .ref a8, .int 0, .ref a9, .ref b0, .int 0])), (a1, .inl (cy 1, 1037, .inl g))]) (w1 := []) hP hD [] [0, 1] rfl rfl (by decide) (by decide) hk1 hFc hP1 hD1
  generalize H1 = H at hP hS ⊢
  have hP : va_P (dC, dI) vwCl [(h0, .inr (8, [.ref a1, .ref a2, .ref a3, .ref a4, .ref a5, .int 0, .int x6, .ref a6, .int 0, .int 0, .int 0, .int 0, .int 0, .int 0, .int 0, .int 0, .int (-1), .ref a7, .ref a8, .int 0, .ref a9, .ref b0, .int 0])), (a1, .inl (cy 1, 1037, .inl g))] H := hP
  have hD : va_D A [(h0, .inr (8, [.ref a1, .ref a2, .ref a3, .ref a4, .ref a5, .int 0, .int x6, .ref a6, .int 0, .int 0, .int 0, .int 0, .int 0, .int 0, .int 0, .int 0, .int (-1), .ref a7, .ref a8, .int 0, .ref a9, .ref b0, .int 0])), (a1, .inl (cy 1, 1037, .inl g))] := hD
  obtain rfl := hw1
  refine my_topi (y := 0) (by exact hz) ?_
  refine W.widen (k := 0) (n := 0) (by omega) (by omega) ?_
  refine lv_iconst (v := 1) hx hb dX8_leftIn_10 (by decide) ?_
  have hPc := hP.sub (ws' := [(h0, .inr (8, [.ref a1, .ref a2, .ref a3, .ref a4, .ref a5, .int 0, .int x6, .ref a6, .int 0, .int 0, .int 0, .int 0, .int 0, .int 0, .int 0, .int 0, .int (-1), .ref a7, .ref a8, .int 0, .ref a9, .ref b0, .int 0]))]) [0] rfl
  have hDc := hD.sub (ws' := [(h0, .inr (8, [.ref a1, .ref a2, .ref a3, .ref a4, .ref a5, .int 0, .int x6, .ref a6, .int 0, .int 0, .int 0, .int 0, .int 0, .int 0, .int 0, .int 0, .int (-1), .ref a7, .ref a8, .int 0, .ref a9, .ref b0, .int 0]))]) [0] (by decide) rfl
  have hFc := va_free (wc := [(h0, .inr (8, [.ref a1, .ref a2, .ref a3, .ref a4, .ref a5, .int 0, .int x6, .ref a6, .int 0, .int 0, .int 0, .int 0, .int 0, .int 0, .int 0, .int 0, .int (-1), .ref a7, .ref a8, .int 0, .ref a9, .ref b0, .int 0]))]) hD hS hA [0] rfl
  refine va_calli (va_runV (As := [.int 0, .int 1]) (rest := []) ⟨hx, hb, hml, hown, hts⟩ (c_X8_isThrown_0 l dC dI cy nb h0 (.ref a1) (.ref a2) (.ref a3) (.ref a4) (.ref a5) (.int 0) (.ref a6) (.int 0) (.int 0) (.int 0) (.int 0) (.int 0) (.int 0) (.int 0) (.int 0) (.int (-1)) (.ref a7) (.ref a8) (.int 0) (.ref a9) (.ref b0) (.int 0) x6 1 H.size) (cwV 2 hts (gV mw_580 mw_581 mw_582 mw_5 mw_583) rfl rfl rfl (by decide +kernel) ⟨Nat.le_of_ble_eq_true rfl, Nat.le_of_ble_eq_true rfl⟩) ⟨fun a U g mk q => by obtain ⟨q0, q1, qP, qK, qD, qE⟩ := q; exact ⟨q0, q1, qP, va_K.moved (u := U) (U := U.calling g mk a) (Vm.Alike.refl U.vm) qK, qD, GE.calling qE⟩, va_recv hK hP (ci := 8) (q0 := 0) rfl rfl, fun U hU hW => ⟨rfl, by rw [hU], by rw [hU]; exact hPc, va_K.moved hW.alike hK, hDc.weaken (fun _ _ _ _ => trivial), GE.call hE hS hFc hU hW⟩⟩ rfl rfl hl.1 rfl (lv_room (Nat.le_of_ble_eq_true rfl)) dX8_leftIn_11 ⟨Nat.le_of_ble_eq_true rfl, Nat.le_of_ble_eq_true rfl⟩) hS (fun q _ h => hFc q h) hFc (fun r u t H1 locs ht hvm hw2 hB hz1 hk1 hS => ?_)
  obtain ⟨hP1, hD1⟩ := hB
  rw [ht] at hP1
  obtain ⟨hP, hD⟩ := va_join (wr := [(a1, .inl (cy 1, 1037, .inl g))]) (w1 := [(h0, .inr (8, [.ref a1, .ref a2, .ref a3, .ref a4, .ref a5, .int 0, .int 1, .ref a6, .int 0, .int 0, .int 0, .int 0, .int 0, .int 0, .int 0, .int 0, .int (-1), .ref a7, .ref a8, .int 0, .ref a9, .ref b0, .int 0]))]) hP hD [0] [1] rfl rfl (by decide) (by decide) hk1 hFc hP1 hD1
  generalize H1 = H at hP hS ⊢
  have hP : va_P (dC, dI) vwCl [(a1, .inl (cy 1, 1037, .inl g)), (h0, .inr (8, [.ref a1, .ref a2, .ref a3, .ref a4, .ref a5, .int 0, .int 1, .ref a6, .int 0, .int 0, .int 0, .int 0, .int 0, .int 0, .int 0, .int 0, .int (-1), .ref a7, .ref a8, .int 0, .ref a9, .ref b0, .int 0]))] H := hP
  have hD : va_D A [(a1, .inl (cy 1, 1037, .inl g)), (h0, .inr (8, [.ref a1, .ref a2, .ref a3, .ref a4, .ref a5, .int 0, .int 1, .ref a6, .int 0, .int 0, .int 0, .int 0, .int 0, .int 0, .int 0, .int 0, .int (-1), .ref a7, .ref a8, .int 0, .ref a9, .ref b0, .int 0]))] := hD
  obtain rfl := hw2
  refine W.widen (k := 0) (n := 0) (by omega) (by omega) ?_
  refine lv_if_eq (tgt := 21) hx hb dX8_leftIn_14 (by decide) (fun h => absurd h (by decide)) (fun _ => ?_)
  refine lv_iconst (v := 0) hx hb dX8_leftIn_17 (by decide) ?_
  refine lv_goto (tgt := 28) hx hb dX8_leftIn_18 (by decide) ?_
  have hP9 := hP.sub (ws' := [(h0, .inr (8, [.ref a1, .ref a2, .ref a3, .ref a4, .ref a5, .int 0, .int 1, .ref a6, .int 0, .int 0, .int 0, .int 0, .int 0, .int 0, .int 0, .int 0, .int (-1), .ref a7, .ref a8, .int 0, .ref a9, .ref b0, .int 0]))]) [1] rfl
  have hD9 := hD.sub (ws' := [(h0, .inr (8, [.ref a1, .ref a2, .ref a3, .ref a4, .ref a5, .int 0, .int 1, .ref a6, .int 0, .int 0, .int 0, .int 0, .int 0, .int 0, .int 0, .int 0, .int (-1), .ref a7, .ref a8, .int 0, .ref a9, .ref b0, .int 0]))]) [1] (by decide) rfl
  refine W.widen (k := 0) (n := 0) (by omega) (by omega) ?_
  exact W.iret (v := 0) hx hb hr (fun t ht hW => ⟨⟨0, (), rfl, rfl, by rw [ht]; exact hP9, hD9⟩, hS.F ht⟩) hS.2.2 dX8_leftIn_28
set_option maxHeartbeats 4000000 in
set_option maxRecDepth 100000 in
/-- X8_blanksIn -/
theorem co_X8_blanksIn (l : Launch) (dC : Nat → ClassId) (dI : Nat → Nat → Nat) (cy : Nat → ClassId) (nb : Nat → Nat) (h0 : Nat) (a1 : Nat) (a2 : Nat) (a3 : Nat) (a4 : Nat) (a5 : Nat) (a6 : Nat) (a7 : Nat) (a8 : Nat) (a9 : Nat) (b0 : Nat) (x6 : Int32) (g : Nat → Int32) (z : Int32) (sz : Nat) (hg : FN g) (hz : inB (z).toInt64 1 2000 = 0) : Met l yX8_blanksIn (wsg yX8_blanksIn cX8_blanksIn 2 (some .int)) ({ frames := 15, cells := 0, slots := 0, locals := 1000 }) (va_Pc [.ref h0, .int z] (fun U => U.heap.size = sz ∧ va_P (dC, dI) vwCl [(h0, .inr (8, [.ref a1, .ref a2, .ref a3, .ref a4, .ref a5, .int 0, .int x6, .ref a6, .int 0, .int 0, .int 0, .int 0, .int 0, .int 0, .int 0, .int 0, .int (-1), .ref a7, .ref a8, .int 0, .ref a9, .ref b0, .int 0])), (a1, .inl (cy 1, 1037, .inl g))] U.heap ∧ va_K (dC, dI) vwCl (tyL cy) U ∧ va_D (fun _ => True) [(h0, .inr (8, [.ref a1, .ref a2, .ref a3, .ref a4, .ref a5, .int 0, .int x6, .ref a6, .int 0, .int 0, .int 0, .int 0, .int 0, .int 0, .int 0, .int 0, .int (-1), .ref a7, .ref a8, .int 0, .ref a9, .ref b0, .int 0])), (a1, .inl (cy 1, 1037, .inl g))] ∧ GE nb (va_A [(h0, .inr (8, [.ref a1, .ref a2, .ref a3, .ref a4, .ref a5, .int 0, .int x6, .ref a6, .int 0, .int 0, .int 0, .int 0, .int 0, .int 0, .int 0, .int 0, .int (-1), .ref a7, .ref a8, .int 0, .ref a9, .ref b0, .int 0])), (a1, .inl (cy 1, 1037, .inl g))] sz) U)) (va_Qi (fun (r : Int32) (_ : Unit) => r = 0) (fun _ t => va_P (dC, dI) vwCl [(h0, .inr (8, [.ref a1, .ref a2, .ref a3, .ref a4, .ref a5, .int 0, .int 1, .ref a6, .int 0, .int 0, .int 0, .int 0, .int 0, .int 0, .int 0, .int 0, .int (-1), .ref a7, .ref a8, .int 0, .ref a9, .ref b0, .int 0]))] t.heap ∧ va_D (va_A [(h0, .inr (8, [.ref a1, .ref a2, .ref a3, .ref a4, .ref a5, .int 0, .int x6, .ref a6, .int 0, .int 0, .int 0, .int 0, .int 0, .int 0, .int 0, .int 0, .int (-1), .ref a7, .ref a8, .int 0, .ref a9, .ref b0, .int 0])), (a1, .inl (cy 1, 1037, .inl g))] sz) [(h0, .inr (8, [.ref a1, .ref a2, .ref a3, .ref a4, .ref a5, .int 0, .int 1, .ref a6, .int 0, .int 0, .int 0, .int 0, .int 0, .int 0, .int 0, .int 0, .int (-1), .ref a7, .ref a8, .int 0, .ref a9, .ref b0, .int 0]))]) (va_A [(h0, .inr (8, [.ref a1, .ref a2, .ref a3, .ref a4, .ref a5, .int 0, .int x6, .ref a6, .int 0, .int 0, .int 0, .int 0, .int 0, .int 0, .int 0, .int 0, .int (-1), .ref a7, .ref a8, .int 0, .ref a9, .ref b0, .int 0])), (a1, .inl (cy 1, 1037, .inl g))] sz)) 0 0 (va_A [(h0, .inr (8, [.ref a1, .ref a2, .ref a3, .ref a4, .ref a5, .int 0, .int x6, .ref a6, .int 0, .int 0, .int 0, .int 0, .int 0, .int 0, .int 0, .int 0, .int (-1), .ref a7, .ref a8, .int 0, .ref a9, .ref b0, .int 0])), (a1, .inl (cy 1, 1037, .inl g))] sz) := by
  refine Met.ofW (cc := cX8_blanksIn) (maxL := 2) (ret := (some .int)) (by decide) rfl ?_
  intro p e s m args below meth c s₁ B hml hv
  obtain ⟨rfl, hsz, hP, hK, hD0, hE⟩ := hv
  have hx := B.exec
  have hb := B.bytes
  have hr := B.returns
  have hts0 := atoms_spec (ws := (wsg yX8_blanksIn cX8_blanksIn 2 (some .int))) B.pre
  have hts : ∀ w ∈ wsL_law, w.before _ s = true := fun w h => hts0 w (List.mem_cons_of_mem _ h)
  have hown : s.vm.findClass RX8 = some m.cls := findClass_of_methodNamed B.named
  have hlocks := B.notSynchronized
  subst hsz
  have hD := hD0.self (sz := s.heap.size)
  generalize hAe : va_A [(h0, .inr (8, [.ref a1, .ref a2, .ref a3, .ref a4, .ref a5, .int 0, .int x6, .ref a6, .int 0, .int 0, .int 0, .int 0, .int 0, .int 0, .int 0, .int 0, .int (-1), .ref a7, .ref a8, .int 0, .ref a9, .ref b0, .int 0])), (a1, .inl (cy 1, 1037, .inl g))] s.heap.size = A at hD hE ⊢
  have hA : ∀ q : Nat, s.heap.size ≤ q → A q := fun q h => by rw [← hAe]; exact Or.inr h
  have hS : va_S A s.heap s.heap [] := va_S.rf
  have hP : va_P (dC, dI) vwCl [(h0, .inr (8, [.ref a1, .ref a2, .ref a3, .ref a4, .ref a5, .int 0, .int x6, .ref a6, .int 0, .int 0, .int 0, .int 0, .int 0, .int 0, .int 0, .int 0, .int (-1), .ref a7, .ref a8, .int 0, .ref a9, .ref b0, .int 0])), (a1, .inl (cy 1, 1037, .inl g))] s.heap := hP
  have hl := lv_entry ([.ref h0, .int z]) (n := 2) (Nat.le_of_ble_eq_true rfl)
  rw [lg_entry_eq]
  generalize (lg_sl ([.ref h0, .int z]) ++ List.replicate (2 - (lg_sl ([.ref h0, .int z])).length) Slot.unset).toArray = ls at hl ⊢
  have hl : lv_has ls 2 [(0, .ref h0), (1, .int z)] := hl
  generalize hHe : s.heap = H at hP hS ⊢
  have hS : va_S A s.heap H [] := by rw [hHe]; exact hS
  refine lv_aload_n hx hb dX8_blanksIn_0 rfl (lv_at hl 0 rfl) ?_
  refine lv_iload_n hx hb dX8_blanksIn_1 rfl (lv_at hl 1 rfl) ?_
  refine lv_i2l (v := (z).toInt64) hx hb dX8_blanksIn_2 rfl ?_
  refine lv_lconst (v := 1) hx hb dX8_blanksIn_3 (by decide) ?_
  refine lv_ldc2 hx hb hown (hts _ mw_1230) dX8_blanksIn_4 ?_
  have hPc := hP.sub (ws' := []) [] rfl
  have hDc := hD.sub (ws' := []) [] (by decide) rfl
  have hFc := va_free (wc := []) hD hS hA [] rfl
  refine va_calli (va_runS (As := [.long (z).toInt64, .long 1, .long 2000]) (rest := [.ref h0]) ⟨hx, hb, hml, hown, hts⟩ (c_X8_in l dC dI cy nb (z).toInt64 1 2000 H.size) (va_cwS 3 hts (gS mw_445 mw_446 mw_5 mw_447) rfl rfl rfl (by decide +kernel) ⟨Nat.le_of_ble_eq_true rfl, Nat.le_of_ble_eq_true rfl⟩) ⟨fun a U g mk q => by obtain ⟨q0, q1, qP, qK, qD, qE⟩ := q; exact ⟨q0, q1, qP, va_K.moved (u := U) (U := U.calling g mk a) (Vm.Alike.refl U.vm) qK, qD, GE.calling qE⟩, fun U hU hW => ⟨rfl, by rw [hU], by rw [hU]; exact hPc, va_K.moved hW.alike hK, hDc.weaken (fun _ _ _ _ => trivial), GE.call hE hS hFc hU hW⟩⟩ rfl rfl hl.1 rfl (lv_room (Nat.le_of_ble_eq_true rfl)) dX8_blanksIn_7 ⟨Nat.le_of_ble_eq_true rfl, Nat.le_of_ble_eq_true rfl⟩) hS (fun q _ h => hFc q h) hFc (fun r u t H1 locs ht hvm hw1 hB hz1 hk1 hS => ?_)
  obtain ⟨hP1, hD1⟩ := hB
  rw [ht] at hP1
  obtain ⟨hP, hD⟩ := va_join (wr := [(h0, .inr (8, [.ref a1, .ref a2, .ref a3, .ref a4, .ref a5, .int 0, .int x6, .ref a6, .int 0, .int 0, .int 0, .int 0, .int 0, .int 0, .int 0, .int 0, .int (-1), .ref a7, .ref a8, .int 0, .ref a9, .ref b0, .int 0])), (a1, .inl (cy 1, 1037, .inl g))]) (w1 := []) hP hD [] [0, 1] rfl rfl (by decide) (by decide) hk1 hFc hP1 hD1
  generalize H1 = H at hP hS ⊢
  have hP : va_P (dC, dI) vwCl [(h0, .inr (8, [.ref a1, .ref a2, .ref a3, .ref a4, .ref a5, .int 0, .int x6, .ref a6, .int 0, .int 0, .int 0, .int 0, .int 0, .int 0, .int 0, .int 0, .int (-1), .ref a7, .ref a8, .int 0, .ref a9, .ref b0, .int 0])), (a1, .inl (cy 1, 1037, .inl g))] H := hP
  have hD : va_D A [(h0, .inr (8, [.ref a1, .ref a2, .ref a3, .ref a4, .ref a5, .int 0, .int x6, .ref a6, .int 0, .int 0, .int 0, .int 0, .int 0, .int 0, .int 0, .int 0, .int (-1), .ref a7, .ref a8, .int 0, .ref a9, .ref b0, .int 0])), (a1, .inl (cy 1, 1037, .inl g))] := hD
  obtain rfl := hw1
  refine my_topi (y := 0) (by exact hz) ?_
  refine W.widen (k := 0) (n := 0) (by omega) (by omega) ?_
  refine lv_iconst (v := 1) hx hb dX8_blanksIn_10 (by decide) ?_
  have hPc := hP.sub (ws' := [(h0, .inr (8, [.ref a1, .ref a2, .ref a3, .ref a4, .ref a5, .int 0, .int x6, .ref a6, .int 0, .int 0, .int 0, .int 0, .int 0, .int 0, .int 0, .int 0, .int (-1), .ref a7, .ref a8, .int 0, .ref a9, .ref b0, .int 0]))]) [0] rfl
  have hDc := hD.sub (ws' := [(h0, .inr (8, [.ref a1, .ref a2, .ref a3, .ref a4, .ref a5, .int 0, .int x6, .ref a6, .int 0, .int 0, .int 0, .int 0, .int 0, .int 0, .int 0, .int 0, .int (-1), .ref a7, .ref a8, .int 0, .ref a9, .ref b0, .int 0]))]) [0] (by decide) rfl
  have hFc := va_free (wc := [(h0, .inr (8, [.ref a1, .ref a2, .ref a3, .ref a4, .ref a5, .int 0, .int x6, .ref a6, .int 0, .int 0, .int 0, .int 0, .int 0, .int 0, .int 0, .int 0, .int (-1), .ref a7, .ref a8, .int 0, .ref a9, .ref b0, .int 0]))]) hD hS hA [0] rfl
  refine va_calli (va_runV (As := [.int 0, .int 1]) (rest := []) ⟨hx, hb, hml, hown, hts⟩ (c_X8_isThrown_0 l dC dI cy nb h0 (.ref a1) (.ref a2) (.ref a3) (.ref a4) (.ref a5) (.int 0) (.ref a6) (.int 0) (.int 0) (.int 0) (.int 0) (.int 0) (.int 0) (.int 0) (.int 0) (.int (-1)) (.ref a7) (.ref a8) (.int 0) (.ref a9) (.ref b0) (.int 0) x6 1 H.size) (cwV 2 hts (gV mw_580 mw_581 mw_582 mw_5 mw_583) rfl rfl rfl (by decide +kernel) ⟨Nat.le_of_ble_eq_true rfl, Nat.le_of_ble_eq_true rfl⟩) ⟨fun a U g mk q => by obtain ⟨q0, q1, qP, qK, qD, qE⟩ := q; exact ⟨q0, q1, qP, va_K.moved (u := U) (U := U.calling g mk a) (Vm.Alike.refl U.vm) qK, qD, GE.calling qE⟩, va_recv hK hP (ci := 8) (q0 := 0) rfl rfl, fun U hU hW => ⟨rfl, by rw [hU], by rw [hU]; exact hPc, va_K.moved hW.alike hK, hDc.weaken (fun _ _ _ _ => trivial), GE.call hE hS hFc hU hW⟩⟩ rfl rfl hl.1 rfl (lv_room (Nat.le_of_ble_eq_true rfl)) dX8_blanksIn_11 ⟨Nat.le_of_ble_eq_true rfl, Nat.le_of_ble_eq_true rfl⟩) hS (fun q _ h => hFc q h) hFc (fun r u t H1 locs ht hvm hw2 hB hz1 hk1 hS => ?_)
  obtain ⟨hP1, hD1⟩ := hB
  rw [ht] at hP1
  obtain ⟨hP, hD⟩ := va_join (wr := [(a1, .inl (cy 1, 1037, .inl g))]) (w1 := [(h0, .inr (8, [.ref a1, .ref a2, .ref a3, .ref a4, .ref a5, .int 0, .int 1, .ref a6, .int 0, .int 0, .int 0, .int 0, .int 0, .int 0, .int 0, .int 0, .int (-1), .ref a7, .ref a8, .int 0, .ref a9, .ref b0, .int 0]))]) hP hD [0] [1] rfl rfl (by decide) (by decide) hk1 hFc hP1 hD1
  generalize H1 = H at hP hS ⊢
  have hP : va_P (dC, dI) vwCl [(a1, .inl (cy 1, 1037, .inl g)), (h0, .inr (8, [.ref a1, .ref a2, .ref a3, .ref a4, .ref a5, .int 0, .int 1, .ref a6, .int 0, .int 0, .int 0, .int 0, .int 0, .int 0, .int 0, .int 0, .int (-1), .ref a7, .ref a8, .int 0, .ref a9, .ref b0, .int 0]))] H := hP
  have hD : va_D A [(a1, .inl (cy 1, 1037, .inl g)), (h0, .inr (8, [.ref a1, .ref a2, .ref a3, .ref a4, .ref a5, .int 0, .int 1, .ref a6, .int 0, .int 0, .int 0, .int 0, .int 0, .int 0, .int 0, .int 0, .int (-1), .ref a7, .ref a8, .int 0, .ref a9, .ref b0, .int 0]))] := hD
  obtain rfl := hw2
  refine W.widen (k := 0) (n := 0) (by omega) (by omega) ?_
  refine lv_if_eq (tgt := 21) hx hb dX8_blanksIn_14 (by decide) (fun h => absurd h (by decide)) (fun _ => ?_)
  refine lv_iconst (v := 0) hx hb dX8_blanksIn_17 (by decide) ?_
  refine lv_goto (tgt := 27) hx hb dX8_blanksIn_18 (by decide) ?_
  have hP9 := hP.sub (ws' := [(h0, .inr (8, [.ref a1, .ref a2, .ref a3, .ref a4, .ref a5, .int 0, .int 1, .ref a6, .int 0, .int 0, .int 0, .int 0, .int 0, .int 0, .int 0, .int 0, .int (-1), .ref a7, .ref a8, .int 0, .ref a9, .ref b0, .int 0]))]) [1] rfl
  have hD9 := hD.sub (ws' := [(h0, .inr (8, [.ref a1, .ref a2, .ref a3, .ref a4, .ref a5, .int 0, .int 1, .ref a6, .int 0, .int 0, .int 0, .int 0, .int 0, .int 0, .int 0, .int 0, .int (-1), .ref a7, .ref a8, .int 0, .ref a9, .ref b0, .int 0]))]) [1] (by decide) rfl
  refine W.widen (k := 0) (n := 0) (by omega) (by omega) ?_
  exact W.iret (v := 0) hx hb hr (fun t ht hW => ⟨⟨0, (), rfl, rfl, by rw [ht]; exact hP9, hD9⟩, hS.F ht⟩) hS.2.2 dX8_blanksIn_27
