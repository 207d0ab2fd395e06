/-- the row of a line without stations, lots, cards, t ticks on -/
def FT (t : Nat) (g : Nat → Int32) : Prop := g 0 = 480 ∧ g 5 = 0 ∧ g 6 = nI t ∧ g 7 = 0 ∧ g 8 = 0 ∧ g 9 = 0 ∧ g 10 = 0
theorem FT_of {g : Nat → Int32} (h : FN g) : FT 0 g := ⟨h.1, h.2.2.2 5 (by omega) (by omega), h.2.2.2 6 (by omega) (by omega), h.2.2.2 7 (by omega) (by omega), h.2.2.2 8 (by omega) (by omega), h.2.2.2 9 (by omega) (by omega), h.2.2.2 10 (by omega) (by omega)⟩
theorem FT_up {t i : Nat} {g : Nat → Int32} {v : Int32} (h : FT t g) (hi : 11 ≤ i ∨ i = 1) : FT t (upd g i v) := by
  obtain ⟨h0, h5, h6, h7, h8, h9, h10⟩ := h
  have e : ∀ j : Nat, j ≠ i → upd g i v j = g j := fun j hj => if_neg hj
  exact ⟨(e 0 (by omega)).trans h0, (e 5 (by omega)).trans h5, (e 6 (by omega)).trans h6, (e 7 (by omega)).trans h7, (e 8 (by omega)).trans h8, (e 9 (by omega)).trans h9, (e 10 (by omega)).trans h10⟩
theorem FT_tick {t : Nat} {g : Nat → Int32} (h : FT t g) : FT (t + 1) (upd g ((6 : Int32).toNatClampNeg) (nI (t + 1))) := by
  obtain ⟨h0, h5, h6, h7, h8, h9, h10⟩ := h
  exact ⟨h0, h5, rfl, h7, h8, h9, h10⟩
theorem FT_cp {t : Nat} {f g g2 : Nat → Int32} (h : CP f g g2 0 0) (hf : FT t f) : FT t g2 := by
  have e : ∀ k : Nat, k < 1037 → g2 k = f k := fun k hk => by have := h.1 k hk; simpa using this
  obtain ⟨h0, h5, h6, h7, h8, h9, h10⟩ := hf
  exact ⟨(e 0 (by omega)).trans h0, (e 5 (by omega)).trans h5, (e 6 (by omega)).trans h6, (e 7 (by omega)).trans h7, (e 8 (by omega)).trans h8, (e 9 (by omega)).trans h9, (e 10 (by omega)).trans h10⟩
theorem my_m1 {a b : Nat} (h : a = b + 1) : nI a + (-1) = nI b := by rw [h]; exact pk_m1 b
theorem my_sub {a b c : Nat} (h : b ≤ a) (h2 : a - b = c) : nI a - nI b = nI c := by rw [pk_sub h, h2]
theorem my_nlt12 {k : Nat} (hk : k < 108) : ¬ nI (119 - k) < 12 := nI_nlt (a := 119 - k) (b := 12) (by omega) (by omega)
set_option maxHeartbeats 4000000 in
set_option maxRecDepth 100000 in
/-- keeps(), none kept before -/
theorem c_X8_keeps (l : Launch) (dC : Nat → ClassId) (dI : Nat → Nat → Nat) (cy : Nat → ClassId) (nb : Nat → Nat) (h0 : Nat) (a1 : Nat) (a2 : Nat) (a3 : Nat) (a4 : Nat) (a5 : Nat) (a6 : Nat) (a7 : Nat) (a8 : Nat) (a9 : Nat) (b0 : Nat) (x6 : Int32) (g : Nat → Int32) (gp : Nat → Int32) (sz : Nat) (hg : FN g) : Met l yX8_keeps (wsg yX8_keeps cX8_keeps 2 none) ({ frames := 10, cells := 0, slots := 0, locals := 500 }) (va_Pc [.ref h0] (fun U => U.heap.size = sz ∧ va_P (dC, dI) vwCl [(h0, .inr (8, [.ref a1, .ref a2, .ref a3, .ref a4, .ref a5, .int 0, .int x6, .ref a6, .int 0, .int 0, .int 0, .int 0, .int 0, .int 0, .int 0, .int 0, .int (-1), .ref a7, .ref a8, .int 0, .ref a9, .ref b0, .int 0])), (a1, .inl (cy 1, 1037, .inl g)), (a3, .inl (cy 1, 8296, .inl gp))] U.heap ∧ va_K (dC, dI) vwCl (tyL cy) U ∧ va_D (fun _ => True) [(h0, .inr (8, [.ref a1, .ref a2, .ref a3, .ref a4, .ref a5, .int 0, .int x6, .ref a6, .int 0, .int 0, .int 0, .int 0, .int 0, .int 0, .int 0, .int 0, .int (-1), .ref a7, .ref a8, .int 0, .ref a9, .ref b0, .int 0])), (a1, .inl (cy 1, 1037, .inl g)), (a3, .inl (cy 1, 8296, .inl gp))] ∧ GE nb (va_A [(h0, .inr (8, [.ref a1, .ref a2, .ref a3, .ref a4, .ref a5, .int 0, .int x6, .ref a6, .int 0, .int 0, .int 0, .int 0, .int 0, .int 0, .int 0, .int 0, .int (-1), .ref a7, .ref a8, .int 0, .ref a9, .ref b0, .int 0])), (a1, .inl (cy 1, 1037, .inl g)), (a3, .inl (cy 1, 8296, .inl gp))] sz) U)) (va_Qv (fun (_ : Unit) => True) (fun _ t => va_P (dC, dI) vwCl [(h0, .inr (8, [.ref a1, .ref a2, .ref a3, .ref a4, .ref a5, .int 1, .int x6, .ref a6, .int 0, .int 0, .int 0, .int 0, .int 0, .int 0, .int 0, .int 0, .int (-1), .ref a7, .ref a8, .int 0, .ref a9, .ref b0, .int 0])), (a1, .inl (cy 1, 1037, .inl g))] t.heap ∧ va_D (va_A [(h0, .inr (8, [.ref a1, .ref a2, .ref a3, .ref a4, .ref a5, .int 0, .int x6, .ref a6, .int 0, .int 0, .int 0, .int 0, .int 0, .int 0, .int 0, .int 0, .int (-1), .ref a7, .ref a8, .int 0, .ref a9, .ref b0, .int 0])), (a1, .inl (cy 1, 1037, .inl g)), (a3, .inl (cy 1, 8296, .inl gp))] sz) [(h0, .inr (8, [.ref a1, .ref a2, .ref a3, .ref a4, .ref a5, .int 1, .int x6, .ref a6, .int 0, .int 0, .int 0, .int 0, .int 0, .int 0, .int 0, .int 0, .int (-1), .ref a7, .ref a8, .int 0, .ref a9, .ref b0, .int 0])), (a1, .inl (cy 1, 1037, .inl g))]) (va_A [(h0, .inr (8, [.ref a1, .ref a2, .ref a3, .ref a4, .ref a5, .int 0, .int x6, .ref a6, .int 0, .int 0, .int 0, .int 0, .int 0, .int 0, .int 0, .int 0, .int (-1), .ref a7, .ref a8, .int 0, .ref a9, .ref b0, .int 0])), (a1, .inl (cy 1, 1037, .inl g)), (a3, .inl (cy 1, 8296, .inl gp))] sz)) 0 0 (va_A [(h0, .inr (8, [.ref a1, .ref a2, .ref a3, .ref a4, .ref a5, .int 0, .int x6, .ref a6, .int 0, .int 0, .int 0, .int 0, .int 0, .int 0, .int 0, .int 0, .int (-1), .ref a7, .ref a8, .int 0, .ref a9, .ref b0, .int 0])), (a1, .inl (cy 1, 1037, .inl g)), (a3, .inl (cy 1, 8296, .inl gp))] sz) := by
  refine Met.ofW (cc := cX8_keeps) (maxL := 2) (ret := none) (by decide) rfl ?_
  intro p e s m args below meth c s₁ B hml hv
  obtain ⟨rfl, hsz, hP, hK, hD0, hE⟩ := hv
  have hx := B.exec
  have hb := B.bytes
  have hr := B.returns
  have hts0 := atoms_spec (ws := (wsg yX8_keeps cX8_keeps 2 none)) B.pre
  have hts : ∀ w ∈ wsL_law, w.before _ s = true := fun w h => hts0 w (List.mem_cons_of_mem _ h)
  have hown : s.vm.findClass RX8 = some m.cls := findClass_of_methodNamed B.named
  have hlocks := B.notSynchronized
  subst hsz
  have hD := hD0.self (sz := s.heap.size)
  generalize hAe : va_A [(h0, .inr (8, [.ref a1, .ref a2, .ref a3, .ref a4, .ref a5, .int 0, .int x6, .ref a6, .int 0, .int 0, .int 0, .int 0, .int 0, .int 0, .int 0, .int 0, .int (-1), .ref a7, .ref a8, .int 0, .ref a9, .ref b0, .int 0])), (a1, .inl (cy 1, 1037, .inl g)), (a3, .inl (cy 1, 8296, .inl gp))] s.heap.size = A at hD hE ⊢
  have hA : ∀ q : Nat, s.heap.size ≤ q → A q := fun q h => by rw [← hAe]; exact Or.inr h
  have hS : va_S A s.heap s.heap [] := va_S.rf
  have hP : va_P (dC, dI) vwCl [(h0, .inr (8, [.ref a1, .ref a2, .ref a3, .ref a4, .ref a5, .int 0, .int x6, .ref a6, .int 0, .int 0, .int 0, .int 0, .int 0, .int 0, .int 0, .int 0, .int (-1), .ref a7, .ref a8, .int 0, .ref a9, .ref b0, .int 0])), (a1, .inl (cy 1, 1037, .inl g)), (a3, .inl (cy 1, 8296, .inl gp))] s.heap := hP
  have hl := lv_entry ([.ref h0]) (n := 2) (Nat.le_of_ble_eq_true rfl)
  rw [lg_entry_eq]
  generalize (lg_sl ([.ref h0]) ++ List.replicate (2 - (lg_sl ([.ref h0])).length) Slot.unset).toArray = ls at hl ⊢
  have hl : lv_has ls 2 [(0, .ref h0)] := hl
  generalize hHe : s.heap = H at hP hS ⊢
  have hS : va_S A s.heap H [] := by rw [hHe]; exact hS
  refine lv_aload_n hx hb dX8_keeps_0 rfl (lv_at hl 0 rfl) ?_
  refine va_get (D := (dC, dI)) (ci := 8) (v := .int 0) (C := RX8) (T := TX8) (N := 23) hx hb hts inlX8 hown hK hP 0 rfl rfl 5 (by decide) (hts _ mw_416) (fun _ h9 => h9) rfl dX8_keeps_1 ?_
  refine lv_bipush (v := 8) hx hb dX8_keeps_4 (by decide) ?_
  refine lv_icmp_ne (tgt := 50) hx hb dX8_keeps_6 (by decide) (fun _ => ?_) (fun h => absurd h (by decide))
  refine lv_aload_n hx hb dX8_keeps_50 rfl (lv_at hl 0 rfl) ?_
  refine va_get (D := (dC, dI)) (ci := 8) (v := .ref a1) (C := RX8) (T := TX8) (N := 23) hx hb hts inlX8 hown hK hP 0 rfl rfl 0 (by decide) (hts _ mw_97) (fun _ h9 => h9) rfl dX8_keeps_51 ?_
  refine lv_iconst (v := 0) hx hb dX8_keeps_54 (by decide) ?_
  refine lv_aload_n hx hb dX8_keeps_55 rfl (lv_at hl 0 rfl) ?_
  refine va_get (D := (dC, dI)) (ci := 8) (v := .ref a3) (C := RX8) (T := TX8) (N := 23) hx hb hts inlX8 hown hK hP 0 rfl rfl 2 (by decide) (hts _ mw_99) (fun _ h9 => h9) rfl dX8_keeps_56 ?_
  refine lv_aload_n hx hb dX8_keeps_59 rfl (lv_at hl 0 rfl) ?_
  refine va_get (D := (dC, dI)) (ci := 8) (v := .int 0) (C := RX8) (T := TX8) (N := 23) hx hb hts inlX8 hown hK hP 0 rfl rfl 5 (by decide) (hts _ mw_416) (fun _ h9 => h9) rfl dX8_keeps_60 ?_
  have hPc := hP.sub (ws' := [(a1, .inl (cy 1, 1037, .inl g)), (a3, .inl (cy 1, 8296, .inl gp))]) [1, 2] rfl
  have hDc := hD.sub (ws' := [(a1, .inl (cy 1, 1037, .inl g)), (a3, .inl (cy 1, 8296, .inl gp))]) [1, 2] (by decide) rfl
  have hFc := va_free (wc := [(a1, .inl (cy 1, 1037, .inl g)), (a3, .inl (cy 1, 8296, .inl gp))]) hD hS hA [1, 2] rfl
  refine va_callv (va_runS (As := [.ref a1, .int 0, .ref a3, .int 0]) (rest := []) ⟨hx, hb, hml, hown, hts⟩ (c_X8_copies l dC dI cy nb a1 a3 0 0 1037 8296 g gp H.size (by decide) (by decide) (by decide)) (va_cwS 4 hts (gS mw_423 mw_424 mw_5 mw_425) rfl rfl rfl (by decide +kernel) ⟨Nat.le_of_ble_eq_true rfl, Nat.le_of_ble_eq_true rfl⟩) ⟨fun a U g mk q => by obtain ⟨q0, q1, qP, qK, qD, qE⟩ := q; exact ⟨q0, q1, qP, va_K.moved (u := U) (U := U.calling g mk a) (Vm.Alike.refl U.vm) qK, qD, GE.calling qE⟩, fun U hU hW => ⟨rfl, by rw [hU], by rw [hU]; exact hPc, va_K.moved hW.alike hK, hDc.weaken (fun _ _ _ _ => trivial), GE.call hE hS hFc hU hW⟩⟩ rfl rfl hl.1 rfl (lv_room (Nat.le_of_ble_eq_true rfl)) dX8_keeps_63 ⟨Nat.le_of_ble_eq_true rfl, Nat.le_of_ble_eq_true rfl⟩) hS (fun q _ h => hFc q h) hFc (fun u t H1 locs ht hvm hw3 hB hz1 hk1 hS => ?_)
  obtain ⟨g1, hg2, hP1, hD1⟩ := hB
  rw [ht] at hP1
  obtain ⟨hP, hD⟩ := va_join (wr := [(h0, .inr (8, [.ref a1, .ref a2, .ref a3, .ref a4, .ref a5, .int 0, .int x6, .ref a6, .int 0, .int 0, .int 0, .int 0, .int 0, .int 0, .int 0, .int 0, .int (-1), .ref a7, .ref a8, .int 0, .ref a9, .ref b0, .int 0]))]) (w1 := [(a1, .inl (cy 1, 1037, .inl g)), (a3, .inl (cy 1, 8296, .inl g1))]) hP hD [1, 2] [0] rfl rfl (by decide) (by decide) hk1 hFc hP1 hD1
  generalize H1 = H at hP hS ⊢
  have hP : va_P (dC, dI) vwCl [(h0, .inr (8, [.ref a1, .ref a2, .ref a3, .ref a4, .ref a5, .int 0, .int x6, .ref a6, .int 0, .int 0, .int 0, .int 0, .int 0, .int 0, .int 0, .int 0, .int (-1), .ref a7, .ref a8, .int 0, .ref a9, .ref b0, .int 0])), (a1, .inl (cy 1, 1037, .inl g)), (a3, .inl (cy 1, 8296, .inl g1))] H := hP
  have hD : va_D A [(h0, .inr (8, [.ref a1, .ref a2, .ref a3, .ref a4, .ref a5, .int 0, .int x6, .ref a6, .int 0, .int 0, .int 0, .int 0, .int 0, .int 0, .int 0, .int 0, .int (-1), .ref a7, .ref a8, .int 0, .ref a9, .ref b0, .int 0])), (a1, .inl (cy 1, 1037, .inl g)), (a3, .inl (cy 1, 8296, .inl g1))] := hD
  refine W.widen (k := 0) (n := 0) (by omega) (by omega) ?_
  refine lv_aload_n hx hb dX8_keeps_66 rfl (lv_at hl 0 rfl) ?_
  refine lv_dup hx hb dX8_keeps_67 rfl ?_
  refine va_get (D := (dC, dI)) (ci := 8) (v := .int 0) (C := RX8) (T := TX8) (N := 23) hx hb hts inlX8 hown hK hP 0 rfl rfl 5 (by decide) (hts _ mw_416) (fun _ h9 => h9) rfl dX8_keeps_68 ?_
  refine lv_iconst (v := 1) hx hb dX8_keeps_71 (by decide) ?_
  refine lv_iadd hx hb dX8_keeps_72 ?_
  refine my_topi (y := 1) (by decide) ?_
  refine va_put (D := (dC, dI)) (ci := 8) (v := .int 1) (ty := .int) (C := RX8) (T := TX8) (N := 23) hx hb hts inlX8 tyX8 tyX8_ok nmX8 hown hK hP hD hS 0 rfl rfl 5 (by decide) (hts _ mw_416) (fun _ h9 => h9) rfl (by decide +kernel) rfl rfl (Nat.le_of_ble_eq_true rfl) dX8_keeps_73 (fun H locs hP hD hS => ?_)
  have hP : va_P (dC, dI) vwCl [(h0, .inr (8, [.ref a1, .ref a2, .ref a3, .ref a4, .ref a5, .int 1, .int x6, .ref a6, .int 0, .int 0, .int 0, .int 0, .int 0, .int 0, .int 0, .int 0, .int (-1), .ref a7, .ref a8, .int 0, .ref a9, .ref b0, .int 0])), (a1, .inl (cy 1, 1037, .inl g)), (a3, .inl (cy 1, 8296, .inl g1))] H := hP
  have hD : va_D A [(h0, .inr (8, [.ref a1, .ref a2, .ref a3, .ref a4, .ref a5, .int 1, .int x6, .ref a6, .int 0, .int 0, .int 0, .int 0, .int 0, .int 0, .int 0, .int 0, .int (-1), .ref a7, .ref a8, .int 0, .ref a9, .ref b0, .int 0])), (a1, .inl (cy 1, 1037, .inl g)), (a3, .inl (cy 1, 8296, .inl g1))] := hD
  have hP9 := hP.sub (ws' := [(h0, .inr (8, [.ref a1, .ref a2, .ref a3, .ref a4, .ref a5, .int 1, .int x6, .ref a6, .int 0, .int 0, .int 0, .int 0, .int 0, .int 0, .int 0, .int 0, .int (-1), .ref a7, .ref a8, .int 0, .ref a9, .ref b0, .int 0])), (a1, .inl (cy 1, 1037, .inl g))]) [0, 1] rfl
  have hD9 := hD.sub (ws' := [(h0, .inr (8, [.ref a1, .ref a2, .ref a3, .ref a4, .ref a5, .int 1, .int x6, .ref a6, .int 0, .int 0, .int 0, .int 0, .int 0, .int 0, .int 0, .int 0, .int (-1), .ref a7, .ref a8, .int 0, .ref a9, .ref b0, .int 0])), (a1, .inl (cy 1, 1037, .inl g))]) [0, 1] (by decide) rfl
  refine W.widen (k := 0) (n := 0) (by omega) (by omega) ?_
  exact W.vret hx hb hr (fun t ht hW => ⟨⟨(), rfl, trivial, by rw [ht]; exact hP9, hD9⟩, hS.F ht⟩) hS.2.2 dX8_keeps_76
set_option maxHeartbeats 4000000 in
set_option maxRecDepth 100000 in
/-- X8_feeds -/
theorem c_X8_feeds (l : Launch) (dC : Nat → ClassId) (dI : Nat → Nat → Nat) (cy : Nat → ClassId) (nb : Nat → Nat) (h0 : Nat) (a1 : Nat) (v1 : Value) (v2 : Value) (v3 : Value) (v4 : Value) (v5 : Value) (v6 : Value) (v7 : Value) (v8 : Value) (v9 : Value) (v10 : Value) (v11 : Value) (v12 : Value) (v13 : Value) (v14 : Value) (v15 : Value) (v16 : Value) (v17 : Value) (v18 : Value) (v19 : Value) (v20 : Value) (v21 : Value) (v22 : Value) (g : Nat → Int32) (t : Nat) (sz : Nat) (hg : FT t g) : Met l yX8_feeds (wsg yX8_feeds cX8_feeds 3 none) ({ frames := 11, cells := 0, slots := 0, locals := 600 }) (va_Pc [.ref h0] (fun U => U.heap.size = sz ∧ va_P (dC, dI) vwCl [(h0, .inr (8, [.ref a1, v1, v2, v3, v4, v5, v6, v7, v8, v9, v10, v11, v12, v13, v14, v15, v16, v17, v18, v19, v20, v21, v22])), (a1, .inl (cy 1, 1037, .inl g))] U.heap ∧ va_K (dC, dI) vwCl (tyL cy) U ∧ va_D (fun _ => True) [(h0, .inr (8, [.ref a1, v1, v2, v3, v4, v5, v6, v7, v8, v9, v10, v11, v12, v13, v14, v15, v16, v17, v18, v19, v20, v21, v22])), (a1, .inl (cy 1, 1037, .inl g))] ∧ GE nb (va_A [(h0, .inr (8, [.ref a1, v1, v2, v3, v4, v5, v6, v7, v8, v9, v10, v11, v12, v13, v14, v15, v16, v17, v18, v19, v20, v21, v22])), (a1, .inl (cy 1, 1037, .inl g))] sz) U)) (va_Qv (fun (_ : Unit) => True) (fun _ tz => va_P (dC, dI) vwCl [(h0, .inr (8, [.ref a1, v1, v2, v3, v4, v5, v6, v7, v8, v9, v10, v11, v12, v13, v14, v15, v16, v17, v18, v19, v20, v21, v22])), (a1, .inl (cy 1, 1037, .inl g))] tz.heap ∧ va_D (va_A [(h0, .inr (8, [.ref a1, v1, v2, v3, v4, v5, v6, v7, v8, v9, v10, v11, v12, v13, v14, v15, v16, v17, v18, v19, v20, v21, v22])), (a1, .inl (cy 1, 1037, .inl g))] sz) [(h0, .inr (8, [.ref a1, v1, v2, v3, v4, v5, v6, v7, v8, v9, v10, v11, v12, v13, v14, v15, v16, v17, v18, v19, v20, v21, v22])), (a1, .inl (cy 1, 1037, .inl g))]) (va_A [(h0, .inr (8, [.ref a1, v1, v2, v3, v4, v5, v6, v7, v8, v9, v10, v11, v12, v13, v14, v15, v16, v17, v18, v19, v20, v21, v22])), (a1, .inl (cy 1, 1037, .inl g))] sz)) 0 0 (va_A [(h0, .inr (8, [.ref a1, v1, v2, v3, v4, v5, v6, v7, v8, v9, v10, v11, v12, v13, v14, v15, v16, v17, v18, v19, v20, v21, v22])), (a1, .inl (cy 1, 1037, .inl g))] sz) := by
  refine Met.ofW (cc := cX8_feeds) (maxL := 3) (ret := none) (by decide) rfl ?_
  intro p e s m args below meth c s₁ B hml hv
  obtain ⟨rfl, hsz, hP, hK, hD0, hE⟩ := hv
  have hx := B.exec
  have hb := B.bytes
  have hr := B.returns
  have hts0 := atoms_spec (ws := (wsg yX8_feeds cX8_feeds 3 none)) B.pre
  have hts : ∀ w ∈ wsL_law, w.before _ s = true := fun w h => hts0 w (List.mem_cons_of_mem _ h)
  have hown : s.vm.findClass RX8 = some m.cls := findClass_of_methodNamed B.named
  have hlocks := B.notSynchronized
  subst hsz
  have hD := hD0.self (sz := s.heap.size)
  generalize hAe : va_A [(h0, .inr (8, [.ref a1, v1, v2, v3, v4, v5, v6, v7, v8, v9, v10, v11, v12, v13, v14, v15, v16, v17, v18, v19, v20, v21, v22])), (a1, .inl (cy 1, 1037, .inl g))] s.heap.size = A at hD hE ⊢
  have hA : ∀ q : Nat, s.heap.size ≤ q → A q := fun q h => by rw [← hAe]; exact Or.inr h
  have hS : va_S A s.heap s.heap [] := va_S.rf
  have hP : va_P (dC, dI) vwCl [(h0, .inr (8, [.ref a1, v1, v2, v3, v4, v5, v6, v7, v8, v9, v10, v11, v12, v13, v14, v15, v16, v17, v18, v19, v20, v21, v22])), (a1, .inl (cy 1, 1037, .inl g))] s.heap := hP
  have hl := lv_entry ([.ref h0]) (n := 3) (Nat.le_of_ble_eq_true rfl)
  rw [lg_entry_eq]
  generalize (lg_sl ([.ref h0]) ++ List.replicate (3 - (lg_sl ([.ref h0])).length) Slot.unset).toArray = ls at hl ⊢
  have hl : lv_has ls 3 [(0, .ref h0)] := hl
  generalize hHe : s.heap = H at hP hS ⊢
  have hS : va_S A s.heap H [] := by rw [hHe]; exact hS
  refine lv_aload_n hx hb dX8_feeds_0 rfl (lv_at hl 0 rfl) ?_
  refine va_get (D := (dC, dI)) (ci := 8) (v := .ref a1) (C := RX8) (T := TX8) (N := 23) hx hb hts inlX8 hown hK hP 0 rfl rfl 0 (by decide) (hts _ mw_97) (fun _ h9 => h9) rfl dX8_feeds_1 ?_
  refine lv_bipush (v := 7) hx hb dX8_feeds_4 (by decide) ?_
  refine va_iald hx hb hK hP 1 1 rfl rfl (vp_in_nI (n := 7) (by decide) (by decide)) dX8_feeds_6 ?_
  refine my_topi (y := 0) (by exact hg.2.2.2.1) ?_
  refine lv_if_le (tgt := 43) hx hb dX8_feeds_7 (by decide) (fun _ => ?_) (fun h => absurd (by decide) h)
  refine lv_iconst (v := 0) hx hb dX8_feeds_43 (by decide) ?_
  refine lv_istore_n (lv' := [(1, .int 0), (0, .ref h0)]) hx hb dX8_feeds_44 rfl hl (by decide) rfl (fun ls hl => ?_)
  refine lv_iload_n hx hb dX8_feeds_45 rfl (lv_at hl 0 rfl) ?_
  refine lv_if_eq (tgt := 56) hx hb dX8_feeds_46 (by decide) (fun _ => ?_) (fun h => absurd (by decide) h)
  refine lv_iconst (v := (-1)) hx hb dX8_feeds_56 (by decide) ?_
  refine lv_istore_n (lv' := [(2, .int (-1)), (1, .int 0), (0, .ref h0)]) hx hb dX8_feeds_57 rfl hl (by decide) rfl (fun ls hl => ?_)
  refine lv_iload_n hx hb dX8_feeds_58 rfl (lv_at hl 0 rfl) ?_
  refine lv_iconst (v := (-1)) hx hb dX8_feeds_59 (by decide) ?_
  refine lv_icmp_ne (tgt := 64) hx hb dX8_feeds_60 (by decide) (fun h => absurd h (by decide)) (fun _ => ?_)
  have hP9 := hP.sub (ws' := [(h0, .inr (8, [.ref a1, v1, v2, v3, v4, v5, v6, v7, v8, v9, v10, v11, v12, v13, v14, v15, v16, v17, v18, v19, v20, v21, v22])), (a1, .inl (cy 1, 1037, .inl g))]) [0, 1] rfl
  have hD9 := hD.sub (ws' := [(h0, .inr (8, [.ref a1, v1, v2, v3, v4, v5, v6, v7, v8, v9, v10, v11, v12, v13, v14, v15, v16, v17, v18, v19, v20, v21, v22])), (a1, .inl (cy 1, 1037, .inl g))]) [0, 1] (by decide) rfl
  refine W.widen (k := 0) (n := 0) (by omega) (by omega) ?_
  exact W.vret hx hb hr (fun tz ht hW => ⟨⟨(), rfl, trivial, by rw [ht]; exact hP9, hD9⟩, hS.F ht⟩) hS.2.2 dX8_feeds_63
set_option maxHeartbeats 4000000 in
set_option maxRecDepth 100000 in
/-- X8_clearsTray -/
theorem c_X8_clearsTray (l : Launch) (dC : Nat → ClassId) (dI : Nat → Nat → Nat) (cy : Nat → ClassId) (nb : Nat → Nat) (h0 : Nat) (a1 : Nat) (v1 : Value) (v2 : Value) (v3 : Value) (v4 : Value) (v5 : Value) (v6 : Value) (v7 : Value) (v8 : Value) (v9 : Value) (v10 : Value) (v11 : Value) (v12 : Value) (v13 : Value) (v14 : Value) (v15 : Value) (v16 : Value) (v17 : Value) (v18 : Value) (v19 : Value) (v20 : Value) (v21 : Value) (v22 : Value) (g : Nat → Int32) (t : Nat) (sz : Nat) (hg : FT t g) : Met l yX8_clearsTray (wsg yX8_clearsTray cX8_clearsTray 3 none) ({ frames := 11, cells := 0, slots := 0, locals := 600 }) (va_Pc [.ref h0] (fun U => U.heap.size = sz ∧ va_P (dC, dI) vwCl [(h0, .inr (8, [.ref a1, v1, v2, v3, v4, v5, v6, v7, v8, v9, v10, v11, v12, v13, v14, v15, v16, v17, v18, v19, v20, v21, v22])), (a1, .inl (cy 1, 1037, .inl g))] U.heap ∧ va_K (dC, dI) vwCl (tyL cy) U ∧ va_D (fun _ => True) [(h0, .inr (8, [.ref a1, v1, v2, v3, v4, v5, v6, v7, v8, v9, v10, v11, v12, v13, v14, v15, v16, v17, v18, v19, v20, v21, v22])), (a1, .inl (cy 1, 1037, .inl g))] ∧ GE nb (va_A [(h0, .inr (8, [.ref a1, v1, v2, v3, v4, v5, v6, v7, v8, v9, v10, v11, v12, v13, v14, v15, v16, v17, v18, v19, v20, v21, v22])), (a1, .inl (cy 1, 1037, .inl g))] sz) U)) (va_Qv (fun (_ : Unit) => True) (fun _ tz => va_P (dC, dI) vwCl [(h0, .inr (8, [.ref a1, v1, v2, v3, v4, v5, v6, v7, v8, v9, v10, v11, v12, v13, v14, v15, v16, v17, v18, v19, v20, v21, v22])), (a1, .inl (cy 1, 1037, .inl g))] tz.heap ∧ va_D (va_A [(h0, .inr (8, [.ref a1, v1, v2, v3, v4, v5, v6, v7, v8, v9, v10, v11, v12, v13, v14, v15, v16, v17, v18, v19, v20, v21, v22])), (a1, .inl (cy 1, 1037, .inl g))] sz) [(h0, .inr (8, [.ref a1, v1, v2, v3, v4, v5, v6, v7, v8, v9, v10, v11, v12, v13, v14, v15, v16, v17, v18, v19, v20, v21, v22])), (a1, .inl (cy 1, 1037, .inl g))]) (va_A [(h0, .inr (8, [.ref a1, v1, v2, v3, v4, v5, v6, v7, v8, v9, v10, v11, v12, v13, v14, v15, v16, v17, v18, v19, v20, v21, v22])), (a1, .inl (cy 1, 1037, .inl g))] sz)) 0 0 (va_A [(h0, .inr (8, [.ref a1, v1, v2, v3, v4, v5, v6, v7, v8, v9, v10, v11, v12, v13, v14, v15, v16, v17, v18, v19, v20, v21, v22])), (a1, .inl (cy 1, 1037, .inl g))] sz) := by
  refine Met.ofW (cc := cX8_clearsTray) (maxL := 3) (ret := none) (by decide) rfl ?_
  intro p e s m args below meth c s₁ B hml hv
  obtain ⟨rfl, hsz, hP, hK, hD0, hE⟩ := hv
  have hx := B.exec
  have hb := B.bytes
  have hr := B.returns
  have hts0 := atoms_spec (ws := (wsg yX8_clearsTray cX8_clearsTray 3 none)) B.pre
  have hts : ∀ w ∈ wsL_law, w.before _ s = true := fun w h => hts0 w (List.mem_cons_of_mem _ h)
  have hown : s.vm.findClass RX8 = some m.cls := findClass_of_methodNamed B.named
  have hlocks := B.notSynchronized
  subst hsz
  have hD := hD0.self (sz := s.heap.size)
  generalize hAe : va_A [(h0, .inr (8, [.ref a1, v1, v2, v3, v4, v5, v6, v7, v8, v9, v10, v11, v12, v13, v14, v15, v16, v17, v18, v19, v20, v21, v22])), (a1, .inl (cy 1, 1037, .inl g))] s.heap.size = A at hD hE ⊢
  have hA : ∀ q : Nat, s.heap.size ≤ q → A q := fun q h => by rw [← hAe]; exact Or.inr h
  have hS : va_S A s.heap s.heap [] := va_S.rf
  have hP : va_P (dC, dI) vwCl [(h0, .inr (8, [.ref a1, v1, v2, v3, v4, v5, v6, v7, v8, v9, v10, v11, v12, v13, v14, v15, v16, v17, v18, v19, v20, v21, v22])), (a1, .inl (cy 1, 1037, .inl g))] s.heap := hP
  have hl := lv_entry ([.ref h0]) (n := 3) (Nat.le_of_ble_eq_true rfl)
  rw [lg_entry_eq]
  generalize (lg_sl ([.ref h0]) ++ List.replicate (3 - (lg_sl ([.ref h0])).length) Slot.unset).toArray = ls at hl ⊢
  have hl : lv_has ls 3 [(0, .ref h0)] := hl
  generalize hHe : s.heap = H at hP hS ⊢
  have hS : va_S A s.heap H [] := by rw [hHe]; exact hS
  refine lv_iconst (v := 0) hx hb dX8_clearsTray_0 (by decide) ?_
  refine lv_istore_n (lv' := [(1, .int 0), (0, .ref h0)]) hx hb dX8_clearsTray_1 rfl hl (by decide) rfl (fun ls hl => ?_)
  refine lv_iload_n hx hb dX8_clearsTray_2 rfl (lv_at hl 0 rfl) ?_
  refine lv_aload_n hx hb dX8_clearsTray_3 rfl (lv_at hl 1 rfl) ?_
  refine va_get (D := (dC, dI)) (ci := 8) (v := .ref a1) (C := RX8) (T := TX8) (N := 23) hx hb hts inlX8 hown hK hP 0 rfl rfl 0 (by decide) (hts _ mw_97) (fun _ h9 => h9) rfl dX8_clearsTray_4 ?_
  refine lv_bipush (v := 8) hx hb dX8_clearsTray_7 (by decide) ?_
  refine va_iald hx hb hK hP 1 1 rfl rfl (vp_in_nI (n := 8) (by decide) (by decide)) dX8_clearsTray_9 ?_
  refine my_topi (y := 0) (by exact hg.2.2.2.2.1) ?_
  refine lv_icmp_ge (tgt := 54) hx hb dX8_clearsTray_10 (by decide) (fun _ => ?_) (fun h => absurd (by decide) h)
  have hP9 := hP.sub (ws' := [(h0, .inr (8, [.ref a1, v1, v2, v3, v4, v5, v6, v7, v8, v9, v10, v11, v12, v13, v14, v15, v16, v17, v18, v19, v20, v21, v22])), (a1, .inl (cy 1, 1037, .inl g))]) [0, 1] rfl
  have hD9 := hD.sub (ws' := [(h0, .inr (8, [.ref a1, v1, v2, v3, v4, v5, v6, v7, v8, v9, v10, v11, v12, v13, v14, v15, v16, v17, v18, v19, v20, v21, v22])), (a1, .inl (cy 1, 1037, .inl g))]) [0, 1] (by decide) rfl
  refine W.widen (k := 0) (n := 0) (by omega) (by omega) ?_
  exact W.vret hx hb hr (fun tz ht hW => ⟨⟨(), rfl, trivial, by rw [ht]; exact hP9, hD9⟩, hS.F ht⟩) hS.2.2 dX8_clearsTray_54
set_option maxHeartbeats 4000000 in
set_option maxRecDepth 100000 in
/-- ofLot -/
theorem c_X8_ofLot (l : Launch) (dC : Nat → ClassId) (dI : Nat → Nat → Nat) (cy : Nat → ClassId) (nb : Nat → Nat) (h0 : Nat) (a1 : Nat) (v1 : Value) (v2 : Value) (v3 : Value) (v4 : Value) (v5 : Value) (v6 : Value) (v7 : Value) (v8 : Value) (v9 : Value) (v10 : Value) (v11 : Value) (v12 : Value) (v13 : Value) (v14 : Value) (v15 : Value) (v16 : Value) (v17 : Value) (v18 : Value) (v19 : Value) (v20 : Value) (v21 : Value) (v22 : Value) (g : Nat → Int32) (lo : Nat) (wh : Nat) (sz : Nat) (hl0 : lo < 6) (hw0 : wh < 4) : Met l yX8_ofLot (wsg yX8_ofLot cX8_ofLot 3 (some .int)) ({ frames := 8, cells := 0, slots := 0, locals := 300 }) (va_Pc [.ref h0, .int (nI lo), .int (nI wh)] (fun U => U.heap.size = sz ∧ va_P (dC, dI) vwCl [(h0, .inr (8, [.ref a1, v1, v2, v3, v4, v5, v6, v7, v8, v9, v10, v11, v12, v13, v14, v15, v16, v17, v18, v19, v20, v21, v22])), (a1, .inl (cy 1, 1037, .inl g))] U.heap ∧ va_K (dC, dI) vwCl (tyL cy) U ∧ va_D (fun _ => True) [(h0, .inr (8, [.ref a1, v1, v2, v3, v4, v5, v6, v7, v8, v9, v10, v11, v12, v13, v14, v15, v16, v17, v18, v19, v20, v21, v22])), (a1, .inl (cy 1, 1037, .inl g))] ∧ GE nb (va_A [(h0, .inr (8, [.ref a1, v1, v2, v3, v4, v5, v6, v7, v8, v9, v10, v11, v12, v13, v14, v15, v16, v17, v18, v19, v20, v21, v22])), (a1, .inl (cy 1, 1037, .inl g))] sz) U)) (va_Qi (fun (r : Int32) (_ : Unit) => r = (g (113 + 4 * lo + wh))) (fun _ t => va_P (dC, dI) vwCl [(h0, .inr (8, [.ref a1, v1, v2, v3, v4, v5, v6, v7, v8, v9, v10, v11, v12, v13, v14, v15, v16, v17, v18, v19, v20, v21, v22])), (a1, .inl (cy 1, 1037, .inl g))] t.heap ∧ va_D (va_A [(h0, .inr (8, [.ref a1, v1, v2, v3, v4, v5, v6, v7, v8, v9, v10, v11, v12, v13, v14, v15, v16, v17, v18, v19, v20, v21, v22])), (a1, .inl (cy 1, 1037, .inl g))] sz) [(h0, .inr (8, [.ref a1, v1, v2, v3, v4, v5, v6, v7, v8, v9, v10, v11, v12, v13, v14, v15, v16, v17, v18, v19, v20, v21, v22])), (a1, .inl (cy 1, 1037, .inl g))]) (va_A [(h0, .inr (8, [.ref a1, v1, v2, v3, v4, v5, v6, v7, v8, v9, v10, v11, v12, v13, v14, v15, v16, v17, v18, v19, v20, v21, v22])), (a1, .inl (cy 1, 1037, .inl g))] sz)) 0 0 (va_A [(h0, .inr (8, [.ref a1, v1, v2, v3, v4, v5, v6, v7, v8, v9, v10, v11, v12, v13, v14, v15, v16, v17, v18, v19, v20, v21, v22])), (a1, .inl (cy 1, 1037, .inl g))] sz) := by
  refine Met.ofW (cc := cX8_ofLot) (maxL := 3) (ret := (some .int)) (by decide) rfl ?_
  intro p e s m args below meth c s₁ B hml hv
  obtain ⟨rfl, hsz, hP, hK, hD0, hE⟩ := hv
  have hx := B.exec
  have hb := B.bytes
  have hr := B.returns
  have hts0 := atoms_spec (ws := (wsg yX8_ofLot cX8_ofLot 3 (some .int))) B.pre
  have hts : ∀ w ∈ wsL_law, w.before _ s = true := fun w h => hts0 w (List.mem_cons_of_mem _ h)
  have hown : s.vm.findClass RX8 = some m.cls := findClass_of_methodNamed B.named
  have hlocks := B.notSynchronized
  subst hsz
  have hD := hD0.self (sz := s.heap.size)
  generalize hAe : va_A [(h0, .inr (8, [.ref a1, v1, v2, v3, v4, v5, v6, v7, v8, v9, v10, v11, v12, v13, v14, v15, v16, v17, v18, v19, v20, v21, v22])), (a1, .inl (cy 1, 1037, .inl g))] s.heap.size = A at hD hE ⊢
  have hA : ∀ q : Nat, s.heap.size ≤ q → A q := fun q h => by rw [← hAe]; exact Or.inr h
  have hS : va_S A s.heap s.heap [] := va_S.rf
  have hP : va_P (dC, dI) vwCl [(h0, .inr (8, [.ref a1, v1, v2, v3, v4, v5, v6, v7, v8, v9, v10, v11, v12, v13, v14, v15, v16, v17, v18, v19, v20, v21, v22])), (a1, .inl (cy 1, 1037, .inl g))] s.heap := hP
  have hl := lv_entry ([.ref h0, .int (nI lo), .int (nI wh)]) (n := 3) (Nat.le_of_ble_eq_true rfl)
  rw [lg_entry_eq]
  generalize (lg_sl ([.ref h0, .int (nI lo), .int (nI wh)]) ++ List.replicate (3 - (lg_sl ([.ref h0, .int (nI lo), .int (nI wh)])).length) Slot.unset).toArray = ls at hl ⊢
  have hl : lv_has ls 3 [(0, .ref h0), (1, .int (nI lo)), (2, .int (nI wh))] := hl
  generalize hHe : s.heap = H at hP hS ⊢
  have hS : va_S A s.heap H [] := by rw [hHe]; exact hS
  refine lv_aload_n hx hb dX8_ofLot_0 rfl (lv_at hl 0 rfl) ?_
  refine va_get (D := (dC, dI)) (ci := 8) (v := .ref a1) (C := RX8) (T := TX8) (N := 23) hx hb hts inlX8 hown hK hP 0 rfl rfl 0 (by decide) (hts _ mw_97) (fun _ h9 => h9) rfl dX8_ofLot_1 ?_
  refine lv_bipush (v := 113) hx hb dX8_ofLot_4 (by decide) ?_
  refine lv_iconst (v := 4) hx hb dX8_ofLot_6 (by decide) ?_
  refine lv_iload_n hx hb dX8_ofLot_7 rfl (lv_at hl 1 rfl) ?_
  refine lv_imul hx hb dX8_ofLot_8 ?_
  refine my_topi (y := (nI (4 * lo))) (by rw [show (4 : Int32) = nI 4 from rfl, pk_mul]) ?_
  refine lv_iadd hx hb dX8_ofLot_9 ?_
  refine my_topi (y := (nI (113 + 4 * lo))) (by rw [show (113 : Int32) = nI 113 from rfl, nI_add]) ?_
  refine lv_iload_n hx hb dX8_ofLot_10 rfl (lv_at hl 2 rfl) ?_
  refine lv_iadd hx hb dX8_ofLot_11 ?_
  refine my_topi (y := (nI (113 + 4 * lo + wh))) (by rw [nI_add]) ?_
  refine va_iald hx hb hK hP 1 1 rfl rfl (vp_in_nI (by omega) (by omega)) dX8_ofLot_12 ?_
  refine my_topi (y := (g (113 + 4 * lo + wh))) (by rw [nI_clamp (by omega)]) ?_
  have hP9 := hP.sub (ws' := [(h0, .inr (8, [.ref a1, v1, v2, v3, v4, v5, v6, v7, v8, v9, v10, v11, v12, v13, v14, v15, v16, v17, v18, v19, v20, v21, v22])), (a1, .inl (cy 1, 1037, .inl g))]) [0, 1] rfl
  have hD9 := hD.sub (ws' := [(h0, .inr (8, [.ref a1, v1, v2, v3, v4, v5, v6, v7, v8, v9, v10, v11, v12, v13, v14, v15, v16, v17, v18, v19, v20, v21, v22])), (a1, .inl (cy 1, 1037, .inl g))]) [0, 1] (by decide) rfl
  refine W.widen (k := 0) (n := 0) (by omega) (by omega) ?_
  exact W.iret (v := (g (113 + 4 * lo + wh))) hx hb hr (fun t ht hW => ⟨⟨(g (113 + 4 * lo + wh)), (), rfl, rfl, by rw [ht]; exact hP9, hD9⟩, hS.F ht⟩) hS.2.2 dX8_ofLot_13
set_option maxHeartbeats 4000000 in
set_option maxRecDepth 100000 in
/-- dayEnds() -/
theorem c_X8_dayEnds (l : Launch) (dC : Nat → ClassId) (dI : Nat → Nat → Nat) (cy : Nat → ClassId) (nb : Nat → Nat) (h0 : Nat) (a1 : Nat) (v1 : Value) (v2 : Value) (v3 : Value) (v4 : Value) (v5 : Value) (v6 : Value) (v7 : Value) (v8 : Value) (v9 : Value) (v10 : Value) (v11 : Value) (v12 : Value) (v13 : Value) (v14 : Value) (v15 : Value) (v16 : Value) (v17 : Value) (v18 : Value) (v19 : Value) (v20 : Value) (v21 : Value) (v22 : Value) (g : Nat → Int32) (t : Nat) (sz : Nat) (hg : FT t g) : Met l yX8_dayEnds (wsg yX8_dayEnds cX8_dayEnds 3 none) ({ frames := 11, cells := 0, slots := 0, locals := 600 }) (va_Pc [.ref h0] (fun U => U.heap.size = sz ∧ va_P (dC, dI) vwCl [(h0, .inr (8, [.ref a1, v1, v2, v3, v4, v5, v6, v7, v8, v9, v10, v11, v12, v13, v14, v15, v16, v17, v18, v19, v20, v21, v22])), (a1, .inl (cy 1, 1037, .inl g))] U.heap ∧ va_K (dC, dI) vwCl (tyL cy) U ∧ va_D (fun _ => True) [(h0, .inr (8, [.ref a1, v1, v2, v3, v4, v5, v6, v7, v8, v9, v10, v11, v12, v13, v14, v15, v16, v17, v18, v19, v20, v21, v22])), (a1, .inl (cy 1, 1037, .inl g))] ∧ GE nb (va_A [(h0, .inr (8, [.ref a1, v1, v2, v3, v4, v5, v6, v7, v8, v9, v10, v11, v12, v13, v14, v15, v16, v17, v18, v19, v20, v21, v22])), (a1, .inl (cy 1, 1037, .inl g))] sz) U)) (va_Qv (fun (_ : Unit) => True) (fun _ tz => ∃ (g2 : Nat → Int32), FT t g2 ∧ va_P (dC, dI) vwCl [(h0, .inr (8, [.ref a1, v1, v2, v3, v4, v5, v6, v7, v8, v9, v10, v11, v12, v13, v14, v15, v16, v17, v18, v19, v20, v21, v22])), (a1, .inl (cy 1, 1037, .inl g2))] tz.heap ∧ va_D (va_A [(h0, .inr (8, [.ref a1, v1, v2, v3, v4, v5, v6, v7, v8, v9, v10, v11, v12, v13, v14, v15, v16, v17, v18, v19, v20, v21, v22])), (a1, .inl (cy 1, 1037, .inl g))] sz) [(h0, .inr (8, [.ref a1, v1, v2, v3, v4, v5, v6, v7, v8, v9, v10, v11, v12, v13, v14, v15, v16, v17, v18, v19, v20, v21, v22])), (a1, .inl (cy 1, 1037, .inl g2))]) (va_A [(h0, .inr (8, [.ref a1, v1, v2, v3, v4, v5, v6, v7, v8, v9, v10, v11, v12, v13, v14, v15, v16, v17, v18, v19, v20, v21, v22])), (a1, .inl (cy 1, 1037, .inl g))] sz)) 0 0 (va_A [(h0, .inr (8, [.ref a1, v1, v2, v3, v4, v5, v6, v7, v8, v9, v10, v11, v12, v13, v14, v15, v16, v17, v18, v19, v20, v21, v22])), (a1, .inl (cy 1, 1037, .inl g))] sz) := by
  refine Met.ofW (cc := cX8_dayEnds) (maxL := 3) (ret := none) (by decide) rfl ?_
  intro p e s m args below meth c s₁ B hml hv
  obtain ⟨rfl, hsz, hP, hK, hD0, hE⟩ := hv
  have hx := B.exec
  have hb := B.bytes
  have hr := B.returns
  have hts0 := atoms_spec (ws := (wsg yX8_dayEnds cX8_dayEnds 3 none)) B.pre
  have hts : ∀ w ∈ wsL_law, w.before _ s = true := fun w h => hts0 w (List.mem_cons_of_mem _ h)
  have hown : s.vm.findClass RX8 = some m.cls := findClass_of_methodNamed B.named
  have hlocks := B.notSynchronized
  subst hsz
  have hD := hD0.self (sz := s.heap.size)
  generalize hAe : va_A [(h0, .inr (8, [.ref a1, v1, v2, v3, v4, v5, v6, v7, v8, v9, v10, v11, v12, v13, v14, v15, v16, v17, v18, v19, v20, v21, v22])), (a1, .inl (cy 1, 1037, .inl g))] s.heap.size = A at hD hE ⊢
  have hA : ∀ q : Nat, s.heap.size ≤ q → A q := fun q h => by rw [← hAe]; exact Or.inr h
  have hS : va_S A s.heap s.heap [] := va_S.rf
  have hP : va_P (dC, dI) vwCl [(h0, .inr (8, [.ref a1, v1, v2, v3, v4, v5, v6, v7, v8, v9, v10, v11, v12, v13, v14, v15, v16, v17, v18, v19, v20, v21, v22])), (a1, .inl (cy 1, 1037, .inl g))] s.heap := hP
  have hl := lv_entry ([.ref h0]) (n := 3) (Nat.le_of_ble_eq_true rfl)
  rw [lg_entry_eq]
  generalize (lg_sl ([.ref h0]) ++ List.replicate (3 - (lg_sl ([.ref h0])).length) Slot.unset).toArray = ls at hl ⊢
  have hl : lv_has ls 3 [(0, .ref h0)] := hl
  generalize hHe : s.heap = H at hP hS ⊢
  have hS : va_S A s.heap H [] := by rw [hHe]; exact hS
  refine my_Q (fun Qn hQ => ?_)
  refine lv_bipush (v := 119) hx hb dX8_dayEnds_0 (by decide) ?_
  refine lv_istore_n (lv' := [(1, .int 119), (0, .ref h0)]) hx hb dX8_dayEnds_2 rfl hl (by decide) rfl (fun ls hl => ?_)
  have loop1 : ∀ (n k : Nat) (g3 : Nat → Int32) (H : Heap) (locs : List Loc) (ls : Array Slot), n + k = 108 → (FT t g3) → va_P (dC, dI) vwCl [(h0, .inr (8, [.ref a1, v1, v2, v3, v4, v5, v6, v7, v8, v9, v10, v11, v12, v13, v14, v15, v16, v17, v18, v19, v20, v21, v22])), (a1, .inl (cy 1, 1037, .inl g3))] H → va_D A [(h0, .inr (8, [.ref a1, v1, v2, v3, v4, v5, v6, v7, v8, v9, v10, v11, v12, v13, v14, v15, v16, v17, v18, v19, v20, v21, v22])), (a1, .inl (cy 1, 1037, .inl g3))] → va_S A s.heap H locs → lv_has ls 3 [(1, .int (nI (119 - k))), (0, .ref h0)] → W p l e (headSpec (wsg yX8_dayEnds cX8_dayEnds 3 none) ({ frames := 11, cells := 0, slots := 0, locals := 600 })).room s m ([.ref h0] : List Value).toArray below meth c H locs 0 0 Qn (F0 m 3 ls []) := by
    intro n
    induction n with
    | zero =>
      intro k g3 H locs ls hnk hg3 hP hD hS hl
      obtain rfl : k = 108 := by omega
      refine lv_iload_n hx hb dX8_dayEnds_3 rfl (lv_at hl 0 rfl) ?_
      refine lv_bipush (v := 12) hx hb dX8_dayEnds_4 (by decide) ?_
      refine lv_icmp_lt (tgt := 38) hx hb dX8_dayEnds_6 (by decide) (fun _ => ?_) (fun h => absurd (by decide) h)
      refine lv_iconst (v := 0) hx hb dX8_dayEnds_38 (by decide) ?_
      refine lv_istore_n (lv' := [(1, .int 0), (0, .ref h0)]) hx hb dX8_dayEnds_39 rfl hl (by decide) rfl (fun ls hl => ?_)
      refine lv_iload_n hx hb dX8_dayEnds_40 rfl (lv_at hl 0 rfl) ?_
      refine lv_bipush (v := 6) hx hb dX8_dayEnds_41 (by decide) ?_
      refine lv_icmp_ge (tgt := 103) hx hb dX8_dayEnds_43 (by decide) (fun h => absurd h (by decide)) (fun _ => ?_)
      refine lv_iconst (v := 0) hx hb dX8_dayEnds_46 (by decide) ?_
      refine lv_istore_n (lv' := [(2, .int 0), (1, .int 0), (0, .ref h0)]) hx hb dX8_dayEnds_47 rfl hl (by decide) rfl (fun ls hl => ?_)
      refine lv_iload_n hx hb dX8_dayEnds_48 rfl (lv_at hl 0 rfl) ?_
      refine lv_iconst (v := 2) hx hb dX8_dayEnds_49 (by decide) ?_
      refine lv_icmp_ge (tgt := 97) hx hb dX8_dayEnds_50 (by decide) (fun h => absurd h (by decide)) (fun _ => ?_)
      refine lv_aload_n hx hb dX8_dayEnds_53 rfl (lv_at hl 2 rfl) ?_
      refine va_get (D := (dC, dI)) (ci := 8) (v := .ref a1) (C := RX8) (T := TX8) (N := 23) hx hb hts inlX8 hown hK hP 0 rfl rfl 0 (by decide) (hts _ mw_97) (fun _ h9 => h9) rfl dX8_dayEnds_54 ?_
      refine lv_sipush (v := 917) hx hb dX8_dayEnds_57 (by decide) ?_
      refine lv_iconst (v := 2) hx hb dX8_dayEnds_60 (by decide) ?_
      refine lv_iload_n hx hb dX8_dayEnds_61 rfl (lv_at hl 1 rfl) ?_
      refine lv_imul hx hb dX8_dayEnds_62 ?_
      refine my_topi (y := 0) (by decide) ?_
      refine lv_iadd hx hb dX8_dayEnds_63 ?_
      refine my_topi (y := 917) (by decide) ?_
      refine lv_iload_n hx hb dX8_dayEnds_64 rfl (lv_at hl 0 rfl) ?_
      refine lv_iadd hx hb dX8_dayEnds_65 ?_
      refine my_topi (y := 917) (by decide) ?_
      refine lv_aload_n hx hb dX8_dayEnds_66 rfl (lv_at hl 2 rfl) ?_
      refine lv_iload_n hx hb dX8_dayEnds_67 rfl (lv_at hl 1 rfl) ?_
      refine lv_iconst (v := 2) hx hb dX8_dayEnds_68 (by decide) ?_
      refine lv_iload_n hx hb dX8_dayEnds_69 rfl (lv_at hl 0 rfl) ?_
      refine lv_iadd hx hb dX8_dayEnds_70 ?_
      refine my_topi (y := 2) (by decide) ?_
      have hPc := hP.sub (ws' := [(h0, .inr (8, [.ref a1, v1, v2, v3, v4, v5, v6, v7, v8, v9, v10, v11, v12, v13, v14, v15, v16, v17, v18, v19, v20, v21, v22])), (a1, .inl (cy 1, 1037, .inl g3))]) [0, 1] rfl
      have hDc := hD.sub (ws' := [(h0, .inr (8, [.ref a1, v1, v2, v3, v4, v5, v6, v7, v8, v9, v10, v11, v12, v13, v14, v15, v16, v17, v18, v19, v20, v21, v22])), (a1, .inl (cy 1, 1037, .inl g3))]) [0, 1] (by decide) rfl
      have hFc := va_free (wc := [(h0, .inr (8, [.ref a1, v1, v2, v3, v4, v5, v6, v7, v8, v9, v10, v11, v12, v13, v14, v15, v16, v17, v18, v19, v20, v21, v22])), (a1, .inl (cy 1, 1037, .inl g3))]) hD hS hA [0, 1] rfl
      refine va_calli (va_runV (As := [.int 0, .int 2]) (rest := [.int 917, .ref a1]) ⟨hx, hb, hml, hown, hts⟩ (c_X8_ofLot l dC dI cy nb h0 a1 (v1) (v2) (v3) (v4) (v5) (v6) (v7) (v8) (v9) (v10) (v11) (v12) (v13) (v14) (v15) (v16) (v17) (v18) (v19) (v20) (v21) (v22) g3 0 2 H.size (by decide) (by decide)) (cwV 2 hts (gV mw_535 mw_536 mw_537 mw_5 mw_538) rfl rfl rfl (by decide +kernel) ⟨Nat.le_of_ble_eq_true rfl, Nat.le_of_ble_eq_true rfl⟩) ⟨fun a U g mk q => by obtain ⟨q0, q1, qP, qK, qD, qE⟩ := q; exact ⟨q0, q1, qP, va_K.moved (u := U) (U := U.calling g mk a) (Vm.Alike.refl U.vm) qK, qD, GE.calling qE⟩, va_recv hK hP (ci := 8) (q0 := 0) rfl rfl, fun U hU hW => ⟨rfl, by rw [hU], by rw [hU]; exact hPc, va_K.moved hW.alike hK, hDc.weaken (fun _ _ _ _ => trivial), GE.call hE hS hFc hU hW⟩⟩ rfl rfl hl.1 rfl (lv_room (Nat.le_of_ble_eq_true rfl)) dX8_dayEnds_71 ⟨Nat.le_of_ble_eq_true rfl, Nat.le_of_ble_eq_true rfl⟩) hS (fun q _ h => hFc q h) hFc (fun r u tz H1 locs ht hvm hw1 hB hz1 hk1 hS => ?_)
      obtain ⟨hP1, hD1⟩ := hB
      rw [ht] at hP1
      obtain ⟨hP, hD⟩ := va_join (wr := []) (w1 := [(h0, .inr (8, [.ref a1, v1, v2, v3, v4, v5, v6, v7, v8, v9, v10, v11, v12, v13, v14, v15, v16, v17, v18, v19, v20, v21, v22])), (a1, .inl (cy 1, 1037, .inl g3))]) hP hD [0, 1] [] rfl rfl (by decide) (by decide) hk1 hFc hP1 hD1
      generalize H1 = H at hP hS ⊢
      have hP : va_P (dC, dI) vwCl [(h0, .inr (8, [.ref a1, v1, v2, v3, v4, v5, v6, v7, v8, v9, v10, v11, v12, v13, v14, v15, v16, v17, v18, v19, v20, v21, v22])), (a1, .inl (cy 1, 1037, .inl g3))] H := hP
      have hD : va_D A [(h0, .inr (8, [.ref a1, v1, v2, v3, v4, v5, v6, v7, v8, v9, v10, v11, v12, v13, v14, v15, v16, v17, v18, v19, v20, v21, v22])), (a1, .inl (cy 1, 1037, .inl g3))] := hD
      obtain rfl := hw1
      refine W.widen (k := 0) (n := 0) (by omega) (by omega) ?_
      refine va_iast hx hb hK hP hD hS 1 1 rfl rfl (vp_in_nI (n := 917) (by decide) (by decide)) dX8_dayEnds_74 (fun H locs hP hD hS => ?_)
      have hP : va_P (dC, dI) vwCl [(h0, .inr (8, [.ref a1, v1, v2, v3, v4, v5, v6, v7, v8, v9, v10, v11, v12, v13, v14, v15, v16, v17, v18, v19, v20, v21, v22])), (a1, .inl (cy 1, 1037, .inl (upd g3 ((917 : Int32).toNatClampNeg) (g3 (113 + 4 * 0 + 2)))))] H := hP
      have hD : va_D A [(h0, .inr (8, [.ref a1, v1, v2, v3, v4, v5, v6, v7, v8, v9, v10, v11, v12, v13, v14, v15, v16, v17, v18, v19, v20, v21, v22])), (a1, .inl (cy 1, 1037, .inl (upd g3 ((917 : Int32).toNatClampNeg) (g3 (113 + 4 * 0 + 2)))))] := hD
      have hf3 : FT t (upd g3 ((917 : Int32).toNatClampNeg) (g3 (113 + 4 * 0 + 2))) := FT_up hg3 (Or.inl (by decide))
      generalize (upd g3 ((917 : Int32).toNatClampNeg) (g3 (113 + 4 * 0 + 2))) = g2 at hP hD hf3
      refine lv_aload_n hx hb dX8_dayEnds_75 rfl (lv_at hl 2 rfl) ?_
      refine va_get (D := (dC, dI)) (ci := 8) (v := .ref a1) (C := RX8) (T := TX8) (N := 23) hx hb hts inlX8 hown hK hP 0 rfl rfl 0 (by decide) (hts _ mw_97) (fun _ h9 => h9) rfl dX8_dayEnds_76 ?_
      refine lv_bipush (v := 113) hx hb dX8_dayEnds_79 (by decide) ?_
      refine lv_iconst (v := 4) hx hb dX8_dayEnds_81 (by decide) ?_
      refine lv_iload_n hx hb dX8_dayEnds_82 rfl (lv_at hl 1 rfl) ?_
      refine lv_imul hx hb dX8_dayEnds_83 ?_
      refine my_topi (y := 0) (by decide) ?_
      refine lv_iadd hx hb dX8_dayEnds_84 ?_
      refine my_topi (y := 113) (by decide) ?_
      refine lv_iconst (v := 2) hx hb dX8_dayEnds_85 (by decide) ?_
      refine lv_iadd hx hb dX8_dayEnds_86 ?_
      refine my_topi (y := 115) (by decide) ?_
      refine lv_iload_n hx hb dX8_dayEnds_87 rfl (lv_at hl 0 rfl) ?_
      refine lv_iadd hx hb dX8_dayEnds_88 ?_
      refine my_topi (y := 115) (by decide) ?_
      refine lv_iconst (v := 0) hx hb dX8_dayEnds_89 (by decide) ?_
      refine va_iast hx hb hK hP hD hS 1 1 rfl rfl (vp_in_nI (n := 115) (by decide) (by decide)) dX8_dayEnds_90 (fun H locs hP hD hS => ?_)
      have hP : va_P (dC, dI) vwCl [(h0, .inr (8, [.ref a1, v1, v2, v3, v4, v5, v6, v7, v8, v9, v10, v11, v12, v13, v14, v15, v16, v17, v18, v19, v20, v21, v22])), (a1, .inl (cy 1, 1037, .inl (upd g2 ((115 : Int32).toNatClampNeg) 0)))] H := hP
      have hD : va_D A [(h0, .inr (8, [.ref a1, v1, v2, v3, v4, v5, v6, v7, v8, v9, v10, v11, v12, v13, v14, v15, v16, v17, v18, v19, v20, v21, v22])), (a1, .inl (cy 1, 1037, .inl (upd g2 ((115 : Int32).toNatClampNeg) 0)))] := hD
      have hf5 : FT t (upd g2 ((115 : Int32).toNatClampNeg) 0) := FT_up hf3 (Or.inl (by decide))
      generalize (upd g2 ((115 : Int32).toNatClampNeg) 0) = g4 at hP hD hf5
      refine lv_iinc (v := 1) (lv' := [(2, .int 1), (1, .int 0), (0, .ref h0)]) hx hb dX8_dayEnds_91 hl (k := 0) rfl (by decide) (by decide) rfl (fun ls hl => ?_)
      refine lv_goto (tgt := 48) hx hb dX8_dayEnds_94 (by decide) ?_
      refine lv_iload_n hx hb dX8_dayEnds_48 rfl (lv_at hl 0 rfl) ?_
      refine lv_iconst (v := 2) hx hb dX8_dayEnds_49 (by decide) ?_
      refine lv_icmp_ge (tgt := 97) hx hb dX8_dayEnds_50 (by decide) (fun h => absurd h (by decide)) (fun _ => ?_)
      refine lv_aload_n hx hb dX8_dayEnds_53 rfl (lv_at hl 2 rfl) ?_
      refine va_get (D := (dC, dI)) (ci := 8) (v := .ref a1) (C := RX8) (T := TX8) (N := 23) hx hb hts inlX8 hown hK hP 0 rfl rfl 0 (by decide) (hts _ mw_97) (fun _ h9 => h9) rfl dX8_dayEnds_54 ?_
      refine lv_sipush (v := 917) hx hb dX8_dayEnds_57 (by decide) ?_
      refine lv_iconst (v := 2) hx hb dX8_dayEnds_60 (by decide) ?_
      refine lv_iload_n hx hb dX8_dayEnds_61 rfl (lv_at hl 1 rfl) ?_
      refine lv_imul hx hb dX8_dayEnds_62 ?_
      refine my_topi (y := 0) (by decide) ?_
      refine lv_iadd hx hb dX8_dayEnds_63 ?_
      refine my_topi (y := 917) (by decide) ?_
      refine lv_iload_n hx hb dX8_dayEnds_64 rfl (lv_at hl 0 rfl) ?_
      refine lv_iadd hx hb dX8_dayEnds_65 ?_
      refine my_topi (y := 918) (by decide) ?_
      refine lv_aload_n hx hb dX8_dayEnds_66 rfl (lv_at hl 2 rfl) ?_
      refine lv_iload_n hx hb dX8_dayEnds_67 rfl (lv_at hl 1 rfl) ?_
      refine lv_iconst (v := 2) hx hb dX8_dayEnds_68 (by decide) ?_
      refine lv_iload_n hx hb dX8_dayEnds_69 rfl (lv_at hl 0 rfl) ?_
      refine lv_iadd hx hb dX8_dayEnds_70 ?_
      refine my_topi (y := 3) (by decide) ?_
      have hPc := hP.sub (ws' := [(h0, .inr (8, [.ref a1, v1, v2, v3, v4, v5, v6, v7, v8, v9, v10, v11, v12, v13, v14, v15, v16, v17, v18, v19, v20, v21, v22])), (a1, .inl (cy 1, 1037, .inl g4))]) [0, 1] rfl
      have hDc := hD.sub (ws' := [(h0, .inr (8, [.ref a1, v1, v2, v3, v4, v5, v6, v7, v8, v9, v10, v11, v12, v13, v14, v15, v16, v17, v18, v19, v20, v21, v22])), (a1, .inl (cy 1, 1037, .inl g4))]) [0, 1] (by decide) rfl
      have hFc := va_free (wc := [(h0, .inr (8, [.ref a1, v1, v2, v3, v4, v5, v6, v7, v8, v9, v10, v11, v12, v13, v14, v15, v16, v17, v18, v19, v20, v21, v22])), (a1, .inl (cy 1, 1037, .inl g4))]) hD hS hA [0, 1] rfl
      refine va_calli (va_runV (As := [.int 0, .int 3]) (rest := [.int 918, .ref a1]) ⟨hx, hb, hml, hown, hts⟩ (c_X8_ofLot l dC dI cy nb h0 a1 (v1) (v2) (v3) (v4) (v5) (v6) (v7) (v8) (v9) (v10) (v11) (v12) (v13) (v14) (v15) (v16) (v17) (v18) (v19) (v20) (v21) (v22) g4 0 3 H.size (by decide) (by decide)) (cwV 2 hts (gV mw_535 mw_536 mw_537 mw_5 mw_538) rfl rfl rfl (by decide +kernel) ⟨Nat.le_of_ble_eq_true rfl, Nat.le_of_ble_eq_true rfl⟩) ⟨fun a U g mk q => by obtain ⟨q0, q1, qP, qK, qD, qE⟩ := q; exact ⟨q0, q1, qP, va_K.moved (u := U) (U := U.calling g mk a) (Vm.Alike.refl U.vm) qK, qD, GE.calling qE⟩, va_recv hK hP (ci := 8) (q0 := 0) rfl rfl, fun U hU hW => ⟨rfl, by rw [hU], by rw [hU]; exact hPc, va_K.moved hW.alike hK, hDc.weaken (fun _ _ _ _ => trivial), GE.call hE hS hFc hU hW⟩⟩ rfl rfl hl.1 rfl (lv_room (Nat.le_of_ble_eq_true rfl)) dX8_dayEnds_71 ⟨Nat.le_of_ble_eq_true rfl, Nat.le_of_ble_eq_true rfl⟩) hS (fun q _ h => hFc q h) hFc (fun r u tz H1 locs ht hvm hw6 hB hz1 hk1 hS => ?_)
      obtain ⟨hP1, hD1⟩ := hB
      rw [ht] at hP1
      obtain ⟨hP, hD⟩ := va_join (wr := []) (w1 := [(h0, .inr (8, [.ref a1, v1, v2, v3, v4, v5, v6, v7, v8, v9, v10, v11, v12, v13, v14, v15, v16, v17, v18, v19, v20, v21, v22])), (a1, .inl (cy 1, 1037, .inl g4))]) hP hD [0, 1] [] rfl rfl (by decide) (by decide) hk1 hFc hP1 hD1
      generalize H1 = H at hP hS ⊢
      have hP : va_P (dC, dI) vwCl [(h0, .inr (8, [.ref a1, v1, v2, v3, v4, v5, v6, v7, v8, v9, v10, v11, v12, v13, v14, v15, v16, v17, v18, v19, v20, v21, v22])), (a1, .inl (cy 1, 1037, .inl g4))] H := hP
      have hD : va_D A [(h0, .inr (8, [.ref a1, v1, v2, v3, v4, v5, v6, v7, v8, v9, v10, v11, v12, v13, v14, v15, v16, v17, v18, v19, v20, v21, v22])), (a1, .inl (cy 1, 1037, .inl g4))] := hD
      obtain rfl := hw6
      refine W.widen (k := 0) (n := 0) (by omega) (by omega) ?_
      refine va_iast hx hb hK hP hD hS 1 1 rfl rfl (vp_in_nI (n := 918) (by decide) (by decide)) dX8_dayEnds_74 (fun H locs hP hD hS => ?_)
      have hP : va_P (dC, dI) vwCl [(h0, .inr (8, [.ref a1, v1, v2, v3, v4, v5, v6, v7, v8, v9, v10, v11, v12, v13, v14, v15, v16, v17, v18, v19, v20, v21, v22])), (a1, .inl (cy 1, 1037, .inl (upd g4 ((918 : Int32).toNatClampNeg) (g4 (113 + 4 * 0 + 3)))))] H := hP
      have hD : va_D A [(h0, .inr (8, [.ref a1, v1, v2, v3, v4, v5, v6, v7, v8, v9, v10, v11, v12, v13, v14, v15, v16, v17, v18, v19, v20, v21, v22])), (a1, .inl (cy 1, 1037, .inl (upd g4 ((918 : Int32).toNatClampNeg) (g4 (113 + 4 * 0 + 3)))))] := hD
      have hf8 : FT t (upd g4 ((918 : Int32).toNatClampNeg) (g4 (113 + 4 * 0 + 3))) := FT_up hf5 (Or.inl (by decide))
      generalize (upd g4 ((918 : Int32).toNatClampNeg) (g4 (113 + 4 * 0 + 3))) = g7 at hP hD hf8
      refine lv_aload_n hx hb dX8_dayEnds_75 rfl (lv_at hl 2 rfl) ?_
      refine va_get (D := (dC, dI)) (ci := 8) (v := .ref a1) (C := RX8) (T := TX8) (N := 23) hx hb hts inlX8 hown hK hP 0 rfl rfl 0 (by decide) (hts _ mw_97) (fun _ h9 => h9) rfl dX8_dayEnds_76 ?_
      refine lv_bipush (v := 113) hx hb dX8_dayEnds_79 (by decide) ?_
      refine lv_iconst (v := 4) hx hb dX8_dayEnds_81 (by decide) ?_
      refine lv_iload_n hx hb dX8_dayEnds_82 rfl (lv_at hl 1 rfl) ?_
      refine lv_imul hx hb dX8_dayEnds_83 ?_
      refine my_topi (y := 0) (by decide) ?_
      refine lv_iadd hx hb dX8_dayEnds_84 ?_
      refine my_topi (y := 113) (by decide) ?_
      refine lv_iconst (v := 2) hx hb dX8_dayEnds_85 (by decide) ?_
      refine lv_iadd hx hb dX8_dayEnds_86 ?_
      refine my_topi (y := 115) (by decide) ?_
      refine lv_iload_n hx hb dX8_dayEnds_87 rfl (lv_at hl 0 rfl) ?_
      refine lv_iadd hx hb dX8_dayEnds_88 ?_
      refine my_topi (y := 116) (by decide) ?_
      refine lv_iconst (v := 0) hx hb dX8_dayEnds_89 (by decide) ?_
      refine va_iast hx hb hK hP hD hS 1 1 rfl rfl (vp_in_nI (n := 116) (by decide) (by decide)) dX8_dayEnds_90 (fun H locs hP hD hS => ?_)
      have hP : va_P (dC, dI) vwCl [(h0, .inr (8, [.ref a1, v1, v2, v3, v4, v5, v6, v7, v8, v9, v10, v11, v12, v13, v14, v15, v16, v17, v18, v19, v20, v21, v22])), (a1, .inl (cy 1, 1037, .inl (upd g7 ((116 : Int32).toNatClampNeg) 0)))] H := hP
      have hD : va_D A [(h0, .inr (8, [.ref a1, v1, v2, v3, v4, v5, v6, v7, v8, v9, v10, v11, v12, v13, v14, v15, v16, v17, v18, v19, v20, v21, v22])), (a1, .inl (cy 1, 1037, .inl (upd g7 ((116 : Int32).toNatClampNeg) 0)))] := hD
      have hf10 : FT t (upd g7 ((116 : Int32).toNatClampNeg) 0) := FT_up hf8 (Or.inl (by decide))
      generalize (upd g7 ((116 : Int32).toNatClampNeg) 0) = g9 at hP hD hf10
      refine lv_iinc (v := 2) (lv' := [(2, .int 2), (1, .int 0), (0, .ref h0)]) hx hb dX8_dayEnds_91 hl (k := 0) rfl (by decide) (by decide) rfl (fun ls hl => ?_)
      refine lv_goto (tgt := 48) hx hb dX8_dayEnds_94 (by decide) ?_
      refine lv_iload_n hx hb dX8_dayEnds_48 rfl (lv_at hl 0 rfl) ?_
      refine lv_iconst (v := 2) hx hb dX8_dayEnds_49 (by decide) ?_
      refine lv_icmp_ge (tgt := 97) hx hb dX8_dayEnds_50 (by decide) (fun _ => ?_) (fun h => absurd (by decide) h)
      refine lv_iinc (v := 1) (lv' := [(1, .int 1), (2, .int 2), (0, .ref h0)]) hx hb dX8_dayEnds_97 hl (k := 1) rfl (by decide) (by decide) rfl (fun ls hl => ?_)
      refine lv_goto (tgt := 40) hx hb dX8_dayEnds_100 (by decide) ?_
      refine lv_iload_n hx hb dX8_dayEnds_40 rfl (lv_at hl 0 rfl) ?_
      refine lv_bipush (v := 6) hx hb dX8_dayEnds_41 (by decide) ?_
      refine lv_icmp_ge (tgt := 103) hx hb dX8_dayEnds_43 (by decide) (fun h => absurd h (by decide)) (fun _ => ?_)
      refine lv_iconst (v := 0) hx hb dX8_dayEnds_46 (by decide) ?_
      refine lv_istore_n (lv' := [(2, .int 0), (1, .int 1), (0, .ref h0)]) hx hb dX8_dayEnds_47 rfl hl (by decide) rfl (fun ls hl => ?_)
      refine lv_iload_n hx hb dX8_dayEnds_48 rfl (lv_at hl 0 rfl) ?_
      refine lv_iconst (v := 2) hx hb dX8_dayEnds_49 (by decide) ?_
      refine lv_icmp_ge (tgt := 97) hx hb dX8_dayEnds_50 (by decide) (fun h => absurd h (by decide)) (fun _ => ?_)
      refine lv_aload_n hx hb dX8_dayEnds_53 rfl (lv_at hl 2 rfl) ?_
      refine va_get (D := (dC, dI)) (ci := 8) (v := .ref a1) (C := RX8) (T := TX8) (N := 23) hx hb hts inlX8 hown hK hP 0 rfl rfl 0 (by decide) (hts _ mw_97) (fun _ h9 => h9) rfl dX8_dayEnds_54 ?_
      refine lv_sipush (v := 917) hx hb dX8_dayEnds_57 (by decide) ?_
      refine lv_iconst (v := 2) hx hb dX8_dayEnds_60 (by decide) ?_
      refine lv_iload_n hx hb dX8_dayEnds_61 rfl (lv_at hl 1 rfl) ?_
      refine lv_imul hx hb dX8_dayEnds_62 ?_
      refine my_topi (y := 2) (by decide) ?_
      refine lv_iadd hx hb dX8_dayEnds_63 ?_
      refine my_topi (y := 919) (by decide) ?_
      refine lv_iload_n hx hb dX8_dayEnds_64 rfl (lv_at hl 0 rfl) ?_
      refine lv_iadd hx hb dX8_dayEnds_65 ?_
      refine my_topi (y := 919) (by decide) ?_
      refine lv_aload_n hx hb dX8_dayEnds_66 rfl (lv_at hl 2 rfl) ?_
      refine lv_iload_n hx hb dX8_dayEnds_67 rfl (lv_at hl 1 rfl) ?_
      refine lv_iconst (v := 2) hx hb dX8_dayEnds_68 (by decide) ?_
      refine lv_iload_n hx hb dX8_dayEnds_69 rfl (lv_at hl 0 rfl) ?_
      refine lv_iadd hx hb dX8_dayEnds_70 ?_
      refine my_topi (y := 2) (by decide) ?_
      have hPc := hP.sub (ws' := [(h0, .inr (8, [.ref a1, v1, v2, v3, v4, v5, v6, v7, v8, v9, v10, v11, v12, v13, v14, v15, v16, v17, v18, v19, v20, v21, v22])), (a1, .inl (cy 1, 1037, .inl g9))]) [0, 1] rfl
      have hDc := hD.sub (ws' := [(h0, .inr (8, [.ref a1, v1, v2, v3, v4, v5, v6, v7, v8, v9, v10, v11, v12, v13, v14, v15, v16, v17, v18, v19, v20, v21, v22])), (a1, .inl (cy 1, 1037, .inl g9))]) [0, 1] (by decide) rfl
      have hFc := va_free (wc := [(h0, .inr (8, [.ref a1, v1, v2, v3, v4, v5, v6, v7, v8, v9, v10, v11, v12, v13, v14, v15, v16, v17, v18, v19, v20, v21, v22])), (a1, .inl (cy 1, 1037, .inl g9))]) hD hS hA [0, 1] rfl
      refine va_calli (va_runV (As := [.int 1, .int 2]) (rest := [.int 919, .ref a1]) ⟨hx, hb, hml, hown, hts⟩ (c_X8_ofLot l dC dI cy nb h0 a1 (v1) (v2) (v3) (v4) (v5) (v6) (v7) (v8) (v9) (v10) (v11) (v12) (v13) (v14) (v15) (v16) (v17) (v18) (v19) (v20) (v21) (v22) g9 1 2 H.size (by decide) (by decide)) (cwV 2 hts (gV mw_535 mw_536 mw_537 mw_5 mw_538) rfl rfl rfl (by decide +kernel) ⟨Nat.le_of_ble_eq_true rfl, Nat.le_of_ble_eq_true rfl⟩) ⟨fun a U g mk q => by obtain ⟨q0, q1, qP, qK, qD, qE⟩ := q; exact ⟨q0, q1, qP, va_K.moved (u := U) (U := U.calling g mk a) (Vm.Alike.refl U.vm) qK, qD, GE.calling qE⟩, va_recv hK hP (ci := 8) (q0 := 0) rfl rfl, fun U hU hW => ⟨rfl, by rw [hU], by rw [hU]; exact hPc, va_K.moved hW.alike hK, hDc.weaken (fun _ _ _ _ => trivial), GE.call hE hS hFc hU hW⟩⟩ rfl rfl hl.1 rfl (lv_room (Nat.le_of_ble_eq_true rfl)) dX8_dayEnds_71 ⟨Nat.le_of_ble_eq_true rfl, Nat.le_of_ble_eq_true rfl⟩) hS (fun q _ h => hFc q h) hFc (fun r u tz H1 locs ht hvm hw11 hB hz1 hk1 hS => ?_)
      obtain ⟨hP1, hD1⟩ := hB
      rw [ht] at hP1
      obtain ⟨hP, hD⟩ := va_join (wr := []) (w1 := [(h0, .inr (8, [.ref a1, v1, v2, v3, v4, v5, v6, v7, v8, v9, v10, v11, v12, v13, v14, v15, v16, v17, v18, v19, v20, v21, v22])), (a1, .inl (cy 1, 1037, .inl g9))]) hP hD [0, 1] [] rfl rfl (by decide) (by decide) hk1 hFc hP1 hD1
      generalize H1 = H at hP hS ⊢
      have hP : va_P (dC, dI) vwCl [(h0, .inr (8, [.ref a1, v1, v2, v3, v4, v5, v6, v7, v8, v9, v10, v11, v12, v13, v14, v15, v16, v17, v18, v19, v20, v21, v22])), (a1, .inl (cy 1, 1037, .inl g9))] H := hP
      have hD : va_D A [(h0, .inr (8, [.ref a1, v1, v2, v3, v4, v5, v6, v7, v8, v9, v10, v11, v12, v13, v14, v15, v16, v17, v18, v19, v20, v21, v22])), (a1, .inl (cy 1, 1037, .inl g9))] := hD
      obtain rfl := hw11
      refine W.widen (k := 0) (n := 0) (by omega) (by omega) ?_
      refine va_iast hx hb hK hP hD hS 1 1 rfl rfl (vp_in_nI (n := 919) (by decide) (by decide)) dX8_dayEnds_74 (fun H locs hP hD hS => ?_)
      have hP : va_P (dC, dI) vwCl [(h0, .inr (8, [.ref a1, v1, v2, v3, v4, v5, v6, v7, v8, v9, v10, v11, v12, v13, v14, v15, v16, v17, v18, v19, v20, v21, v22])), (a1, .inl (cy 1, 1037, .inl (upd g9 ((919 : Int32).toNatClampNeg) (g9 (113 + 4 * 1 + 2)))))] H := hP
      have hD : va_D A [(h0, .inr (8, [.ref a1, v1, v2, v3, v4, v5, v6, v7, v8, v9, v10, v11, v12, v13, v14, v15, v16, v17, v18, v19, v20, v21, v22])), (a1, .inl (cy 1, 1037, .inl (upd g9 ((919 : Int32).toNatClampNeg) (g9 (113 + 4 * 1 + 2)))))] := hD
      have hf13 : FT t (upd g9 ((919 : Int32).toNatClampNeg) (g9 (113 + 4 * 1 + 2))) := FT_up hf10 (Or.inl (by decide))
      generalize (upd g9 ((919 : Int32).toNatClampNeg) (g9 (113 + 4 * 1 + 2))) = g12 at hP hD hf13
      refine lv_aload_n hx hb dX8_dayEnds_75 rfl (lv_at hl 2 rfl) ?_
      refine va_get (D := (dC, dI)) (ci := 8) (v := .ref a1) (C := RX8) (T := TX8) (N := 23) hx hb hts inlX8 hown hK hP 0 rfl rfl 0 (by decide) (hts _ mw_97) (fun _ h9 => h9) rfl dX8_dayEnds_76 ?_
      refine lv_bipush (v := 113) hx hb dX8_dayEnds_79 (by decide) ?_
      refine lv_iconst (v := 4) hx hb dX8_dayEnds_81 (by decide) ?_
      refine lv_iload_n hx hb dX8_dayEnds_82 rfl (lv_at hl 1 rfl) ?_
      refine lv_imul hx hb dX8_dayEnds_83 ?_
      refine my_topi (y := 4) (by decide) ?_
      refine lv_iadd hx hb dX8_dayEnds_84 ?_
      refine my_topi (y := 117) (by decide) ?_
      refine lv_iconst (v := 2) hx hb dX8_dayEnds_85 (by decide) ?_
      refine lv_iadd hx hb dX8_dayEnds_86 ?_
      refine my_topi (y := 119) (by decide) ?_
      refine lv_iload_n hx hb dX8_dayEnds_87 rfl (lv_at hl 0 rfl) ?_
      refine lv_iadd hx hb dX8_dayEnds_88 ?_
      refine my_topi (y := 119) (by decide) ?_
      refine lv_iconst (v := 0) hx hb dX8_dayEnds_89 (by decide) ?_
      refine va_iast hx hb hK hP hD hS 1 1 rfl rfl (vp_in_nI (n := 119) (by decide) (by decide)) dX8_dayEnds_90 (fun H locs hP hD hS => ?_)
      have hP : va_P (dC, dI) vwCl [(h0, .inr (8, [.ref a1, v1, v2, v3, v4, v5, v6, v7, v8, v9, v10, v11, v12, v13, v14, v15, v16, v17, v18, v19, v20, v21, v22])), (a1, .inl (cy 1, 1037, .inl (upd g12 ((119 : Int32).toNatClampNeg) 0)))] H := hP
      have hD : va_D A [(h0, .inr (8, [.ref a1, v1, v2, v3, v4, v5, v6, v7, v8, v9, v10, v11, v12, v13, v14, v15, v16, v17, v18, v19, v20, v21, v22])), (a1, .inl (cy 1, 1037, .inl (upd g12 ((119 : Int32).toNatClampNeg) 0)))] := hD
      have hf15 : FT t (upd g12 ((119 : Int32).toNatClampNeg) 0) := FT_up hf13 (Or.inl (by decide))
      generalize (upd g12 ((119 : Int32).toNatClampNeg) 0) = g14 at hP hD hf15
      refine lv_iinc (v := 1) (lv' := [(2, .int 1), (1, .int 1), (0, .ref h0)]) hx hb dX8_dayEnds_91 hl (k := 0) rfl (by decide) (by decide) rfl (fun ls hl => ?_)
      refine lv_goto (tgt := 48) hx hb dX8_dayEnds_94 (by decide) ?_
      refine lv_iload_n hx hb dX8_dayEnds_48 rfl (lv_at hl 0 rfl) ?_
      refine lv_iconst (v := 2) hx hb dX8_dayEnds_49 (by decide) ?_
      refine lv_icmp_ge (tgt := 97) hx hb dX8_dayEnds_50 (by decide) (fun h => absurd h (by decide)) (fun _ => ?_)
      refine lv_aload_n hx hb dX8_dayEnds_53 rfl (lv_at hl 2 rfl) ?_
      refine va_get (D := (dC, dI)) (ci := 8) (v := .ref a1) (C := RX8) (T := TX8) (N := 23) hx hb hts inlX8 hown hK hP 0 rfl rfl 0 (by decide) (hts _ mw_97) (fun _ h9 => h9) rfl dX8_dayEnds_54 ?_
      refine lv_sipush (v := 917) hx hb dX8_dayEnds_57 (by decide) ?_
      refine lv_iconst (v := 2) hx hb dX8_dayEnds_60 (by decide) ?_
      refine lv_iload_n hx hb dX8_dayEnds_61 rfl (lv_at hl 1 rfl) ?_
      refine lv_imul hx hb dX8_dayEnds_62 ?_
      refine my_topi (y := 2) (by decide) ?_
      refine lv_iadd hx hb dX8_dayEnds_63 ?_
      refine my_topi (y := 919) (by decide) ?_
      refine lv_iload_n hx hb dX8_dayEnds_64 rfl (lv_at hl 0 rfl) ?_
      refine lv_iadd hx hb dX8_dayEnds_65 ?_
      refine my_topi (y := 920) (by decide) ?_
      refine lv_aload_n hx hb dX8_dayEnds_66 rfl (lv_at hl 2 rfl) ?_
      refine lv_iload_n hx hb dX8_dayEnds_67 rfl (lv_at hl 1 rfl) ?_
      refine lv_iconst (v := 2) hx hb dX8_dayEnds_68 (by decide) ?_
      refine lv_iload_n hx hb dX8_dayEnds_69 rfl (lv_at hl 0 rfl) ?_
      refine lv_iadd hx hb dX8_dayEnds_70 ?_
      refine my_topi (y := 3) (by decide) ?_
      have hPc := hP.sub (ws' := [(h0, .inr (8, [.ref a1, v1, v2, v3, v4, v5, v6, v7, v8, v9, v10, v11, v12, v13, v14, v15, v16, v17, v18, v19, v20, v21, v22])), (a1, .inl (cy 1, 1037, .inl g14))]) [0, 1] rfl
      have hDc := hD.sub (ws' := [(h0, .inr (8, [.ref a1, v1, v2, v3, v4, v5, v6, v7, v8, v9, v10, v11, v12, v13, v14, v15, v16, v17, v18, v19, v20, v21, v22])), (a1, .inl (cy 1, 1037, .inl g14))]) [0, 1] (by decide) rfl
      have hFc := va_free (wc := [(h0, .inr (8, [.ref a1, v1, v2, v3, v4, v5, v6, v7, v8, v9, v10, v11, v12, v13, v14, v15, v16, v17, v18, v19, v20, v21, v22])), (a1, .inl (cy 1, 1037, .inl g14))]) hD hS hA [0, 1] rfl
      refine va_calli (va_runV (As := [.int 1, .int 3]) (rest := [.int 920, .ref a1]) ⟨hx, hb, hml, hown, hts⟩ (c_X8_ofLot l dC dI cy nb h0 a1 (v1) (v2) (v3) (v4) (v5) (v6) (v7) (v8) (v9) (v10) (v11) (v12) (v13) (v14) (v15) (v16) (v17) (v18) (v19) (v20) (v21) (v22) g14 1 3 H.size (by decide) (by decide)) (cwV 2 hts (gV mw_535 mw_536 mw_537 mw_5 mw_538) rfl rfl rfl (by decide +kernel) ⟨Nat.le_of_ble_eq_true rfl, Nat.le_of_ble_eq_true rfl⟩) ⟨fun a U g mk q => by obtain ⟨q0, q1, qP, qK, qD, qE⟩ := q; exact ⟨q0, q1, qP, va_K.moved (u := U) (U := U.calling g mk a) (Vm.Alike.refl U.vm) qK, qD, GE.calling qE⟩, va_recv hK hP (ci := 8) (q0 := 0) rfl rfl, fun U hU hW => ⟨rfl, by rw [hU], by rw [hU]; exact hPc, va_K.moved hW.alike hK, hDc.weaken (fun _ _ _ _ => trivial), GE.call hE hS hFc hU hW⟩⟩ rfl rfl hl.1 rfl (lv_room (Nat.le_of_ble_eq_true rfl)) dX8_dayEnds_71 ⟨Nat.le_of_ble_eq_true rfl, Nat.le_of_ble_eq_true rfl⟩) hS (fun q _ h => hFc q h) hFc (fun r u tz H1 locs ht hvm hw16 hB hz1 hk1 hS => ?_)
      obtain ⟨hP1, hD1⟩ := hB
      rw [ht] at hP1
      obtain ⟨hP, hD⟩ := va_join (wr := []) (w1 := [(h0, .inr (8, [.ref a1, v1, v2, v3, v4, v5, v6, v7, v8, v9, v10, v11, v12, v13, v14, v15, v16, v17, v18, v19, v20, v21, v22])), (a1, .inl (cy 1, 1037, .inl g14))]) hP hD [0, 1] [] rfl rfl (by decide) (by decide) hk1 hFc hP1 hD1
      generalize H1 = H at hP hS ⊢
      have hP : va_P (dC, dI) vwCl [(h0, .inr (8, [.ref a1, v1, v2, v3, v4, v5, v6, v7, v8, v9, v10, v11, v12, v13, v14, v15, v16, v17, v18, v19, v20, v21, v22])), (a1, .inl (cy 1, 1037, .inl g14))] H := hP
      have hD : va_D A [(h0, .inr (8, [.ref a1, v1, v2, v3, v4, v5, v6, v7, v8, v9, v10, v11, v12, v13, v14, v15, v16, v17, v18, v19, v20, v21, v22])), (a1, .inl (cy 1, 1037, .inl g14))] := hD
      obtain rfl := hw16
      refine W.widen (k := 0) (n := 0) (by omega) (by omega) ?_
      refine va_iast hx hb hK hP hD hS 1 1 rfl rfl (vp_in_nI (n := 920) (by decide) (by decide)) dX8_dayEnds_74 (fun H locs hP hD hS => ?_)
      have hP : va_P (dC, dI) vwCl [(h0, .inr (8, [.ref a1, v1, v2, v3, v4, v5, v6, v7, v8, v9, v10, v11, v12, v13, v14, v15, v16, v17, v18, v19, v20, v21, v22])), (a1, .inl (cy 1, 1037, .inl (upd g14 ((920 : Int32).toNatClampNeg) (g14 (113 + 4 * 1 + 3)))))] H := hP
      have hD : va_D A [(h0, .inr (8, [.ref a1, v1, v2, v3, v4, v5, v6, v7, v8, v9, v10, v11, v12, v13, v14, v15, v16, v17, v18, v19, v20, v21, v22])), (a1, .inl (cy 1, 1037, .inl (upd g14 ((920 : Int32).toNatClampNeg) (g14 (113 + 4 * 1 + 3)))))] := hD
      have hf18 : FT t (upd g14 ((920 : Int32).toNatClampNeg) (g14 (113 + 4 * 1 + 3))) := FT_up hf15 (Or.inl (by decide))
      generalize (upd g14 ((920 : Int32).toNatClampNeg) (g14 (113 + 4 * 1 + 3))) = g17 at hP hD hf18
      refine lv_aload_n hx hb dX8_dayEnds_75 rfl (lv_at hl 2 rfl) ?_
      refine va_get (D := (dC, dI)) (ci := 8) (v := .ref a1) (C := RX8) (T := TX8) (N := 23) hx hb hts inlX8 hown hK hP 0 rfl rfl 0 (by decide) (hts _ mw_97) (fun _ h9 => h9) rfl dX8_dayEnds_76 ?_
      refine lv_bipush (v := 113) hx hb dX8_dayEnds_79 (by decide) ?_
      refine lv_iconst (v := 4) hx hb dX8_dayEnds_81 (by decide) ?_
      refine lv_iload_n hx hb dX8_dayEnds_82 rfl (lv_at hl 1 rfl) ?_
      refine lv_imul hx hb dX8_dayEnds_83 ?_
      refine my_topi (y := 4) (by decide) ?_
      refine lv_iadd hx hb dX8_dayEnds_84 ?_
      refine my_topi (y := 117) (by decide) ?_
      refine lv_iconst (v := 2) hx hb dX8_dayEnds_85 (by decide) ?_
      refine lv_iadd hx hb dX8_dayEnds_86 ?_
      refine my_topi (y := 119) (by decide) ?_
      refine lv_iload_n hx hb dX8_dayEnds_87 rfl (lv_at hl 0 rfl) ?_
      refine lv_iadd hx hb dX8_dayEnds_88 ?_
      refine my_topi (y := 120) (by decide) ?_
      refine lv_iconst (v := 0) hx hb dX8_dayEnds_89 (by decide) ?_
      refine va_iast hx hb hK hP hD hS 1 1 rfl rfl (vp_in_nI (n := 120) (by decide) (by decide)) dX8_dayEnds_90 (fun H locs hP hD hS => ?_)
      have hP : va_P (dC, dI) vwCl [(h0, .inr (8, [.ref a1, v1, v2, v3, v4, v5, v6, v7, v8, v9, v10, v11, v12, v13, v14, v15, v16, v17, v18, v19, v20, v21, v22])), (a1, .inl (cy 1, 1037, .inl (upd g17 ((120 : Int32).toNatClampNeg) 0)))] H := hP
      have hD : va_D A [(h0, .inr (8, [.ref a1, v1, v2, v3, v4, v5, v6, v7, v8, v9, v10, v11, v12, v13, v14, v15, v16, v17, v18, v19, v20, v21, v22])), (a1, .inl (cy 1, 1037, .inl (upd g17 ((120 : Int32).toNatClampNeg) 0)))] := hD
      have hf20 : FT t (upd g17 ((120 : Int32).toNatClampNeg) 0) := FT_up hf18 (Or.inl (by decide))
      generalize (upd g17 ((120 : Int32).toNatClampNeg) 0) = g19 at hP hD hf20
      refine lv_iinc (v := 2) (lv' := [(2, .int 2), (1, .int 1), (0, .ref h0)]) hx hb dX8_dayEnds_91 hl (k := 0) rfl (by decide) (by decide) rfl (fun ls hl => ?_)
      refine lv_goto (tgt := 48) hx hb dX8_dayEnds_94 (by decide) ?_
      refine lv_iload_n hx hb dX8_dayEnds_48 rfl (lv_at hl 0 rfl) ?_
      refine lv_iconst (v := 2) hx hb dX8_dayEnds_49 (by decide) ?_
      refine lv_icmp_ge (tgt := 97) hx hb dX8_dayEnds_50 (by decide) (fun _ => ?_) (fun h => absurd (by decide) h)
      refine lv_iinc (v := 2) (lv' := [(1, .int 2), (2, .int 2), (0, .ref h0)]) hx hb dX8_dayEnds_97 hl (k := 1) rfl (by decide) (by decide) rfl (fun ls hl => ?_)
      refine lv_goto (tgt := 40) hx hb dX8_dayEnds_100 (by decide) ?_
      refine lv_iload_n hx hb dX8_dayEnds_40 rfl (lv_at hl 0 rfl) ?_
      refine lv_bipush (v := 6) hx hb dX8_dayEnds_41 (by decide) ?_
      refine lv_icmp_ge (tgt := 103) hx hb dX8_dayEnds_43 (by decide) (fun h => absurd h (by decide)) (fun _ => ?_)
      refine lv_iconst (v := 0) hx hb dX8_dayEnds_46 (by decide) ?_
      refine lv_istore_n (lv' := [(2, .int 0), (1, .int 2), (0, .ref h0)]) hx hb dX8_dayEnds_47 rfl hl (by decide) rfl (fun ls hl => ?_)
      refine lv_iload_n hx hb dX8_dayEnds_48 rfl (lv_at hl 0 rfl) ?_
      refine lv_iconst (v := 2) hx hb dX8_dayEnds_49 (by decide) ?_
      refine lv_icmp_ge (tgt := 97) hx hb dX8_dayEnds_50 (by decide) (fun h => absurd h (by decide)) (fun _ => ?_)
      refine lv_aload_n hx hb dX8_dayEnds_53 rfl (lv_at hl 2 rfl) ?_
      refine va_get (D := (dC, dI)) (ci := 8) (v := .ref a1) (C := RX8) (T := TX8) (N := 23) hx hb hts inlX8 hown hK hP 0 rfl rfl 0 (by decide) (hts _ mw_97) (fun _ h9 => h9) rfl dX8_dayEnds_54 ?_
      refine lv_sipush (v := 917) hx hb dX8_dayEnds_57 (by decide) ?_
      refine lv_iconst (v := 2) hx hb dX8_dayEnds_60 (by decide) ?_
      refine lv_iload_n hx hb dX8_dayEnds_61 rfl (lv_at hl 1 rfl) ?_
      refine lv_imul hx hb dX8_dayEnds_62 ?_
      refine my_topi (y := 4) (by decide) ?_
      refine lv_iadd hx hb dX8_dayEnds_63 ?_
      refine my_topi (y := 921) (by decide) ?_
      refine lv_iload_n hx hb dX8_dayEnds_64 rfl (lv_at hl 0 rfl) ?_
      refine lv_iadd hx hb dX8_dayEnds_65 ?_
      refine my_topi (y := 921) (by decide) ?_
      refine lv_aload_n hx hb dX8_dayEnds_66 rfl (lv_at hl 2 rfl) ?_
      refine lv_iload_n hx hb dX8_dayEnds_67 rfl (lv_at hl 1 rfl) ?_
      refine lv_iconst (v := 2) hx hb dX8_dayEnds_68 (by decide) ?_
      refine lv_iload_n hx hb dX8_dayEnds_69 rfl (lv_at hl 0 rfl) ?_
      refine lv_iadd hx hb dX8_dayEnds_70 ?_
      refine my_topi (y := 2) (by decide) ?_
      have hPc := hP.sub (ws' := [(h0, .inr (8, [.ref a1, v1, v2, v3, v4, v5, v6, v7, v8, v9, v10, v11, v12, v13, v14, v15, v16, v17, v18, v19, v20, v21, v22])), (a1, .inl (cy 1, 1037, .inl g19))]) [0, 1] rfl
      have hDc := hD.sub (ws' := [(h0, .inr (8, [.ref a1, v1, v2, v3, v4, v5, v6, v7, v8, v9, v10, v11, v12, v13, v14, v15, v16, v17, v18, v19, v20, v21, v22])), (a1, .inl (cy 1, 1037, .inl g19))]) [0, 1] (by decide) rfl
      have hFc := va_free (wc := [(h0, .inr (8, [.ref a1, v1, v2, v3, v4, v5, v6, v7, v8, v9, v10, v11, v12, v13, v14, v15, v16, v17, v18, v19, v20, v21, v22])), (a1, .inl (cy 1, 1037, .inl g19))]) hD hS hA [0, 1] rfl
      refine va_calli (va_runV (As := [.int 2, .int 2]) (rest := [.int 921, .ref a1]) ⟨hx, hb, hml, hown, hts⟩ (c_X8_ofLot l dC dI cy nb h0 a1 (v1) (v2) (v3) (v4) (v5) (v6) (v7) (v8) (v9) (v10) (v11) (v12) (v13) (v14) (v15) (v16) (v17) (v18) (v19) (v20) (v21) (v22) g19 2 2 H.size (by decide) (by decide)) (cwV 2 hts (gV mw_535 mw_536 mw_537 mw_5 mw_538) rfl rfl rfl (by decide +kernel) ⟨Nat.le_of_ble_eq_true rfl, Nat.le_of_ble_eq_true rfl⟩) ⟨fun a U g mk q => by obtain ⟨q0, q1, qP, qK, qD, qE⟩ := q; exact ⟨q0, q1, qP, va_K.moved (u := U) (U := U.calling g mk a) (Vm.Alike.refl U.vm) qK, qD, GE.calling qE⟩, va_recv hK hP (ci := 8) (q0 := 0) rfl rfl, fun U hU hW => ⟨rfl, by rw [hU], by rw [hU]; exact hPc, va_K.moved hW.alike hK, hDc.weaken (fun _ _ _ _ => trivial), GE.call hE hS hFc hU hW⟩⟩ rfl rfl hl.1 rfl (lv_room (Nat.le_of_ble_eq_true rfl)) dX8_dayEnds_71 ⟨Nat.le_of_ble_eq_true rfl, Nat.le_of_ble_eq_true rfl⟩) hS (fun q _ h => hFc q h) hFc (fun r u tz H1 locs ht hvm hw21 hB hz1 hk1 hS => ?_)
      obtain ⟨hP1, hD1⟩ := hB
      rw [ht] at hP1
      obtain ⟨hP, hD⟩ := va_join (wr := []) (w1 := [(h0, .inr (8, [.ref a1, v1, v2, v3, v4, v5, v6, v7, v8, v9, v10, v11, v12, v13, v14, v15, v16, v17, v18, v19, v20, v21, v22])), (a1, .inl (cy 1, 1037, .inl g19))]) hP hD [0, 1] [] rfl rfl (by decide) (by decide) hk1 hFc hP1 hD1
      generalize H1 = H at hP hS ⊢
      have hP : va_P (dC, dI) vwCl [(h0, .inr (8, [.ref a1, v1, v2, v3, v4, v5, v6, v7, v8, v9, v10, v11, v12, v13, v14, v15, v16, v17, v18, v19, v20, v21, v22])), (a1, .inl (cy 1, 1037, .inl g19))] H := hP
      have hD : va_D A [(h0, .inr (8, [.ref a1, v1, v2, v3, v4, v5, v6, v7, v8, v9, v10, v11, v12, v13, v14, v15, v16, v17, v18, v19, v20, v21, v22])), (a1, .inl (cy 1, 1037, .inl g19))] := hD
      obtain rfl := hw21
      refine W.widen (k := 0) (n := 0) (by omega) (by omega) ?_
      refine va_iast hx hb hK hP hD hS 1 1 rfl rfl (vp_in_nI (n := 921) (by decide) (by decide)) dX8_dayEnds_74 (fun H locs hP hD hS => ?_)
      have hP : va_P (dC, dI) vwCl [(h0, .inr (8, [.ref a1, v1, v2, v3, v4, v5, v6, v7, v8, v9, v10, v11, v12, v13, v14, v15, v16, v17, v18, v19, v20, v21, v22])), (a1, .inl (cy 1, 1037, .inl (upd g19 ((921 : Int32).toNatClampNeg) (g19 (113 + 4 * 2 + 2)))))] H := hP
      have hD : va_D A [(h0, .inr (8, [.ref a1, v1, v2, v3, v4, v5, v6, v7, v8, v9, v10, v11, v12, v13, v14, v15, v16, v17, v18, v19, v20, v21, v22])), (a1, .inl (cy 1, 1037, .inl (upd g19 ((921 : Int32).toNatClampNeg) (g19 (113 + 4 * 2 + 2)))))] := hD
      have hf23 : FT t (upd g19 ((921 : Int32).toNatClampNeg) (g19 (113 + 4 * 2 + 2))) := FT_up hf20 (Or.inl (by decide))
      generalize (upd g19 ((921 : Int32).toNatClampNeg) (g19 (113 + 4 * 2 + 2))) = g22 at hP hD hf23
      refine lv_aload_n hx hb dX8_dayEnds_75 rfl (lv_at hl 2 rfl) ?_
      refine va_get (D := (dC, dI)) (ci := 8) (v := .ref a1) (C := RX8) (T := TX8) (N := 23) hx hb hts inlX8 hown hK hP 0 rfl rfl 0 (by decide) (hts _ mw_97) (fun _ h9 => h9) rfl dX8_dayEnds_76 ?_
      refine lv_bipush (v := 113) hx hb dX8_dayEnds_79 (by decide) ?_
      refine lv_iconst (v := 4) hx hb dX8_dayEnds_81 (by decide) ?_
      refine lv_iload_n hx hb dX8_dayEnds_82 rfl (lv_at hl 1 rfl) ?_
      refine lv_imul hx hb dX8_dayEnds_83 ?_
      refine my_topi (y := 8) (by decide) ?_
      refine lv_iadd hx hb dX8_dayEnds_84 ?_
      refine my_topi (y := 121) (by decide) ?_
      refine lv_iconst (v := 2) hx hb dX8_dayEnds_85 (by decide) ?_
      refine lv_iadd hx hb dX8_dayEnds_86 ?_
      refine my_topi (y := 123) (by decide) ?_
      refine lv_iload_n hx hb dX8_dayEnds_87 rfl (lv_at hl 0 rfl) ?_
      refine lv_iadd hx hb dX8_dayEnds_88 ?_
      refine my_topi (y := 123) (by decide) ?_
      refine lv_iconst (v := 0) hx hb dX8_dayEnds_89 (by decide) ?_
      refine va_iast hx hb hK hP hD hS 1 1 rfl rfl (vp_in_nI (n := 123) (by decide) (by decide)) dX8_dayEnds_90 (fun H locs hP hD hS => ?_)
      have hP : va_P (dC, dI) vwCl [(h0, .inr (8, [.ref a1, v1, v2, v3, v4, v5, v6, v7, v8, v9, v10, v11, v12, v13, v14, v15, v16, v17, v18, v19, v20, v21, v22])), (a1, .inl (cy 1, 1037, .inl (upd g22 ((123 : Int32).toNatClampNeg) 0)))] H := hP
      have hD : va_D A [(h0, .inr (8, [.ref a1, v1, v2, v3, v4, v5, v6, v7, v8, v9, v10, v11, v12, v13, v14, v15, v16, v17, v18, v19, v20, v21, v22])), (a1, .inl (cy 1, 1037, .inl (upd g22 ((123 : Int32).toNatClampNeg) 0)))] := hD
      have hf25 : FT t (upd g22 ((123 : Int32).toNatClampNeg) 0) := FT_up hf23 (Or.inl (by decide))
      generalize (upd g22 ((123 : Int32).toNatClampNeg) 0) = g24 at hP hD hf25
      refine lv_iinc (v := 1) (lv' := [(2, .int 1), (1, .int 2), (0, .ref h0)]) hx hb dX8_dayEnds_91 hl (k := 0) rfl (by decide) (by decide) rfl (fun ls hl => ?_)
      refine lv_goto (tgt := 48) hx hb dX8_dayEnds_94 (by decide) ?_
      refine lv_iload_n hx hb dX8_dayEnds_48 rfl (lv_at hl 0 rfl) ?_
      refine lv_iconst (v := 2) hx hb dX8_dayEnds_49 (by decide) ?_
      refine lv_icmp_ge (tgt := 97) hx hb dX8_dayEnds_50 (by decide) (fun h => absurd h (by decide)) (fun _ => ?_)
      refine lv_aload_n hx hb dX8_dayEnds_53 rfl (lv_at hl 2 rfl) ?_
      refine va_get (D := (dC, dI)) (ci := 8) (v := .ref a1) (C := RX8) (T := TX8) (N := 23) hx hb hts inlX8 hown hK hP 0 rfl rfl 0 (by decide) (hts _ mw_97) (fun _ h9 => h9) rfl dX8_dayEnds_54 ?_
      refine lv_sipush (v := 917) hx hb dX8_dayEnds_57 (by decide) ?_
      refine lv_iconst (v := 2) hx hb dX8_dayEnds_60 (by decide) ?_
      refine lv_iload_n hx hb dX8_dayEnds_61 rfl (lv_at hl 1 rfl) ?_
      refine lv_imul hx hb dX8_dayEnds_62 ?_
      refine my_topi (y := 4) (by decide) ?_
      refine lv_iadd hx hb dX8_dayEnds_63 ?_
      refine my_topi (y := 921) (by decide) ?_
      refine lv_iload_n hx hb dX8_dayEnds_64 rfl (lv_at hl 0 rfl) ?_
      refine lv_iadd hx hb dX8_dayEnds_65 ?_
      refine my_topi (y := 922) (by decide) ?_
      refine lv_aload_n hx hb dX8_dayEnds_66 rfl (lv_at hl 2 rfl) ?_
      refine lv_iload_n hx hb dX8_dayEnds_67 rfl (lv_at hl 1 rfl) ?_
      refine lv_iconst (v := 2) hx hb dX8_dayEnds_68 (by decide) ?_
      refine lv_iload_n hx hb dX8_dayEnds_69 rfl (lv_at hl 0 rfl) ?_
      refine lv_iadd hx hb dX8_dayEnds_70 ?_
      refine my_topi (y := 3) (by decide) ?_
      have hPc := hP.sub (ws' := [(h0, .inr (8, [.ref a1, v1, v2, v3, v4, v5, v6, v7, v8, v9, v10, v11, v12, v13, v14, v15, v16, v17, v18, v19, v20, v21, v22])), (a1, .inl (cy 1, 1037, .inl g24))]) [0, 1] rfl
      have hDc := hD.sub (ws' := [(h0, .inr (8, [.ref a1, v1, v2, v3, v4, v5, v6, v7, v8, v9, v10, v11, v12, v13, v14, v15, v16, v17, v18, v19, v20, v21, v22])), (a1, .inl (cy 1, 1037, .inl g24))]) [0, 1] (by decide) rfl
      have hFc := va_free (wc := [(h0, .inr (8, [.ref a1, v1, v2, v3, v4, v5, v6, v7, v8, v9, v10, v11, v12, v13, v14, v15, v16, v17, v18, v19, v20, v21, v22])), (a1, .inl (cy 1, 1037, .inl g24))]) hD hS hA [0, 1] rfl
      refine va_calli (va_runV (As := [.int 2, .int 3]) (rest := [.int 922, .ref a1]) ⟨hx, hb, hml, hown, hts⟩ (c_X8_ofLot l dC dI cy nb h0 a1 (v1) (v2) (v3) (v4) (v5) (v6) (v7) (v8) (v9) (v10) (v11) (v12) (v13) (v14) (v15) (v16) (v17) (v18) (v19) (v20) (v21) (v22) g24 2 3 H.size (by decide) (by decide)) (cwV 2 hts (gV mw_535 mw_536 mw_537 mw_5 mw_538) rfl rfl rfl (by decide +kernel) ⟨Nat.le_of_ble_eq_true rfl, Nat.le_of_ble_eq_true rfl⟩) ⟨fun a U g mk q => by obtain ⟨q0, q1, qP, qK, qD, qE⟩ := q; exact ⟨q0, q1, qP, va_K.moved (u := U) (U := U.calling g mk a) (Vm.Alike.refl U.vm) qK, qD, GE.calling qE⟩, va_recv hK hP (ci := 8) (q0 := 0) rfl rfl, fun U hU hW => ⟨rfl, by rw [hU], by rw [hU]; exact hPc, va_K.moved hW.alike hK, hDc.weaken (fun _ _ _ _ => trivial), GE.call hE hS hFc hU hW⟩⟩ rfl rfl hl.1 rfl (lv_room (Nat.le_of_ble_eq_true rfl)) dX8_dayEnds_71 ⟨Nat.le_of_ble_eq_true rfl, Nat.le_of_ble_eq_true rfl⟩) hS (fun q _ h => hFc q h) hFc (fun r u tz H1 locs ht hvm hw26 hB hz1 hk1 hS => ?_)
      obtain ⟨hP1, hD1⟩ := hB
      rw [ht] at hP1
      obtain ⟨hP, hD⟩ := va_join (wr := []) (w1 := [(h0, .inr (8, [.ref a1, v1, v2, v3, v4, v5, v6, v7, v8, v9, v10, v11, v12, v13, v14, v15, v16, v17, v18, v19, v20, v21, v22])), (a1, .inl (cy 1, 1037, .inl g24))]) hP hD [0, 1] [] rfl rfl (by decide) (by decide) hk1 hFc hP1 hD1
      generalize H1 = H at hP hS ⊢
      have hP : va_P (dC, dI) vwCl [(h0, .inr (8, [.ref a1, v1, v2, v3, v4, v5, v6, v7, v8, v9, v10, v11, v12, v13, v14, v15, v16, v17, v18, v19, v20, v21, v22])), (a1, .inl (cy 1, 1037, .inl g24))] H := hP
      have hD : va_D A [(h0, .inr (8, [.ref a1, v1, v2, v3, v4, v5, v6, v7, v8, v9, v10, v11, v12, v13, v14, v15, v16, v17, v18, v19, v20, v21, v22])), (a1, .inl (cy 1, 1037, .inl g24))] := hD
      obtain rfl := hw26
      refine W.widen (k := 0) (n := 0) (by omega) (by omega) ?_
      refine va_iast hx hb hK hP hD hS 1 1 rfl rfl (vp_in_nI (n := 922) (by decide) (by decide)) dX8_dayEnds_74 (fun H locs hP hD hS => ?_)
      have hP : va_P (dC, dI) vwCl [(h0, .inr (8, [.ref a1, v1, v2, v3, v4, v5, v6, v7, v8, v9, v10, v11, v12, v13, v14, v15, v16, v17, v18, v19, v20, v21, v22])), (a1, .inl (cy 1, 1037, .inl (upd g24 ((922 : Int32).toNatClampNeg) (g24 (113 + 4 * 2 + 3)))))] H := hP
      have hD : va_D A [(h0, .inr (8, [.ref a1, v1, v2, v3, v4, v5, v6, v7, v8, v9, v10, v11, v12, v13, v14, v15, v16, v17, v18, v19, v20, v21, v22])), (a1, .inl (cy 1, 1037, .inl (upd g24 ((922 : Int32).toNatClampNeg) (g24 (113 + 4 * 2 + 3)))))] := hD
      have hf28 : FT t (upd g24 ((922 : Int32).toNatClampNeg) (g24 (113 + 4 * 2 + 3))) := FT_up hf25 (Or.inl (by decide))
      generalize (upd g24 ((922 : Int32).toNatClampNeg) (g24 (113 + 4 * 2 + 3))) = g27 at hP hD hf28
      refine lv_aload_n hx hb dX8_dayEnds_75 rfl (lv_at hl 2 rfl) ?_
      refine va_get (D := (dC, dI)) (ci := 8) (v := .ref a1) (C := RX8) (T := TX8) (N := 23) hx hb hts inlX8 hown hK hP 0 rfl rfl 0 (by decide) (hts _ mw_97) (fun _ h9 => h9) rfl dX8_dayEnds_76 ?_
      refine lv_bipush (v := 113) hx hb dX8_dayEnds_79 (by decide) ?_
      refine lv_iconst (v := 4) hx hb dX8_dayEnds_81 (by decide) ?_
      refine lv_iload_n hx hb dX8_dayEnds_82 rfl (lv_at hl 1 rfl) ?_
      refine lv_imul hx hb dX8_dayEnds_83 ?_
      refine my_topi (y := 8) (by decide) ?_
      refine lv_iadd hx hb dX8_dayEnds_84 ?_
      refine my_topi (y := 121) (by decide) ?_
      refine lv_iconst (v := 2) hx hb dX8_dayEnds_85 (by decide) ?_
      refine lv_iadd hx hb dX8_dayEnds_86 ?_
      refine my_topi (y := 123) (by decide) ?_
      refine lv_iload_n hx hb dX8_dayEnds_87 rfl (lv_at hl 0 rfl) ?_
      refine lv_iadd hx hb dX8_dayEnds_88 ?_
      refine my_topi (y := 124) (by decide) ?_
      refine lv_iconst (v := 0) hx hb dX8_dayEnds_89 (by decide) ?_
      refine va_iast hx hb hK hP hD hS 1 1 rfl rfl (vp_in_nI (n := 124) (by decide) (by decide)) dX8_dayEnds_90 (fun H locs hP hD hS => ?_)
      have hP : va_P (dC, dI) vwCl [(h0, .inr (8, [.ref a1, v1, v2, v3, v4, v5, v6, v7, v8, v9, v10, v11, v12, v13, v14, v15, v16, v17, v18, v19, v20, v21, v22])), (a1, .inl (cy 1, 1037, .inl (upd g27 ((124 : Int32).toNatClampNeg) 0)))] H := hP
      have hD : va_D A [(h0, .inr (8, [.ref a1, v1, v2, v3, v4, v5, v6, v7, v8, v9, v10, v11, v12, v13, v14, v15, v16, v17, v18, v19, v20, v21, v22])), (a1, .inl (cy 1, 1037, .inl (upd g27 ((124 : Int32).toNatClampNeg) 0)))] := hD
      have hf30 : FT t (upd g27 ((124 : Int32).toNatClampNeg) 0) := FT_up hf28 (Or.inl (by decide))
      generalize (upd g27 ((124 : Int32).toNatClampNeg) 0) = g29 at hP hD hf30
      refine lv_iinc (v := 2) (lv' := [(2, .int 2), (1, .int 2), (0, .ref h0)]) hx hb dX8_dayEnds_91 hl (k := 0) rfl (by decide) (by decide) rfl (fun ls hl => ?_)
      refine lv_goto (tgt := 48) hx hb dX8_dayEnds_94 (by decide) ?_
      refine lv_iload_n hx hb dX8_dayEnds_48 rfl (lv_at hl 0 rfl) ?_
      refine lv_iconst (v := 2) hx hb dX8_dayEnds_49 (by decide) ?_
      refine lv_icmp_ge (tgt := 97) hx hb dX8_dayEnds_50 (by decide) (fun _ => ?_) (fun h => absurd (by decide) h)
      refine lv_iinc (v := 3) (lv' := [(1, .int 3), (2, .int 2), (0, .ref h0)]) hx hb dX8_dayEnds_97 hl (k := 1) rfl (by decide) (by decide) rfl (fun ls hl => ?_)
      refine lv_goto (tgt := 40) hx hb dX8_dayEnds_100 (by decide) ?_
      refine lv_iload_n hx hb dX8_dayEnds_40 rfl (lv_at hl 0 rfl) ?_
      refine lv_bipush (v := 6) hx hb dX8_dayEnds_41 (by decide) ?_
      refine lv_icmp_ge (tgt := 103) hx hb dX8_dayEnds_43 (by decide) (fun h => absurd h (by decide)) (fun _ => ?_)
      refine lv_iconst (v := 0) hx hb dX8_dayEnds_46 (by decide) ?_
      refine lv_istore_n (lv' := [(2, .int 0), (1, .int 3), (0, .ref h0)]) hx hb dX8_dayEnds_47 rfl hl (by decide) rfl (fun ls hl => ?_)
      refine lv_iload_n hx hb dX8_dayEnds_48 rfl (lv_at hl 0 rfl) ?_
      refine lv_iconst (v := 2) hx hb dX8_dayEnds_49 (by decide) ?_
      refine lv_icmp_ge (tgt := 97) hx hb dX8_dayEnds_50 (by decide) (fun h => absurd h (by decide)) (fun _ => ?_)
      refine lv_aload_n hx hb dX8_dayEnds_53 rfl (lv_at hl 2 rfl) ?_
      refine va_get (D := (dC, dI)) (ci := 8) (v := .ref a1) (C := RX8) (T := TX8) (N := 23) hx hb hts inlX8 hown hK hP 0 rfl rfl 0 (by decide) (hts _ mw_97) (fun _ h9 => h9) rfl dX8_dayEnds_54 ?_
      refine lv_sipush (v := 917) hx hb dX8_dayEnds_57 (by decide) ?_
      refine lv_iconst (v := 2) hx hb dX8_dayEnds_60 (by decide) ?_
      refine lv_iload_n hx hb dX8_dayEnds_61 rfl (lv_at hl 1 rfl) ?_
      refine lv_imul hx hb dX8_dayEnds_62 ?_
      refine my_topi (y := 6) (by decide) ?_
      refine lv_iadd hx hb dX8_dayEnds_63 ?_
      refine my_topi (y := 923) (by decide) ?_
      refine lv_iload_n hx hb dX8_dayEnds_64 rfl (lv_at hl 0 rfl) ?_
      refine lv_iadd hx hb dX8_dayEnds_65 ?_
      refine my_topi (y := 923) (by decide) ?_
      refine lv_aload_n hx hb dX8_dayEnds_66 rfl (lv_at hl 2 rfl) ?_
      refine lv_iload_n hx hb dX8_dayEnds_67 rfl (lv_at hl 1 rfl) ?_
      refine lv_iconst (v := 2) hx hb dX8_dayEnds_68 (by decide) ?_
      refine lv_iload_n hx hb dX8_dayEnds_69 rfl (lv_at hl 0 rfl) ?_
      refine lv_iadd hx hb dX8_dayEnds_70 ?_
      refine my_topi (y := 2) (by decide) ?_
      have hPc := hP.sub (ws' := [(h0, .inr (8, [.ref a1, v1, v2, v3, v4, v5, v6, v7, v8, v9, v10, v11, v12, v13, v14, v15, v16, v17, v18, v19, v20, v21, v22])), (a1, .inl (cy 1, 1037, .inl g29))]) [0, 1] rfl
      have hDc := hD.sub (ws' := [(h0, .inr (8, [.ref a1, v1, v2, v3, v4, v5, v6, v7, v8, v9, v10, v11, v12, v13, v14, v15, v16, v17, v18, v19, v20, v21, v22])), (a1, .inl (cy 1, 1037, .inl g29))]) [0, 1] (by decide) rfl
      have hFc := va_free (wc := [(h0, .inr (8, [.ref a1, v1, v2, v3, v4, v5, v6, v7, v8, v9, v10, v11, v12, v13, v14, v15, v16, v17, v18, v19, v20, v21, v22])), (a1, .inl (cy 1, 1037, .inl g29))]) hD hS hA [0, 1] rfl
      refine va_calli (va_runV (As := [.int 3, .int 2]) (rest := [.int 923, .ref a1]) ⟨hx, hb, hml, hown, hts⟩ (c_X8_ofLot l dC dI cy nb h0 a1 (v1) (v2) (v3) (v4) (v5) (v6) (v7) (v8) (v9) (v10) (v11) (v12) (v13) (v14) (v15) (v16) (v17) (v18) (v19) (v20) (v21) (v22) g29 3 2 H.size (by decide) (by decide)) (cwV 2 hts (gV mw_535 mw_536 mw_537 mw_5 mw_538) rfl rfl rfl (by decide +kernel) ⟨Nat.le_of_ble_eq_true rfl, Nat.le_of_ble_eq_true rfl⟩) ⟨fun a U g mk q => by obtain ⟨q0, q1, qP, qK, qD, qE⟩ := q; exact ⟨q0, q1, qP, va_K.moved (u := U) (U := U.calling g mk a) (Vm.Alike.refl U.vm) qK, qD, GE.calling qE⟩, va_recv hK hP (ci := 8) (q0 := 0) rfl rfl, fun U hU hW => ⟨rfl, by rw [hU], by rw [hU]; exact hPc, va_K.moved hW.alike hK, hDc.weaken (fun _ _ _ _ => trivial), GE.call hE hS hFc hU hW⟩⟩ rfl rfl hl.1 rfl (lv_room (Nat.le_of_ble_eq_true rfl)) dX8_dayEnds_71 ⟨Nat.le_of_ble_eq_true rfl, Nat.le_of_ble_eq_true rfl⟩) hS (fun q _ h => hFc q h) hFc (fun r u tz H1 locs ht hvm hw31 hB hz1 hk1 hS => ?_)
      obtain ⟨hP1, hD1⟩ := hB
      rw [ht] at hP1
      obtain ⟨hP, hD⟩ := va_join (wr := []) (w1 := [(h0, .inr (8, [.ref a1, v1, v2, v3, v4, v5, v6, v7, v8, v9, v10, v11, v12, v13, v14, v15, v16, v17, v18, v19, v20, v21, v22])), (a1, .inl (cy 1, 1037, .inl g29))]) hP hD [0, 1] [] rfl rfl (by decide) (by decide) hk1 hFc hP1 hD1
      generalize H1 = H at hP hS ⊢
      have hP : va_P (dC, dI) vwCl [(h0, .inr (8, [.ref a1, v1, v2, v3, v4, v5, v6, v7, v8, v9, v10, v11, v12, v13, v14, v15, v16, v17, v18, v19, v20, v21, v22])), (a1, .inl (cy 1, 1037, .inl g29))] H := hP
      have hD : va_D A [(h0, .inr (8, [.ref a1, v1, v2, v3, v4, v5, v6, v7, v8, v9, v10, v11, v12, v13, v14, v15, v16, v17, v18, v19, v20, v21, v22])), (a1, .inl (cy 1, 1037, .inl g29))] := hD
      obtain rfl := hw31
      refine W.widen (k := 0) (n := 0) (by omega) (by omega) ?_
      refine va_iast hx hb hK hP hD hS 1 1 rfl rfl (vp_in_nI (n := 923) (by decide) (by decide)) dX8_dayEnds_74 (fun H locs hP hD hS => ?_)
      have hP : va_P (dC, dI) vwCl [(h0, .inr (8, [.ref a1, v1, v2, v3, v4, v5, v6, v7, v8, v9, v10, v11, v12, v13, v14, v15, v16, v17, v18, v19, v20, v21, v22])), (a1, .inl (cy 1, 1037, .inl (upd g29 ((923 : Int32).toNatClampNeg) (g29 (113 + 4 * 3 + 2)))))] H := hP
      have hD : va_D A [(h0, .inr (8, [.ref a1, v1, v2, v3, v4, v5, v6, v7, v8, v9, v10, v11, v12, v13, v14, v15, v16, v17, v18, v19, v20, v21, v22])), (a1, .inl (cy 1, 1037, .inl (upd g29 ((923 : Int32).toNatClampNeg) (g29 (113 + 4 * 3 + 2)))))] := hD
      have hf33 : FT t (upd g29 ((923 : Int32).toNatClampNeg) (g29 (113 + 4 * 3 + 2))) := FT_up hf30 (Or.inl (by decide))
      generalize (upd g29 ((923 : Int32).toNatClampNeg) (g29 (113 + 4 * 3 + 2))) = g32 at hP hD hf33
      refine lv_aload_n hx hb dX8_dayEnds_75 rfl (lv_at hl 2 rfl) ?_
      refine va_get (D := (dC, dI)) (ci := 8) (v := .ref a1) (C := RX8) (T := TX8) (N := 23) hx hb hts inlX8 hown hK hP 0 rfl rfl 0 (by decide) (hts _ mw_97) (fun _ h9 => h9) rfl dX8_dayEnds_76 ?_
      refine lv_bipush (v := 113) hx hb dX8_dayEnds_79 (by decide) ?_
      refine lv_iconst (v := 4) hx hb dX8_dayEnds_81 (by decide) ?_
      refine lv_iload_n hx hb dX8_dayEnds_82 rfl (lv_at hl 1 rfl) ?_
      refine lv_imul hx hb dX8_dayEnds_83 ?_
      refine my_topi (y := 12) (by decide) ?_
      refine lv_iadd hx hb dX8_dayEnds_84 ?_
      refine my_topi (y := 125) (by decide) ?_
      refine lv_iconst (v := 2) hx hb dX8_dayEnds_85 (by decide) ?_
      refine lv_iadd hx hb dX8_dayEnds_86 ?_
      refine my_topi (y := 127) (by decide) ?_
      refine lv_iload_n hx hb dX8_dayEnds_87 rfl (lv_at hl 0 rfl) ?_
      refine lv_iadd hx hb dX8_dayEnds_88 ?_
      refine my_topi (y := 127) (by decide) ?_
      refine lv_iconst (v := 0) hx hb dX8_dayEnds_89 (by decide) ?_
      refine va_iast hx hb hK hP hD hS 1 1 rfl rfl (vp_in_nI (n := 127) (by decide) (by decide)) dX8_dayEnds_90 (fun H locs hP hD hS => ?_)
      have hP : va_P (dC, dI) vwCl [(h0, .inr (8, [.ref a1, v1, v2, v3, v4, v5, v6, v7, v8, v9, v10, v11, v12, v13, v14, v15, v16, v17, v18, v19, v20, v21, v22])), (a1, .inl (cy 1, 1037, .inl (upd g32 ((127 : Int32).toNatClampNeg) 0)))] H := hP
      have hD : va_D A [(h0, .inr (8, [.ref a1, v1, v2, v3, v4, v5, v6, v7, v8, v9, v10, v11, v12, v13, v14, v15, v16, v17, v18, v19, v20, v21, v22])), (a1, .inl (cy 1, 1037, .inl (upd g32 ((127 : Int32).toNatClampNeg) 0)))] := hD
      have hf35 : FT t (upd g32 ((127 : Int32).toNatClampNeg) 0) := FT_up hf33 (Or.inl (by decide))
      generalize (upd g32 ((127 : Int32).toNatClampNeg) 0) = g34 at hP hD hf35
      refine lv_iinc (v := 1) (lv' := [(2, .int 1), (1, .int 3), (0, .ref h0)]) hx hb dX8_dayEnds_91 hl (k := 0) rfl (by decide) (by decide) rfl (fun ls hl => ?_)
      refine lv_goto (tgt := 48) hx hb dX8_dayEnds_94 (by decide) ?_
      refine lv_iload_n hx hb dX8_dayEnds_48 rfl (lv_at hl 0 rfl) ?_
      refine lv_iconst (v := 2) hx hb dX8_dayEnds_49 (by decide) ?_
      refine lv_icmp_ge (tgt := 97) hx hb dX8_dayEnds_50 (by decide) (fun h => absurd h (by decide)) (fun _ => ?_)
      refine lv_aload_n hx hb dX8_dayEnds_53 rfl (lv_at hl 2 rfl) ?_
      refine va_get (D := (dC, dI)) (ci := 8) (v := .ref a1) (C := RX8) (T := TX8) (N := 23) hx hb hts inlX8 hown hK hP 0 rfl rfl 0 (by decide) (hts _ mw_97) (fun _ h9 => h9) rfl dX8_dayEnds_54 ?_
      refine lv_sipush (v := 917) hx hb dX8_dayEnds_57 (by decide) ?_
      refine lv_iconst (v := 2) hx hb dX8_dayEnds_60 (by decide) ?_
      refine lv_iload_n hx hb dX8_dayEnds_61 rfl (lv_at hl 1 rfl) ?_
      refine lv_imul hx hb dX8_dayEnds_62 ?_
      refine my_topi (y := 6) (by decide) ?_
      refine lv_iadd hx hb dX8_dayEnds_63 ?_
      refine my_topi (y := 923) (by decide) ?_
      refine lv_iload_n hx hb dX8_dayEnds_64 rfl (lv_at hl 0 rfl) ?_
      refine lv_iadd hx hb dX8_dayEnds_65 ?_
      refine my_topi (y := 924) (by decide) ?_
      refine lv_aload_n hx hb dX8_dayEnds_66 rfl (lv_at hl 2 rfl) ?_
      refine lv_iload_n hx hb dX8_dayEnds_67 rfl (lv_at hl 1 rfl) ?_
      refine lv_iconst (v := 2) hx hb dX8_dayEnds_68 (by decide) ?_
      refine lv_iload_n hx hb dX8_dayEnds_69 rfl (lv_at hl 0 rfl) ?_
      refine lv_iadd hx hb dX8_dayEnds_70 ?_
      refine my_topi (y := 3) (by decide) ?_
      have hPc := hP.sub (ws' := [(h0, .inr (8, [.ref a1, v1, v2, v3, v4, v5, v6, v7, v8, v9, v10, v11, v12, v13, v14, v15, v16, v17, v18, v19, v20, v21, v22])), (a1, .inl (cy 1, 1037, .inl g34))]) [0, 1] rfl
      have hDc := hD.sub (ws' := [(h0, .inr (8, [.ref a1, v1, v2, v3, v4, v5, v6, v7, v8, v9, v10, v11, v12, v13, v14, v15, v16, v17, v18, v19, v20, v21, v22])), (a1, .inl (cy 1, 1037, .inl g34))]) [0, 1] (by decide) rfl
      have hFc := va_free (wc := [(h0, .inr (8, [.ref a1, v1, v2, v3, v4, v5, v6, v7, v8, v9, v10, v11, v12, v13, v14, v15, v16, v17, v18, v19, v20, v21, v22])), (a1, .inl (cy 1, 1037, .inl g34))]) hD hS hA [0, 1] rfl
      refine va_calli (va_runV (As := [.int 3, .int 3]) (rest := [.int 924, .ref a1]) ⟨hx, hb, hml, hown, hts⟩ (c_X8_ofLot l dC dI cy nb h0 a1 (v1) (v2) (v3) (v4) (v5) (v6) (v7) (v8) (v9) (v10) (v11) (v12) (v13) (v14) (v15) (v16) (v17) (v18) (v19) (v20) (v21) (v22) g34 3 3 H.size (by decide) (by decide)) (cwV 2 hts (gV mw_535 mw_536 mw_537 mw_5 mw_538) rfl rfl rfl (by decide +kernel) ⟨Nat.le_of_ble_eq_true rfl, Nat.le_of_ble_eq_true rfl⟩) ⟨fun a U g mk q => by obtain ⟨q0, q1, qP, qK, qD, qE⟩ := q; exact ⟨q0, q1, qP, va_K.moved (u := U) (U := U.calling g mk a) (Vm.Alike.refl U.vm) qK, qD, GE.calling qE⟩, va_recv hK hP (ci := 8) (q0 := 0) rfl rfl, fun U hU hW => ⟨rfl, by rw [hU], by rw [hU]; exact hPc, va_K.moved hW.alike hK, hDc.weaken (fun _ _ _ _ => trivial), GE.call hE hS hFc hU hW⟩⟩ rfl rfl hl.1 rfl (lv_room (Nat.le_of_ble_eq_true rfl)) dX8_dayEnds_71 ⟨Nat.le_of_ble_eq_true rfl, Nat.le_of_ble_eq_true rfl⟩) hS (fun q _ h => hFc q h) hFc (fun r u tz H1 locs ht hvm hw36 hB hz1 hk1 hS => ?_)
      obtain ⟨hP1, hD1⟩ := hB
      rw [ht] at hP1
      obtain ⟨hP, hD⟩ := va_join (wr := []) (w1 := [(h0, .inr (8, [.ref a1, v1, v2, v3, v4, v5, v6, v7, v8, v9, v10, v11, v12, v13, v14, v15, v16, v17, v18, v19, v20, v21, v22])), (a1, .inl (cy 1, 1037, .inl g34))]) hP hD [0, 1] [] rfl rfl (by decide) (by decide) hk1 hFc hP1 hD1
      generalize H1 = H at hP hS ⊢
      have hP : va_P (dC, dI) vwCl [(h0, .inr (8, [.ref a1, v1, v2, v3, v4, v5, v6, v7, v8, v9, v10, v11, v12, v13, v14, v15, v16, v17, v18, v19, v20, v21, v22])), (a1, .inl (cy 1, 1037, .inl g34))] H := hP
      have hD : va_D A [(h0, .inr (8, [.ref a1, v1, v2, v3, v4, v5, v6, v7, v8, v9, v10, v11, v12, v13, v14, v15, v16, v17, v18, v19, v20, v21, v22])), (a1, .inl (cy 1, 1037, .inl g34))] := hD
      obtain rfl := hw36
      refine W.widen (k := 0) (n := 0) (by omega) (by omega) ?_
      refine va_iast hx hb hK hP hD hS 1 1 rfl rfl (vp_in_nI (n := 924) (by decide) (by decide)) dX8_dayEnds_74 (fun H locs hP hD hS => ?_)
      have hP : va_P (dC, dI) vwCl [(h0, .inr (8, [.ref a1, v1, v2, v3, v4, v5, v6, v7, v8, v9, v10, v11, v12, v13, v14, v15, v16, v17, v18, v19, v20, v21, v22])), (a1, .inl (cy 1, 1037, .inl (upd g34 ((924 : Int32).toNatClampNeg) (g34 (113 + 4 * 3 + 3)))))] H := hP
      have hD : va_D A [(h0, .inr (8, [.ref a1, v1, v2, v3, v4, v5, v6, v7, v8, v9, v10, v11, v12, v13, v14, v15, v16, v17, v18, v19, v20, v21, v22])), (a1, .inl (cy 1, 1037, .inl (upd g34 ((924 : Int32).toNatClampNeg) (g34 (113 + 4 * 3 + 3)))))] := hD
      have hf38 : FT t (upd g34 ((924 : Int32).toNatClampNeg) (g34 (113 + 4 * 3 + 3))) := FT_up hf35 (Or.inl (by decide))
      generalize (upd g34 ((924 : Int32).toNatClampNeg) (g34 (113 + 4 * 3 + 3))) = g37 at hP hD hf38
      refine lv_aload_n hx hb dX8_dayEnds_75 rfl (lv_at hl 2 rfl) ?_
      refine va_get (D := (dC, dI)) (ci := 8) (v := .ref a1) (C := RX8) (T := TX8) (N := 23) hx hb hts inlX8 hown hK hP 0 rfl rfl 0 (by decide) (hts _ mw_97) (fun _ h9 => h9) rfl dX8_dayEnds_76 ?_
      refine lv_bipush (v := 113) hx hb dX8_dayEnds_79 (by decide) ?_
      refine lv_iconst (v := 4) hx hb dX8_dayEnds_81 (by decide) ?_
      refine lv_iload_n hx hb dX8_dayEnds_82 rfl (lv_at hl 1 rfl) ?_
      refine lv_imul hx hb dX8_dayEnds_83 ?_
      refine my_topi (y := 12) (by decide) ?_
      refine lv_iadd hx hb dX8_dayEnds_84 ?_
      refine my_topi (y := 125) (by decide) ?_
      refine lv_iconst (v := 2) hx hb dX8_dayEnds_85 (by decide) ?_
      refine lv_iadd hx hb dX8_dayEnds_86 ?_
      refine my_topi (y := 127) (by decide) ?_
      refine lv_iload_n hx hb dX8_dayEnds_87 rfl (lv_at hl 0 rfl) ?_
      refine lv_iadd hx hb dX8_dayEnds_88 ?_
      refine my_topi (y := 128) (by decide) ?_
      refine lv_iconst (v := 0) hx hb dX8_dayEnds_89 (by decide) ?_
      refine va_iast hx hb hK hP hD hS 1 1 rfl rfl (vp_in_nI (n := 128) (by decide) (by decide)) dX8_dayEnds_90 (fun H locs hP hD hS => ?_)
      have hP : va_P (dC, dI) vwCl [(h0, .inr (8, [.ref a1, v1, v2, v3, v4, v5, v6, v7, v8, v9, v10, v11, v12, v13, v14, v15, v16, v17, v18, v19, v20, v21, v22])), (a1, .inl (cy 1, 1037, .inl (upd g37 ((128 : Int32).toNatClampNeg) 0)))] H := hP
      have hD : va_D A [(h0, .inr (8, [.ref a1, v1, v2, v3, v4, v5, v6, v7, v8, v9, v10, v11, v12, v13, v14, v15, v16, v17, v18, v19, v20, v21, v22])), (a1, .inl (cy 1, 1037, .inl (upd g37 ((128 : Int32).toNatClampNeg) 0)))] := hD
      have hf40 : FT t (upd g37 ((128 : Int32).toNatClampNeg) 0) := FT_up hf38 (Or.inl (by decide))
      generalize (upd g37 ((128 : Int32).toNatClampNeg) 0) = g39 at hP hD hf40
      refine lv_iinc (v := 2) (lv' := [(2, .int 2), (1, .int 3), (0, .ref h0)]) hx hb dX8_dayEnds_91 hl (k := 0) rfl (by decide) (by decide) rfl (fun ls hl => ?_)
      refine lv_goto (tgt := 48) hx hb dX8_dayEnds_94 (by decide) ?_
      refine lv_iload_n hx hb dX8_dayEnds_48 rfl (lv_at hl 0 rfl) ?_
      refine lv_iconst (v := 2) hx hb dX8_dayEnds_49 (by decide) ?_
      refine lv_icmp_ge (tgt := 97) hx hb dX8_dayEnds_50 (by decide) (fun _ => ?_) (fun h => absurd (by decide) h)
      refine lv_iinc (v := 4) (lv' := [(1, .int 4), (2, .int 2), (0, .ref h0)]) hx hb dX8_dayEnds_97 hl (k := 1) rfl (by decide) (by decide) rfl (fun ls hl => ?_)
      refine lv_goto (tgt := 40) hx hb dX8_dayEnds_100 (by decide) ?_
      refine lv_iload_n hx hb dX8_dayEnds_40 rfl (lv_at hl 0 rfl) ?_
      refine lv_bipush (v := 6) hx hb dX8_dayEnds_41 (by decide) ?_
      refine lv_icmp_ge (tgt := 103) hx hb dX8_dayEnds_43 (by decide) (fun h => absurd h (by decide)) (fun _ => ?_)
      refine lv_iconst (v := 0) hx hb dX8_dayEnds_46 (by decide) ?_
      refine lv_istore_n (lv' := [(2, .int 0), (1, .int 4), (0, .ref h0)]) hx hb dX8_dayEnds_47 rfl hl (by decide) rfl (fun ls hl => ?_)
      refine lv_iload_n hx hb dX8_dayEnds_48 rfl (lv_at hl 0 rfl) ?_
      refine lv_iconst (v := 2) hx hb dX8_dayEnds_49 (by decide) ?_
      refine lv_icmp_ge (tgt := 97) hx hb dX8_dayEnds_50 (by decide) (fun h => absurd h (by decide)) (fun _ => ?_)
      refine lv_aload_n hx hb dX8_dayEnds_53 rfl (lv_at hl 2 rfl) ?_
      refine va_get (D := (dC, dI)) (ci := 8) (v := .ref a1) (C := RX8) (T := TX8) (N := 23) hx hb hts inlX8 hown hK hP 0 rfl rfl 0 (by decide) (hts _ mw_97) (fun _ h9 => h9) rfl dX8_dayEnds_54 ?_
      refine lv_sipush (v := 917) hx hb dX8_dayEnds_57 (by decide) ?_
      refine lv_iconst (v := 2) hx hb dX8_dayEnds_60 (by decide) ?_
      refine lv_iload_n hx hb dX8_dayEnds_61 rfl (lv_at hl 1 rfl) ?_
      refine lv_imul hx hb dX8_dayEnds_62 ?_
      refine my_topi (y := 8) (by decide) ?_
      refine lv_iadd hx hb dX8_dayEnds_63 ?_
      refine my_topi (y := 925) (by decide) ?_
      refine lv_iload_n hx hb dX8_dayEnds_64 rfl (lv_at hl 0 rfl) ?_
      refine lv_iadd hx hb dX8_dayEnds_65 ?_
      refine my_topi (y := 925) (by decide) ?_
      refine lv_aload_n hx hb dX8_dayEnds_66 rfl (lv_at hl 2 rfl) ?_
      refine lv_iload_n hx hb dX8_dayEnds_67 rfl (lv_at hl 1 rfl) ?_
      refine lv_iconst (v := 2) hx hb dX8_dayEnds_68 (by decide) ?_
      refine lv_iload_n hx hb dX8_dayEnds_69 rfl (lv_at hl 0 rfl) ?_
      refine lv_iadd hx hb dX8_dayEnds_70 ?_
      refine my_topi (y := 2) (by decide) ?_
      have hPc := hP.sub (ws' := [(h0, .inr (8, [.ref a1, v1, v2, v3, v4, v5, v6, v7, v8, v9, v10, v11, v12, v13, v14, v15, v16, v17, v18, v19, v20, v21, v22])), (a1, .inl (cy 1, 1037, .inl g39))]) [0, 1] rfl
      have hDc := hD.sub (ws' := [(h0, .inr (8, [.ref a1, v1, v2, v3, v4, v5, v6, v7, v8, v9, v10, v11, v12, v13, v14, v15, v16, v17, v18, v19, v20, v21, v22])), (a1, .inl (cy 1, 1037, .inl g39))]) [0, 1] (by decide) rfl
      have hFc := va_free (wc := [(h0, .inr (8, [.ref a1, v1, v2, v3, v4, v5, v6, v7, v8, v9, v10, v11, v12, v13, v14, v15, v16, v17, v18, v19, v20, v21, v22])), (a1, .inl (cy 1, 1037, .inl g39))]) hD hS hA [0, 1] rfl
      refine va_calli (va_runV (As := [.int 4, .int 2]) (rest := [.int 925, .ref a1]) ⟨hx, hb, hml, hown, hts⟩ (c_X8_ofLot l dC dI cy nb h0 a1 (v1) (v2) (v3) (v4) (v5) (v6) (v7) (v8) (v9) (v10) (v11) (v12) (v13) (v14) (v15) (v16) (v17) (v18) (v19) (v20) (v21) (v22) g39 4 2 H.size (by decide) (by decide)) (cwV 2 hts (gV mw_535 mw_536 mw_537 mw_5 mw_538) rfl rfl rfl (by decide +kernel) ⟨Nat.le_of_ble_eq_true rfl, Nat.le_of_ble_eq_true rfl⟩) ⟨fun a U g mk q => by obtain ⟨q0, q1, qP, qK, qD, qE⟩ := q; exact ⟨q0, q1, qP, va_K.moved (u := U) (U := U.calling g mk a) (Vm.Alike.refl U.vm) qK, qD, GE.calling qE⟩, va_recv hK hP (ci := 8) (q0 := 0) rfl rfl, fun U hU hW => ⟨rfl, by rw [hU], by rw [hU]; exact hPc, va_K.moved hW.alike hK, hDc.weaken (fun _ _ _ _ => trivial), GE.call hE hS hFc hU hW⟩⟩ rfl rfl hl.1 rfl (lv_room (Nat.le_of_ble_eq_true rfl)) dX8_dayEnds_71 ⟨Nat.le_of_ble_eq_true rfl, Nat.le_of_ble_eq_true rfl⟩) hS (fun q _ h => hFc q h) hFc (fun r u tz H1 locs ht hvm hw41 hB hz1 hk1 hS => ?_)
      obtain ⟨hP1, hD1⟩ := hB
      rw [ht] at hP1
      obtain ⟨hP, hD⟩ := va_join (wr := []) (w1 := [(h0, .inr (8, [.ref a1, v1, v2, v3, v4, v5, v6, v7, v8, v9, v10, v11, v12, v13, v14, v15, v16, v17, v18, v19, v20, v21, v22])), (a1, .inl (cy 1, 1037, .inl g39))]) hP hD [0, 1] [] rfl rfl (by decide) (by decide) hk1 hFc hP1 hD1
      generalize H1 = H at hP hS ⊢
      have hP : va_P (dC, dI) vwCl [(h0, .inr (8, [.ref a1, v1, v2, v3, v4, v5, v6, v7, v8, v9, v10, v11, v12, v13, v14, v15, v16, v17, v18, v19, v20, v21, v22])), (a1, .inl (cy 1, 1037, .inl g39))] H := hP
      have hD : va_D A [(h0, .inr (8, [.ref a1, v1, v2, v3, v4, v5, v6, v7, v8, v9, v10, v11, v12, v13, v14, v15, v16, v17, v18, v19, v20, v21, v22])), (a1, .inl (cy 1, 1037, .inl g39))] := hD
      obtain rfl := hw41
      refine W.widen (k := 0) (n := 0) (by omega) (by omega) ?_
      refine va_iast hx hb hK hP hD hS 1 1 rfl rfl (vp_in_nI (n := 925) (by decide) (by decide)) dX8_dayEnds_74 (fun H locs hP hD hS => ?_)
      have hP : va_P (dC, dI) vwCl [(h0, .inr (8, [.ref a1, v1, v2, v3, v4, v5, v6, v7, v8, v9, v10, v11, v12, v13, v14, v15, v16, v17, v18, v19, v20, v21, v22])), (a1, .inl (cy 1, 1037, .inl (upd g39 ((925 : Int32).toNatClampNeg) (g39 (113 + 4 * 4 + 2)))))] H := hP
      have hD : va_D A [(h0, .inr (8, [.ref a1, v1, v2, v3, v4, v5, v6, v7, v8, v9, v10, v11, v12, v13, v14, v15, v16, v17, v18, v19, v20, v21, v22])), (a1, .inl (cy 1, 1037, .inl (upd g39 ((925 : Int32).toNatClampNeg) (g39 (113 + 4 * 4 + 2)))))] := hD
      have hf43 : FT t (upd g39 ((925 : Int32).toNatClampNeg) (g39 (113 + 4 * 4 + 2))) := FT_up hf40 (Or.inl (by decide))
      generalize (upd g39 ((925 : Int32).toNatClampNeg) (g39 (113 + 4 * 4 + 2))) = g42 at hP hD hf43
      refine lv_aload_n hx hb dX8_dayEnds_75 rfl (lv_at hl 2 rfl) ?_
      refine va_get (D := (dC, dI)) (ci := 8) (v := .ref a1) (C := RX8) (T := TX8) (N := 23) hx hb hts inlX8 hown hK hP 0 rfl rfl 0 (by decide) (hts _ mw_97) (fun _ h9 => h9) rfl dX8_dayEnds_76 ?_
      refine lv_bipush (v := 113) hx hb dX8_dayEnds_79 (by decide) ?_
      refine lv_iconst (v := 4) hx hb dX8_dayEnds_81 (by decide) ?_
      refine lv_iload_n hx hb dX8_dayEnds_82 rfl (lv_at hl 1 rfl) ?_
      refine lv_imul hx hb dX8_dayEnds_83 ?_
      refine my_topi (y := 16) (by decide) ?_
      refine lv_iadd hx hb dX8_dayEnds_84 ?_
      refine my_topi (y := 129) (by decide) ?_
      refine lv_iconst (v := 2) hx hb dX8_dayEnds_85 (by decide) ?_
      refine lv_iadd hx hb dX8_dayEnds_86 ?_
      refine my_topi (y := 131) (by decide) ?_
      refine lv_iload_n hx hb dX8_dayEnds_87 rfl (lv_at hl 0 rfl) ?_
      refine lv_iadd hx hb dX8_dayEnds_88 ?_
      refine my_topi (y := 131) (by decide) ?_
      refine lv_iconst (v := 0) hx hb dX8_dayEnds_89 (by decide) ?_
      refine va_iast hx hb hK hP hD hS 1 1 rfl rfl (vp_in_nI (n := 131) (by decide) (by decide)) dX8_dayEnds_90 (fun H locs hP hD hS => ?_)
      have hP : va_P (dC, dI) vwCl [(h0, .inr (8, [.ref a1, v1, v2, v3, v4, v5, v6, v7, v8, v9, v10, v11, v12, v13, v14, v15, v16, v17, v18, v19, v20, v21, v22])), (a1, .inl (cy 1, 1037, .inl (upd g42 ((131 : Int32).toNatClampNeg) 0)))] H := hP
      have hD : va_D A [(h0, .inr (8, [.ref a1, v1, v2, v3, v4, v5, v6, v7, v8, v9, v10, v11, v12, v13, v14, v15, v16, v17, v18, v19, v20, v21, v22])), (a1, .inl (cy 1, 1037, .inl (upd g42 ((131 : Int32).toNatClampNeg) 0)))] := hD
      have hf45 : FT t (upd g42 ((131 : Int32).toNatClampNeg) 0) := FT_up hf43 (Or.inl (by decide))
      generalize (upd g42 ((131 : Int32).toNatClampNeg) 0) = g44 at hP hD hf45
      refine lv_iinc (v := 1) (lv' := [(2, .int 1), (1, .int 4), (0, .ref h0)]) hx hb dX8_dayEnds_91 hl (k := 0) rfl (by decide) (by decide) rfl (fun ls hl => ?_)
      refine lv_goto (tgt := 48) hx hb dX8_dayEnds_94 (by decide) ?_
      refine lv_iload_n hx hb dX8_dayEnds_48 rfl (lv_at hl 0 rfl) ?_
      refine lv_iconst (v := 2) hx hb dX8_dayEnds_49 (by decide) ?_
      refine lv_icmp_ge (tgt := 97) hx hb dX8_dayEnds_50 (by decide) (fun h => absurd h (by decide)) (fun _ => ?_)
      refine lv_aload_n hx hb dX8_dayEnds_53 rfl (lv_at hl 2 rfl) ?_
      refine va_get (D := (dC, dI)) (ci := 8) (v := .ref a1) (C := RX8) (T := TX8) (N := 23) hx hb hts inlX8 hown hK hP 0 rfl rfl 0 (by decide) (hts _ mw_97) (fun _ h9 => h9) rfl dX8_dayEnds_54 ?_
      refine lv_sipush (v := 917) hx hb dX8_dayEnds_57 (by decide) ?_
      refine lv_iconst (v := 2) hx hb dX8_dayEnds_60 (by decide) ?_
      refine lv_iload_n hx hb dX8_dayEnds_61 rfl (lv_at hl 1 rfl) ?_
      refine lv_imul hx hb dX8_dayEnds_62 ?_
      refine my_topi (y := 8) (by decide) ?_
      refine lv_iadd hx hb dX8_dayEnds_63 ?_
      refine my_topi (y := 925) (by decide) ?_
      refine lv_iload_n hx hb dX8_dayEnds_64 rfl (lv_at hl 0 rfl) ?_
      refine lv_iadd hx hb dX8_dayEnds_65 ?_
      refine my_topi (y := 926) (by decide) ?_
      refine lv_aload_n hx hb dX8_dayEnds_66 rfl (lv_at hl 2 rfl) ?_
      refine lv_iload_n hx hb dX8_dayEnds_67 rfl (lv_at hl 1 rfl) ?_
      refine lv_iconst (v := 2) hx hb dX8_dayEnds_68 (by decide) ?_
      refine lv_iload_n hx hb dX8_dayEnds_69 rfl (lv_at hl 0 rfl) ?_
      refine lv_iadd hx hb dX8_dayEnds_70 ?_
      refine my_topi (y := 3) (by decide) ?_
      have hPc := hP.sub (ws' := [(h0, .inr (8, [.ref a1, v1, v2, v3, v4, v5, v6, v7, v8, v9, v10, v11, v12, v13, v14, v15, v16, v17, v18, v19, v20, v21, v22])), (a1, .inl (cy 1, 1037, .inl g44))]) [0, 1] rfl
      have hDc := hD.sub (ws' := [(h0, .inr (8, [.ref a1, v1, v2, v3, v4, v5, v6, v7, v8, v9, v10, v11, v12, v13, v14, v15, v16, v17, v18, v19, v20, v21, v22])), (a1, .inl (cy 1, 1037, .inl g44))]) [0, 1] (by decide) rfl
      have hFc := va_free (wc := [(h0, .inr (8, [.ref a1, v1, v2, v3, v4, v5, v6, v7, v8, v9, v10, v11, v12, v13, v14, v15, v16, v17, v18, v19, v20, v21, v22])), (a1, .inl (cy 1, 1037, .inl g44))]) hD hS hA [0, 1] rfl
      refine va_calli (va_runV (As := [.int 4, .int 3]) (rest := [.int 926, .ref a1]) ⟨hx, hb, hml, hown, hts⟩ (c_X8_ofLot l dC dI cy nb h0 a1 (v1) (v2) (v3) (v4) (v5) (v6) (v7) (v8) (v9) (v10) (v11) (v12) (v13) (v14) (v15) (v16) (v17) (v18) (v19) (v20) (v21) (v22) g44 4 3 H.size (by decide) (by decide)) (cwV 2 hts (gV mw_535 mw_536 mw_537 mw_5 mw_538) rfl rfl rfl (by decide +kernel) ⟨Nat.le_of_ble_eq_true rfl, Nat.le_of_ble_eq_true rfl⟩) ⟨fun a U g mk q => by obtain ⟨q0, q1, qP, qK, qD, qE⟩ := q; exact ⟨q0, q1, qP, va_K.moved (u := U) (U := U.calling g mk a) (Vm.Alike.refl U.vm) qK, qD, GE.calling qE⟩, va_recv hK hP (ci := 8) (q0 := 0) rfl rfl, fun U hU hW => ⟨rfl, by rw [hU], by rw [hU]; exact hPc, va_K.moved hW.alike hK, hDc.weaken (fun _ _ _ _ => trivial), GE.call hE hS hFc hU hW⟩⟩ rfl rfl hl.1 rfl (lv_room (Nat.le_of_ble_eq_true rfl)) dX8_dayEnds_71 ⟨Nat.le_of_ble_eq_true rfl, Nat.le_of_ble_eq_true rfl⟩) hS (fun q _ h => hFc q h) hFc (fun r u tz H1 locs ht hvm hw46 hB hz1 hk1 hS => ?_)
      obtain ⟨hP1, hD1⟩ := hB
      rw [ht] at hP1
      obtain ⟨hP, hD⟩ := va_join (wr := []) (w1 := [(h0, .inr (8, [.ref a1, v1, v2, v3, v4, v5, v6, v7, v8, v9, v10, v11, v12, v13, v14, v15, v16, v17, v18, v19, v20, v21, v22])), (a1, .inl (cy 1, 1037, .inl g44))]) hP hD [0, 1] [] rfl rfl (by decide) (by decide) hk1 hFc hP1 hD1
      generalize H1 = H at hP hS ⊢
      have hP : va_P (dC, dI) vwCl [(h0, .inr (8, [.ref a1, v1, v2, v3, v4, v5, v6, v7, v8, v9, v10, v11, v12, v13, v14, v15, v16, v17, v18, v19, v20, v21, v22])), (a1, .inl (cy 1, 1037, .inl g44))] H := hP
      have hD : va_D A [(h0, .inr (8, [.ref a1, v1, v2, v3, v4, v5, v6, v7, v8, v9, v10, v11, v12, v13, v14, v15, v16, v17, v18, v19, v20, v21, v22])), (a1, .inl (cy 1, 1037, .inl g44))] := hD
      obtain rfl := hw46
      refine W.widen (k := 0) (n := 0) (by omega) (by omega) ?_
      refine va_iast hx hb hK hP hD hS 1 1 rfl rfl (vp_in_nI (n := 926) (by decide) (by decide)) dX8_dayEnds_74 (fun H locs hP hD hS => ?_)
      have hP : va_P (dC, dI) vwCl [(h0, .inr (8, [.ref a1, v1, v2, v3, v4, v5, v6, v7, v8, v9, v10, v11, v12, v13, v14, v15, v16, v17, v18, v19, v20, v21, v22])), (a1, .inl (cy 1, 1037, .inl (upd g44 ((926 : Int32).toNatClampNeg) (g44 (113 + 4 * 4 + 3)))))] H := hP
      have hD : va_D A [(h0, .inr (8, [.ref a1, v1, v2, v3, v4, v5, v6, v7, v8, v9, v10, v11, v12, v13, v14, v15, v16, v17, v18, v19, v20, v21, v22])), (a1, .inl (cy 1, 1037, .inl (upd g44 ((926 : Int32).toNatClampNeg) (g44 (113 + 4 * 4 + 3)))))] := hD
      have hf48 : FT t (upd g44 ((926 : Int32).toNatClampNeg) (g44 (113 + 4 * 4 + 3))) := FT_up hf45 (Or.inl (by decide))
      generalize (upd g44 ((926 : Int32).toNatClampNeg) (g44 (113 + 4 * 4 + 3))) = g47 at hP hD hf48
      refine lv_aload_n hx hb dX8_dayEnds_75 rfl (lv_at hl 2 rfl) ?_
      refine va_get (D := (dC, dI)) (ci := 8) (v := .ref a1) (C := RX8) (T := TX8) (N := 23) hx hb hts inlX8 hown hK hP 0 rfl rfl 0 (by decide) (hts _ mw_97) (fun _ h9 => h9) rfl dX8_dayEnds_76 ?_
      refine lv_bipush (v := 113) hx hb dX8_dayEnds_79 (by decide) ?_
      refine lv_iconst (v := 4) hx hb dX8_dayEnds_81 (by decide) ?_
      refine lv_iload_n hx hb dX8_dayEnds_82 rfl (lv_at hl 1 rfl) ?_
      refine lv_imul hx hb dX8_dayEnds_83 ?_
      refine my_topi (y := 16) (by decide) ?_
      refine lv_iadd hx hb dX8_dayEnds_84 ?_
      refine my_topi (y := 129) (by decide) ?_
      refine lv_iconst (v := 2) hx hb dX8_dayEnds_85 (by decide) ?_
      refine lv_iadd hx hb dX8_dayEnds_86 ?_
      refine my_topi (y := 131) (by decide) ?_
      refine lv_iload_n hx hb dX8_dayEnds_87 rfl (lv_at hl 0 rfl) ?_
      refine lv_iadd hx hb dX8_dayEnds_88 ?_
      refine my_topi (y := 132) (by decide) ?_
      refine lv_iconst (v := 0) hx hb dX8_dayEnds_89 (by decide) ?_
      refine va_iast hx hb hK hP hD hS 1 1 rfl rfl (vp_in_nI (n := 132) (by decide) (by decide)) dX8_dayEnds_90 (fun H locs hP hD hS => ?_)
      have hP : va_P (dC, dI) vwCl [(h0, .inr (8, [.ref a1, v1, v2, v3, v4, v5, v6, v7, v8, v9, v10, v11, v12, v13, v14, v15, v16, v17, v18, v19, v20, v21, v22])), (a1, .inl (cy 1, 1037, .inl (upd g47 ((132 : Int32).toNatClampNeg) 0)))] H := hP
      have hD : va_D A [(h0, .inr (8, [.ref a1, v1, v2, v3, v4, v5, v6, v7, v8, v9, v10, v11, v12, v13, v14, v15, v16, v17, v18, v19, v20, v21, v22])), (a1, .inl (cy 1, 1037, .inl (upd g47 ((132 : Int32).toNatClampNeg) 0)))] := hD
      have hf50 : FT t (upd g47 ((132 : Int32).toNatClampNeg) 0) := FT_up hf48 (Or.inl (by decide))
      generalize (upd g47 ((132 : Int32).toNatClampNeg) 0) = g49 at hP hD hf50
      refine lv_iinc (v := 2) (lv' := [(2, .int 2), (1, .int 4), (0, .ref h0)]) hx hb dX8_dayEnds_91 hl (k := 0) rfl (by decide) (by decide) rfl (fun ls hl => ?_)
      refine lv_goto (tgt := 48) hx hb dX8_dayEnds_94 (by decide) ?_
      refine lv_iload_n hx hb dX8_dayEnds_48 rfl (lv_at hl 0 rfl) ?_
      refine lv_iconst (v := 2) hx hb dX8_dayEnds_49 (by decide) ?_
      refine lv_icmp_ge (tgt := 97) hx hb dX8_dayEnds_50 (by decide) (fun _ => ?_) (fun h => absurd (by decide) h)
      refine lv_iinc (v := 5) (lv' := [(1, .int 5), (2, .int 2), (0, .ref h0)]) hx hb dX8_dayEnds_97 hl (k := 1) rfl (by decide) (by decide) rfl (fun ls hl => ?_)
      refine lv_goto (tgt := 40) hx hb dX8_dayEnds_100 (by decide) ?_
      refine lv_iload_n hx hb dX8_dayEnds_40 rfl (lv_at hl 0 rfl) ?_
      refine lv_bipush (v := 6) hx hb dX8_dayEnds_41 (by decide) ?_
      refine lv_icmp_ge (tgt := 103) hx hb dX8_dayEnds_43 (by decide) (fun h => absurd h (by decide)) (fun _ => ?_)
      refine lv_iconst (v := 0) hx hb dX8_dayEnds_46 (by decide) ?_
      refine lv_istore_n (lv' := [(2, .int 0), (1, .int 5), (0, .ref h0)]) hx hb dX8_dayEnds_47 rfl hl (by decide) rfl (fun ls hl => ?_)
      refine lv_iload_n hx hb dX8_dayEnds_48 rfl (lv_at hl 0 rfl) ?_
      refine lv_iconst (v := 2) hx hb dX8_dayEnds_49 (by decide) ?_
      refine lv_icmp_ge (tgt := 97) hx hb dX8_dayEnds_50 (by decide) (fun h => absurd h (by decide)) (fun _ => ?_)
      refine lv_aload_n hx hb dX8_dayEnds_53 rfl (lv_at hl 2 rfl) ?_
      refine va_get (D := (dC, dI)) (ci := 8) (v := .ref a1) (C := RX8) (T := TX8) (N := 23) hx hb hts inlX8 hown hK hP 0 rfl rfl 0 (by decide) (hts _ mw_97) (fun _ h9 => h9) rfl dX8_dayEnds_54 ?_
      refine lv_sipush (v := 917) hx hb dX8_dayEnds_57 (by decide) ?_
      refine lv_iconst (v := 2) hx hb dX8_dayEnds_60 (by decide) ?_
      refine lv_iload_n hx hb dX8_dayEnds_61 rfl (lv_at hl 1 rfl) ?_
      refine lv_imul hx hb dX8_dayEnds_62 ?_
      refine my_topi (y := 10) (by decide) ?_
      refine lv_iadd hx hb dX8_dayEnds_63 ?_
      refine my_topi (y := 927) (by decide) ?_
      refine lv_iload_n hx hb dX8_dayEnds_64 rfl (lv_at hl 0 rfl) ?_
      refine lv_iadd hx hb dX8_dayEnds_65 ?_
      refine my_topi (y := 927) (by decide) ?_
      refine lv_aload_n hx hb dX8_dayEnds_66 rfl (lv_at hl 2 rfl) ?_
      refine lv_iload_n hx hb dX8_dayEnds_67 rfl (lv_at hl 1 rfl) ?_
      refine lv_iconst (v := 2) hx hb dX8_dayEnds_68 (by decide) ?_
      refine lv_iload_n hx hb dX8_dayEnds_69 rfl (lv_at hl 0 rfl) ?_
      refine lv_iadd hx hb dX8_dayEnds_70 ?_
      refine my_topi (y := 2) (by decide) ?_
      have hPc := hP.sub (ws' := [(h0, .inr (8, [.ref a1, v1, v2, v3, v4, v5, v6, v7, v8, v9, v10, v11, v12, v13, v14, v15, v16, v17, v18, v19, v20, v21, v22])), (a1, .inl (cy 1, 1037, .inl g49))]) [0, 1] rfl
      have hDc := hD.sub (ws' := [(h0, .inr (8, [.ref a1, v1, v2, v3, v4, v5, v6, v7, v8, v9, v10, v11, v12, v13, v14, v15, v16, v17, v18, v19, v20, v21, v22])), (a1, .inl (cy 1, 1037, .inl g49))]) [0, 1] (by decide) rfl
      have hFc := va_free (wc := [(h0, .inr (8, [.ref a1, v1, v2, v3, v4, v5, v6, v7, v8, v9, v10, v11, v12, v13, v14, v15, v16, v17, v18, v19, v20, v21, v22])), (a1, .inl (cy 1, 1037, .inl g49))]) hD hS hA [0, 1] rfl
      refine va_calli (va_runV (As := [.int 5, .int 2]) (rest := [.int 927, .ref a1]) ⟨hx, hb, hml, hown, hts⟩ (c_X8_ofLot l dC dI cy nb h0 a1 (v1) (v2) (v3) (v4) (v5) (v6) (v7) (v8) (v9) (v10) (v11) (v12) (v13) (v14) (v15) (v16) (v17) (v18) (v19) (v20) (v21) (v22) g49 5 2 H.size (by decide) (by decide)) (cwV 2 hts (gV mw_535 mw_536 mw_537 mw_5 mw_538) rfl rfl rfl (by decide +kernel) ⟨Nat.le_of_ble_eq_true rfl, Nat.le_of_ble_eq_true rfl⟩) ⟨fun a U g mk q => by obtain ⟨q0, q1, qP, qK, qD, qE⟩ := q; exact ⟨q0, q1, qP, va_K.moved (u := U) (U := U.calling g mk a) (Vm.Alike.refl U.vm) qK, qD, GE.calling qE⟩, va_recv hK hP (ci := 8) (q0 := 0) rfl rfl, fun U hU hW => ⟨rfl, by rw [hU], by rw [hU]; exact hPc, va_K.moved hW.alike hK, hDc.weaken (fun _ _ _ _ => trivial), GE.call hE hS hFc hU hW⟩⟩ rfl rfl hl.1 rfl (lv_room (Nat.le_of_ble_eq_true rfl)) dX8_dayEnds_71 ⟨Nat.le_of_ble_eq_true rfl, Nat.le_of_ble_eq_true rfl⟩) hS (fun q _ h => hFc q h) hFc (fun r u tz H1 locs ht hvm hw51 hB hz1 hk1 hS => ?_)
      obtain ⟨hP1, hD1⟩ := hB
      rw [ht] at hP1
      obtain ⟨hP, hD⟩ := va_join (wr := []) (w1 := [(h0, .inr (8, [.ref a1, v1, v2, v3, v4, v5, v6, v7, v8, v9, v10, v11, v12, v13, v14, v15, v16, v17, v18, v19, v20, v21, v22])), (a1, .inl (cy 1, 1037, .inl g49))]) hP hD [0, 1] [] rfl rfl (by decide) (by decide) hk1 hFc hP1 hD1
      generalize H1 = H at hP hS ⊢
      have hP : va_P (dC, dI) vwCl [(h0, .inr (8, [.ref a1, v1, v2, v3, v4, v5, v6, v7, v8, v9, v10, v11, v12, v13, v14, v15, v16, v17, v18, v19, v20, v21, v22])), (a1, .inl (cy 1, 1037, .inl g49))] H := hP
      have hD : va_D A [(h0, .inr (8, [.ref a1, v1, v2, v3, v4, v5, v6, v7, v8, v9, v10, v11, v12, v13, v14, v15, v16, v17, v18, v19, v20, v21, v22])), (a1, .inl (cy 1, 1037, .inl g49))] := hD
      obtain rfl := hw51
      refine W.widen (k := 0) (n := 0) (by omega) (by omega) ?_
      refine va_iast hx hb hK hP hD hS 1 1 rfl rfl (vp_in_nI (n := 927) (by decide) (by decide)) dX8_dayEnds_74 (fun H locs hP hD hS => ?_)
      have hP : va_P (dC, dI) vwCl [(h0, .inr (8, [.ref a1, v1, v2, v3, v4, v5, v6, v7, v8, v9, v10, v11, v12, v13, v14, v15, v16, v17, v18, v19, v20, v21, v22])), (a1, .inl (cy 1, 1037, .inl (upd g49 ((927 : Int32).toNatClampNeg) (g49 (113 + 4 * 5 + 2)))))] H := hP
      have hD : va_D A [(h0, .inr (8, [.ref a1, v1, v2, v3, v4, v5, v6, v7, v8, v9, v10, v11, v12, v13, v14, v15, v16, v17, v18, v19, v20, v21, v22])), (a1, .inl (cy 1, 1037, .inl (upd g49 ((927 : Int32).toNatClampNeg) (g49 (113 + 4 * 5 + 2)))))] := hD
      have hf53 : FT t (upd g49 ((927 : Int32).toNatClampNeg) (g49 (113 + 4 * 5 + 2))) := FT_up hf50 (Or.inl (by decide))
      generalize (upd g49 ((927 : Int32).toNatClampNeg) (g49 (113 + 4 * 5 + 2))) = g52 at hP hD hf53
      refine lv_aload_n hx hb dX8_dayEnds_75 rfl (lv_at hl 2 rfl) ?_
      refine va_get (D := (dC, dI)) (ci := 8) (v := .ref a1) (C := RX8) (T := TX8) (N := 23) hx hb hts inlX8 hown hK hP 0 rfl rfl 0 (by decide) (hts _ mw_97) (fun _ h9 => h9) rfl dX8_dayEnds_76 ?_
      refine lv_bipush (v := 113) hx hb dX8_dayEnds_79 (by decide) ?_
      refine lv_iconst (v := 4) hx hb dX8_dayEnds_81 (by decide) ?_
      refine lv_iload_n hx hb dX8_dayEnds_82 rfl (lv_at hl 1 rfl) ?_
      refine lv_imul hx hb dX8_dayEnds_83 ?_
      refine my_topi (y := 20) (by decide) ?_
      refine lv_iadd hx hb dX8_dayEnds_84 ?_
      refine my_topi (y := 133) (by decide) ?_
      refine lv_iconst (v := 2) hx hb dX8_dayEnds_85 (by decide) ?_
      refine lv_iadd hx hb dX8_dayEnds_86 ?_
      refine my_topi (y := 135) (by decide) ?_
      refine lv_iload_n hx hb dX8_dayEnds_87 rfl (lv_at hl 0 rfl) ?_
      refine lv_iadd hx hb dX8_dayEnds_88 ?_
      refine my_topi (y := 135) (by decide) ?_
      refine lv_iconst (v := 0) hx hb dX8_dayEnds_89 (by decide) ?_
      refine va_iast hx hb hK hP hD hS 1 1 rfl rfl (vp_in_nI (n := 135) (by decide) (by decide)) dX8_dayEnds_90 (fun H locs hP hD hS => ?_)
      have hP : va_P (dC, dI) vwCl [(h0, .inr (8, [.ref a1, v1, v2, v3, v4, v5, v6, v7, v8, v9, v10, v11, v12, v13, v14, v15, v16, v17, v18, v19, v20, v21, v22])), (a1, .inl (cy 1, 1037, .inl (upd g52 ((135 : Int32).toNatClampNeg) 0)))] H := hP
      have hD : va_D A [(h0, .inr (8, [.ref a1, v1, v2, v3, v4, v5, v6, v7, v8, v9, v10, v11, v12, v13, v14, v15, v16, v17, v18, v19, v20, v21, v22])), (a1, .inl (cy 1, 1037, .inl (upd g52 ((135 : Int32).toNatClampNeg) 0)))] := hD
      have hf55 : FT t (upd g52 ((135 : Int32).toNatClampNeg) 0) := FT_up hf53 (Or.inl (by decide))
      generalize (upd g52 ((135 : Int32).toNatClampNeg) 0) = g54 at hP hD hf55
      refine lv_iinc (v := 1) (lv' := [(2, .int 1), (1, .int 5), (0, .ref h0)]) hx hb dX8_dayEnds_91 hl (k := 0) rfl (by decide) (by decide) rfl (fun ls hl => ?_)
      refine lv_goto (tgt := 48) hx hb dX8_dayEnds_94 (by decide) ?_
      refine lv_iload_n hx hb dX8_dayEnds_48 rfl (lv_at hl 0 rfl) ?_
      refine lv_iconst (v := 2) hx hb dX8_dayEnds_49 (by decide) ?_
      refine lv_icmp_ge (tgt := 97) hx hb dX8_dayEnds_50 (by decide) (fun h => absurd h (by decide)) (fun _ => ?_)
      refine lv_aload_n hx hb dX8_dayEnds_53 rfl (lv_at hl 2 rfl) ?_
      refine va_get (D := (dC, dI)) (ci := 8) (v := .ref a1) (C := RX8) (T := TX8) (N := 23) hx hb hts inlX8 hown hK hP 0 rfl rfl 0 (by decide) (hts _ mw_97) (fun _ h9 => h9) rfl dX8_dayEnds_54 ?_
      refine lv_sipush (v := 917) hx hb dX8_dayEnds_57 (by decide) ?_
      refine lv_iconst (v := 2) hx hb dX8_dayEnds_60 (by decide) ?_
      refine lv_iload_n hx hb dX8_dayEnds_61 rfl (lv_at hl 1 rfl) ?_
      refine lv_imul hx hb dX8_dayEnds_62 ?_
      refine my_topi (y := 10) (by decide) ?_
      refine lv_iadd hx hb dX8_dayEnds_63 ?_
      refine my_topi (y := 927) (by decide) ?_
      refine lv_iload_n hx hb dX8_dayEnds_64 rfl (lv_at hl 0 rfl) ?_
      refine lv_iadd hx hb dX8_dayEnds_65 ?_
      refine my_topi (y := 928) (by decide) ?_
      refine lv_aload_n hx hb dX8_dayEnds_66 rfl (lv_at hl 2 rfl) ?_
      refine lv_iload_n hx hb dX8_dayEnds_67 rfl (lv_at hl 1 rfl) ?_
      refine lv_iconst (v := 2) hx hb dX8_dayEnds_68 (by decide) ?_
      refine lv_iload_n hx hb dX8_dayEnds_69 rfl (lv_at hl 0 rfl) ?_
      refine lv_iadd hx hb dX8_dayEnds_70 ?_
      refine my_topi (y := 3) (by decide) ?_
      have hPc := hP.sub (ws' := [(h0, .inr (8, [.ref a1, v1, v2, v3, v4, v5, v6, v7, v8, v9, v10, v11, v12, v13, v14, v15, v16, v17, v18, v19, v20, v21, v22])), (a1, .inl (cy 1, 1037, .inl g54))]) [0, 1] rfl
      have hDc := hD.sub (ws' := [(h0, .inr (8, [.ref a1, v1, v2, v3, v4, v5, v6, v7, v8, v9, v10, v11, v12, v13, v14, v15, v16, v17, v18, v19, v20, v21, v22])), (a1, .inl (cy 1, 1037, .inl g54))]) [0, 1] (by decide) rfl
      have hFc := va_free (wc := [(h0, .inr (8, [.ref a1, v1, v2, v3, v4, v5, v6, v7, v8, v9, v10, v11, v12, v13, v14, v15, v16, v17, v18, v19, v20, v21, v22])), (a1, .inl (cy 1, 1037, .inl g54))]) hD hS hA [0, 1] rfl
      refine va_calli (va_runV (As := [.int 5, .int 3]) (rest := [.int 928, .ref a1]) ⟨hx, hb, hml, hown, hts⟩ (c_X8_ofLot l dC dI cy nb h0 a1 (v1) (v2) (v3) (v4) (v5) (v6) (v7) (v8) (v9) (v10) (v11) (v12) (v13) (v14) (v15) (v16) (v17) (v18) (v19) (v20) (v21) (v22) g54 5 3 H.size (by decide) (by decide)) (cwV 2 hts (gV mw_535 mw_536 mw_537 mw_5 mw_538) rfl rfl rfl (by decide +kernel) ⟨Nat.le_of_ble_eq_true rfl, Nat.le_of_ble_eq_true rfl⟩) ⟨fun a U g mk q => by obtain ⟨q0, q1, qP, qK, qD, qE⟩ := q; exact ⟨q0, q1, qP, va_K.moved (u := U) (U := U.calling g mk a) (Vm.Alike.refl U.vm) qK, qD, GE.calling qE⟩, va_recv hK hP (ci := 8) (q0 := 0) rfl rfl, fun U hU hW => ⟨rfl, by rw [hU], by rw [hU]; exact hPc, va_K.moved hW.alike hK, hDc.weaken (fun _ _ _ _ => trivial), GE.call hE hS hFc hU hW⟩⟩ rfl rfl hl.1 rfl (lv_room (Nat.le_of_ble_eq_true rfl)) dX8_dayEnds_71 ⟨Nat.le_of_ble_eq_true rfl, Nat.le_of_ble_eq_true rfl⟩) hS (fun q _ h => hFc q h) hFc (fun r u tz H1 locs ht hvm hw56 hB hz1 hk1 hS => ?_)
      obtain ⟨hP1, hD1⟩ := hB
      rw [ht] at hP1
      obtain ⟨hP, hD⟩ := va_join (wr := []) (w1 := [(h0, .inr (8, [.ref a1, v1, v2, v3, v4, v5, v6, v7, v8, v9, v10, v11, v12, v13, v14, v15, v16, v17, v18, v19, v20, v21, v22])), (a1, .inl (cy 1, 1037, .inl g54))]) hP hD [0, 1] [] rfl rfl (by decide) (by decide) hk1 hFc hP1 hD1
      generalize H1 = H at hP hS ⊢
      have hP : va_P (dC, dI) vwCl [(h0, .inr (8, [.ref a1, v1, v2, v3, v4, v5, v6, v7, v8, v9, v10, v11, v12, v13, v14, v15, v16, v17, v18, v19, v20, v21, v22])), (a1, .inl (cy 1, 1037, .inl g54))] H := hP
      have hD : va_D A [(h0, .inr (8, [.ref a1, v1, v2, v3, v4, v5, v6, v7, v8, v9, v10, v11, v12, v13, v14, v15, v16, v17, v18, v19, v20, v21, v22])), (a1, .inl (cy 1, 1037, .inl g54))] := hD
      obtain rfl := hw56
      refine W.widen (k := 0) (n := 0) (by omega) (by omega) ?_
      refine va_iast hx hb hK hP hD hS 1 1 rfl rfl (vp_in_nI (n := 928) (by decide) (by decide)) dX8_dayEnds_74 (fun H locs hP hD hS => ?_)
      have hP : va_P (dC, dI) vwCl [(h0, .inr (8, [.ref a1, v1, v2, v3, v4, v5, v6, v7, v8, v9, v10, v11, v12, v13, v14, v15, v16, v17, v18, v19, v20, v21, v22])), (a1, .inl (cy 1, 1037, .inl (upd g54 ((928 : Int32).toNatClampNeg) (g54 (113 + 4 * 5 + 3)))))] H := hP
      have hD : va_D A [(h0, .inr (8, [.ref a1, v1, v2, v3, v4, v5, v6, v7, v8, v9, v10, v11, v12, v13, v14, v15, v16, v17, v18, v19, v20, v21, v22])), (a1, .inl (cy 1, 1037, .inl (upd g54 ((928 : Int32).toNatClampNeg) (g54 (113 + 4 * 5 + 3)))))] := hD
      have hf58 : FT t (upd g54 ((928 : Int32).toNatClampNeg) (g54 (113 + 4 * 5 + 3))) := FT_up hf55 (Or.inl (by decide))
      generalize (upd g54 ((928 : Int32).toNatClampNeg) (g54 (113 + 4 * 5 + 3))) = g57 at hP hD hf58
      refine lv_aload_n hx hb dX8_dayEnds_75 rfl (lv_at hl 2 rfl) ?_
      refine va_get (D := (dC, dI)) (ci := 8) (v := .ref a1) (C := RX8) (T := TX8) (N := 23) hx hb hts inlX8 hown hK hP 0 rfl rfl 0 (by decide) (hts _ mw_97) (fun _ h9 => h9) rfl dX8_dayEnds_76 ?_
      refine lv_bipush (v := 113) hx hb dX8_dayEnds_79 (by decide) ?_
      refine lv_iconst (v := 4) hx hb dX8_dayEnds_81 (by decide) ?_
      refine lv_iload_n hx hb dX8_dayEnds_82 rfl (lv_at hl 1 rfl) ?_
      refine lv_imul hx hb dX8_dayEnds_83 ?_
      refine my_topi (y := 20) (by decide) ?_
      refine lv_iadd hx hb dX8_dayEnds_84 ?_
      refine my_topi (y := 133) (by decide) ?_
      refine lv_iconst (v := 2) hx hb dX8_dayEnds_85 (by decide) ?_
      refine lv_iadd hx hb dX8_dayEnds_86 ?_
      refine my_topi (y := 135) (by decide) ?_
      refine lv_iload_n hx hb dX8_dayEnds_87 rfl (lv_at hl 0 rfl) ?_
      refine lv_iadd hx hb dX8_dayEnds_88 ?_
      refine my_topi (y := 136) (by decide) ?_
      refine lv_iconst (v := 0) hx hb dX8_dayEnds_89 (by decide) ?_
      refine va_iast hx hb hK hP hD hS 1 1 rfl rfl (vp_in_nI (n := 136) (by decide) (by decide)) dX8_dayEnds_90 (fun H locs hP hD hS => ?_)
      have hP : va_P (dC, dI) vwCl [(h0, .inr (8, [.ref a1, v1, v2, v3, v4, v5, v6, v7, v8, v9, v10, v11, v12, v13, v14, v15, v16, v17, v18, v19, v20, v21, v22])), (a1, .inl (cy 1, 1037, .inl (upd g57 ((136 : Int32).toNatClampNeg) 0)))] H := hP
      have hD : va_D A [(h0, .inr (8, [.ref a1, v1, v2, v3, v4, v5, v6, v7, v8, v9, v10, v11, v12, v13, v14, v15, v16, v17, v18, v19, v20, v21, v22])), (a1, .inl (cy 1, 1037, .inl (upd g57 ((136 : Int32).toNatClampNeg) 0)))] := hD
      have hf60 : FT t (upd g57 ((136 : Int32).toNatClampNeg) 0) := FT_up hf58 (Or.inl (by decide))
      generalize (upd g57 ((136 : Int32).toNatClampNeg) 0) = g59 at hP hD hf60
      refine lv_iinc (v := 2) (lv' := [(2, .int 2), (1, .int 5), (0, .ref h0)]) hx hb dX8_dayEnds_91 hl (k := 0) rfl (by decide) (by decide) rfl (fun ls hl => ?_)
      refine lv_goto (tgt := 48) hx hb dX8_dayEnds_94 (by decide) ?_
      refine lv_iload_n hx hb dX8_dayEnds_48 rfl (lv_at hl 0 rfl) ?_
      refine lv_iconst (v := 2) hx hb dX8_dayEnds_49 (by decide) ?_
      refine lv_icmp_ge (tgt := 97) hx hb dX8_dayEnds_50 (by decide) (fun _ => ?_) (fun h => absurd (by decide) h)
      refine lv_iinc (v := 6) (lv' := [(1, .int 6), (2, .int 2), (0, .ref h0)]) hx hb dX8_dayEnds_97 hl (k := 1) rfl (by decide) (by decide) rfl (fun ls hl => ?_)
      refine lv_goto (tgt := 40) hx hb dX8_dayEnds_100 (by decide) ?_
      refine lv_iload_n hx hb dX8_dayEnds_40 rfl (lv_at hl 0 rfl) ?_
      refine lv_bipush (v := 6) hx hb dX8_dayEnds_41 (by decide) ?_
      refine lv_icmp_ge (tgt := 103) hx hb dX8_dayEnds_43 (by decide) (fun _ => ?_) (fun h => absurd (by decide) h)
      refine lv_aload_n hx hb dX8_dayEnds_103 rfl (lv_at hl 2 rfl) ?_
      refine va_get (D := (dC, dI)) (ci := 8) (v := .ref a1) (C := RX8) (T := TX8) (N := 23) hx hb hts inlX8 hown hK hP 0 rfl rfl 0 (by decide) (hts _ mw_97) (fun _ h9 => h9) rfl dX8_dayEnds_104 ?_
      refine lv_bipush (v := 11) hx hb dX8_dayEnds_107 (by decide) ?_
      refine lv_bipush (v := 10) hx hb dX8_dayEnds_109 (by decide) ?_
      refine lv_aload_n hx hb dX8_dayEnds_111 rfl (lv_at hl 2 rfl) ?_
      refine va_get (D := (dC, dI)) (ci := 8) (v := .ref a1) (C := RX8) (T := TX8) (N := 23) hx hb hts inlX8 hown hK hP 0 rfl rfl 0 (by decide) (hts _ mw_97) (fun _ h9 => h9) rfl dX8_dayEnds_112 ?_
      refine lv_bipush (v := 11) hx hb dX8_dayEnds_115 (by decide) ?_
      refine va_iald hx hb hK hP 1 1 rfl rfl (vp_in_nI (n := 11) (by decide) (by decide)) dX8_dayEnds_117 ?_
      refine my_topi (y := g59 11) (by rfl) ?_
      refine lv_iconst (v := 1) hx hb dX8_dayEnds_118 (by decide) ?_
      refine lv_iadd hx hb dX8_dayEnds_119 ?_
      refine va_mmin hx hb (hml.trans hl.1.symm) hown (hts _ mw_465) (hts _ mw_233) (hts _ mw_234) (hts _ mw_235) (Nat.le_of_ble_eq_true rfl) (Nat.le_of_ble_eq_true rfl) (Nat.le_of_ble_eq_true rfl) (Nat.le_of_ble_eq_true rfl) dX8_dayEnds_120 ?_
      refine va_iast hx hb hK hP hD hS 1 1 rfl rfl (vp_in_nI (n := 11) (by decide) (by decide)) dX8_dayEnds_123 (fun H locs hP hD hS => ?_)
      have hP : va_P (dC, dI) vwCl [(h0, .inr (8, [.ref a1, v1, v2, v3, v4, v5, v6, v7, v8, v9, v10, v11, v12, v13, v14, v15, v16, v17, v18, v19, v20, v21, v22])), (a1, .inl (cy 1, 1037, .inl (upd g59 ((11 : Int32).toNatClampNeg) (if ((g59 11) + 1) < 10 then ((g59 11) + 1) else 10))))] H := hP
      have hD : va_D A [(h0, .inr (8, [.ref a1, v1, v2, v3, v4, v5, v6, v7, v8, v9, v10, v11, v12, v13, v14, v15, v16, v17, v18, v19, v20, v21, v22])), (a1, .inl (cy 1, 1037, .inl (upd g59 ((11 : Int32).toNatClampNeg) (if ((g59 11) + 1) < 10 then ((g59 11) + 1) else 10))))] := hD
      have hf62 : FT t (upd g59 ((11 : Int32).toNatClampNeg) (if ((g59 11) + 1) < 10 then ((g59 11) + 1) else 10)) := FT_up hf60 (Or.inl (by decide))
      generalize (upd g59 ((11 : Int32).toNatClampNeg) (if ((g59 11) + 1) < 10 then ((g59 11) + 1) else 10)) = g61 at hP hD hf62
      rw [hQ]
      have hP9 := hP.sub (ws' := [(h0, .inr (8, [.ref a1, v1, v2, v3, v4, v5, v6, v7, v8, v9, v10, v11, v12, v13, v14, v15, v16, v17, v18, v19, v20, v21, v22])), (a1, .inl (cy 1, 1037, .inl g61))]) [0, 1] rfl
      have hD9 := hD.sub (ws' := [(h0, .inr (8, [.ref a1, v1, v2, v3, v4, v5, v6, v7, v8, v9, v10, v11, v12, v13, v14, v15, v16, v17, v18, v19, v20, v21, v22])), (a1, .inl (cy 1, 1037, .inl g61))]) [0, 1] (by decide) rfl
      refine W.widen (k := 0) (n := 0) (by omega) (by omega) ?_
      exact W.vret hx hb hr (fun tz ht hW => ⟨⟨(), rfl, trivial, g61, hf62, by rw [ht]; exact hP9, hD9⟩, hS.F ht⟩) hS.2.2 dX8_dayEnds_124
    | succ n ih =>
      intro k g3 H locs ls hnk hg3 hP hD hS hl
      have hk : k < 108 := by omega
      refine lv_iload_n hx hb dX8_dayEnds_3 rfl (lv_at hl 0 rfl) ?_
      refine lv_bipush (v := 12) hx hb dX8_dayEnds_4 (by decide) ?_
      refine lv_icmp_lt (tgt := 38) hx hb dX8_dayEnds_6 (by decide) (fun c_6_2 => by exact absurd c_6_2 (my_nlt12 hk)) (fun c_6_2 => ?_)
      refine lv_aload_n hx hb dX8_dayEnds_9 rfl (lv_at hl 1 rfl) ?_
      refine va_get (D := (dC, dI)) (ci := 8) (v := .ref a1) (C := RX8) (T := TX8) (N := 23) hx hb hts inlX8 hown hK hP 0 rfl rfl 0 (by decide) (hts _ mw_97) (fun _ h9 => h9) rfl dX8_dayEnds_10 ?_
      refine lv_sipush (v := 917) hx hb dX8_dayEnds_13 (by decide) ?_
      refine lv_iload_n hx hb dX8_dayEnds_16 rfl (lv_at hl 0 rfl) ?_
      refine lv_iadd hx hb dX8_dayEnds_17 ?_
      refine my_topi (y := (nI (917 + (119 - k)))) (by rw [show (917 : Int32) = nI 917 from rfl, nI_add]) ?_
      refine lv_aload_n hx hb dX8_dayEnds_18 rfl (lv_at hl 1 rfl) ?_
      refine va_get (D := (dC, dI)) (ci := 8) (v := .ref a1) (C := RX8) (T := TX8) (N := 23) hx hb hts inlX8 hown hK hP 0 rfl rfl 0 (by decide) (hts _ mw_97) (fun _ h9 => h9) rfl dX8_dayEnds_19 ?_
      refine lv_sipush (v := 917) hx hb dX8_dayEnds_22 (by decide) ?_
      refine lv_iload_n hx hb dX8_dayEnds_25 rfl (lv_at hl 0 rfl) ?_
      refine lv_iadd hx hb dX8_dayEnds_26 ?_
      refine my_topi (y := (nI (917 + (119 - k)))) (by rw [show (917 : Int32) = nI 917 from rfl, nI_add]) ?_
      refine lv_bipush (v := 12) hx hb dX8_dayEnds_27 (by decide) ?_
      refine lv_isub hx hb dX8_dayEnds_29 ?_
      refine my_topi (y := (nI (905 + (119 - k)))) (by exact my_sub (b := 12) (by omega) (by omega)) ?_
      refine va_iald hx hb hK hP 1 1 rfl rfl (vp_in_nI (by omega) (by omega)) dX8_dayEnds_30 ?_
      refine my_topi (y := (g3 (905 + (119 - k)))) (by rw [nI_clamp (by omega)]) ?_
      refine va_iast hx hb hK hP hD hS 1 1 rfl rfl (vp_in_nI (by omega) (by omega)) dX8_dayEnds_31 (fun H locs hP hD hS => ?_)
      have hP : va_P (dC, dI) vwCl [(h0, .inr (8, [.ref a1, v1, v2, v3, v4, v5, v6, v7, v8, v9, v10, v11, v12, v13, v14, v15, v16, v17, v18, v19, v20, v21, v22])), (a1, .inl (cy 1, 1037, .inl (upd g3 (((nI (917 + (119 - k))) : Int32).toNatClampNeg) (g3 (905 + (119 - k))))))] H := hP
      have hD : va_D A [(h0, .inr (8, [.ref a1, v1, v2, v3, v4, v5, v6, v7, v8, v9, v10, v11, v12, v13, v14, v15, v16, v17, v18, v19, v20, v21, v22])), (a1, .inl (cy 1, 1037, .inl (upd g3 (((nI (917 + (119 - k))) : Int32).toNatClampNeg) (g3 (905 + (119 - k))))))] := hD
      refine lv_iinc (v := nI (119 - (k + 1))) (lv' := [(1, .int (nI (119 - (k + 1)))), (0, .ref h0)]) hx hb dX8_dayEnds_32 hl (k := 0) rfl (my_m1 (by omega)) (by decide) rfl (fun ls hl => ?_)
      refine lv_goto (tgt := 3) hx hb dX8_dayEnds_35 (by decide) ?_
      exact ih (k + 1) _ _ _ _ (by omega) (FT_up hg3 (Or.inl (by rw [nI_clamp (by omega)]; omega))) (hP.sub [0, 1] rfl) (hD.sub [0, 1] (by decide) rfl) hS (lv_sub hl [0, 1] rfl)
  exact loop1 108 0 g _ _ _ (by omega) hg (hP.sub [0, 1] rfl) (hD.sub [0, 1] (by decide) rfl) hS (lv_sub hl [0, 1] rfl)
set_option maxHeartbeats 4000000 in
set_option maxRecDepth 100000 in
/-- passes() -/
theorem c_X8_passes (l : Launch) (dC : Nat → ClassId) (dI : Nat → Nat → Nat) (cy : Nat → ClassId) (nb : Nat → Nat) (h0 : Nat) (a1 : Nat) (v1 : Value) (v2 : Value) (v3 : Value) (v4 : Value) (v5 : Value) (v6 : Value) (v7 : Value) (v8 : Value) (v9 : Value) (v10 : Value) (v11 : Value) (v12 : Value) (v13 : Value) (v14 : Value) (v15 : Value) (v16 : Value) (v17 : Value) (v18 : Value) (v19 : Value) (v20 : Value) (v21 : Value) (v22 : Value) (g : Nat → Int32) (t : Nat) (sz : Nat) (hg : FT t g) : Met l yX8_passes (wsg yX8_passes cX8_passes 2 none) ({ frames := 12, cells := 0, slots := 0, locals := 700 }) (va_Pc [.ref h0] (fun U => U.heap.size = sz ∧ va_P (dC, dI) vwCl [(h0, .inr (8, [.ref a1, v1, v2, v3, v4, v5, v6, v7, v8, v9, v10, v11, v12, v13, v14, v15, v16, v17, v18, v19, v20, v21, v22])), (a1, .inl (cy 1, 1037, .inl g))] U.heap ∧ va_K (dC, dI) vwCl (tyL cy) U ∧ va_D (fun _ => True) [(h0, .inr (8, [.ref a1, v1, v2, v3, v4, v5, v6, v7, v8, v9, v10, v11, v12, v13, v14, v15, v16, v17, v18, v19, v20, v21, v22])), (a1, .inl (cy 1, 1037, .inl g))] ∧ GE nb (va_A [(h0, .inr (8, [.ref a1, v1, v2, v3, v4, v5, v6, v7, v8, v9, v10, v11, v12, v13, v14, v15, v16, v17, v18, v19, v20, v21, v22])), (a1, .inl (cy 1, 1037, .inl g))] sz) U)) (va_Qv (fun (_ : Unit) => True) (fun _ tz => ∃ (g2 : Nat → Int32), FT (t + 1) g2 ∧ va_P (dC, dI) vwCl [(h0, .inr (8, [.ref a1, v1, v2, v3, v4, v5, v6, v7, v8, v9, v10, v11, v12, v13, v14, v15, v16, v17, v18, v19, v20, v21, v22])), (a1, .inl (cy 1, 1037, .inl g2))] tz.heap ∧ va_D (va_A [(h0, .inr (8, [.ref a1, v1, v2, v3, v4, v5, v6, v7, v8, v9, v10, v11, v12, v13, v14, v15, v16, v17, v18, v19, v20, v21, v22])), (a1, .inl (cy 1, 1037, .inl g))] sz) [(h0, .inr (8, [.ref a1, v1, v2, v3, v4, v5, v6, v7, v8, v9, v10, v11, v12, v13, v14, v15, v16, v17, v18, v19, v20, v21, v22])), (a1, .inl (cy 1, 1037, .inl g2))]) (va_A [(h0, .inr (8, [.ref a1, v1, v2, v3, v4, v5, v6, v7, v8, v9, v10, v11, v12, v13, v14, v15, v16, v17, v18, v19, v20, v21, v22])), (a1, .inl (cy 1, 1037, .inl g))] sz)) 0 0 (va_A [(h0, .inr (8, [.ref a1, v1, v2, v3, v4, v5, v6, v7, v8, v9, v10, v11, v12, v13, v14, v15, v16, v17, v18, v19, v20, v21, v22])), (a1, .inl (cy 1, 1037, .inl g))] sz) := by
  refine Met.ofW (cc := cX8_passes) (maxL := 2) (ret := none) (by decide) rfl ?_
  intro p e s m args below meth c s₁ B hml hv
  obtain ⟨rfl, hsz, hP, hK, hD0, hE⟩ := hv
  have hx := B.exec
  have hb := B.bytes
  have hr := B.returns
  have hts0 := atoms_spec (ws := (wsg yX8_passes cX8_passes 2 none)) B.pre
  have hts : ∀ w ∈ wsL_law, w.before _ s = true := fun w h => hts0 w (List.mem_cons_of_mem _ h)
  have hown : s.vm.findClass RX8 = some m.cls := findClass_of_methodNamed B.named
  have hlocks := B.notSynchronized
  subst hsz
  have hD := hD0.self (sz := s.heap.size)
  generalize hAe : va_A [(h0, .inr (8, [.ref a1, v1, v2, v3, v4, v5, v6, v7, v8, v9, v10, v11, v12, v13, v14, v15, v16, v17, v18, v19, v20, v21, v22])), (a1, .inl (cy 1, 1037, .inl g))] s.heap.size = A at hD hE ⊢
  have hA : ∀ q : Nat, s.heap.size ≤ q → A q := fun q h => by rw [← hAe]; exact Or.inr h
  have hS : va_S A s.heap s.heap [] := va_S.rf
  have hP : va_P (dC, dI) vwCl [(h0, .inr (8, [.ref a1, v1, v2, v3, v4, v5, v6, v7, v8, v9, v10, v11, v12, v13, v14, v15, v16, v17, v18, v19, v20, v21, v22])), (a1, .inl (cy 1, 1037, .inl g))] s.heap := hP
  have hl := lv_entry ([.ref h0]) (n := 2) (Nat.le_of_ble_eq_true rfl)
  rw [lg_entry_eq]
  generalize (lg_sl ([.ref h0]) ++ List.replicate (2 - (lg_sl ([.ref h0])).length) Slot.unset).toArray = ls at hl ⊢
  have hl : lv_has ls 2 [(0, .ref h0)] := hl
  generalize hHe : s.heap = H at hP hS ⊢
  have hS : va_S A s.heap H [] := by rw [hHe]; exact hS
  refine lv_aload_n hx hb dX8_passes_0 rfl (lv_at hl 0 rfl) ?_
  refine va_get (D := (dC, dI)) (ci := 8) (v := .ref a1) (C := RX8) (T := TX8) (N := 23) hx hb hts inlX8 hown hK hP 0 rfl rfl 0 (by decide) (hts _ mw_97) (fun _ h9 => h9) rfl dX8_passes_1 ?_
  refine lv_bipush (v := 7) hx hb dX8_passes_4 (by decide) ?_
  refine va_iald hx hb hK hP 1 1 rfl rfl (vp_in_nI (n := 7) (by decide) (by decide)) dX8_passes_6 ?_
  refine my_topi (y := 0) (by exact hg.2.2.2.1) ?_
  refine lv_iconst (v := 1) hx hb dX8_passes_7 (by decide) ?_
  refine lv_isub hx hb dX8_passes_8 ?_
  refine my_topi (y := (-1)) (by decide) ?_
  refine lv_istore_n (lv' := [(1, .int (-1)), (0, .ref h0)]) hx hb dX8_passes_9 rfl hl (by decide) rfl (fun ls hl => ?_)
  refine lv_iload_n hx hb dX8_passes_10 rfl (lv_at hl 0 rfl) ?_
  refine lv_if_lt (tgt := 25) hx hb dX8_passes_11 (by decide) (fun _ => ?_) (fun h => absurd (by decide) h)
  refine lv_aload_n hx hb dX8_passes_25 rfl (lv_at hl 1 rfl) ?_
  have hPc := hP.sub (ws' := [(h0, .inr (8, [.ref a1, v1, v2, v3, v4, v5, v6, v7, v8, v9, v10, v11, v12, v13, v14, v15, v16, v17, v18, v19, v20, v21, v22])), (a1, .inl (cy 1, 1037, .inl g))]) [0, 1] rfl
  have hDc := hD.sub (ws' := [(h0, .inr (8, [.ref a1, v1, v2, v3, v4, v5, v6, v7, v8, v9, v10, v11, v12, v13, v14, v15, v16, v17, v18, v19, v20, v21, v22])), (a1, .inl (cy 1, 1037, .inl g))]) [0, 1] (by decide) rfl
  have hFc := va_free (wc := [(h0, .inr (8, [.ref a1, v1, v2, v3, v4, v5, v6, v7, v8, v9, v10, v11, v12, v13, v14, v15, v16, v17, v18, v19, v20, v21, v22])), (a1, .inl (cy 1, 1037, .inl g))]) hD hS hA [0, 1] rfl
  refine va_callv (va_runV (As := []) (rest := []) ⟨hx, hb, hml, hown, hts⟩ (c_X8_feeds l dC dI cy nb h0 a1 (v1) (v2) (v3) (v4) (v5) (v6) (v7) (v8) (v9) (v10) (v11) (v12) (v13) (v14) (v15) (v16) (v17) (v18) (v19) (v20) (v21) (v22) g t H.size hg) (cwV 0 hts (gV mw_1271 mw_1272 mw_1273 mw_5 mw_1274) rfl rfl rfl (by decide +kernel) ⟨Nat.le_of_ble_eq_true rfl, Nat.le_of_ble_eq_true rfl⟩) ⟨fun a U g mk q => by obtain ⟨q0, q1, qP, qK, qD, qE⟩ := q; exact ⟨q0, q1, qP, va_K.moved (u := U) (U := U.calling g mk a) (Vm.Alike.refl U.vm) qK, qD, GE.calling qE⟩, va_recv hK hP (ci := 8) (q0 := 0) rfl rfl, fun U hU hW => ⟨rfl, by rw [hU], by rw [hU]; exact hPc, va_K.moved hW.alike hK, hDc.weaken (fun _ _ _ _ => trivial), GE.call hE hS hFc hU hW⟩⟩ rfl rfl hl.1 rfl (lv_room (Nat.le_of_ble_eq_true rfl)) dX8_passes_26 ⟨Nat.le_of_ble_eq_true rfl, Nat.le_of_ble_eq_true rfl⟩) hS (fun q _ h => hFc q h) hFc (fun u tz H1 locs ht hvm hw1 hB hz1 hk1 hS => ?_)
  obtain ⟨hP1, hD1⟩ := hB
  rw [ht] at hP1
  obtain ⟨hP, hD⟩ := va_join (wr := []) (w1 := [(h0, .inr (8, [.ref a1, v1, v2, v3, v4, v5, v6, v7, v8, v9, v10, v11, v12, v13, v14, v15, v16, v17, v18, v19, v20, v21, v22])), (a1, .inl (cy 1, 1037, .inl g))]) hP hD [0, 1] [] rfl rfl (by decide) (by decide) hk1 hFc hP1 hD1
  generalize H1 = H at hP hS ⊢
  have hP : va_P (dC, dI) vwCl [(h0, .inr (8, [.ref a1, v1, v2, v3, v4, v5, v6, v7, v8, v9, v10, v11, v12, v13, v14, v15, v16, v17, v18, v19, v20, v21, v22])), (a1, .inl (cy 1, 1037, .inl g))] H := hP
  have hD : va_D A [(h0, .inr (8, [.ref a1, v1, v2, v3, v4, v5, v6, v7, v8, v9, v10, v11, v12, v13, v14, v15, v16, v17, v18, v19, v20, v21, v22])), (a1, .inl (cy 1, 1037, .inl g))] := hD
  refine W.widen (k := 0) (n := 0) (by omega) (by omega) ?_
  refine lv_aload_n hx hb dX8_passes_29 rfl (lv_at hl 1 rfl) ?_
  have hPc := hP.sub (ws' := [(h0, .inr (8, [.ref a1, v1, v2, v3, v4, v5, v6, v7, v8, v9, v10, v11, v12, v13, v14, v15, v16, v17, v18, v19, v20, v21, v22])), (a1, .inl (cy 1, 1037, .inl g))]) [0, 1] rfl
  have hDc := hD.sub (ws' := [(h0, .inr (8, [.ref a1, v1, v2, v3, v4, v5, v6, v7, v8, v9, v10, v11, v12, v13, v14, v15, v16, v17, v18, v19, v20, v21, v22])), (a1, .inl (cy 1, 1037, .inl g))]) [0, 1] (by decide) rfl
  have hFc := va_free (wc := [(h0, .inr (8, [.ref a1, v1, v2, v3, v4, v5, v6, v7, v8, v9, v10, v11, v12, v13, v14, v15, v16, v17, v18, v19, v20, v21, v22])), (a1, .inl (cy 1, 1037, .inl g))]) hD hS hA [0, 1] rfl
  refine va_callv (va_runV (As := []) (rest := []) ⟨hx, hb, hml, hown, hts⟩ (c_X8_clearsTray l dC dI cy nb h0 a1 (v1) (v2) (v3) (v4) (v5) (v6) (v7) (v8) (v9) (v10) (v11) (v12) (v13) (v14) (v15) (v16) (v17) (v18) (v19) (v20) (v21) (v22) g t H.size hg) (cwV 0 hts (gV mw_1275 mw_1276 mw_1277 mw_5 mw_1278) rfl rfl rfl (by decide +kernel) ⟨Nat.le_of_ble_eq_true rfl, Nat.le_of_ble_eq_true rfl⟩) ⟨fun a U g mk q => by obtain ⟨q0, q1, qP, qK, qD, qE⟩ := q; exact ⟨q0, q1, qP, va_K.moved (u := U) (U := U.calling g mk a) (Vm.Alike.refl U.vm) qK, qD, GE.calling qE⟩, va_recv hK hP (ci := 8) (q0 := 0) rfl rfl, fun U hU hW => ⟨rfl, by rw [hU], by rw [hU]; exact hPc, va_K.moved hW.alike hK, hDc.weaken (fun _ _ _ _ => trivial), GE.call hE hS hFc hU hW⟩⟩ rfl rfl hl.1 rfl (lv_room (Nat.le_of_ble_eq_true rfl)) dX8_passes_30 ⟨Nat.le_of_ble_eq_true rfl, Nat.le_of_ble_eq_true rfl⟩) hS (fun q _ h => hFc q h) hFc (fun u tz H1 locs ht hvm hw2 hB hz1 hk1 hS => ?_)
  obtain ⟨hP1, hD1⟩ := hB
  rw [ht] at hP1
  obtain ⟨hP, hD⟩ := va_join (wr := []) (w1 := [(h0, .inr (8, [.ref a1, v1, v2, v3, v4, v5, v6, v7, v8, v9, v10, v11, v12, v13, v14, v15, v16, v17, v18, v19, v20, v21, v22])), (a1, .inl (cy 1, 1037, .inl g))]) hP hD [0, 1] [] rfl rfl (by decide) (by decide) hk1 hFc hP1 hD1
  generalize H1 = H at hP hS ⊢
  have hP : va_P (dC, dI) vwCl [(h0, .inr (8, [.ref a1, v1, v2, v3, v4, v5, v6, v7, v8, v9, v10, v11, v12, v13, v14, v15, v16, v17, v18, v19, v20, v21, v22])), (a1, .inl (cy 1, 1037, .inl g))] H := hP
  have hD : va_D A [(h0, .inr (8, [.ref a1, v1, v2, v3, v4, v5, v6, v7, v8, v9, v10, v11, v12, v13, v14, v15, v16, v17, v18, v19, v20, v21, v22])), (a1, .inl (cy 1, 1037, .inl g))] := hD
  refine W.widen (k := 0) (n := 0) (by omega) (by omega) ?_
  refine lv_aload_n hx hb dX8_passes_33 rfl (lv_at hl 1 rfl) ?_
  refine va_get (D := (dC, dI)) (ci := 8) (v := .ref a1) (C := RX8) (T := TX8) (N := 23) hx hb hts inlX8 hown hK hP 0 rfl rfl 0 (by decide) (hts _ mw_97) (fun _ h9 => h9) rfl dX8_passes_34 ?_
  refine lv_bipush (v := 6) hx hb dX8_passes_37 (by decide) ?_
  refine lv_dup2_11 hx hb dX8_passes_39 rfl rfl ?_
  refine va_iald hx hb hK hP 1 1 rfl rfl (vp_in_nI (n := 6) (by decide) (by decide)) dX8_passes_40 ?_
  refine my_topi (y := (nI t)) (by exact hg.2.2.1) ?_
  refine lv_iconst (v := 1) hx hb dX8_passes_41 (by decide) ?_
  refine lv_iadd hx hb dX8_passes_42 ?_
  refine my_topi (y := (nI (t + 1))) (by rw [nI_1]) ?_
  refine va_iast hx hb hK hP hD hS 1 1 rfl rfl (vp_in_nI (n := 6) (by decide) (by decide)) dX8_passes_43 (fun H locs hP hD hS => ?_)
  have hP : va_P (dC, dI) vwCl [(h0, .inr (8, [.ref a1, v1, v2, v3, v4, v5, v6, v7, v8, v9, v10, v11, v12, v13, v14, v15, v16, v17, v18, v19, v20, v21, v22])), (a1, .inl (cy 1, 1037, .inl (upd g ((6 : Int32).toNatClampNeg) (nI (t + 1)))))] H := hP
  have hD : va_D A [(h0, .inr (8, [.ref a1, v1, v2, v3, v4, v5, v6, v7, v8, v9, v10, v11, v12, v13, v14, v15, v16, v17, v18, v19, v20, v21, v22])), (a1, .inl (cy 1, 1037, .inl (upd g ((6 : Int32).toNatClampNeg) (nI (t + 1)))))] := hD
  have hf4 : FT (t + 1) (upd g ((6 : Int32).toNatClampNeg) (nI (t + 1))) := FT_tick hg
  generalize (upd g ((6 : Int32).toNatClampNeg) (nI (t + 1))) = g3 at hP hD hf4
  refine lv_aload_n hx hb dX8_passes_44 rfl (lv_at hl 1 rfl) ?_
  refine va_get (D := (dC, dI)) (ci := 8) (v := .ref a1) (C := RX8) (T := TX8) (N := 23) hx hb hts inlX8 hown hK hP 0 rfl rfl 0 (by decide) (hts _ mw_97) (fun _ h9 => h9) rfl dX8_passes_45 ?_
  refine lv_bipush (v := 6) hx hb dX8_passes_48 (by decide) ?_
  refine va_iald hx hb hK hP 1 1 rfl rfl (vp_in_nI (n := 6) (by decide) (by decide)) dX8_passes_50 ?_
  refine my_topi (y := (nI (t + 1))) (by exact hf4.2.2.1) ?_
  refine lv_aload_n hx hb dX8_passes_51 rfl (lv_at hl 1 rfl) ?_
  refine va_get (D := (dC, dI)) (ci := 8) (v := .ref a1) (C := RX8) (T := TX8) (N := 23) hx hb hts inlX8 hown hK hP 0 rfl rfl 0 (by decide) (hts _ mw_97) (fun _ h9 => h9) rfl dX8_passes_52 ?_
  refine lv_iconst (v := 0) hx hb dX8_passes_55 (by decide) ?_
  refine va_iald hx hb hK hP 1 1 rfl rfl (vp_in_nI (n := 0) (by decide) (by decide)) dX8_passes_56 ?_
  refine my_topi (y := 480) (by exact hf4.1) ?_
  refine lv_irem hx hb dX8_passes_57 (by decide) ?_
  refine lv_if_ne (tgt := 65) hx hb dX8_passes_58 (by decide) (fun c_58_1 => ?_) (fun c_58_1 => ?_)
  · skip
    refine lv_iconst (v := 0) hx hb dX8_passes_65 (by decide) ?_
    refine lv_istore_n (lv' := [(1, .int 0), (0, .ref h0)]) hx hb dX8_passes_66 rfl hl (by decide) rfl (fun ls hl => ?_)
    refine lv_iload_n hx hb dX8_passes_67 rfl (lv_at hl 0 rfl) ?_
    refine lv_aload_n hx hb dX8_passes_68 rfl (lv_at hl 1 rfl) ?_
    refine va_get (D := (dC, dI)) (ci := 8) (v := .ref a1) (C := RX8) (T := TX8) (N := 23) hx hb hts inlX8 hown hK hP 0 rfl rfl 0 (by decide) (hts _ mw_97) (fun _ h9 => h9) rfl dX8_passes_69 ?_
    refine lv_bipush (v := 7) hx hb dX8_passes_72 (by decide) ?_
    refine va_iald hx hb hK hP 1 1 rfl rfl (vp_in_nI (n := 7) (by decide) (by decide)) dX8_passes_74 ?_
    refine my_topi (y := 0) (by exact hf4.2.2.2.1) ?_
    refine lv_icmp_ge (tgt := 107) hx hb dX8_passes_75 (by decide) (fun _ => ?_) (fun h => absurd (by decide) h)
    have hP9 := hP.sub (ws' := [(h0, .inr (8, [.ref a1, v1, v2, v3, v4, v5, v6, v7, v8, v9, v10, v11, v12, v13, v14, v15, v16, v17, v18, v19, v20, v21, v22])), (a1, .inl (cy 1, 1037, .inl g3))]) [0, 1] rfl
    have hD9 := hD.sub (ws' := [(h0, .inr (8, [.ref a1, v1, v2, v3, v4, v5, v6, v7, v8, v9, v10, v11, v12, v13, v14, v15, v16, v17, v18, v19, v20, v21, v22])), (a1, .inl (cy 1, 1037, .inl g3))]) [0, 1] (by decide) rfl
    refine W.widen (k := 0) (n := 0) (by omega) (by omega) ?_
    exact W.vret hx hb hr (fun tz ht hW => ⟨⟨(), rfl, trivial, g3, hf4, by rw [ht]; exact hP9, hD9⟩, hS.F ht⟩) hS.2.2 dX8_passes_107
  · skip
    refine lv_aload_n hx hb dX8_passes_61 rfl (lv_at hl 1 rfl) ?_
    have hPc := hP.sub (ws' := [(h0, .inr (8, [.ref a1, v1, v2, v3, v4, v5, v6, v7, v8, v9, v10, v11, v12, v13, v14, v15, v16, v17, v18, v19, v20, v21, v22])), (a1, .inl (cy 1, 1037, .inl g3))]) [0, 1] rfl
    have hDc := hD.sub (ws' := [(h0, .inr (8, [.ref a1, v1, v2, v3, v4, v5, v6, v7, v8, v9, v10, v11, v12, v13, v14, v15, v16, v17, v18, v19, v20, v21, v22])), (a1, .inl (cy 1, 1037, .inl g3))]) [0, 1] (by decide) rfl
    have hFc := va_free (wc := [(h0, .inr (8, [.ref a1, v1, v2, v3, v4, v5, v6, v7, v8, v9, v10, v11, v12, v13, v14, v15, v16, v17, v18, v19, v20, v21, v22])), (a1, .inl (cy 1, 1037, .inl g3))]) hD hS hA [0, 1] rfl
    refine va_callv (va_runV (As := []) (rest := []) ⟨hx, hb, hml, hown, hts⟩ (c_X8_dayEnds l dC dI cy nb h0 a1 (v1) (v2) (v3) (v4) (v5) (v6) (v7) (v8) (v9) (v10) (v11) (v12) (v13) (v14) (v15) (v16) (v17) (v18) (v19) (v20) (v21) (v22) g3 (t + 1) H.size hf4) (cwV 0 hts (gV mw_1279 mw_1280 mw_1281 mw_5 mw_1282) rfl rfl rfl (by decide +kernel) ⟨Nat.le_of_ble_eq_true rfl, Nat.le_of_ble_eq_true rfl⟩) ⟨fun a U g mk q => by obtain ⟨q0, q1, qP, qK, qD, qE⟩ := q; exact ⟨q0, q1, qP, va_K.moved (u := U) (U := U.calling g mk a) (Vm.Alike.refl U.vm) qK, qD, GE.calling qE⟩, va_recv hK hP (ci := 8) (q0 := 0) rfl rfl, fun U hU hW => ⟨rfl, by rw [hU], by rw [hU]; exact hPc, va_K.moved hW.alike hK, hDc.weaken (fun _ _ _ _ => trivial), GE.call hE hS hFc hU hW⟩⟩ rfl rfl hl.1 rfl (lv_room (Nat.le_of_ble_eq_true rfl)) dX8_passes_62 ⟨Nat.le_of_ble_eq_true rfl, Nat.le_of_ble_eq_true rfl⟩) hS (fun q _ h => hFc q h) hFc (fun u tz H1 locs ht hvm hw7 hB hz1 hk1 hS => ?_)
    obtain ⟨g5, hg6, hP1, hD1⟩ := hB
    rw [ht] at hP1
    obtain ⟨hP, hD⟩ := va_join (wr := []) (w1 := [(h0, .inr (8, [.ref a1, v1, v2, v3, v4, v5, v6, v7, v8, v9, v10, v11, v12, v13, v14, v15, v16, v17, v18, v19, v20, v21, v22])), (a1, .inl (cy 1, 1037, .inl g5))]) hP hD [0, 1] [] rfl rfl (by decide) (by decide) hk1 hFc hP1 hD1
    generalize H1 = H at hP hS ⊢
    have hP : va_P (dC, dI) vwCl [(h0, .inr (8, [.ref a1, v1, v2, v3, v4, v5, v6, v7, v8, v9, v10, v11, v12, v13, v14, v15, v16, v17, v18, v19, v20, v21, v22])), (a1, .inl (cy 1, 1037, .inl g5))] H := hP
    have hD : va_D A [(h0, .inr (8, [.ref a1, v1, v2, v3, v4, v5, v6, v7, v8, v9, v10, v11, v12, v13, v14, v15, v16, v17, v18, v19, v20, v21, v22])), (a1, .inl (cy 1, 1037, .inl g5))] := hD
    refine W.widen (k := 0) (n := 0) (by omega) (by omega) ?_
    refine lv_iconst (v := 0) hx hb dX8_passes_65 (by decide) ?_
    refine lv_istore_n (lv' := [(1, .int 0), (0, .ref h0)]) hx hb dX8_passes_66 rfl hl (by decide) rfl (fun ls hl => ?_)
    refine lv_iload_n hx hb dX8_passes_67 rfl (lv_at hl 0 rfl) ?_
    refine lv_aload_n hx hb dX8_passes_68 rfl (lv_at hl 1 rfl) ?_
    refine va_get (D := (dC, dI)) (ci := 8) (v := .ref a1) (C := RX8) (T := TX8) (N := 23) hx hb hts inlX8 hown hK hP 0 rfl rfl 0 (by decide) (hts _ mw_97) (fun _ h9 => h9) rfl dX8_passes_69 ?_
    refine lv_bipush (v := 7) hx hb dX8_passes_72 (by decide) ?_
    refine va_iald hx hb hK hP 1 1 rfl rfl (vp_in_nI (n := 7) (by decide) (by decide)) dX8_passes_74 ?_
    refine my_topi (y := 0) (by exact hg6.2.2.2.1) ?_
    refine lv_icmp_ge (tgt := 107) hx hb dX8_passes_75 (by decide) (fun _ => ?_) (fun h => absurd (by decide) h)
    have hP9 := hP.sub (ws' := [(h0, .inr (8, [.ref a1, v1, v2, v3, v4, v5, v6, v7, v8, v9, v10, v11, v12, v13, v14, v15, v16, v17, v18, v19, v20, v21, v22])), (a1, .inl (cy 1, 1037, .inl g5))]) [0, 1] rfl
    have hD9 := hD.sub (ws' := [(h0, .inr (8, [.ref a1, v1, v2, v3, v4, v5, v6, v7, v8, v9, v10, v11, v12, v13, v14, v15, v16, v17, v18, v19, v20, v21, v22])), (a1, .inl (cy 1, 1037, .inl g5))]) [0, 1] (by decide) rfl
    refine W.widen (k := 0) (n := 0) (by omega) (by omega) ?_
    exact W.vret hx hb hr (fun tz ht hW => ⟨⟨(), rfl, trivial, g5, hg6, by rw [ht]; exact hP9, hD9⟩, hS.F ht⟩) hS.2.2 dX8_passes_107
set_option maxHeartbeats 4000000 in
set_option maxRecDepth 100000 in
/-- X8_areFinished -/
theorem c_X8_areFinished (l : Launch) (dC : Nat → ClassId) (dI : Nat → Nat → Nat) (cy : Nat → ClassId) (nb : Nat → Nat) (h0 : Nat) (a1 : Nat) (v1 : Value) (v2 : Value) (v3 : Value) (v4 : Value) (v5 : Value) (v6 : Value) (v7 : Value) (v8 : Value) (v9 : Value) (v10 : Value) (v11 : Value) (v12 : Value) (v13 : Value) (v14 : Value) (v15 : Value) (v16 : Value) (v17 : Value) (v18 : Value) (v19 : Value) (v20 : Value) (v21 : Value) (v22 : Value) (g : Nat → Int32) (t : Nat) (sz : Nat) (hg : FT t g) : Met l yX8_areFinished (wsg yX8_areFinished cX8_areFinished 3 (some .boolean)) ({ frames := 11, cells := 0, slots := 0, locals := 600 }) (va_Pc [.ref h0, .int (-1)] (fun U => U.heap.size = sz ∧ va_P (dC, dI) vwCl [(h0, .inr (8, [.ref a1, v1, v2, v3, v4, v5, v6, v7, v8, v9, v10, v11, v12, v13, v14, v15, v16, v17, v18, v19, v20, v21, v22])), (a1, .inl (cy 1, 1037, .inl g))] U.heap ∧ va_K (dC, dI) vwCl (tyL cy) U ∧ va_D (fun _ => True) [(h0, .inr (8, [.ref a1, v1, v2, v3, v4, v5, v6, v7, v8, v9, v10, v11, v12, v13, v14, v15, v16, v17, v18, v19, v20, v21, v22])), (a1, .inl (cy 1, 1037, .inl g))] ∧ GE nb (va_A [(h0, .inr (8, [.ref a1, v1, v2, v3, v4, v5, v6, v7, v8, v9, v10, v11, v12, v13, v14, v15, v16, v17, v18, v19, v20, v21, v22])), (a1, .inl (cy 1, 1037, .inl g))] sz) U)) (va_Qi (fun (r : Int32) (_ : Unit) => r = 1) (fun _ tz => va_P (dC, dI) vwCl [(h0, .inr (8, [.ref a1, v1, v2, v3, v4, v5, v6, v7, v8, v9, v10, v11, v12, v13, v14, v15, v16, v17, v18, v19, v20, v21, v22])), (a1, .inl (cy 1, 1037, .inl g))] tz.heap ∧ va_D (va_A [(h0, .inr (8, [.ref a1, v1, v2, v3, v4, v5, v6, v7, v8, v9, v10, v11, v12, v13, v14, v15, v16, v17, v18, v19, v20, v21, v22])), (a1, .inl (cy 1, 1037, .inl g))] sz) [(h0, .inr (8, [.ref a1, v1, v2, v3, v4, v5, v6, v7, v8, v9, v10, v11, v12, v13, v14, v15, v16, v17, v18, v19, v20, v21, v22])), (a1, .inl (cy 1, 1037, .inl g))]) (va_A [(h0, .inr (8, [.ref a1, v1, v2, v3, v4, v5, v6, v7, v8, v9, v10, v11, v12, v13, v14, v15, v16, v17, v18, v19, v20, v21, v22])), (a1, .inl (cy 1, 1037, .inl g))] sz)) 0 0 (va_A [(h0, .inr (8, [.ref a1, v1, v2, v3, v4, v5, v6, v7, v8, v9, v10, v11, v12, v13, v14, v15, v16, v17, v18, v19, v20, v21, v22])), (a1, .inl (cy 1, 1037, .inl g))] sz) := by
  refine Met.ofW (cc := cX8_areFinished) (maxL := 3) (ret := (some .boolean)) (by decide) rfl ?_
  intro p e s m args below meth c s₁ B hml hv
  obtain ⟨rfl, hsz, hP, hK, hD0, hE⟩ := hv
  have hx := B.exec
  have hb := B.bytes
  have hr := B.returns
  have hts0 := atoms_spec (ws := (wsg yX8_areFinished cX8_areFinished 3 (some .boolean))) B.pre
  have hts : ∀ w ∈ wsL_law, w.before _ s = true := fun w h => hts0 w (List.mem_cons_of_mem _ h)
  have hown : s.vm.findClass RX8 = some m.cls := findClass_of_methodNamed B.named
  have hlocks := B.notSynchronized
  subst hsz
  have hD := hD0.self (sz := s.heap.size)
  generalize hAe : va_A [(h0, .inr (8, [.ref a1, v1, v2, v3, v4, v5, v6, v7, v8, v9, v10, v11, v12, v13, v14, v15, v16, v17, v18, v19, v20, v21, v22])), (a1, .inl (cy 1, 1037, .inl g))] s.heap.size = A at hD hE ⊢
  have hA : ∀ q : Nat, s.heap.size ≤ q → A q := fun q h => by rw [← hAe]; exact Or.inr h
  have hS : va_S A s.heap s.heap [] := va_S.rf
  have hP : va_P (dC, dI) vwCl [(h0, .inr (8, [.ref a1, v1, v2, v3, v4, v5, v6, v7, v8, v9, v10, v11, v12, v13, v14, v15, v16, v17, v18, v19, v20, v21, v22])), (a1, .inl (cy 1, 1037, .inl g))] s.heap := hP
  have hl := lv_entry ([.ref h0, .int (-1)]) (n := 3) (Nat.le_of_ble_eq_true rfl)
  rw [lg_entry_eq]
  generalize (lg_sl ([.ref h0, .int (-1)]) ++ List.replicate (3 - (lg_sl ([.ref h0, .int (-1)])).length) Slot.unset).toArray = ls at hl ⊢
  have hl : lv_has ls 3 [(0, .ref h0), (1, .int (-1))] := hl
  generalize hHe : s.heap = H at hP hS ⊢
  have hS : va_S A s.heap H [] := by rw [hHe]; exact hS
  refine lv_iconst (v := 0) hx hb dX8_areFinished_0 (by decide) ?_
  refine lv_istore_n (lv' := [(2, .int 0), (0, .ref h0), (1, .int (-1))]) hx hb dX8_areFinished_1 rfl hl (by decide) rfl (fun ls hl => ?_)
  refine lv_iload_n hx hb dX8_areFinished_2 rfl (lv_at hl 0 rfl) ?_
  refine lv_aload_n hx hb dX8_areFinished_3 rfl (lv_at hl 1 rfl) ?_
  refine va_get (D := (dC, dI)) (ci := 8) (v := .ref a1) (C := RX8) (T := TX8) (N := 23) hx hb hts inlX8 hown hK hP 0 rfl rfl 0 (by decide) (hts _ mw_97) (fun _ h9 => h9) rfl dX8_areFinished_4 ?_
  refine lv_bipush (v := 9) hx hb dX8_areFinished_7 (by decide) ?_
  refine va_iald hx hb hK hP 1 1 rfl rfl (vp_in_nI (n := 9) (by decide) (by decide)) dX8_areFinished_9 ?_
  refine my_topi (y := 0) (by exact hg.2.2.2.2.2.1) ?_
  refine lv_icmp_ge (tgt := 44) hx hb dX8_areFinished_10 (by decide) (fun _ => ?_) (fun h => absurd (by decide) h)
  refine lv_iconst (v := 1) hx hb dX8_areFinished_44 (by decide) ?_
  have hP9 := hP.sub (ws' := [(h0, .inr (8, [.ref a1, v1, v2, v3, v4, v5, v6, v7, v8, v9, v10, v11, v12, v13, v14, v15, v16, v17, v18, v19, v20, v21, v22])), (a1, .inl (cy 1, 1037, .inl g))]) [0, 1] rfl
  have hD9 := hD.sub (ws' := [(h0, .inr (8, [.ref a1, v1, v2, v3, v4, v5, v6, v7, v8, v9, v10, v11, v12, v13, v14, v15, v16, v17, v18, v19, v20, v21, v22])), (a1, .inl (cy 1, 1037, .inl g))]) [0, 1] (by decide) rfl
  refine W.widen (k := 0) (n := 0) (by omega) (by omega) ?_
  exact W.zret (v := 1) hx hb hr (by rfl) (fun tz ht hW => ⟨⟨1, (), rfl, rfl, by rw [ht]; exact hP9, hD9⟩, hS.F ht⟩) hS.2.2 dX8_areFinished_45
set_option maxHeartbeats 4000000 in
set_option maxRecDepth 100000 in
/-- X8_isMet -/
theorem c_X8_isMet (l : Launch) (dC : Nat → ClassId) (dI : Nat → Nat → Nat) (cy : Nat → ClassId) (nb : Nat → Nat) (h0 : Nat) (a1 : Nat) (v1 : Value) (v2 : Value) (v3 : Value) (v4 : Value) (v5 : Value) (v6 : Value) (v7 : Value) (v8 : Value) (v9 : Value) (v10 : Value) (v11 : Value) (v12 : Value) (v13 : Value) (v14 : Value) (v15 : Value) (v16 : Value) (v17 : Value) (v18 : Value) (v19 : Value) (v20 : Value) (v21 : Value) (v22 : Value) (g : Nat → Int32) (t : Nat) (sz : Nat) (hg : FT t g) : Met l yX8_isMet (wsg yX8_isMet cX8_isMet 4 (some .boolean)) ({ frames := 12, cells := 0, slots := 0, locals := 700 }) (va_Pc [.ref h0, .int 2, .int (-1), .int 0] (fun U => U.heap.size = sz ∧ va_P (dC, dI) vwCl [(h0, .inr (8, [.ref a1, v1, v2, v3, v4, v5, v6, v7, v8, v9, v10, v11, v12, v13, v14, v15, v16, v17, v18, v19, v20, v21, v22])), (a1, .inl (cy 1, 1037, .inl g))] U.heap ∧ va_K (dC, dI) vwCl (tyL cy) U ∧ va_D (fun _ => True) [(h0, .inr (8, [.ref a1, v1, v2, v3, v4, v5, v6, v7, v8, v9, v10, v11, v12, v13, v14, v15, v16, v17, v18, v19, v20, v21, v22])), (a1, .inl (cy 1, 1037, .inl g))] ∧ GE nb (va_A [(h0, .inr (8, [.ref a1, v1, v2, v3, v4, v5, v6, v7, v8, v9, v10, v11, v12, v13, v14, v15, v16, v17, v18, v19, v20, v21, v22])), (a1, .inl (cy 1, 1037, .inl g))] sz) U)) (va_Qi (fun (r : Int32) (_ : Unit) => r = 1) (fun _ tz => va_P (dC, dI) vwCl [(h0, .inr (8, [.ref a1, v1, v2, v3, v4, v5, v6, v7, v8, v9, v10, v11, v12, v13, v14, v15, v16, v17, v18, v19, v20, v21, v22])), (a1, .inl (cy 1, 1037, .inl g))] tz.heap ∧ va_D (va_A [(h0, .inr (8, [.ref a1, v1, v2, v3, v4, v5, v6, v7, v8, v9, v10, v11, v12, v13, v14, v15, v16, v17, v18, v19, v20, v21, v22])), (a1, .inl (cy 1, 1037, .inl g))] sz) [(h0, .inr (8, [.ref a1, v1, v2, v3, v4, v5, v6, v7, v8, v9, v10, v11, v12, v13, v14, v15, v16, v17, v18, v19, v20, v21, v22])), (a1, .inl (cy 1, 1037, .inl g))]) (va_A [(h0, .inr (8, [.ref a1, v1, v2, v3, v4, v5, v6, v7, v8, v9, v10, v11, v12, v13, v14, v15, v16, v17, v18, v19, v20, v21, v22])), (a1, .inl (cy 1, 1037, .inl g))] sz)) 0 0 (va_A [(h0, .inr (8, [.ref a1, v1, v2, v3, v4, v5, v6, v7, v8, v9, v10, v11, v12, v13, v14, v15, v16, v17, v18, v19, v20, v21, v22])), (a1, .inl (cy 1, 1037, .inl g))] sz) := by
  refine Met.ofW (cc := cX8_isMet) (maxL := 4) (ret := (some .boolean)) (by decide) rfl ?_
  intro p e s m args below meth c s₁ B hml hv
  obtain ⟨rfl, hsz, hP, hK, hD0, hE⟩ := hv
  have hx := B.exec
  have hb := B.bytes
  have hr := B.returns
  have hts0 := atoms_spec (ws := (wsg yX8_isMet cX8_isMet 4 (some .boolean))) B.pre
  have hts : ∀ w ∈ wsL_law, w.before _ s = true := fun w h => hts0 w (List.mem_cons_of_mem _ h)
  have hown : s.vm.findClass RX8 = some m.cls := findClass_of_methodNamed B.named
  have hlocks := B.notSynchronized
  subst hsz
  have hD := hD0.self (sz := s.heap.size)
  generalize hAe : va_A [(h0, .inr (8, [.ref a1, v1, v2, v3, v4, v5, v6, v7, v8, v9, v10, v11, v12, v13, v14, v15, v16, v17, v18, v19, v20, v21, v22])), (a1, .inl (cy 1, 1037, .inl g))] s.heap.size = A at hD hE ⊢
  have hA : ∀ q : Nat, s.heap.size ≤ q → A q := fun q h => by rw [← hAe]; exact Or.inr h
  have hS : va_S A s.heap s.heap [] := va_S.rf
  have hP : va_P (dC, dI) vwCl [(h0, .inr (8, [.ref a1, v1, v2, v3, v4, v5, v6, v7, v8, v9, v10, v11, v12, v13, v14, v15, v16, v17, v18, v19, v20, v21, v22])), (a1, .inl (cy 1, 1037, .inl g))] s.heap := hP
  have hl := lv_entry ([.ref h0, .int 2, .int (-1), .int 0]) (n := 4) (Nat.le_of_ble_eq_true rfl)
  rw [lg_entry_eq]
  generalize (lg_sl ([.ref h0, .int 2, .int (-1), .int 0]) ++ List.replicate (4 - (lg_sl ([.ref h0, .int 2, .int (-1), .int 0])).length) Slot.unset).toArray = ls at hl ⊢
  have hl : lv_has ls 4 [(0, .ref h0), (1, .int 2), (2, .int (-1)), (3, .int 0)] := hl
  generalize hHe : s.heap = H at hP hS ⊢
  have hS : va_S A s.heap H [] := by rw [hHe]; exact hS
  refine lv_iload_n hx hb dX8_isMet_0 rfl (lv_at hl 1 rfl) ?_
  refine lv_tableIn (off := 53) (tgt := 54) hx hb dX8_isMet_1 (by decide) (by decide) (by decide) (by decide) ?_
  refine lv_aload_n hx hb dX8_isMet_54 rfl (lv_at hl 0 rfl) ?_
  refine lv_iconst (v := (-1)) hx hb dX8_isMet_55 (by decide) ?_
  have hPc := hP.sub (ws' := [(h0, .inr (8, [.ref a1, v1, v2, v3, v4, v5, v6, v7, v8, v9, v10, v11, v12, v13, v14, v15, v16, v17, v18, v19, v20, v21, v22])), (a1, .inl (cy 1, 1037, .inl g))]) [0, 1] rfl
  have hDc := hD.sub (ws' := [(h0, .inr (8, [.ref a1, v1, v2, v3, v4, v5, v6, v7, v8, v9, v10, v11, v12, v13, v14, v15, v16, v17, v18, v19, v20, v21, v22])), (a1, .inl (cy 1, 1037, .inl g))]) [0, 1] (by decide) rfl
  have hFc := va_free (wc := [(h0, .inr (8, [.ref a1, v1, v2, v3, v4, v5, v6, v7, v8, v9, v10, v11, v12, v13, v14, v15, v16, v17, v18, v19, v20, v21, v22])), (a1, .inl (cy 1, 1037, .inl g))]) hD hS hA [0, 1] rfl
  refine va_calli (va_runV (As := [.int (-1)]) (rest := []) ⟨hx, hb, hml, hown, hts⟩ (c_X8_areFinished l dC dI cy nb h0 a1 (v1) (v2) (v3) (v4) (v5) (v6) (v7) (v8) (v9) (v10) (v11) (v12) (v13) (v14) (v15) (v16) (v17) (v18) (v19) (v20) (v21) (v22) g t H.size hg) (cwV 1 hts (gV mw_1342 mw_1343 mw_1344 mw_5 mw_1345) rfl rfl rfl (by decide +kernel) ⟨Nat.le_of_ble_eq_true rfl, Nat.le_of_ble_eq_true rfl⟩) ⟨fun a U g mk q => by obtain ⟨q0, q1, qP, qK, qD, qE⟩ := q; exact ⟨q0, q1, qP, va_K.moved (u := U) (U := U.calling g mk a) (Vm.Alike.refl U.vm) qK, qD, GE.calling qE⟩, va_recv hK hP (ci := 8) (q0 := 0) rfl rfl, fun U hU hW => ⟨rfl, by rw [hU], by rw [hU]; exact hPc, va_K.moved hW.alike hK, hDc.weaken (fun _ _ _ _ => trivial), GE.call hE hS hFc hU hW⟩⟩ rfl rfl hl.1 rfl (lv_room (Nat.le_of_ble_eq_true rfl)) dX8_isMet_56 ⟨Nat.le_of_ble_eq_true rfl, Nat.le_of_ble_eq_true rfl⟩) hS (fun q _ h => hFc q h) hFc (fun r u tz H1 locs ht hvm hw1 hB hz1 hk1 hS => ?_)
  obtain ⟨hP1, hD1⟩ := hB
  rw [ht] at hP1
  obtain ⟨hP, hD⟩ := va_join (wr := []) (w1 := [(h0, .inr (8, [.ref a1, v1, v2, v3, v4, v5, v6, v7, v8, v9, v10, v11, v12, v13, v14, v15, v16, v17, v18, v19, v20, v21, v22])), (a1, .inl (cy 1, 1037, .inl g))]) hP hD [0, 1] [] rfl rfl (by decide) (by decide) hk1 hFc hP1 hD1
  generalize H1 = H at hP hS ⊢
  have hP : va_P (dC, dI) vwCl [(h0, .inr (8, [.ref a1, v1, v2, v3, v4, v5, v6, v7, v8, v9, v10, v11, v12, v13, v14, v15, v16, v17, v18, v19, v20, v21, v22])), (a1, .inl (cy 1, 1037, .inl g))] H := hP
  have hD : va_D A [(h0, .inr (8, [.ref a1, v1, v2, v3, v4, v5, v6, v7, v8, v9, v10, v11, v12, v13, v14, v15, v16, v17, v18, v19, v20, v21, v22])), (a1, .inl (cy 1, 1037, .inl g))] := hD
  obtain rfl := hw1
  refine W.widen (k := 0) (n := 0) (by omega) (by omega) ?_
  have hP9 := hP.sub (ws' := [(h0, .inr (8, [.ref a1, v1, v2, v3, v4, v5, v6, v7, v8, v9, v10, v11, v12, v13, v14, v15, v16, v17, v18, v19, v20, v21, v22])), (a1, .inl (cy 1, 1037, .inl g))]) [0, 1] rfl
  have hD9 := hD.sub (ws' := [(h0, .inr (8, [.ref a1, v1, v2, v3, v4, v5, v6, v7, v8, v9, v10, v11, v12, v13, v14, v15, v16, v17, v18, v19, v20, v21, v22])), (a1, .inl (cy 1, 1037, .inl g))]) [0, 1] (by decide) rfl
  refine W.widen (k := 0) (n := 0) (by omega) (by omega) ?_
  exact W.zret (v := 1) hx hb hr (by rfl) (fun tz ht hW => ⟨⟨1, (), rfl, rfl, by rw [ht]; exact hP9, hD9⟩, hS.F ht⟩) hS.2.2 dX8_isMet_59
set_option maxHeartbeats 4000000 in
set_option maxRecDepth 100000 in
/-- X8_goes -/
theorem c_X8_goes (l : Launch) (dC : Nat → ClassId) (dI : Nat → Nat → Nat) (cy : Nat → ClassId) (nb : Nat → Nat) (h0 : Nat) (a1 : Nat) (v1 : Value) (v2 : Value) (v3 : Value) (v4 : Value) (v5 : Value) (v6 : Value) (v7 : Value) (v8 : Value) (v9 : Value) (v10 : Value) (v11 : Value) (v12 : Value) (v13 : Value) (v14 : Value) (v15 : Value) (v16 : Value) (v17 : Value) (v18 : Value) (v19 : Value) (v20 : Value) (v21 : Value) (v22 : Value) (g : Nat → Int32) (t : Nat) (sz : Nat) (hg : FT t g) : Met l yX8_goes (wsg yX8_goes cX8_goes 5 (some .int)) ({ frames := 13, cells := 0, slots := 0, locals := 800 }) (va_Pc [.ref h0, .int 2, .int (-1)] (fun U => U.heap.size = sz ∧ va_P (dC, dI) vwCl [(h0, .inr (8, [.ref a1, v1, v2, v3, v4, v5, v6, v7, v8, v9, v10, v11, v12, v13, v14, v15, v16, v17, v18, v19, v20, v21, v22])), (a1, .inl (cy 1, 1037, .inl g))] U.heap ∧ va_K (dC, dI) vwCl (tyL cy) U ∧ va_D (fun _ => True) [(h0, .inr (8, [.ref a1, v1, v2, v3, v4, v5, v6, v7, v8, v9, v10, v11, v12, v13, v14, v15, v16, v17, v18, v19, v20, v21, v22])), (a1, .inl (cy 1, 1037, .inl g))] ∧ GE nb (va_A [(h0, .inr (8, [.ref a1, v1, v2, v3, v4, v5, v6, v7, v8, v9, v10, v11, v12, v13, v14, v15, v16, v17, v18, v19, v20, v21, v22])), (a1, .inl (cy 1, 1037, .inl g))] sz) U)) (va_Qi (fun (r : Int32) (_ : Unit) => r = 0) (fun _ tz => va_P (dC, dI) vwCl [(h0, .inr (8, [.ref a1, v1, v2, v3, v4, v5, v6, v7, v8, v9, v10, v11, v12, v13, v14, v15, v16, v17, v18, v19, v20, v21, v22])), (a1, .inl (cy 1, 1037, .inl g))] tz.heap ∧ va_D (va_A [(h0, .inr (8, [.ref a1, v1, v2, v3, v4, v5, v6, v7, v8, v9, v10, v11, v12, v13, v14, v15, v16, v17, v18, v19, v20, v21, v22])), (a1, .inl (cy 1, 1037, .inl g))] sz) [(h0, .inr (8, [.ref a1, v1, v2, v3, v4, v5, v6, v7, v8, v9, v10, v11, v12, v13, v14, v15, v16, v17, v18, v19, v20, v21, v22])), (a1, .inl (cy 1, 1037, .inl g))]) (va_A [(h0, .inr (8, [.ref a1, v1, v2, v3, v4, v5, v6, v7, v8, v9, v10, v11, v12, v13, v14, v15, v16, v17, v18, v19, v20, v21, v22])), (a1, .inl (cy 1, 1037, .inl g))] sz)) 0 0 (va_A [(h0, .inr (8, [.ref a1, v1, v2, v3, v4, v5, v6, v7, v8, v9, v10, v11, v12, v13, v14, v15, v16, v17, v18, v19, v20, v21, v22])), (a1, .inl (cy 1, 1037, .inl g))] sz) := by
  refine Met.ofW (cc := cX8_goes) (maxL := 5) (ret := (some .int)) (by decide) rfl ?_
  intro p e s m args below meth c s₁ B hml hv
  obtain ⟨rfl, hsz, hP, hK, hD0, hE⟩ := hv
  have hx := B.exec
  have hb := B.bytes
  have hr := B.returns
  have hts0 := atoms_spec (ws := (wsg yX8_goes cX8_goes 5 (some .int))) B.pre
  have hts : ∀ w ∈ wsL_law, w.before _ s = true := fun w h => hts0 w (List.mem_cons_of_mem _ h)
  have hown : s.vm.findClass RX8 = some m.cls := findClass_of_methodNamed B.named
  have hlocks := B.notSynchronized
  subst hsz
  have hD := hD0.self (sz := s.heap.size)
  generalize hAe : va_A [(h0, .inr (8, [.ref a1, v1, v2, v3, v4, v5, v6, v7, v8, v9, v10, v11, v12, v13, v14, v15, v16, v17, v18, v19, v20, v21, v22])), (a1, .inl (cy 1, 1037, .inl g))] s.heap.size = A at hD hE ⊢
  have hA : ∀ q : Nat, s.heap.size ≤ q → A q := fun q h => by rw [← hAe]; exact Or.inr h
  have hS : va_S A s.heap s.heap [] := va_S.rf
  have hP : va_P (dC, dI) vwCl [(h0, .inr (8, [.ref a1, v1, v2, v3, v4, v5, v6, v7, v8, v9, v10, v11, v12, v13, v14, v15, v16, v17, v18, v19, v20, v21, v22])), (a1, .inl (cy 1, 1037, .inl g))] s.heap := hP
  have hl := lv_entry ([.ref h0, .int 2, .int (-1)]) (n := 5) (Nat.le_of_ble_eq_true rfl)
  rw [lg_entry_eq]
  generalize (lg_sl ([.ref h0, .int 2, .int (-1)]) ++ List.replicate (5 - (lg_sl ([.ref h0, .int 2, .int (-1)])).length) Slot.unset).toArray = ls at hl ⊢
  have hl : lv_has ls 5 [(0, .ref h0), (1, .int 2), (2, .int (-1))] := hl
  generalize hHe : s.heap = H at hP hS ⊢
  have hS : va_S A s.heap H [] := by rw [hHe]; exact hS
  refine lv_iload_n hx hb dX8_goes_0 rfl (lv_at hl 1 rfl) ?_
  refine lv_iconst (v := 3) hx hb dX8_goes_1 (by decide) ?_
  refine lv_icmp_ne (tgt := 14) hx hb dX8_goes_2 (by decide) (fun _ => ?_) (fun h => absurd h (by decide))
  refine lv_iconst (v := 0) hx hb dX8_goes_14 (by decide) ?_
  refine lv_istore_n (lv' := [(3, .int 0), (0, .ref h0), (1, .int 2), (2, .int (-1))]) hx hb dX8_goes_15 rfl hl (by decide) rfl (fun ls hl => ?_)
  refine lv_iconst (v := 0) hx hb dX8_goes_16 (by decide) ?_
  refine lv_istore (lv' := [(4, .int 0), (3, .int 0), (0, .ref h0), (1, .int 2), (2, .int (-1))]) hx hb dX8_goes_17 hl (by decide) rfl (fun ls hl => ?_)
  refine lv_iload hx hb dX8_goes_19 (lv_at hl 0 rfl) ?_
  refine lv_sipush (v := 2000) hx hb dX8_goes_21 (by decide) ?_
  refine lv_icmp_gt (tgt := 58) hx hb dX8_goes_24 (by decide) (fun h => absurd h (by decide)) (fun _ => ?_)
  refine lv_aload_n hx hb dX8_goes_27 rfl (lv_at hl 2 rfl) ?_
  refine lv_iload_n hx hb dX8_goes_28 rfl (lv_at hl 3 rfl) ?_
  refine lv_iload_n hx hb dX8_goes_29 rfl (lv_at hl 4 rfl) ?_
  refine lv_iload_n hx hb dX8_goes_30 rfl (lv_at hl 1 rfl) ?_
  have hPc := hP.sub (ws' := [(h0, .inr (8, [.ref a1, v1, v2, v3, v4, v5, v6, v7, v8, v9, v10, v11, v12, v13, v14, v15, v16, v17, v18, v19, v20, v21, v22])), (a1, .inl (cy 1, 1037, .inl g))]) [0, 1] rfl
  have hDc := hD.sub (ws' := [(h0, .inr (8, [.ref a1, v1, v2, v3, v4, v5, v6, v7, v8, v9, v10, v11, v12, v13, v14, v15, v16, v17, v18, v19, v20, v21, v22])), (a1, .inl (cy 1, 1037, .inl g))]) [0, 1] (by decide) rfl
  have hFc := va_free (wc := [(h0, .inr (8, [.ref a1, v1, v2, v3, v4, v5, v6, v7, v8, v9, v10, v11, v12, v13, v14, v15, v16, v17, v18, v19, v20, v21, v22])), (a1, .inl (cy 1, 1037, .inl g))]) hD hS hA [0, 1] rfl
  refine va_calli (va_runV (As := [.int 2, .int (-1), .int 0]) (rest := []) ⟨hx, hb, hml, hown, hts⟩ (c_X8_isMet l dC dI cy nb h0 a1 (v1) (v2) (v3) (v4) (v5) (v6) (v7) (v8) (v9) (v10) (v11) (v12) (v13) (v14) (v15) (v16) (v17) (v18) (v19) (v20) (v21) (v22) g t H.size hg) (cwV 3 hts (gV mw_1338 mw_1339 mw_1340 mw_5 mw_1341) rfl rfl rfl (by decide +kernel) ⟨Nat.le_of_ble_eq_true rfl, Nat.le_of_ble_eq_true rfl⟩) ⟨fun a U g mk q => by obtain ⟨q0, q1, qP, qK, qD, qE⟩ := q; exact ⟨q0, q1, qP, va_K.moved (u := U) (U := U.calling g mk a) (Vm.Alike.refl U.vm) qK, qD, GE.calling qE⟩, va_recv hK hP (ci := 8) (q0 := 0) rfl rfl, fun U hU hW => ⟨rfl, by rw [hU], by rw [hU]; exact hPc, va_K.moved hW.alike hK, hDc.weaken (fun _ _ _ _ => trivial), GE.call hE hS hFc hU hW⟩⟩ rfl rfl hl.1 rfl (lv_room (Nat.le_of_ble_eq_true rfl)) dX8_goes_31 ⟨Nat.le_of_ble_eq_true rfl, Nat.le_of_ble_eq_true rfl⟩) hS (fun q _ h => hFc q h) hFc (fun r u tz H1 locs ht hvm hw1 hB hz1 hk1 hS => ?_)
  obtain ⟨hP1, hD1⟩ := hB
  rw [ht] at hP1
  obtain ⟨hP, hD⟩ := va_join (wr := []) (w1 := [(h0, .inr (8, [.ref a1, v1, v2, v3, v4, v5, v6, v7, v8, v9, v10, v11, v12, v13, v14, v15, v16, v17, v18, v19, v20, v21, v22])), (a1, .inl (cy 1, 1037, .inl g))]) hP hD [0, 1] [] rfl rfl (by decide) (by decide) hk1 hFc hP1 hD1
  generalize H1 = H at hP hS ⊢
  have hP : va_P (dC, dI) vwCl [(h0, .inr (8, [.ref a1, v1, v2, v3, v4, v5, v6, v7, v8, v9, v10, v11, v12, v13, v14, v15, v16, v17, v18, v19, v20, v21, v22])), (a1, .inl (cy 1, 1037, .inl g))] H := hP
  have hD : va_D A [(h0, .inr (8, [.ref a1, v1, v2, v3, v4, v5, v6, v7, v8, v9, v10, v11, v12, v13, v14, v15, v16, v17, v18, v19, v20, v21, v22])), (a1, .inl (cy 1, 1037, .inl g))] := hD
  obtain rfl := hw1
  refine W.widen (k := 0) (n := 0) (by omega) (by omega) ?_
  refine lv_if_eq (tgt := 40) hx hb dX8_goes_34 (by decide) (fun h => absurd h (by decide)) (fun _ => ?_)
  refine lv_iload hx hb dX8_goes_37 (lv_at hl 0 rfl) ?_
  have hP9 := hP.sub (ws' := [(h0, .inr (8, [.ref a1, v1, v2, v3, v4, v5, v6, v7, v8, v9, v10, v11, v12, v13, v14, v15, v16, v17, v18, v19, v20, v21, v22])), (a1, .inl (cy 1, 1037, .inl g))]) [0, 1] rfl
  have hD9 := hD.sub (ws' := [(h0, .inr (8, [.ref a1, v1, v2, v3, v4, v5, v6, v7, v8, v9, v10, v11, v12, v13, v14, v15, v16, v17, v18, v19, v20, v21, v22])), (a1, .inl (cy 1, 1037, .inl g))]) [0, 1] (by decide) rfl
  refine W.widen (k := 0) (n := 0) (by omega) (by omega) ?_
  exact W.iret (v := 0) hx hb hr (fun tz ht hW => ⟨⟨0, (), rfl, rfl, by rw [ht]; exact hP9, hD9⟩, hS.F ht⟩) hS.2.2 dX8_goes_39
