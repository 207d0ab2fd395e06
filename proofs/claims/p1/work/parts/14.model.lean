/-- in(v, low, high) -/
def inB (v low high : Int64) : Int32 := if low ≤ v ∧ v ≤ high then 1 else 0
theorem inB_lo {v low high : Int64} (h : v < low) : (0 : Int32) = inB v low high := by
  unfold inB; rw [if_neg]; rintro ⟨a, b⟩; simp only [Int64.lt_iff_toInt_lt, Int64.le_iff_toInt_le] at *; omega
theorem inB_hi {v low high : Int64} (h : high < v) : (0 : Int32) = inB v low high := by
  unfold inB; rw [if_neg]; rintro ⟨a, b⟩; simp only [Int64.lt_iff_toInt_lt, Int64.le_iff_toInt_le] at *; omega
theorem inB_in {v low high : Int64} (h1 : ¬ v < low) (h2 : ¬ high < v) : (1 : Int32) = inB v low high := by
  unfold inB; rw [if_pos]; constructor <;> (simp only [Int64.lt_iff_toInt_lt, Int64.le_iff_toInt_le] at *; omega)
theorem up_all {g : Nat → Int32} {k j : Nat} (hk : k < 2 ^ 31) (hg : ∀ j : Nat, j < k → g j = 0) (hj : j < k + 1) : upd g ((nI k : Int32).toNatClampNeg) 0 j = 0 := by
  rw [nI_clamp hk]; unfold upd
  by_cases h : j = k
  · rw [if_pos h]
  · rw [if_neg h]; exact hg j (by omega)
/-- the row of a new object -/
def FN (g : Nat → Int32) : Prop := g 0 = 480 ∧ g 1 = 1 ∧ g 2 = 1 ∧ ∀ k : Nat, 3 ≤ k → k < 1037 → g k = 0
theorem FN_of {g : Nat → Int32} (hg : ∀ j : Nat, j < 1037 → g j = 0) : FN (upd (upd (upd g ((0 : Int32).toNatClampNeg) 480) ((1 : Int32).toNatClampNeg) 1) ((2 : Int32).toNatClampNeg) 1) := by
  refine ⟨rfl, rfl, rfl, fun k h1 h2 => ?_⟩
  show (if k = 2 then (1 : Int32) else if k = 1 then 1 else if k = 0 then 480 else g k) = 0
  rw [if_neg (by omega), if_neg (by omega), if_neg (by omega)]; exact hg k h2
set_option maxHeartbeats 4000000 in
set_option maxRecDepth 100000 in
/-- in(v, low, high) -/
theorem c_X8_in (l : Launch) (dC : Nat → ClassId) (dI : Nat → Nat → Nat) (cy : Nat → ClassId) (nb : Nat → Nat) (v : Int64) (low : Int64) (high : Int64) (sz : Nat) : Met l yX8_in (wsg yX8_in cX8_in 6 (some .boolean)) ({ frames := 7, cells := 0, slots := 0, locals := 200 }) (va_Pc [.long v, .long low, .long high] (fun U => U.heap.size = sz ∧ va_P (dC, dI) vwCl [] U.heap ∧ va_K (dC, dI) vwCl (tyL cy) U ∧ va_D (fun _ => True) [] ∧ GE nb (va_A [] sz) U)) (va_Qi (fun (r : Int32) (_ : Unit) => r = inB v low high) (fun _ t => va_P (dC, dI) vwCl [] t.heap ∧ va_D (va_A [] sz) []) (va_A [] sz)) 0 0 (va_A [] sz) := by
  refine Met.ofW (cc := cX8_in) (maxL := 6) (ret := (some .boolean)) (by decide) rfl ?_
  intro p e s m args below meth c s₁ B hml hv
  obtain ⟨rfl, hsz, hP, hK, hD0, hE⟩ := hv
  have hx := B.exec
  have hb := B.bytes
  have hr := B.returns
  have hts0 := atoms_spec (ws := (wsg yX8_in cX8_in 6 (some .boolean))) B.pre
  have hts : ∀ w ∈ wsL_law, w.before _ s = true := fun w h => hts0 w (List.mem_cons_of_mem _ h)
  have hown : s.vm.findClass RX8 = some m.cls := findClass_of_methodNamed B.named
  have hlocks := B.notSynchronized
  subst hsz
  have hD := hD0.self (sz := s.heap.size)
  generalize hAe : va_A [] s.heap.size = A at hD hE ⊢
  have hA : ∀ q : Nat, s.heap.size ≤ q → A q := fun q h => by rw [← hAe]; exact Or.inr h
  have hS : va_S A s.heap s.heap [] := va_S.rf
  have hP : va_P (dC, dI) vwCl [] s.heap := hP
  have hl := lv_entry ([.long v, .long low, .long high]) (n := 6) (Nat.le_of_ble_eq_true rfl)
  rw [lg_entry_eq]
  generalize (lg_sl ([.long v, .long low, .long high]) ++ List.replicate (6 - (lg_sl ([.long v, .long low, .long high])).length) Slot.unset).toArray = ls at hl ⊢
  have hl : lv_has ls 6 [(0, .long v), (2, .long low), (4, .long high)] := hl
  generalize hHe : s.heap = H at hP hS ⊢
  have hS : va_S A s.heap H [] := by rw [hHe]; exact hS
  refine lv_lload_n hx hb dX8_in_0 rfl (lv_at hl 0 rfl) ?_
  refine lv_lload_n hx hb dX8_in_1 rfl (lv_at hl 1 rfl) ?_
  refine W.lcmp hx hb dX8_in_2 ?_
  refine lv_if_lt (tgt := 17) hx hb dX8_in_3 (by decide) (fun c_3_1 => ?_) (fun c_3_1 => ?_)
  · skip
    refine lv_iconst (v := 0) hx hb dX8_in_17 (by decide) ?_
    have hP9 := hP.sub (ws' := []) [] rfl
    have hD9 := hD.sub (ws' := []) [] (by decide) rfl
    refine W.widen (k := 0) (n := 0) (by omega) (by omega) ?_
    exact W.zret (v := 0) hx hb hr (by rfl) (fun t ht hW => ⟨⟨0, (), rfl, inB_lo (my_cmp_lt.mp c_3_1), by rw [ht]; exact hP9, hD9⟩, hS.F ht⟩) hS.2.2 dX8_in_18
  · skip
    refine lv_lload_n hx hb dX8_in_6 rfl (lv_at hl 0 rfl) ?_
    refine lv_lload hx hb dX8_in_7 (lv_at hl 2 rfl) ?_
    refine W.lcmp hx hb dX8_in_9 ?_
    refine lv_if_gt (tgt := 17) hx hb dX8_in_10 (by decide) (fun c_10_1 => ?_) (fun c_10_1 => ?_)
    · skip
      refine lv_iconst (v := 0) hx hb dX8_in_17 (by decide) ?_
      have hP9 := hP.sub (ws' := []) [] rfl
      have hD9 := hD.sub (ws' := []) [] (by decide) rfl
      refine W.widen (k := 0) (n := 0) (by omega) (by omega) ?_
      exact W.zret (v := 0) hx hb hr (by rfl) (fun t ht hW => ⟨⟨0, (), rfl, inB_hi (my_cmp_gt.mp c_10_1), by rw [ht]; exact hP9, hD9⟩, hS.F ht⟩) hS.2.2 dX8_in_18
    · skip
      refine lv_iconst (v := 1) hx hb dX8_in_13 (by decide) ?_
      refine lv_goto (tgt := 18) hx hb dX8_in_14 (by decide) ?_
      have hP9 := hP.sub (ws' := []) [] rfl
      have hD9 := hD.sub (ws' := []) [] (by decide) rfl
      refine W.widen (k := 0) (n := 0) (by omega) (by omega) ?_
      exact W.zret (v := 1) hx hb hr (by rfl) (fun t ht hW => ⟨⟨1, (), rfl, inB_in (fun h => c_3_1 (my_cmp_lt.mpr h)) (fun h => c_10_1 (my_cmp_gt.mpr h)), by rw [ht]; exact hP9, hD9⟩, hS.F ht⟩) hS.2.2 dX8_in_18
set_option maxHeartbeats 4000000 in
set_option maxRecDepth 100000 in
/-- isThrown(1, n) -/
theorem c_X8_isThrown_1 (l : Launch) (dC : Nat → ClassId) (dI : Nat → Nat → Nat) (cy : Nat → ClassId) (nb : Nat → Nat) (h0 : Nat) (v0 : Value) (v1 : Value) (v2 : Value) (v3 : Value) (v4 : Value) (v5 : Value) (v7 : Value) (v8 : Value) (v9 : Value) (v10 : Value) (v11 : Value) (v12 : Value) (v13 : Value) (v14 : Value) (v15 : Value) (v16 : Value) (v17 : Value) (v18 : Value) (v19 : Value) (v20 : Value) (v21 : Value) (v22 : Value) (x6 : Int32) (n : Int32) (sz : Nat) : Met l yX8_isThrown (wsg yX8_isThrown cX8_isThrown 3 (some .boolean)) ({ frames := 7, cells := 0, slots := 0, locals := 200 }) (va_Pc [.ref h0, .int 1, .int n] (fun U => U.heap.size = sz ∧ va_P (dC, dI) vwCl [(h0, .inr (8, [v0, v1, v2, v3, v4, v5, .int x6, v7, v8, v9, v10, v11, v12, v13, v14, v15, v16, v17, v18, v19, v20, v21, v22]))] U.heap ∧ va_K (dC, dI) vwCl (tyL cy) U ∧ va_D (fun _ => True) [(h0, .inr (8, [v0, v1, v2, v3, v4, v5, .int x6, v7, v8, v9, v10, v11, v12, v13, v14, v15, v16, v17, v18, v19, v20, v21, v22]))] ∧ GE nb (va_A [(h0, .inr (8, [v0, v1, v2, v3, v4, v5, .int x6, v7, v8, v9, v10, v11, v12, v13, v14, v15, v16, v17, v18, v19, v20, v21, v22]))] sz) U)) (va_Qi (fun (r : Int32) (_ : Unit) => r = 0) (fun _ t => va_P (dC, dI) vwCl [(h0, .inr (8, [v0, v1, v2, v3, v4, v5, .int 0, v7, v8, v9, v10, v11, v12, v13, v14, v15, v16, v17, v18, v19, v20, v21, v22]))] t.heap ∧ va_D (va_A [(h0, .inr (8, [v0, v1, v2, v3, v4, v5, .int x6, v7, v8, v9, v10, v11, v12, v13, v14, v15, v16, v17, v18, v19, v20, v21, v22]))] sz) [(h0, .inr (8, [v0, v1, v2, v3, v4, v5, .int 0, v7, v8, v9, v10, v11, v12, v13, v14, v15, v16, v17, v18, v19, v20, v21, v22]))]) (va_A [(h0, .inr (8, [v0, v1, v2, v3, v4, v5, .int x6, v7, v8, v9, v10, v11, v12, v13, v14, v15, v16, v17, v18, v19, v20, v21, v22]))] sz)) 0 0 (va_A [(h0, .inr (8, [v0, v1, v2, v3, v4, v5, .int x6, v7, v8, v9, v10, v11, v12, v13, v14, v15, v16, v17, v18, v19, v20, v21, v22]))] sz) := by
  refine Met.ofW (cc := cX8_isThrown) (maxL := 3) (ret := (some .boolean)) (by decide) rfl ?_
  intro p e s m args below meth c s₁ B hml hv
  obtain ⟨rfl, hsz, hP, hK, hD0, hE⟩ := hv
  have hx := B.exec
  have hb := B.bytes
  have hr := B.returns
  have hts0 := atoms_spec (ws := (wsg yX8_isThrown cX8_isThrown 3 (some .boolean))) B.pre
  have hts : ∀ w ∈ wsL_law, w.before _ s = true := fun w h => hts0 w (List.mem_cons_of_mem _ h)
  have hown : s.vm.findClass RX8 = some m.cls := findClass_of_methodNamed B.named
  have hlocks := B.notSynchronized
  subst hsz
  have hD := hD0.self (sz := s.heap.size)
  generalize hAe : va_A [(h0, .inr (8, [v0, v1, v2, v3, v4, v5, .int x6, v7, v8, v9, v10, v11, v12, v13, v14, v15, v16, v17, v18, v19, v20, v21, v22]))] s.heap.size = A at hD hE ⊢
  have hA : ∀ q : Nat, s.heap.size ≤ q → A q := fun q h => by rw [← hAe]; exact Or.inr h
  have hS : va_S A s.heap s.heap [] := va_S.rf
  have hP : va_P (dC, dI) vwCl [(h0, .inr (8, [v0, v1, v2, v3, v4, v5, .int x6, v7, v8, v9, v10, v11, v12, v13, v14, v15, v16, v17, v18, v19, v20, v21, v22]))] s.heap := hP
  have hl := lv_entry ([.ref h0, .int 1, .int n]) (n := 3) (Nat.le_of_ble_eq_true rfl)
  rw [lg_entry_eq]
  generalize (lg_sl ([.ref h0, .int 1, .int n]) ++ List.replicate (3 - (lg_sl ([.ref h0, .int 1, .int n])).length) Slot.unset).toArray = ls at hl ⊢
  have hl : lv_has ls 3 [(0, .ref h0), (1, .int 1), (2, .int n)] := hl
  generalize hHe : s.heap = H at hP hS ⊢
  have hS : va_S A s.heap H [] := by rw [hHe]; exact hS
  refine lv_aload_n hx hb dX8_isThrown_0 rfl (lv_at hl 0 rfl) ?_
  refine lv_iload_n hx hb dX8_isThrown_1 rfl (lv_at hl 1 rfl) ?_
  refine lv_if_eq (tgt := 9) hx hb dX8_isThrown_2 (by decide) (fun h => absurd h (by decide)) (fun _ => ?_)
  refine lv_iconst (v := 0) hx hb dX8_isThrown_5 (by decide) ?_
  refine lv_goto (tgt := 10) hx hb dX8_isThrown_6 (by decide) ?_
  refine va_put (D := (dC, dI)) (ci := 8) (v := .int 0) (ty := .int) (C := RX8) (T := TX8) (N := 23) hx hb hts inlX8 tyX8 tyX8_ok nmX8 hown hK hP hD hS 0 rfl rfl 6 (by decide) (hts _ mw_127) (fun _ h9 => h9) rfl (by decide +kernel) rfl rfl (Nat.le_of_ble_eq_true rfl) dX8_isThrown_10 (fun H locs hP hD hS => ?_)
  have hP : va_P (dC, dI) vwCl [(h0, .inr (8, [v0, v1, v2, v3, v4, v5, .int 0, v7, v8, v9, v10, v11, v12, v13, v14, v15, v16, v17, v18, v19, v20, v21, v22]))] H := hP
  have hD : va_D A [(h0, .inr (8, [v0, v1, v2, v3, v4, v5, .int 0, v7, v8, v9, v10, v11, v12, v13, v14, v15, v16, v17, v18, v19, v20, v21, v22]))] := hD
  refine lv_iload_n hx hb dX8_isThrown_13 rfl (lv_at hl 1 rfl) ?_
  refine lv_if_ne (tgt := 21) hx hb dX8_isThrown_14 (by decide) (fun _ => ?_) (fun h => absurd h (by decide))
  refine lv_iconst (v := 0) hx hb dX8_isThrown_21 (by decide) ?_
  have hP9 := hP.sub (ws' := [(h0, .inr (8, [v0, v1, v2, v3, v4, v5, .int 0, v7, v8, v9, v10, v11, v12, v13, v14, v15, v16, v17, v18, v19, v20, v21, v22]))]) [0] rfl
  have hD9 := hD.sub (ws' := [(h0, .inr (8, [v0, v1, v2, v3, v4, v5, .int 0, v7, v8, v9, v10, v11, v12, v13, v14, v15, v16, v17, v18, v19, v20, v21, v22]))]) [0] (by decide) rfl
  refine W.widen (k := 0) (n := 0) (by omega) (by omega) ?_
  exact W.zret (v := 0) hx hb hr (by rfl) (fun t ht hW => ⟨⟨0, (), rfl, rfl, by rw [ht]; exact hP9, hD9⟩, hS.F ht⟩) hS.2.2 dX8_isThrown_22
set_option maxHeartbeats 4000000 in
set_option maxRecDepth 100000 in
/-- isThrown(0, n) -/
theorem c_X8_isThrown_0 (l : Launch) (dC : Nat → ClassId) (dI : Nat → Nat → Nat) (cy : Nat → ClassId) (nb : Nat → Nat) (h0 : Nat) (v0 : Value) (v1 : Value) (v2 : Value) (v3 : Value) (v4 : Value) (v5 : Value) (v7 : Value) (v8 : Value) (v9 : Value) (v10 : Value) (v11 : Value) (v12 : Value) (v13 : Value) (v14 : Value) (v15 : Value) (v16 : Value) (v17 : Value) (v18 : Value) (v19 : Value) (v20 : Value) (v21 : Value) (v22 : Value) (x6 : Int32) (n : Int32) (sz : Nat) : Met l yX8_isThrown (wsg yX8_isThrown cX8_isThrown 3 (some .boolean)) ({ frames := 7, cells := 0, slots := 0, locals := 200 }) (va_Pc [.ref h0, .int 0, .int n] (fun U => U.heap.size = sz ∧ va_P (dC, dI) vwCl [(h0, .inr (8, [v0, v1, v2, v3, v4, v5, .int x6, v7, v8, v9, v10, v11, v12, v13, v14, v15, v16, v17, v18, v19, v20, v21, v22]))] U.heap ∧ va_K (dC, dI) vwCl (tyL cy) U ∧ va_D (fun _ => True) [(h0, .inr (8, [v0, v1, v2, v3, v4, v5, .int x6, v7, v8, v9, v10, v11, v12, v13, v14, v15, v16, v17, v18, v19, v20, v21, v22]))] ∧ GE nb (va_A [(h0, .inr (8, [v0, v1, v2, v3, v4, v5, .int x6, v7, v8, v9, v10, v11, v12, v13, v14, v15, v16, v17, v18, v19, v20, v21, v22]))] sz) U)) (va_Qi (fun (r : Int32) (_ : Unit) => r = 1) (fun _ t => va_P (dC, dI) vwCl [(h0, .inr (8, [v0, v1, v2, v3, v4, v5, .int n, v7, v8, v9, v10, v11, v12, v13, v14, v15, v16, v17, v18, v19, v20, v21, v22]))] t.heap ∧ va_D (va_A [(h0, .inr (8, [v0, v1, v2, v3, v4, v5, .int x6, v7, v8, v9, v10, v11, v12, v13, v14, v15, v16, v17, v18, v19, v20, v21, v22]))] sz) [(h0, .inr (8, [v0, v1, v2, v3, v4, v5, .int n, v7, v8, v9, v10, v11, v12, v13, v14, v15, v16, v17, v18, v19, v20, v21, v22]))]) (va_A [(h0, .inr (8, [v0, v1, v2, v3, v4, v5, .int x6, v7, v8, v9, v10, v11, v12, v13, v14, v15, v16, v17, v18, v19, v20, v21, v22]))] sz)) 0 0 (va_A [(h0, .inr (8, [v0, v1, v2, v3, v4, v5, .int x6, v7, v8, v9, v10, v11, v12, v13, v14, v15, v16, v17, v18, v19, v20, v21, v22]))] sz) := by
  refine Met.ofW (cc := cX8_isThrown) (maxL := 3) (ret := (some .boolean)) (by decide) rfl ?_
  intro p e s m args below meth c s₁ B hml hv
  obtain ⟨rfl, hsz, hP, hK, hD0, hE⟩ := hv
  have hx := B.exec
  have hb := B.bytes
  have hr := B.returns
  have hts0 := atoms_spec (ws := (wsg yX8_isThrown cX8_isThrown 3 (some .boolean))) B.pre
  have hts : ∀ w ∈ wsL_law, w.before _ s = true := fun w h => hts0 w (List.mem_cons_of_mem _ h)
  have hown : s.vm.findClass RX8 = some m.cls := findClass_of_methodNamed B.named
  have hlocks := B.notSynchronized
  subst hsz
  have hD := hD0.self (sz := s.heap.size)
  generalize hAe : va_A [(h0, .inr (8, [v0, v1, v2, v3, v4, v5, .int x6, v7, v8, v9, v10, v11, v12, v13, v14, v15, v16, v17, v18, v19, v20, v21, v22]))] s.heap.size = A at hD hE ⊢
  have hA : ∀ q : Nat, s.heap.size ≤ q → A q := fun q h => by rw [← hAe]; exact Or.inr h
  have hS : va_S A s.heap s.heap [] := va_S.rf
  have hP : va_P (dC, dI) vwCl [(h0, .inr (8, [v0, v1, v2, v3, v4, v5, .int x6, v7, v8, v9, v10, v11, v12, v13, v14, v15, v16, v17, v18, v19, v20, v21, v22]))] s.heap := hP
  have hl := lv_entry ([.ref h0, .int 0, .int n]) (n := 3) (Nat.le_of_ble_eq_true rfl)
  rw [lg_entry_eq]
  generalize (lg_sl ([.ref h0, .int 0, .int n]) ++ List.replicate (3 - (lg_sl ([.ref h0, .int 0, .int n])).length) Slot.unset).toArray = ls at hl ⊢
  have hl : lv_has ls 3 [(0, .ref h0), (1, .int 0), (2, .int n)] := hl
  generalize hHe : s.heap = H at hP hS ⊢
  have hS : va_S A s.heap H [] := by rw [hHe]; exact hS
  refine lv_aload_n hx hb dX8_isThrown_0 rfl (lv_at hl 0 rfl) ?_
  refine lv_iload_n hx hb dX8_isThrown_1 rfl (lv_at hl 1 rfl) ?_
  refine lv_if_eq (tgt := 9) hx hb dX8_isThrown_2 (by decide) (fun _ => ?_) (fun h => absurd (by decide) h)
  refine lv_iload_n hx hb dX8_isThrown_9 rfl (lv_at hl 2 rfl) ?_
  refine va_put (D := (dC, dI)) (ci := 8) (v := .int n) (ty := .int) (C := RX8) (T := TX8) (N := 23) hx hb hts inlX8 tyX8 tyX8_ok nmX8 hown hK hP hD hS 0 rfl rfl 6 (by decide) (hts _ mw_127) (fun _ h9 => h9) rfl (by decide +kernel) rfl rfl (Nat.le_of_ble_eq_true rfl) dX8_isThrown_10 (fun H locs hP hD hS => ?_)
  have hP : va_P (dC, dI) vwCl [(h0, .inr (8, [v0, v1, v2, v3, v4, v5, .int n, v7, v8, v9, v10, v11, v12, v13, v14, v15, v16, v17, v18, v19, v20, v21, v22]))] H := hP
  have hD : va_D A [(h0, .inr (8, [v0, v1, v2, v3, v4, v5, .int n, v7, v8, v9, v10, v11, v12, v13, v14, v15, v16, v17, v18, v19, v20, v21, v22]))] := hD
  refine lv_iload_n hx hb dX8_isThrown_13 rfl (lv_at hl 1 rfl) ?_
  refine lv_if_ne (tgt := 21) hx hb dX8_isThrown_14 (by decide) (fun h => absurd h (by decide)) (fun _ => ?_)
  refine lv_iconst (v := 1) hx hb dX8_isThrown_17 (by decide) ?_
  refine lv_goto (tgt := 22) hx hb dX8_isThrown_18 (by decide) ?_
  have hP9 := hP.sub (ws' := [(h0, .inr (8, [v0, v1, v2, v3, v4, v5, .int n, v7, v8, v9, v10, v11, v12, v13, v14, v15, v16, v17, v18, v19, v20, v21, v22]))]) [0] rfl
  have hD9 := hD.sub (ws' := [(h0, .inr (8, [v0, v1, v2, v3, v4, v5, .int n, v7, v8, v9, v10, v11, v12, v13, v14, v15, v16, v17, v18, v19, v20, v21, v22]))]) [0] (by decide) rfl
  refine W.widen (k := 0) (n := 0) (by omega) (by omega) ?_
  exact W.zret (v := 1) hx hb hr (by rfl) (fun t ht hW => ⟨⟨1, (), rfl, rfl, by rw [ht]; exact hP9, hD9⟩, hS.F ht⟩) hS.2.2 dX8_isThrown_22
set_option maxHeartbeats 4000000 in
set_option maxRecDepth 100000 in
/-- thrown() -/
theorem c_X8_thrown (l : Launch) (dC : Nat → ClassId) (dI : Nat → Nat → Nat) (cy : Nat → ClassId) (nb : Nat → Nat) (h0 : Nat) (v0 : Value) (v1 : Value) (v2 : Value) (v3 : Value) (v4 : Value) (v5 : Value) (v7 : Value) (v8 : Value) (v9 : Value) (v10 : Value) (v11 : Value) (v12 : Value) (v13 : Value) (v14 : Value) (v15 : Value) (v16 : Value) (v17 : Value) (v18 : Value) (v19 : Value) (v20 : Value) (v21 : Value) (v22 : Value) (x6 : Int32) (sz : Nat) : Met l yX8_thrown (wsg yX8_thrown cX8_thrown 1 (some .int)) ({ frames := 7, cells := 0, slots := 0, locals := 200 }) (va_Pc [.ref h0] (fun U => U.heap.size = sz ∧ va_P (dC, dI) vwCl [(h0, .inr (8, [v0, v1, v2, v3, v4, v5, .int x6, v7, v8, v9, v10, v11, v12, v13, v14, v15, v16, v17, v18, v19, v20, v21, v22]))] U.heap ∧ va_K (dC, dI) vwCl (tyL cy) U ∧ va_D (fun _ => True) [(h0, .inr (8, [v0, v1, v2, v3, v4, v5, .int x6, v7, v8, v9, v10, v11, v12, v13, v14, v15, v16, v17, v18, v19, v20, v21, v22]))] ∧ GE nb (va_A [(h0, .inr (8, [v0, v1, v2, v3, v4, v5, .int x6, v7, v8, v9, v10, v11, v12, v13, v14, v15, v16, v17, v18, v19, v20, v21, v22]))] sz) U)) (va_Qi (fun (r : Int32) (_ : Unit) => r = x6) (fun _ t => va_P (dC, dI) vwCl [(h0, .inr (8, [v0, v1, v2, v3, v4, v5, .int x6, v7, v8, v9, v10, v11, v12, v13, v14, v15, v16, v17, v18, v19, v20, v21, v22]))] t.heap ∧ va_D (va_A [(h0, .inr (8, [v0, v1, v2, v3, v4, v5, .int x6, v7, v8, v9, v10, v11, v12, v13, v14, v15, v16, v17, v18, v19, v20, v21, v22]))] sz) [(h0, .inr (8, [v0, v1, v2, v3, v4, v5, .int x6, v7, v8, v9, v10, v11, v12, v13, v14, v15, v16, v17, v18, v19, v20, v21, v22]))]) (va_A [(h0, .inr (8, [v0, v1, v2, v3, v4, v5, .int x6, v7, v8, v9, v10, v11, v12, v13, v14, v15, v16, v17, v18, v19, v20, v21, v22]))] sz)) 0 0 (va_A [(h0, .inr (8, [v0, v1, v2, v3, v4, v5, .int x6, v7, v8, v9, v10, v11, v12, v13, v14, v15, v16, v17, v18, v19, v20, v21, v22]))] sz) := by
  refine Met.ofW (cc := cX8_thrown) (maxL := 1) (ret := (some .int)) (by decide) rfl ?_
  intro p e s m args below meth c s₁ B hml hv
  obtain ⟨rfl, hsz, hP, hK, hD0, hE⟩ := hv
  have hx := B.exec
  have hb := B.bytes
  have hr := B.returns
  have hts0 := atoms_spec (ws := (wsg yX8_thrown cX8_thrown 1 (some .int))) B.pre
  have hts : ∀ w ∈ wsL_law, w.before _ s = true := fun w h => hts0 w (List.mem_cons_of_mem _ h)
  have hown : s.vm.findClass RX8 = some m.cls := findClass_of_methodNamed B.named
  have hlocks := B.notSynchronized
  subst hsz
  have hD := hD0.self (sz := s.heap.size)
  generalize hAe : va_A [(h0, .inr (8, [v0, v1, v2, v3, v4, v5, .int x6, v7, v8, v9, v10, v11, v12, v13, v14, v15, v16, v17, v18, v19, v20, v21, v22]))] s.heap.size = A at hD hE ⊢
  have hA : ∀ q : Nat, s.heap.size ≤ q → A q := fun q h => by rw [← hAe]; exact Or.inr h
  have hS : va_S A s.heap s.heap [] := va_S.rf
  have hP : va_P (dC, dI) vwCl [(h0, .inr (8, [v0, v1, v2, v3, v4, v5, .int x6, v7, v8, v9, v10, v11, v12, v13, v14, v15, v16, v17, v18, v19, v20, v21, v22]))] s.heap := hP
  have hl := lv_entry ([.ref h0]) (n := 1) (Nat.le_of_ble_eq_true rfl)
  rw [lg_entry_eq]
  generalize (lg_sl ([.ref h0]) ++ List.replicate (1 - (lg_sl ([.ref h0])).length) Slot.unset).toArray = ls at hl ⊢
  have hl : lv_has ls 1 [(0, .ref h0)] := hl
  generalize hHe : s.heap = H at hP hS ⊢
  have hS : va_S A s.heap H [] := by rw [hHe]; exact hS
  refine lv_aload_n hx hb dX8_thrown_0 rfl (lv_at hl 0 rfl) ?_
  refine va_get (D := (dC, dI)) (ci := 8) (v := .int x6) (C := RX8) (T := TX8) (N := 23) hx hb hts inlX8 hown hK hP 0 rfl rfl 6 (by decide) (hts _ mw_127) (fun _ h9 => h9) rfl dX8_thrown_1 ?_
  have hP9 := hP.sub (ws' := [(h0, .inr (8, [v0, v1, v2, v3, v4, v5, .int x6, v7, v8, v9, v10, v11, v12, v13, v14, v15, v16, v17, v18, v19, v20, v21, v22]))]) [0] rfl
  have hD9 := hD.sub (ws' := [(h0, .inr (8, [v0, v1, v2, v3, v4, v5, .int x6, v7, v8, v9, v10, v11, v12, v13, v14, v15, v16, v17, v18, v19, v20, v21, v22]))]) [0] (by decide) rfl
  refine W.widen (k := 0) (n := 0) (by omega) (by omega) ?_
  exact W.iret (v := x6) hx hb hr (fun t ht hW => ⟨⟨x6, (), rfl, rfl, by rw [ht]; exact hP9, hD9⟩, hS.F ht⟩) hS.2.2 dX8_thrown_4
set_option maxHeartbeats 4000000 in
set_option maxRecDepth 100000 in
/-- begins(): zeros, then 480, 1, 1 -/
theorem c_X8_begins (l : Launch) (dC : Nat → ClassId) (dI : Nat → Nat → Nat) (cy : Nat → ClassId) (nb : Nat → Nat) (h0 : Nat) (h1 : Nat) (v1 : Value) (v2 : Value) (v3 : Value) (v4 : Value) (v5 : Value) (v6 : Value) (v7 : Value) (v8 : Value) (v9 : Value) (v10 : Value) (v11 : Value) (v12 : Value) (v13 : Value) (v14 : Value) (v15 : Value) (v16 : Value) (v17 : Value) (v18 : Value) (v19 : Value) (v20 : Value) (v21 : Value) (v22 : Value) (f : Nat → Int32) (sz : Nat) : Met l yX8_begins (wsg yX8_begins cX8_begins 2 none) ({ frames := 7, cells := 0, slots := 0, locals := 200 }) (va_Pc [.ref h0] (fun U => U.heap.size = sz ∧ va_P (dC, dI) vwCl [(h0, .inr (8, [.ref h1, v1, v2, v3, v4, v5, v6, v7, v8, v9, v10, v11, v12, v13, v14, v15, v16, v17, v18, v19, v20, v21, v22])), (h1, .inl (cy 1, 1037, .inl f))] U.heap ∧ va_K (dC, dI) vwCl (tyL cy) U ∧ va_D (fun _ => True) [(h0, .inr (8, [.ref h1, v1, v2, v3, v4, v5, v6, v7, v8, v9, v10, v11, v12, v13, v14, v15, v16, v17, v18, v19, v20, v21, v22])), (h1, .inl (cy 1, 1037, .inl f))] ∧ GE nb (va_A [(h0, .inr (8, [.ref h1, v1, v2, v3, v4, v5, v6, v7, v8, v9, v10, v11, v12, v13, v14, v15, v16, v17, v18, v19, v20, v21, v22])), (h1, .inl (cy 1, 1037, .inl f))] sz) U)) (va_Qv (fun (_ : Unit) => True) (fun _ t => ∃ g : Nat → Int32, FN g ∧ va_P (dC, dI) vwCl [(h0, .inr (8, [.ref h1, v1, v2, v3, v4, v5, v6, v7, v8, v9, v10, v11, v12, v13, v14, v15, v16, v17, v18, v19, v20, v21, v22])), (h1, .inl (cy 1, 1037, .inl g))] t.heap ∧ va_D (va_A [(h0, .inr (8, [.ref h1, v1, v2, v3, v4, v5, v6, v7, v8, v9, v10, v11, v12, v13, v14, v15, v16, v17, v18, v19, v20, v21, v22])), (h1, .inl (cy 1, 1037, .inl f))] sz) [(h0, .inr (8, [.ref h1, v1, v2, v3, v4, v5, v6, v7, v8, v9, v10, v11, v12, v13, v14, v15, v16, v17, v18, v19, v20, v21, v22])), (h1, .inl (cy 1, 1037, .inl g))]) (va_A [(h0, .inr (8, [.ref h1, v1, v2, v3, v4, v5, v6, v7, v8, v9, v10, v11, v12, v13, v14, v15, v16, v17, v18, v19, v20, v21, v22])), (h1, .inl (cy 1, 1037, .inl f))] sz)) 0 0 (va_A [(h0, .inr (8, [.ref h1, v1, v2, v3, v4, v5, v6, v7, v8, v9, v10, v11, v12, v13, v14, v15, v16, v17, v18, v19, v20, v21, v22])), (h1, .inl (cy 1, 1037, .inl f))] sz) := by
  refine Met.ofW (cc := cX8_begins) (maxL := 2) (ret := none) (by decide) rfl ?_
  intro p e s m args below meth c s₁ B hml hv
  obtain ⟨rfl, hsz, hP, hK, hD0, hE⟩ := hv
  have hx := B.exec
  have hb := B.bytes
  have hr := B.returns
  have hts0 := atoms_spec (ws := (wsg yX8_begins cX8_begins 2 none)) B.pre
  have hts : ∀ w ∈ wsL_law, w.before _ s = true := fun w h => hts0 w (List.mem_cons_of_mem _ h)
  have hown : s.vm.findClass RX8 = some m.cls := findClass_of_methodNamed B.named
  have hlocks := B.notSynchronized
  subst hsz
  have hD := hD0.self (sz := s.heap.size)
  generalize hAe : va_A [(h0, .inr (8, [.ref h1, v1, v2, v3, v4, v5, v6, v7, v8, v9, v10, v11, v12, v13, v14, v15, v16, v17, v18, v19, v20, v21, v22])), (h1, .inl (cy 1, 1037, .inl f))] s.heap.size = A at hD hE ⊢
  have hA : ∀ q : Nat, s.heap.size ≤ q → A q := fun q h => by rw [← hAe]; exact Or.inr h
  have hS : va_S A s.heap s.heap [] := va_S.rf
  have hP : va_P (dC, dI) vwCl [(h0, .inr (8, [.ref h1, v1, v2, v3, v4, v5, v6, v7, v8, v9, v10, v11, v12, v13, v14, v15, v16, v17, v18, v19, v20, v21, v22])), (h1, .inl (cy 1, 1037, .inl f))] s.heap := hP
  have hl := lv_entry ([.ref h0]) (n := 2) (Nat.le_of_ble_eq_true rfl)
  rw [lg_entry_eq]
  generalize (lg_sl ([.ref h0]) ++ List.replicate (2 - (lg_sl ([.ref h0])).length) Slot.unset).toArray = ls at hl ⊢
  have hl : lv_has ls 2 [(0, .ref h0)] := hl
  generalize hHe : s.heap = H at hP hS ⊢
  have hS : va_S A s.heap H [] := by rw [hHe]; exact hS
  refine my_Q (fun Qn hQ => ?_)
  refine lv_iconst (v := 0) hx hb dX8_begins_0 (by decide) ?_
  refine lv_istore_n (lv' := [(1, .int 0), (0, .ref h0)]) hx hb dX8_begins_1 rfl hl (by decide) rfl (fun ls hl => ?_)
  have loop1 : ∀ (n k : Nat) (g : Nat → Int32) (H : Heap) (locs : List Loc) (ls : Array Slot), n + k = 1037 → (∀ j : Nat, j < k → g j = 0) → va_P (dC, dI) vwCl [(h0, .inr (8, [.ref h1, v1, v2, v3, v4, v5, v6, v7, v8, v9, v10, v11, v12, v13, v14, v15, v16, v17, v18, v19, v20, v21, v22])), (h1, .inl (cy 1, 1037, .inl g))] H → va_D A [(h0, .inr (8, [.ref h1, v1, v2, v3, v4, v5, v6, v7, v8, v9, v10, v11, v12, v13, v14, v15, v16, v17, v18, v19, v20, v21, v22])), (h1, .inl (cy 1, 1037, .inl g))] → va_S A s.heap H locs → lv_has ls 2 [(1, .int (nI k)), (0, .ref h0)] → W p l e (headSpec (wsg yX8_begins cX8_begins 2 none) ({ frames := 7, cells := 0, slots := 0, locals := 200 })).room s m ([.ref h0] : List Value).toArray below meth c H locs 0 0 Qn (F0 m 2 ls []) := by
    intro n
    induction n with
    | zero =>
      intro k g H locs ls hnk hg hP hD hS hl
      obtain rfl : k = 1037 := by omega
      refine lv_iload_n hx hb dX8_begins_2 rfl (lv_at hl 0 rfl) ?_
      refine lv_sipush (v := 1037) hx hb dX8_begins_3 (by decide) ?_
      refine lv_icmp_ge (tgt := 22) hx hb dX8_begins_6 (by decide) (fun _ => ?_) (fun h => absurd (by decide) h)
      refine lv_aload_n hx hb dX8_begins_22 rfl (lv_at hl 1 rfl) ?_
      refine va_get (D := (dC, dI)) (ci := 8) (v := .ref h1) (C := RX8) (T := TX8) (N := 23) hx hb hts inlX8 hown hK hP 0 rfl rfl 0 (by decide) (hts _ mw_97) (fun _ h9 => h9) rfl dX8_begins_23 ?_
      refine lv_iconst (v := 0) hx hb dX8_begins_26 (by decide) ?_
      refine lv_sipush (v := 480) hx hb dX8_begins_27 (by decide) ?_
      refine va_iast hx hb hK hP hD hS 1 1 rfl rfl (vp_in_nI (n := 0) (by decide) (by decide)) dX8_begins_30 (fun H locs hP hD hS => ?_)
      have hP : va_P (dC, dI) vwCl [(h0, .inr (8, [.ref h1, v1, v2, v3, v4, v5, v6, v7, v8, v9, v10, v11, v12, v13, v14, v15, v16, v17, v18, v19, v20, v21, v22])), (h1, .inl (cy 1, 1037, .inl (upd g ((0 : Int32).toNatClampNeg) 480)))] H := hP
      have hD : va_D A [(h0, .inr (8, [.ref h1, v1, v2, v3, v4, v5, v6, v7, v8, v9, v10, v11, v12, v13, v14, v15, v16, v17, v18, v19, v20, v21, v22])), (h1, .inl (cy 1, 1037, .inl (upd g ((0 : Int32).toNatClampNeg) 480)))] := hD
      refine lv_aload_n hx hb dX8_begins_31 rfl (lv_at hl 1 rfl) ?_
      refine va_get (D := (dC, dI)) (ci := 8) (v := .ref h1) (C := RX8) (T := TX8) (N := 23) hx hb hts inlX8 hown hK hP 0 rfl rfl 0 (by decide) (hts _ mw_97) (fun _ h9 => h9) rfl dX8_begins_32 ?_
      refine lv_iconst (v := 1) hx hb dX8_begins_35 (by decide) ?_
      refine lv_iconst (v := 1) hx hb dX8_begins_36 (by decide) ?_
      refine va_iast hx hb hK hP hD hS 1 1 rfl rfl (vp_in_nI (n := 1) (by decide) (by decide)) dX8_begins_37 (fun H locs hP hD hS => ?_)
      have hP : va_P (dC, dI) vwCl [(h0, .inr (8, [.ref h1, v1, v2, v3, v4, v5, v6, v7, v8, v9, v10, v11, v12, v13, v14, v15, v16, v17, v18, v19, v20, v21, v22])), (h1, .inl (cy 1, 1037, .inl (upd (upd g ((0 : Int32).toNatClampNeg) 480) ((1 : Int32).toNatClampNeg) 1)))] H := hP
      have hD : va_D A [(h0, .inr (8, [.ref h1, v1, v2, v3, v4, v5, v6, v7, v8, v9, v10, v11, v12, v13, v14, v15, v16, v17, v18, v19, v20, v21, v22])), (h1, .inl (cy 1, 1037, .inl (upd (upd g ((0 : Int32).toNatClampNeg) 480) ((1 : Int32).toNatClampNeg) 1)))] := hD
      refine lv_aload_n hx hb dX8_begins_38 rfl (lv_at hl 1 rfl) ?_
      refine va_get (D := (dC, dI)) (ci := 8) (v := .ref h1) (C := RX8) (T := TX8) (N := 23) hx hb hts inlX8 hown hK hP 0 rfl rfl 0 (by decide) (hts _ mw_97) (fun _ h9 => h9) rfl dX8_begins_39 ?_
      refine lv_iconst (v := 2) hx hb dX8_begins_42 (by decide) ?_
      refine lv_iconst (v := 1) hx hb dX8_begins_43 (by decide) ?_
      refine va_iast hx hb hK hP hD hS 1 1 rfl rfl (vp_in_nI (n := 2) (by decide) (by decide)) dX8_begins_44 (fun H locs hP hD hS => ?_)
      have hP : va_P (dC, dI) vwCl [(h0, .inr (8, [.ref h1, v1, v2, v3, v4, v5, v6, v7, v8, v9, v10, v11, v12, v13, v14, v15, v16, v17, v18, v19, v20, v21, v22])), (h1, .inl (cy 1, 1037, .inl (upd (upd (upd g ((0 : Int32).toNatClampNeg) 480) ((1 : Int32).toNatClampNeg) 1) ((2 : Int32).toNatClampNeg) 1)))] H := hP
      have hD : va_D A [(h0, .inr (8, [.ref h1, v1, v2, v3, v4, v5, v6, v7, v8, v9, v10, v11, v12, v13, v14, v15, v16, v17, v18, v19, v20, v21, v22])), (h1, .inl (cy 1, 1037, .inl (upd (upd (upd g ((0 : Int32).toNatClampNeg) 480) ((1 : Int32).toNatClampNeg) 1) ((2 : Int32).toNatClampNeg) 1)))] := hD
      rw [hQ]
      refine W.widen (k := 0) (n := 0) (by omega) (by omega) ?_
      exact W.vret hx hb hr (fun t ht hW => ⟨⟨(), rfl, trivial, _, FN_of hg, by rw [ht]; exact hP, hD⟩, hS.F ht⟩) hS.2.2 dX8_begins_45
    | succ n ih =>
      intro k g H locs ls hnk hg hP hD hS hl
      have hk : k < 1037 := by omega
      refine lv_iload_n hx hb dX8_begins_2 rfl (lv_at hl 0 rfl) ?_
      refine lv_sipush (v := 1037) hx hb dX8_begins_3 (by decide) ?_
      refine lv_icmp_ge (tgt := 22) hx hb dX8_begins_6 (by decide) (fun c_6_2 => by exact absurd c_6_2 (my_ge hk (by decide) rfl)) (fun c_6_2 => ?_)
      refine lv_aload_n hx hb dX8_begins_9 rfl (lv_at hl 1 rfl) ?_
      refine va_get (D := (dC, dI)) (ci := 8) (v := .ref h1) (C := RX8) (T := TX8) (N := 23) hx hb hts inlX8 hown hK hP 0 rfl rfl 0 (by decide) (hts _ mw_97) (fun _ h9 => h9) rfl dX8_begins_10 ?_
      refine lv_iload_n hx hb dX8_begins_13 rfl (lv_at hl 0 rfl) ?_
      refine lv_iconst (v := 0) hx hb dX8_begins_14 (by decide) ?_
      refine va_iast hx hb hK hP hD hS 1 1 rfl rfl (vp_in_nI hk (by decide)) dX8_begins_15 (fun H locs hP hD hS => ?_)
      have hP : va_P (dC, dI) vwCl [(h0, .inr (8, [.ref h1, v1, v2, v3, v4, v5, v6, v7, v8, v9, v10, v11, v12, v13, v14, v15, v16, v17, v18, v19, v20, v21, v22])), (h1, .inl (cy 1, 1037, .inl (upd g (((nI k) : Int32).toNatClampNeg) 0)))] H := hP
      have hD : va_D A [(h0, .inr (8, [.ref h1, v1, v2, v3, v4, v5, v6, v7, v8, v9, v10, v11, v12, v13, v14, v15, v16, v17, v18, v19, v20, v21, v22])), (h1, .inl (cy 1, 1037, .inl (upd g (((nI k) : Int32).toNatClampNeg) 0)))] := hD
      refine lv_iinc (v := nI (k + 1)) (lv' := [(1, .int (nI (k + 1))), (0, .ref h0)]) hx hb dX8_begins_16 hl (k := 0) rfl (nI_1 k) (by decide) rfl (fun ls hl => ?_)
      refine lv_goto (tgt := 2) hx hb dX8_begins_19 (by decide) ?_
      exact ih (k + 1) _ _ _ _ (by omega) (fun j hj => up_all (by omega) hg hj) (hP.sub [0, 1] rfl) (hD.sub [0, 1] (by decide) rfl) hS (lv_sub hl [0, 1] rfl)
  exact loop1 1037 0 f _ _ _ (by omega) (fun j hj => absurd hj (by omega)) (hP.sub [0, 1] rfl) (hD.sub [0, 1] (by decide) rfl) hS (lv_sub hl [0, 1] rfl)
