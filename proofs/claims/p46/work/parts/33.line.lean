theorem my_lastP {D : va_G} {cl : List vw_C} {X : va_W} {c : Nat × va_E} {H : Heap} (h : va_P D cl (X ++ [c]) H) : va_P D cl [c] H := fun k q hq => by
  have : q = c := by
    have := List.mem_of_getElem? hq
    rw [List.mem_singleton] at this
    exact this
  subst this
  exact h X.length q (by simp)
theorem my_lastD {A : Nat → Prop} {X : va_W} {c : Nat × va_E} (h : va_D A (X ++ [c])) : va_D A [c] := by
  refine ⟨fun i j p q hp hq _ => ?_, fun k q hq => ?_⟩
  · have h1 := (List.getElem?_eq_some_iff.mp hp).1
    have h2 := (List.getElem?_eq_some_iff.mp hq).1
    simp only [List.length_singleton] at h1 h2
    omega
  · have : q = c := by
      have := List.mem_of_getElem? hq
      rw [List.mem_singleton] at this
      exact this
    subst this
    exact h.2 X.length q (by simp)
theorem my_join {A0 : Nat → Prop} {D : va_G} {cl : List vw_C} {X : va_W} {c : Nat × va_E} {w1 : va_W} {H H1 : Heap} (hP : va_P D cl (X ++ [c]) H) (hD : va_D A0 (X ++ [c])) (hk : ∀ q : Nat, q < H.size → ¬ va_A [c] H.size q → H1[q]? = H[q]?) (hF : ∀ q, va_A [c] H.size q → A0 q) (hP1 : va_P D cl w1 H1) (hD1 : va_D (va_A [c] H.size) w1) : va_P D cl (X ++ w1) H1 ∧ va_D A0 (X ++ w1) := by
  have inX : ∀ (k : Nat) (q : Nat × va_E), X[k]? = some q → (X ++ [c])[k]? = some q := fun k q h => by
    rw [List.getElem?_append_left (List.getElem?_eq_some_iff.mp h).1]; exact h
  have apart : ∀ (k : Nat) (q : Nat × va_E), X[k]? = some q → q.1 < H.size ∧ ¬ va_A [c] H.size q.1 := by
    intro k q hq
    have hl := (hP k q (inX k q hq)).lt
    refine ⟨hl, fun h => ?_⟩
    rcases h with ⟨k2, e, h⟩ | h
    · have hm := List.mem_of_getElem? h
      rw [List.mem_singleton] at hm
      have hkl := (List.getElem?_eq_some_iff.mp hq).1
      have := hD.1 k X.length q c (inX k q hq) (by simp) (by rw [← hm])
      omega
    · omega
  refine ⟨va_P.app (fun k q hq => ?_) hP1, va_D.app ⟨fun i j p q hi hj => hD.1 i j p q (inX i p hi) (inX j q hj), fun k q hq => hD.2 k q (inX k q hq)⟩ (hD1.weaken (fun k q _ h => hF q.1 h)) (fun i j x y hx hy hxy => ?_)⟩
  · obtain ⟨g1, g2⟩ := apart k q hq
    exact (hP k q (inX k q hq)).kept (hk q.1 g1 g2)
  · exact (apart i x hx).2 (by rw [hxy]; exact hD1.2 j y hy)
noncomputable abbrev LH (cy : Nat → ClassId) (h0 q1 q2 q3 q4 q5 q6 : Nat) (f1 f2 f3 : Nat → Option Nat) : va_W := [(h0, .inr (3, [.int 1, .int 0, .int 0, .int 0, .int 0, .int 0, .int 0, .int 0, .int 0, .int 0, .ref q1, .ref q2, .ref q3, .ref q4, .ref q5, .ref q6, .int 0])), (q1, .inl (cy 6, 6, .inr (.inr (.inr (.inr f1))))), (q2, .inl (cy 7, 6, .inr (.inr (.inr (.inr f2))))), (q3, .inl (cy 8, 30, .inr (.inr (.inr (.inr f3))))), (q4, .inl (cy 1, 5, .inl (fun _ => 0))), (q5, .inl (cy 1, 30, .inl (fun _ => 0))), (q6, .inl (cy 1, 5, .inl (fun _ => 0)))]
noncomputable def fN (n : Nat) (a : Nat → Nat) : Nat → Option Nat := fun j => if j < n then some (a j) else none
noncomputable abbrev stZ (nb : Nat → Nat) : va_E := .inr (6, [.int 0, .int 0, .ref (nb 0), .int 0, .int 0, .int 0, .int 0, .int 0, .int 0, .int 0, .int 0, .int 0, .int 0, .int 0, .int 0])
noncomputable abbrev cdZ (nb : Nat → Nat) : va_E := .inr (2, [.int 0, .int 0, .ref (nb 0), .int 0, .int 0, .int 0, .int 0, .int 0, .int 0])
noncomputable def SW (e : va_E) (n : Nat) (a : Nat → Nat) : va_W := (List.range n).map fun s => (a s, e)
noncomputable def LO4 (cy : Nat → ClassId) (b c d e : Nat) : va_W := [(b, .inr (4, [.int 0, .int 0, .ref c, .int 0, .int 0, .int 0, .int 0, .int 0, .int 0, .int 0, .ref d, .ref e])), (c, .inl (cy 1, 30, .inl (fun _ => 0))), (d, .inl (cy 1, 10, .inl (fun _ => 0))), (e, .inl (cy 1, 10, .inl (fun _ => 0)))]
noncomputable def LW (cy : Nat → ClassId) (n : Nat) (b c d e : Nat → Nat) : va_W := (List.range n).flatMap fun l => LO4 cy (b l) (c l) (d l) (e l)
noncomputable def u1 (a : Nat → Nat) (n q : Nat) : Nat → Nat := fun j => if j = n then q else a j
theorem fN_step {n q : Nat} {a : Nat → Nat} (h : n < 2 ^ 31) : va_up (fN n a) ((nI n).toNatClampNeg) (some q) = fN (n + 1) (u1 a n q) := by
  rw [nI_clamp h]
  funext j
  unfold va_up fN u1
  by_cases e : j = n
  · rw [if_pos e, if_pos (by omega), if_pos e]
  · rw [if_neg e, if_neg e]
    by_cases h2 : j < n
    · rw [if_pos h2, if_pos (by omega)]
    · rw [if_neg h2, if_neg (by omega)]
theorem fN_0 {a : Nat → Nat} : (fun _ => none) = fN 0 a := by funext j; exact (if_neg (by omega)).symm
theorem SW_step {x : va_E} {n q : Nat} {a : Nat → Nat} : SW x n a ++ [(q, x)] = SW x (n + 1) (u1 a n q) := by
  unfold SW
  rw [List.range_succ, List.map_append, List.map_singleton]
  congr 1
  · apply List.map_congr_left
    intro s hs
    have := List.mem_range.mp hs
    unfold u1
    rw [if_neg (by omega)]
  · unfold u1; rw [if_pos rfl]
theorem LW_step {cy : Nat → ClassId} {n q r1 r2 r3 : Nat} {b c d e : Nat → Nat} : LW cy n b c d e ++ LO4 cy q r1 r2 r3 = LW cy (n + 1) (u1 b n q) (u1 c n r1) (u1 d n r2) (u1 e n r3) := by
  unfold LW
  rw [List.range_succ, List.flatMap_append]
  congr 1
  · rw [List.flatMap_def, List.flatMap_def]
    congr 1
    apply List.map_congr_left
    intro s hs
    have := List.mem_range.mp hs
    unfold u1
    rw [if_neg (by omega), if_neg (by omega), if_neg (by omega), if_neg (by omega)]
  · simp only [List.flatMap_cons, List.flatMap_nil, List.append_nil, u1, if_pos]
set_option maxHeartbeats 4000000 in
set_option maxRecDepth 100000 in
theorem c_X1_init (l : Launch) (dC : Nat → ClassId) (dI : Nat → Nat → Nat) (cy : Nat → ClassId) (nb : Nat → Nat) (h0 : Nat) (sz : Nat) : Met l yX1_init (wsg yX1_init cX1_init 1 none) ({ frames := 7, cells := 0, slots := 0, locals := 200 }) (va_Pc [.ref h0] (fun U => U.heap.size = sz ∧ va_P (dC, dI) vwCl [(h0, .inr (2, [.int 0, .int 0, .null, .int 0, .int 0, .int 0, .int 0, .int 0, .int 0]))] U.heap ∧ va_K (dC, dI) vwCl (tyL cy) U ∧ va_D (fun _ => True) [(h0, .inr (2, [.int 0, .int 0, .null, .int 0, .int 0, .int 0, .int 0, .int 0, .int 0]))] ∧ GE nb (va_A [(h0, .inr (2, [.int 0, .int 0, .null, .int 0, .int 0, .int 0, .int 0, .int 0, .int 0]))] sz) U)) (va_Qv (fun (_ : Unit) => True) (fun _ t => va_P (dC, dI) vwCl [(h0, .inr (2, [.int 0, .int 0, .ref (nb 0), .int 0, .int 0, .int 0, .int 0, .int 0, .int 0]))] t.heap ∧ va_D (va_A [(h0, .inr (2, [.int 0, .int 0, .null, .int 0, .int 0, .int 0, .int 0, .int 0, .int 0]))] sz) [(h0, .inr (2, [.int 0, .int 0, .ref (nb 0), .int 0, .int 0, .int 0, .int 0, .int 0, .int 0]))]) (va_A [(h0, .inr (2, [.int 0, .int 0, .null, .int 0, .int 0, .int 0, .int 0, .int 0, .int 0]))] sz)) 0 0 (va_A [(h0, .inr (2, [.int 0, .int 0, .null, .int 0, .int 0, .int 0, .int 0, .int 0, .int 0]))] sz) := by
  refine Met.ofW (cc := cX1_init) (maxL := 1) (ret := none) pn_X1 rfl ?_
  intro p e s m args below meth c s₁ B hml hv
  obtain ⟨rfl, hsz, hP, hK, hD0, hE⟩ := hv
  have hx := B.exec
  have hb := B.bytes
  have hr := B.returns
  have hts0 := atoms_spec (ws := (wsg yX1_init cX1_init 1 none)) B.pre
  have hts : ∀ w ∈ wsL_law, w.before _ s = true := fun w h => hts0 w (List.mem_cons_of_mem _ h)
  have hown : s.vm.findClass RX1 = some m.cls := by have h9 := findClass_of_methodNamed B.named; exact h9
  have hlocks := B.notSynchronized
  have hin : meth.name = "<init>" := (name_of_methodNamed B.named B.method).1
  subst hsz
  have hD := hD0.self (sz := s.heap.size)
  generalize hAe : va_A [(h0, .inr (2, [.int 0, .int 0, .null, .int 0, .int 0, .int 0, .int 0, .int 0, .int 0]))] s.heap.size = A at hD hE ⊢
  have hA : ∀ q : Nat, s.heap.size ≤ q → A q := fun q h => by rw [← hAe]; exact Or.inr h
  have hS : va_S A s.heap s.heap [] := va_S.rf
  have hP : va_P (dC, dI) vwCl [(h0, .inr (2, [.int 0, .int 0, .null, .int 0, .int 0, .int 0, .int 0, .int 0, .int 0]))] s.heap := hP
  have hl := lv_entry ([.ref h0]) (n := 1) (Nat.le_of_ble_eq_true rfl)
  rw [lg_entry_eq]
  generalize (lg_sl ([.ref h0]) ++ List.replicate (1 - (lg_sl ([.ref h0])).length) Slot.unset).toArray = ls at hl ⊢
  have hl : lv_has ls 1 [(0, .ref h0)] := hl
  generalize hHe : s.heap = H at hP hS ⊢
  have hS : va_S A s.heap H [] := by rw [hHe]; exact hS
  refine lv_aload_n hx hb dX1_init_0 rfl (lv_at hl 0 rfl) ?_
  refine W.objInit hx hb hown (hts _ mw_67) (hts _ mw_13) (hts _ mw_14) rfl (by rw [hml]; exact hl.1) rfl dX1_init_1 (Nat.le_of_ble_eq_true rfl) (Nat.le_of_ble_eq_true rfl) ?_
  refine W.eq (g2 := F0 m 4 ls []) rfl ?_
  refine lv_aload_n hx hb dX1_init_4 rfl (lv_at hl 0 rfl) ?_
  refine va_getsN (C := RX7) (n := "NO_BYTES") (d := "[B") (ref := RX7) (v := .ref (nb 0)) hx hb hE.nb hS hown (va_Nw.use rfl hE.f1) (fun _ h9 => h9) dX1_init_5 ?_
  refine va_put (D := (dC, dI)) (ci := 2) (v := .ref (nb 0)) (ty := (.array .byte)) (C := RX1) (T := TX1) (N := 9) hx hb hts inlX1 tyX1 tyX1_ok nmX1 hown hK hP hD hS 0 rfl rfl 2 (by decide) (hts _ mw_68) (fun _ h9 => h9) rfl (by decide +kernel) rfl rfl (Nat.le_of_ble_eq_true rfl) dX1_init_8 (fun H locs hP hD hS => ?_)
  have hP : va_P (dC, dI) vwCl [(h0, .inr (2, [.int 0, .int 0, .ref (nb 0), .int 0, .int 0, .int 0, .int 0, .int 0, .int 0]))] H := hP
  have hD : va_D A [(h0, .inr (2, [.int 0, .int 0, .ref (nb 0), .int 0, .int 0, .int 0, .int 0, .int 0, .int 0]))] := hD
  have hP9 := hP.sub (ws' := [(h0, .inr (2, [.int 0, .int 0, .ref (nb 0), .int 0, .int 0, .int 0, .int 0, .int 0, .int 0]))]) [0] rfl
  have hD9 := hD.sub (ws' := [(h0, .inr (2, [.int 0, .int 0, .ref (nb 0), .int 0, .int 0, .int 0, .int 0, .int 0, .int 0]))]) [0] (by decide) rfl
  refine W.widen (k := 0) (n := 0) (by omega) (by omega) ?_
  exact W.vret hx hb hr (fun t ht hW => ⟨⟨(), rfl, trivial, by rw [ht]; exact hP9, hD9⟩, hS.F ht⟩) hS.2.2 dX1_init_11
set_option maxHeartbeats 4000000 in
set_option maxRecDepth 100000 in
theorem c_X4_init (l : Launch) (dC : Nat → ClassId) (dI : Nat → Nat → Nat) (cy : Nat → ClassId) (nb : Nat → Nat) (h0 : Nat) (sz : Nat) : Met l yX4_init (wsg yX4_init cX4_init 1 none) ({ frames := 7, cells := 3, slots := 50, locals := 200 }) (va_Pc [.ref h0] (fun U => U.heap.size = sz ∧ va_P (dC, dI) vwCl [(h0, .inr (4, [.int 0, .int 0, .null, .int 0, .int 0, .int 0, .int 0, .int 0, .int 0, .int 0, .null, .null]))] U.heap ∧ va_K (dC, dI) vwCl (tyL cy) U ∧ va_D (fun _ => True) [(h0, .inr (4, [.int 0, .int 0, .null, .int 0, .int 0, .int 0, .int 0, .int 0, .int 0, .int 0, .null, .null]))] ∧ GE nb (va_A [(h0, .inr (4, [.int 0, .int 0, .null, .int 0, .int 0, .int 0, .int 0, .int 0, .int 0, .int 0, .null, .null]))] sz) U)) (va_Qv (fun (_ : Unit) => True) (fun _ t => ∃ (q1 q2 q3 : Nat), va_P (dC, dI) vwCl [(h0, .inr (4, [.int 0, .int 0, .ref q1, .int 0, .int 0, .int 0, .int 0, .int 0, .int 0, .int 0, .ref q2, .ref q3])), (q1, .inl (cy 1, 30, .inl (fun _ => 0))), (q2, .inl (cy 1, 10, .inl (fun _ => 0))), (q3, .inl (cy 1, 10, .inl (fun _ => 0)))] t.heap ∧ va_D (va_A [(h0, .inr (4, [.int 0, .int 0, .null, .int 0, .int 0, .int 0, .int 0, .int 0, .int 0, .int 0, .null, .null]))] sz) [(h0, .inr (4, [.int 0, .int 0, .ref q1, .int 0, .int 0, .int 0, .int 0, .int 0, .int 0, .int 0, .ref q2, .ref q3])), (q1, .inl (cy 1, 30, .inl (fun _ => 0))), (q2, .inl (cy 1, 10, .inl (fun _ => 0))), (q3, .inl (cy 1, 10, .inl (fun _ => 0)))]) (va_A [(h0, .inr (4, [.int 0, .int 0, .null, .int 0, .int 0, .int 0, .int 0, .int 0, .int 0, .int 0, .null, .null]))] sz)) 3 50 (va_A [(h0, .inr (4, [.int 0, .int 0, .null, .int 0, .int 0, .int 0, .int 0, .int 0, .int 0, .int 0, .null, .null]))] sz) := by
  refine Met.ofW (cc := cX4_init) (maxL := 1) (ret := none) pn_X4 rfl ?_
  intro p e s m args below meth c s₁ B hml hv
  obtain ⟨rfl, hsz, hP, hK, hD0, hE⟩ := hv
  have hx := B.exec
  have hb := B.bytes
  have hr := B.returns
  have hts0 := atoms_spec (ws := (wsg yX4_init cX4_init 1 none)) B.pre
  have hts : ∀ w ∈ wsL_law, w.before _ s = true := fun w h => hts0 w (List.mem_cons_of_mem _ h)
  have hown : s.vm.findClass RX4 = some m.cls := by have h9 := findClass_of_methodNamed B.named; exact h9
  have hlocks := B.notSynchronized
  have hin : meth.name = "<init>" := (name_of_methodNamed B.named B.method).1
  subst hsz
  have hD := hD0.self (sz := s.heap.size)
  generalize hAe : va_A [(h0, .inr (4, [.int 0, .int 0, .null, .int 0, .int 0, .int 0, .int 0, .int 0, .int 0, .int 0, .null, .null]))] s.heap.size = A at hD hE ⊢
  have hA : ∀ q : Nat, s.heap.size ≤ q → A q := fun q h => by rw [← hAe]; exact Or.inr h
  have hS : va_S A s.heap s.heap [] := va_S.rf
  have hP : va_P (dC, dI) vwCl [(h0, .inr (4, [.int 0, .int 0, .null, .int 0, .int 0, .int 0, .int 0, .int 0, .int 0, .int 0, .null, .null]))] s.heap := hP
  have hl := lv_entry ([.ref h0]) (n := 1) (Nat.le_of_ble_eq_true rfl)
  rw [lg_entry_eq]
  generalize (lg_sl ([.ref h0]) ++ List.replicate (1 - (lg_sl ([.ref h0])).length) Slot.unset).toArray = ls at hl ⊢
  have hl : lv_has ls 1 [(0, .ref h0)] := hl
  generalize hHe : s.heap = H at hP hS ⊢
  have hS : va_S A s.heap H [] := by rw [hHe]; exact hS
  refine lv_aload_n hx hb dX4_init_0 rfl (lv_at hl 0 rfl) ?_
  refine W.objInit hx hb hown (hts _ mw_61) (hts _ mw_13) (hts _ mw_14) rfl (by rw [hml]; exact hl.1) rfl dX4_init_1 (Nat.le_of_ble_eq_true rfl) (Nat.le_of_ble_eq_true rfl) ?_
  refine W.eq (g2 := F0 m 4 ls []) rfl ?_
  refine lv_aload_n hx hb dX4_init_4 rfl (lv_at hl 0 rfl) ?_
  refine lv_bipush (v := 30) hx hb dX4_init_5 (by decide) ?_
  refine va_newa (atype := .int) (ty := .int) (a0 := (30, .inl (fun _ => 0))) hx hb (hts _ mw_28) rfl hK hP hD hS hA (fun _ => rfl) (by decide) (by decide) (Nat.le_of_ble_eq_true rfl) (Nat.le_of_ble_eq_true rfl) (Nat.le_of_ble_eq_true rfl) dX4_init_7 (fun q1 cA H hK9 hP hD hS => ?_)
  have hcA := my_cA hK9 hK 1 rfl
  subst hcA
  clear hK9
  have hP : va_P (dC, dI) vwCl [(h0, .inr (4, [.int 0, .int 0, .null, .int 0, .int 0, .int 0, .int 0, .int 0, .int 0, .int 0, .null, .null])), (q1, .inl (cy 1, 30, .inl (fun _ => 0)))] H := hP
  have hD : va_D A [(h0, .inr (4, [.int 0, .int 0, .null, .int 0, .int 0, .int 0, .int 0, .int 0, .int 0, .int 0, .null, .null])), (q1, .inl (cy 1, 30, .inl (fun _ => 0)))] := hD
  refine W.widen (k := 1) (n := 30) (by omega) (by omega) ?_
  refine va_putF (D := (dC, dI)) (ci := 4) (v := .ref q1) (ty := (.array .int)) (C := RX4) (T := TX4) (N := 12) hx hb hts inlX4 tyX4 tyX4_ok nmX4 hown hK hP hD hS 0 rfl rfl 2 (by decide) (hts _ mw_62) (fun _ h9 => h9) rfl hin rfl (by decide +kernel) rfl rfl (Nat.le_of_ble_eq_true rfl) dX4_init_9 (fun H locs hP hD hS => ?_)
  have hP : va_P (dC, dI) vwCl [(h0, .inr (4, [.int 0, .int 0, .ref q1, .int 0, .int 0, .int 0, .int 0, .int 0, .int 0, .int 0, .null, .null])), (q1, .inl (cy 1, 30, .inl (fun _ => 0)))] H := hP
  have hD : va_D A [(h0, .inr (4, [.int 0, .int 0, .ref q1, .int 0, .int 0, .int 0, .int 0, .int 0, .int 0, .int 0, .null, .null])), (q1, .inl (cy 1, 30, .inl (fun _ => 0)))] := hD
  refine lv_aload_n hx hb dX4_init_12 rfl (lv_at hl 0 rfl) ?_
  refine lv_bipush (v := 10) hx hb dX4_init_13 (by decide) ?_
  refine va_newa (atype := .int) (ty := .int) (a0 := (10, .inl (fun _ => 0))) hx hb (hts _ mw_28) rfl hK hP hD hS hA (fun _ => rfl) (by decide) (by decide) (Nat.le_of_ble_eq_true rfl) (Nat.le_of_ble_eq_true rfl) (Nat.le_of_ble_eq_true rfl) dX4_init_15 (fun q2 cA H hK9 hP hD hS => ?_)
  have hcA := my_cA hK9 hK 1 rfl
  subst hcA
  clear hK9
  have hP : va_P (dC, dI) vwCl [(h0, .inr (4, [.int 0, .int 0, .ref q1, .int 0, .int 0, .int 0, .int 0, .int 0, .int 0, .int 0, .null, .null])), (q1, .inl (cy 1, 30, .inl (fun _ => 0))), (q2, .inl (cy 1, 10, .inl (fun _ => 0)))] H := hP
  have hD : va_D A [(h0, .inr (4, [.int 0, .int 0, .ref q1, .int 0, .int 0, .int 0, .int 0, .int 0, .int 0, .int 0, .null, .null])), (q1, .inl (cy 1, 30, .inl (fun _ => 0))), (q2, .inl (cy 1, 10, .inl (fun _ => 0)))] := hD
  refine W.widen (k := 2) (n := 40) (by omega) (by omega) ?_
  refine va_putF (D := (dC, dI)) (ci := 4) (v := .ref q2) (ty := (.array .int)) (C := RX4) (T := TX4) (N := 12) hx hb hts inlX4 tyX4 tyX4_ok nmX4 hown hK hP hD hS 0 rfl rfl 10 (by decide) (hts _ mw_63) (fun _ h9 => h9) rfl hin rfl (by decide +kernel) rfl rfl (Nat.le_of_ble_eq_true rfl) dX4_init_17 (fun H locs hP hD hS => ?_)
  have hP : va_P (dC, dI) vwCl [(h0, .inr (4, [.int 0, .int 0, .ref q1, .int 0, .int 0, .int 0, .int 0, .int 0, .int 0, .int 0, .ref q2, .null])), (q1, .inl (cy 1, 30, .inl (fun _ => 0))), (q2, .inl (cy 1, 10, .inl (fun _ => 0)))] H := hP
  have hD : va_D A [(h0, .inr (4, [.int 0, .int 0, .ref q1, .int 0, .int 0, .int 0, .int 0, .int 0, .int 0, .int 0, .ref q2, .null])), (q1, .inl (cy 1, 30, .inl (fun _ => 0))), (q2, .inl (cy 1, 10, .inl (fun _ => 0)))] := hD
  refine lv_aload_n hx hb dX4_init_20 rfl (lv_at hl 0 rfl) ?_
  refine lv_bipush (v := 10) hx hb dX4_init_21 (by decide) ?_
  refine va_newa (atype := .int) (ty := .int) (a0 := (10, .inl (fun _ => 0))) hx hb (hts _ mw_28) rfl hK hP hD hS hA (fun _ => rfl) (by decide) (by decide) (Nat.le_of_ble_eq_true rfl) (Nat.le_of_ble_eq_true rfl) (Nat.le_of_ble_eq_true rfl) dX4_init_23 (fun q3 cA H hK9 hP hD hS => ?_)
  have hcA := my_cA hK9 hK 1 rfl
  subst hcA
  clear hK9
  have hP : va_P (dC, dI) vwCl [(h0, .inr (4, [.int 0, .int 0, .ref q1, .int 0, .int 0, .int 0, .int 0, .int 0, .int 0, .int 0, .ref q2, .null])), (q1, .inl (cy 1, 30, .inl (fun _ => 0))), (q2, .inl (cy 1, 10, .inl (fun _ => 0))), (q3, .inl (cy 1, 10, .inl (fun _ => 0)))] H := hP
  have hD : va_D A [(h0, .inr (4, [.int 0, .int 0, .ref q1, .int 0, .int 0, .int 0, .int 0, .int 0, .int 0, .int 0, .ref q2, .null])), (q1, .inl (cy 1, 30, .inl (fun _ => 0))), (q2, .inl (cy 1, 10, .inl (fun _ => 0))), (q3, .inl (cy 1, 10, .inl (fun _ => 0)))] := hD
  refine W.widen (k := 3) (n := 50) (by omega) (by omega) ?_
  refine va_putF (D := (dC, dI)) (ci := 4) (v := .ref q3) (ty := (.array .int)) (C := RX4) (T := TX4) (N := 12) hx hb hts inlX4 tyX4 tyX4_ok nmX4 hown hK hP hD hS 0 rfl rfl 11 (by decide) (hts _ mw_64) (fun _ h9 => h9) rfl hin rfl (by decide +kernel) rfl rfl (Nat.le_of_ble_eq_true rfl) dX4_init_25 (fun H locs hP hD hS => ?_)
  have hP : va_P (dC, dI) vwCl [(h0, .inr (4, [.int 0, .int 0, .ref q1, .int 0, .int 0, .int 0, .int 0, .int 0, .int 0, .int 0, .ref q2, .ref q3])), (q1, .inl (cy 1, 30, .inl (fun _ => 0))), (q2, .inl (cy 1, 10, .inl (fun _ => 0))), (q3, .inl (cy 1, 10, .inl (fun _ => 0)))] H := hP
  have hD : va_D A [(h0, .inr (4, [.int 0, .int 0, .ref q1, .int 0, .int 0, .int 0, .int 0, .int 0, .int 0, .int 0, .ref q2, .ref q3])), (q1, .inl (cy 1, 30, .inl (fun _ => 0))), (q2, .inl (cy 1, 10, .inl (fun _ => 0))), (q3, .inl (cy 1, 10, .inl (fun _ => 0)))] := hD
  have hP9 := hP.sub (ws' := [(h0, .inr (4, [.int 0, .int 0, .ref q1, .int 0, .int 0, .int 0, .int 0, .int 0, .int 0, .int 0, .ref q2, .ref q3])), (q1, .inl (cy 1, 30, .inl (fun _ => 0))), (q2, .inl (cy 1, 10, .inl (fun _ => 0))), (q3, .inl (cy 1, 10, .inl (fun _ => 0)))]) [0, 1, 2, 3] rfl
  have hD9 := hD.sub (ws' := [(h0, .inr (4, [.int 0, .int 0, .ref q1, .int 0, .int 0, .int 0, .int 0, .int 0, .int 0, .int 0, .ref q2, .ref q3])), (q1, .inl (cy 1, 30, .inl (fun _ => 0))), (q2, .inl (cy 1, 10, .inl (fun _ => 0))), (q3, .inl (cy 1, 10, .inl (fun _ => 0)))]) [0, 1, 2, 3] (by decide) rfl
  refine W.widen (k := 3) (n := 50) (by omega) (by omega) ?_
  exact W.vret hx hb hr (fun t ht hW => ⟨⟨(), rfl, trivial, q1, q2, q3, by rw [ht]; exact hP9, hD9⟩, hS.F ht⟩) hS.2.2 dX4_init_28
set_option maxHeartbeats 4000000 in
set_option maxRecDepth 100000 in
theorem c_X6_init (l : Launch) (dC : Nat → ClassId) (dI : Nat → Nat → Nat) (cy : Nat → ClassId) (nb : Nat → Nat) (h0 : Nat) (sz : Nat) : Met l yX6_init (wsg yX6_init cX6_init 1 none) ({ frames := 7, cells := 0, slots := 0, locals := 200 }) (va_Pc [.ref h0] (fun U => U.heap.size = sz ∧ va_P (dC, dI) vwCl [(h0, .inr (6, [.int 0, .int 0, .null, .int 0, .int 0, .int 0, .int 0, .int 0, .int 0, .int 0, .int 0, .int 0, .int 0, .int 0, .int 0]))] U.heap ∧ va_K (dC, dI) vwCl (tyL cy) U ∧ va_D (fun _ => True) [(h0, .inr (6, [.int 0, .int 0, .null, .int 0, .int 0, .int 0, .int 0, .int 0, .int 0, .int 0, .int 0, .int 0, .int 0, .int 0, .int 0]))] ∧ GE nb (va_A [(h0, .inr (6, [.int 0, .int 0, .null, .int 0, .int 0, .int 0, .int 0, .int 0, .int 0, .int 0, .int 0, .int 0, .int 0, .int 0, .int 0]))] sz) U)) (va_Qv (fun (_ : Unit) => True) (fun _ t => va_P (dC, dI) vwCl [(h0, .inr (6, [.int 0, .int 0, .ref (nb 0), .int 0, .int 0, .int 0, .int 0, .int 0, .int 0, .int 0, .int 0, .int 0, .int 0, .int 0, .int 0]))] t.heap ∧ va_D (va_A [(h0, .inr (6, [.int 0, .int 0, .null, .int 0, .int 0, .int 0, .int 0, .int 0, .int 0, .int 0, .int 0, .int 0, .int 0, .int 0, .int 0]))] sz) [(h0, .inr (6, [.int 0, .int 0, .ref (nb 0), .int 0, .int 0, .int 0, .int 0, .int 0, .int 0, .int 0, .int 0, .int 0, .int 0, .int 0, .int 0]))]) (va_A [(h0, .inr (6, [.int 0, .int 0, .null, .int 0, .int 0, .int 0, .int 0, .int 0, .int 0, .int 0, .int 0, .int 0, .int 0, .int 0, .int 0]))] sz)) 0 0 (va_A [(h0, .inr (6, [.int 0, .int 0, .null, .int 0, .int 0, .int 0, .int 0, .int 0, .int 0, .int 0, .int 0, .int 0, .int 0, .int 0, .int 0]))] sz) := by
  refine Met.ofW (cc := cX6_init) (maxL := 1) (ret := none) pn_X6 rfl ?_
  intro p e s m args below meth c s₁ B hml hv
  obtain ⟨rfl, hsz, hP, hK, hD0, hE⟩ := hv
  have hx := B.exec
  have hb := B.bytes
  have hr := B.returns
  have hts0 := atoms_spec (ws := (wsg yX6_init cX6_init 1 none)) B.pre
  have hts : ∀ w ∈ wsL_law, w.before _ s = true := fun w h => hts0 w (List.mem_cons_of_mem _ h)
  have hown : s.vm.findClass RX6 = some m.cls := by have h9 := findClass_of_methodNamed B.named; exact h9
  have hlocks := B.notSynchronized
  have hin : meth.name = "<init>" := (name_of_methodNamed B.named B.method).1
  subst hsz
  have hD := hD0.self (sz := s.heap.size)
  generalize hAe : va_A [(h0, .inr (6, [.int 0, .int 0, .null, .int 0, .int 0, .int 0, .int 0, .int 0, .int 0, .int 0, .int 0, .int 0, .int 0, .int 0, .int 0]))] s.heap.size = A at hD hE ⊢
  have hA : ∀ q : Nat, s.heap.size ≤ q → A q := fun q h => by rw [← hAe]; exact Or.inr h
  have hS : va_S A s.heap s.heap [] := va_S.rf
  have hP : va_P (dC, dI) vwCl [(h0, .inr (6, [.int 0, .int 0, .null, .int 0, .int 0, .int 0, .int 0, .int 0, .int 0, .int 0, .int 0, .int 0, .int 0, .int 0, .int 0]))] s.heap := hP
  have hl := lv_entry ([.ref h0]) (n := 1) (Nat.le_of_ble_eq_true rfl)
  rw [lg_entry_eq]
  generalize (lg_sl ([.ref h0]) ++ List.replicate (1 - (lg_sl ([.ref h0])).length) Slot.unset).toArray = ls at hl ⊢
  have hl : lv_has ls 1 [(0, .ref h0)] := hl
  generalize hHe : s.heap = H at hP hS ⊢
  have hS : va_S A s.heap H [] := by rw [hHe]; exact hS
  refine lv_aload_n hx hb dX6_init_0 rfl (lv_at hl 0 rfl) ?_
  refine W.objInit hx hb hown (hts _ mw_57) (hts _ mw_13) (hts _ mw_14) rfl (by rw [hml]; exact hl.1) rfl dX6_init_1 (Nat.le_of_ble_eq_true rfl) (Nat.le_of_ble_eq_true rfl) ?_
  refine W.eq (g2 := F0 m 4 ls []) rfl ?_
  refine lv_aload_n hx hb dX6_init_4 rfl (lv_at hl 0 rfl) ?_
  refine va_getsN (C := RX7) (n := "NO_BYTES") (d := "[B") (ref := RX7) (v := .ref (nb 0)) hx hb hE.nb hS hown (va_Nw.use rfl hE.f6) (fun _ h9 => h9) dX6_init_5 ?_
  refine va_put (D := (dC, dI)) (ci := 6) (v := .ref (nb 0)) (ty := (.array .byte)) (C := RX6) (T := TX6) (N := 15) hx hb hts inlX6 tyX6 tyX6_ok nmX6 hown hK hP hD hS 0 rfl rfl 2 (by decide) (hts _ mw_58) (fun _ h9 => h9) rfl (by decide +kernel) rfl rfl (Nat.le_of_ble_eq_true rfl) dX6_init_8 (fun H locs hP hD hS => ?_)
  have hP : va_P (dC, dI) vwCl [(h0, .inr (6, [.int 0, .int 0, .ref (nb 0), .int 0, .int 0, .int 0, .int 0, .int 0, .int 0, .int 0, .int 0, .int 0, .int 0, .int 0, .int 0]))] H := hP
  have hD : va_D A [(h0, .inr (6, [.int 0, .int 0, .ref (nb 0), .int 0, .int 0, .int 0, .int 0, .int 0, .int 0, .int 0, .int 0, .int 0, .int 0, .int 0, .int 0]))] := hD
  have hP9 := hP.sub (ws' := [(h0, .inr (6, [.int 0, .int 0, .ref (nb 0), .int 0, .int 0, .int 0, .int 0, .int 0, .int 0, .int 0, .int 0, .int 0, .int 0, .int 0, .int 0]))]) [0] rfl
  have hD9 := hD.sub (ws' := [(h0, .inr (6, [.int 0, .int 0, .ref (nb 0), .int 0, .int 0, .int 0, .int 0, .int 0, .int 0, .int 0, .int 0, .int 0, .int 0, .int 0, .int 0]))]) [0] (by decide) rfl
  refine W.widen (k := 0) (n := 0) (by omega) (by omega) ?_
  exact W.vret hx hb hr (fun t ht hW => ⟨⟨(), rfl, trivial, by rw [ht]; exact hP9, hD9⟩, hS.F ht⟩) hS.2.2 dX6_init_11
set_option maxHeartbeats 4000000 in
set_option maxRecDepth 100000 in
theorem c_X3_init (l : Launch) (dC : Nat → ClassId) (dI : Nat → Nat → Nat) (cy : Nat → ClassId) (nb : Nat → Nat) (h0 : Nat) (sz : Nat) : Met l yX3_init (wsg yX3_init cX3_init 2 none) ({ frames := 9, cells := 66, slots := 814, locals := 400 }) (va_Pc [.ref h0] (fun U => U.heap.size = sz ∧ va_P (dC, dI) vwCl [(h0, .inr (3, [.int 0, .int 0, .int 0, .int 0, .int 0, .int 0, .int 0, .int 0, .int 0, .int 0, .null, .null, .null, .null, .null, .null, .int 0]))] U.heap ∧ va_K (dC, dI) vwCl (tyL cy) U ∧ va_D (fun _ => True) [(h0, .inr (3, [.int 0, .int 0, .int 0, .int 0, .int 0, .int 0, .int 0, .int 0, .int 0, .int 0, .null, .null, .null, .null, .null, .null, .int 0]))] ∧ GE nb (va_A [(h0, .inr (3, [.int 0, .int 0, .int 0, .int 0, .int 0, .int 0, .int 0, .int 0, .int 0, .int 0, .null, .null, .null, .null, .null, .null, .int 0]))] sz) U)) (va_Qv (fun (_ : Unit) => True) (fun _ t => ∃ (q1 q2 q3 q4 q5 q6 : Nat) (a b c d f k : Nat → Nat), va_P (dC, dI) vwCl (LH cy h0 q1 q2 q3 q4 q5 q6 (fN 6 a) (fN 6 b) (fN 30 k) ++ SW (stZ nb) 6 a ++ LW cy 6 b c d f ++ SW (cdZ nb) 30 k) t.heap ∧ va_D (va_A [(h0, .inr (3, [.int 0, .int 0, .int 0, .int 0, .int 0, .int 0, .int 0, .int 0, .int 0, .int 0, .null, .null, .null, .null, .null, .null, .int 0]))] sz) (LH cy h0 q1 q2 q3 q4 q5 q6 (fN 6 a) (fN 6 b) (fN 30 k) ++ SW (stZ nb) 6 a ++ LW cy 6 b c d f ++ SW (cdZ nb) 30 k)) (va_A [(h0, .inr (3, [.int 0, .int 0, .int 0, .int 0, .int 0, .int 0, .int 0, .int 0, .int 0, .int 0, .null, .null, .null, .null, .null, .null, .int 0]))] sz)) 66 814 (va_A [(h0, .inr (3, [.int 0, .int 0, .int 0, .int 0, .int 0, .int 0, .int 0, .int 0, .int 0, .int 0, .null, .null, .null, .null, .null, .null, .int 0]))] sz) := by

  refine Met.ofW (cc := cX3_init) (maxL := 2) (ret := none) pn_X3 rfl ?_
  intro p e s m args below meth c9 s₁ B hml hv
  obtain ⟨rfl, hsz, hP, hK, hD0, hE⟩ := hv
  have hx := B.exec
  have hb := B.bytes
  have hr := B.returns
  have hts0 := atoms_spec (ws := (wsg yX3_init cX3_init 2 none)) B.pre
  have hts : ∀ w ∈ wsL_law, w.before _ s = true := fun w h => hts0 w (List.mem_cons_of_mem _ h)
  have hown : s.vm.findClass RX3 = some m.cls := by have h9 := findClass_of_methodNamed B.named; exact h9
  have hlocks := B.notSynchronized
  have hin : meth.name = "<init>" := (name_of_methodNamed B.named B.method).1
  subst hsz
  have hD := hD0.self (sz := s.heap.size)
  generalize hAe : va_A [(h0, .inr (3, [.int 0, .int 0, .int 0, .int 0, .int 0, .int 0, .int 0, .int 0, .int 0, .int 0, .null, .null, .null, .null, .null, .null, .int 0]))] s.heap.size = A at hD hE ⊢
  have hA : ∀ q : Nat, s.heap.size ≤ q → A q := fun q h => by rw [← hAe]; exact Or.inr h
  have hS : va_S A s.heap s.heap [] := va_S.rf
  have hP : va_P (dC, dI) vwCl [(h0, .inr (3, [.int 0, .int 0, .int 0, .int 0, .int 0, .int 0, .int 0, .int 0, .int 0, .int 0, .null, .null, .null, .null, .null, .null, .int 0]))] s.heap := hP
  have hl := lv_entry ([.ref h0]) (n := 2) (Nat.le_of_ble_eq_true rfl)
  rw [lg_entry_eq]
  generalize (lg_sl ([.ref h0]) ++ List.replicate (2 - (lg_sl ([.ref h0])).length) Slot.unset).toArray = ls at hl ⊢
  have hl : lv_has ls 2 [(0, .ref h0)] := hl
  generalize hHe : s.heap = H at hP hS ⊢
  have hS : va_S A s.heap H [] := by rw [hHe]; exact hS
  refine my_Q (fun Qn hQ => ?_)
  refine lv_aload_n hx hb dX3_init_0 rfl (lv_at hl 0 rfl) ?_
  refine W.objInit hx hb hown (hts _ mw_38) (hts _ mw_13) (hts _ mw_14) rfl (by rw [hml]; exact hl.1) rfl dX3_init_1 (Nat.le_of_ble_eq_true rfl) (Nat.le_of_ble_eq_true rfl) ?_
  refine W.eq (g2 := F0 m 4 ls []) rfl ?_
  refine lv_aload_n hx hb dX3_init_4 rfl (lv_at hl 0 rfl) ?_
  refine lv_iconst (v := 1) hx hb dX3_init_5 (by decide) ?_
  refine va_put (D := (dC, dI)) (ci := 3) (v := .int 1) (ty := .int) (C := RX3) (T := TX3) (N := 17) hx hb hts inlX3 tyX3 tyX3_ok nmX3 hown hK hP hD hS 0 rfl rfl 0 (by decide) (hts _ mw_39) (fun _ h9 => h9) rfl (by decide +kernel) rfl rfl (Nat.le_of_ble_eq_true rfl) dX3_init_6 (fun H locs hP hD hS => ?_)
  have hP : va_P (dC, dI) vwCl [(h0, .inr (3, [.int 1, .int 0, .int 0, .int 0, .int 0, .int 0, .int 0, .int 0, .int 0, .int 0, .null, .null, .null, .null, .null, .null, .int 0]))] H := hP
  have hD : va_D A [(h0, .inr (3, [.int 1, .int 0, .int 0, .int 0, .int 0, .int 0, .int 0, .int 0, .int 0, .int 0, .null, .null, .null, .null, .null, .null, .int 0]))] := hD
  refine lv_aload_n hx hb dX3_init_9 rfl (lv_at hl 0 rfl) ?_
  refine lv_bipush (v := 6) hx hb dX3_init_10 (by decide) ?_
  refine va_newq (C := RX6) (N' := 6) hx hb hown (hts _ mw_40) (hE.o6) hK hP hD hS hA (by decide) (by decide) (Nat.le_of_ble_eq_true rfl) (Nat.le_of_ble_eq_true rfl) (Nat.le_of_ble_eq_true rfl) dX3_init_12 (fun q1 cA H hK9 hP hD hS => ?_)
  have hcA := my_cA hK9 hK 6 rfl
  subst hcA
  clear hK9
  have hP : va_P (dC, dI) vwCl [(h0, .inr (3, [.int 1, .int 0, .int 0, .int 0, .int 0, .int 0, .int 0, .int 0, .int 0, .int 0, .null, .null, .null, .null, .null, .null, .int 0])), (q1, .inl (cy 6, 6, .inr (.inr (.inr (.inr (fun _ => none))))))] H := hP
  have hD : va_D A [(h0, .inr (3, [.int 1, .int 0, .int 0, .int 0, .int 0, .int 0, .int 0, .int 0, .int 0, .int 0, .null, .null, .null, .null, .null, .null, .int 0])), (q1, .inl (cy 6, 6, .inr (.inr (.inr (.inr (fun _ => none))))))] := hD
  refine W.widen (k := 1) (n := 6) (by omega) (by omega) ?_
  refine va_putF (D := (dC, dI)) (ci := 3) (v := .ref q1) (ty := (.array (.object "CardLine$Station"))) (C := RX3) (T := TX3) (N := 17) hx hb hts inlX3 tyX3 tyX3_ok nmX3 hown hK hP hD hS 0 rfl rfl 10 (by decide) (hts _ mw_41) (fun _ h9 => h9) rfl hin rfl (by decide +kernel) rfl rfl (Nat.le_of_ble_eq_true rfl) dX3_init_15 (fun H locs hP hD hS => ?_)
  have hP : va_P (dC, dI) vwCl [(h0, .inr (3, [.int 1, .int 0, .int 0, .int 0, .int 0, .int 0, .int 0, .int 0, .int 0, .int 0, .ref q1, .null, .null, .null, .null, .null, .int 0])), (q1, .inl (cy 6, 6, .inr (.inr (.inr (.inr (fun _ => none))))))] H := hP
  have hD : va_D A [(h0, .inr (3, [.int 1, .int 0, .int 0, .int 0, .int 0, .int 0, .int 0, .int 0, .int 0, .int 0, .ref q1, .null, .null, .null, .null, .null, .int 0])), (q1, .inl (cy 6, 6, .inr (.inr (.inr (.inr (fun _ => none))))))] := hD
  refine lv_aload_n hx hb dX3_init_18 rfl (lv_at hl 0 rfl) ?_
  refine lv_bipush (v := 6) hx hb dX3_init_19 (by decide) ?_
  refine va_newq (C := RX4) (N' := 6) hx hb hown (hts _ mw_42) (hE.o4) hK hP hD hS hA (by decide) (by decide) (Nat.le_of_ble_eq_true rfl) (Nat.le_of_ble_eq_true rfl) (Nat.le_of_ble_eq_true rfl) dX3_init_21 (fun q2 cA H hK9 hP hD hS => ?_)
  have hcA := my_cA hK9 hK 7 rfl
  subst hcA
  clear hK9
  have hP : va_P (dC, dI) vwCl [(h0, .inr (3, [.int 1, .int 0, .int 0, .int 0, .int 0, .int 0, .int 0, .int 0, .int 0, .int 0, .ref q1, .null, .null, .null, .null, .null, .int 0])), (q1, .inl (cy 6, 6, .inr (.inr (.inr (.inr (fun _ => none)))))), (q2, .inl (cy 7, 6, .inr (.inr (.inr (.inr (fun _ => none))))))] H := hP
  have hD : va_D A [(h0, .inr (3, [.int 1, .int 0, .int 0, .int 0, .int 0, .int 0, .int 0, .int 0, .int 0, .int 0, .ref q1, .null, .null, .null, .null, .null, .int 0])), (q1, .inl (cy 6, 6, .inr (.inr (.inr (.inr (fun _ => none)))))), (q2, .inl (cy 7, 6, .inr (.inr (.inr (.inr (fun _ => none))))))] := hD
  refine W.widen (k := 2) (n := 12) (by omega) (by omega) ?_
  refine va_putF (D := (dC, dI)) (ci := 3) (v := .ref q2) (ty := (.array (.object "CardLine$Lot"))) (C := RX3) (T := TX3) (N := 17) hx hb hts inlX3 tyX3 tyX3_ok nmX3 hown hK hP hD hS 0 rfl rfl 11 (by decide) (hts _ mw_43) (fun _ h9 => h9) rfl hin rfl (by decide +kernel) rfl rfl (Nat.le_of_ble_eq_true rfl) dX3_init_24 (fun H locs hP hD hS => ?_)
  have hP : va_P (dC, dI) vwCl [(h0, .inr (3, [.int 1, .int 0, .int 0, .int 0, .int 0, .int 0, .int 0, .int 0, .int 0, .int 0, .ref q1, .ref q2, .null, .null, .null, .null, .int 0])), (q1, .inl (cy 6, 6, .inr (.inr (.inr (.inr (fun _ => none)))))), (q2, .inl (cy 7, 6, .inr (.inr (.inr (.inr (fun _ => none))))))] H := hP
  have hD : va_D A [(h0, .inr (3, [.int 1, .int 0, .int 0, .int 0, .int 0, .int 0, .int 0, .int 0, .int 0, .int 0, .ref q1, .ref q2, .null, .null, .null, .null, .int 0])), (q1, .inl (cy 6, 6, .inr (.inr (.inr (.inr (fun _ => none)))))), (q2, .inl (cy 7, 6, .inr (.inr (.inr (.inr (fun _ => none))))))] := hD
  refine lv_aload_n hx hb dX3_init_27 rfl (lv_at hl 0 rfl) ?_
  refine lv_bipush (v := 30) hx hb dX3_init_28 (by decide) ?_
  refine va_newq (C := RX1) (N' := 30) hx hb hown (hts _ mw_44) (hE.o1) hK hP hD hS hA (by decide) (by decide) (Nat.le_of_ble_eq_true rfl) (Nat.le_of_ble_eq_true rfl) (Nat.le_of_ble_eq_true rfl) dX3_init_30 (fun q3 cA H hK9 hP hD hS => ?_)
  have hcA := my_cA hK9 hK 8 rfl
  subst hcA
  clear hK9
  have hP : va_P (dC, dI) vwCl [(h0, .inr (3, [.int 1, .int 0, .int 0, .int 0, .int 0, .int 0, .int 0, .int 0, .int 0, .int 0, .ref q1, .ref q2, .null, .null, .null, .null, .int 0])), (q1, .inl (cy 6, 6, .inr (.inr (.inr (.inr (fun _ => none)))))), (q2, .inl (cy 7, 6, .inr (.inr (.inr (.inr (fun _ => none)))))), (q3, .inl (cy 8, 30, .inr (.inr (.inr (.inr (fun _ => none))))))] H := hP
  have hD : va_D A [(h0, .inr (3, [.int 1, .int 0, .int 0, .int 0, .int 0, .int 0, .int 0, .int 0, .int 0, .int 0, .ref q1, .ref q2, .null, .null, .null, .null, .int 0])), (q1, .inl (cy 6, 6, .inr (.inr (.inr (.inr (fun _ => none)))))), (q2, .inl (cy 7, 6, .inr (.inr (.inr (.inr (fun _ => none)))))), (q3, .inl (cy 8, 30, .inr (.inr (.inr (.inr (fun _ => none))))))] := hD
  refine W.widen (k := 3) (n := 42) (by omega) (by omega) ?_
  refine va_putF (D := (dC, dI)) (ci := 3) (v := .ref q3) (ty := (.array (.object "CardLine$Card"))) (C := RX3) (T := TX3) (N := 17) hx hb hts inlX3 tyX3 tyX3_ok nmX3 hown hK hP hD hS 0 rfl rfl 12 (by decide) (hts _ mw_45) (fun _ h9 => h9) rfl hin rfl (by decide +kernel) rfl rfl (Nat.le_of_ble_eq_true rfl) dX3_init_33 (fun H locs hP hD hS => ?_)
  have hP : va_P (dC, dI) vwCl [(h0, .inr (3, [.int 1, .int 0, .int 0, .int 0, .int 0, .int 0, .int 0, .int 0, .int 0, .int 0, .ref q1, .ref q2, .ref q3, .null, .null, .null, .int 0])), (q1, .inl (cy 6, 6, .inr (.inr (.inr (.inr (fun _ => none)))))), (q2, .inl (cy 7, 6, .inr (.inr (.inr (.inr (fun _ => none)))))), (q3, .inl (cy 8, 30, .inr (.inr (.inr (.inr (fun _ => none))))))] H := hP
  have hD : va_D A [(h0, .inr (3, [.int 1, .int 0, .int 0, .int 0, .int 0, .int 0, .int 0, .int 0, .int 0, .int 0, .ref q1, .ref q2, .ref q3, .null, .null, .null, .int 0])), (q1, .inl (cy 6, 6, .inr (.inr (.inr (.inr (fun _ => none)))))), (q2, .inl (cy 7, 6, .inr (.inr (.inr (.inr (fun _ => none)))))), (q3, .inl (cy 8, 30, .inr (.inr (.inr (.inr (fun _ => none))))))] := hD
  refine lv_aload_n hx hb dX3_init_36 rfl (lv_at hl 0 rfl) ?_
  refine lv_iconst (v := 5) hx hb dX3_init_37 (by decide) ?_
  refine va_newa (atype := .int) (ty := .int) (a0 := (5, .inl (fun _ => 0))) hx hb (hts _ mw_28) rfl hK hP hD hS hA (fun _ => rfl) (by decide) (by decide) (Nat.le_of_ble_eq_true rfl) (Nat.le_of_ble_eq_true rfl) (Nat.le_of_ble_eq_true rfl) dX3_init_38 (fun q4 cA H hK9 hP hD hS => ?_)
  have hcA := my_cA hK9 hK 1 rfl
  subst hcA
  clear hK9
  have hP : va_P (dC, dI) vwCl [(h0, .inr (3, [.int 1, .int 0, .int 0, .int 0, .int 0, .int 0, .int 0, .int 0, .int 0, .int 0, .ref q1, .ref q2, .ref q3, .null, .null, .null, .int 0])), (q1, .inl (cy 6, 6, .inr (.inr (.inr (.inr (fun _ => none)))))), (q2, .inl (cy 7, 6, .inr (.inr (.inr (.inr (fun _ => none)))))), (q3, .inl (cy 8, 30, .inr (.inr (.inr (.inr (fun _ => none)))))), (q4, .inl (cy 1, 5, .inl (fun _ => 0)))] H := hP
  have hD : va_D A [(h0, .inr (3, [.int 1, .int 0, .int 0, .int 0, .int 0, .int 0, .int 0, .int 0, .int 0, .int 0, .ref q1, .ref q2, .ref q3, .null, .null, .null, .int 0])), (q1, .inl (cy 6, 6, .inr (.inr (.inr (.inr (fun _ => none)))))), (q2, .inl (cy 7, 6, .inr (.inr (.inr (.inr (fun _ => none)))))), (q3, .inl (cy 8, 30, .inr (.inr (.inr (.inr (fun _ => none)))))), (q4, .inl (cy 1, 5, .inl (fun _ => 0)))] := hD
  refine W.widen (k := 4) (n := 47) (by omega) (by omega) ?_
  refine va_putF (D := (dC, dI)) (ci := 3) (v := .ref q4) (ty := (.array .int)) (C := RX3) (T := TX3) (N := 17) hx hb hts inlX3 tyX3 tyX3_ok nmX3 hown hK hP hD hS 0 rfl rfl 13 (by decide) (hts _ mw_46) (fun _ h9 => h9) rfl hin rfl (by decide +kernel) rfl rfl (Nat.le_of_ble_eq_true rfl) dX3_init_40 (fun H locs hP hD hS => ?_)
  have hP : va_P (dC, dI) vwCl [(h0, .inr (3, [.int 1, .int 0, .int 0, .int 0, .int 0, .int 0, .int 0, .int 0, .int 0, .int 0, .ref q1, .ref q2, .ref q3, .ref q4, .null, .null, .int 0])), (q1, .inl (cy 6, 6, .inr (.inr (.inr (.inr (fun _ => none)))))), (q2, .inl (cy 7, 6, .inr (.inr (.inr (.inr (fun _ => none)))))), (q3, .inl (cy 8, 30, .inr (.inr (.inr (.inr (fun _ => none)))))), (q4, .inl (cy 1, 5, .inl (fun _ => 0)))] H := hP
  have hD : va_D A [(h0, .inr (3, [.int 1, .int 0, .int 0, .int 0, .int 0, .int 0, .int 0, .int 0, .int 0, .int 0, .ref q1, .ref q2, .ref q3, .ref q4, .null, .null, .int 0])), (q1, .inl (cy 6, 6, .inr (.inr (.inr (.inr (fun _ => none)))))), (q2, .inl (cy 7, 6, .inr (.inr (.inr (.inr (fun _ => none)))))), (q3, .inl (cy 8, 30, .inr (.inr (.inr (.inr (fun _ => none)))))), (q4, .inl (cy 1, 5, .inl (fun _ => 0)))] := hD
  refine lv_aload_n hx hb dX3_init_43 rfl (lv_at hl 0 rfl) ?_
  refine lv_bipush (v := 30) hx hb dX3_init_44 (by decide) ?_
  refine va_newa (atype := .int) (ty := .int) (a0 := (30, .inl (fun _ => 0))) hx hb (hts _ mw_28) rfl hK hP hD hS hA (fun _ => rfl) (by decide) (by decide) (Nat.le_of_ble_eq_true rfl) (Nat.le_of_ble_eq_true rfl) (Nat.le_of_ble_eq_true rfl) dX3_init_46 (fun q5 cA H hK9 hP hD hS => ?_)
  have hcA := my_cA hK9 hK 1 rfl
  subst hcA
  clear hK9
  have hP : va_P (dC, dI) vwCl [(h0, .inr (3, [.int 1, .int 0, .int 0, .int 0, .int 0, .int 0, .int 0, .int 0, .int 0, .int 0, .ref q1, .ref q2, .ref q3, .ref q4, .null, .null, .int 0])), (q1, .inl (cy 6, 6, .inr (.inr (.inr (.inr (fun _ => none)))))), (q2, .inl (cy 7, 6, .inr (.inr (.inr (.inr (fun _ => none)))))), (q3, .inl (cy 8, 30, .inr (.inr (.inr (.inr (fun _ => none)))))), (q4, .inl (cy 1, 5, .inl (fun _ => 0))), (q5, .inl (cy 1, 30, .inl (fun _ => 0)))] H := hP
  have hD : va_D A [(h0, .inr (3, [.int 1, .int 0, .int 0, .int 0, .int 0, .int 0, .int 0, .int 0, .int 0, .int 0, .ref q1, .ref q2, .ref q3, .ref q4, .null, .null, .int 0])), (q1, .inl (cy 6, 6, .inr (.inr (.inr (.inr (fun _ => none)))))), (q2, .inl (cy 7, 6, .inr (.inr (.inr (.inr (fun _ => none)))))), (q3, .inl (cy 8, 30, .inr (.inr (.inr (.inr (fun _ => none)))))), (q4, .inl (cy 1, 5, .inl (fun _ => 0))), (q5, .inl (cy 1, 30, .inl (fun _ => 0)))] := hD
  refine W.widen (k := 5) (n := 77) (by omega) (by omega) ?_
  refine va_putF (D := (dC, dI)) (ci := 3) (v := .ref q5) (ty := (.array .int)) (C := RX3) (T := TX3) (N := 17) hx hb hts inlX3 tyX3 tyX3_ok nmX3 hown hK hP hD hS 0 rfl rfl 14 (by decide) (hts _ mw_47) (fun _ h9 => h9) rfl hin rfl (by decide +kernel) rfl rfl (Nat.le_of_ble_eq_true rfl) dX3_init_48 (fun H locs hP hD hS => ?_)
  have hP : va_P (dC, dI) vwCl [(h0, .inr (3, [.int 1, .int 0, .int 0, .int 0, .int 0, .int 0, .int 0, .int 0, .int 0, .int 0, .ref q1, .ref q2, .ref q3, .ref q4, .ref q5, .null, .int 0])), (q1, .inl (cy 6, 6, .inr (.inr (.inr (.inr (fun _ => none)))))), (q2, .inl (cy 7, 6, .inr (.inr (.inr (.inr (fun _ => none)))))), (q3, .inl (cy 8, 30, .inr (.inr (.inr (.inr (fun _ => none)))))), (q4, .inl (cy 1, 5, .inl (fun _ => 0))), (q5, .inl (cy 1, 30, .inl (fun _ => 0)))] H := hP
  have hD : va_D A [(h0, .inr (3, [.int 1, .int 0, .int 0, .int 0, .int 0, .int 0, .int 0, .int 0, .int 0, .int 0, .ref q1, .ref q2, .ref q3, .ref q4, .ref q5, .null, .int 0])), (q1, .inl (cy 6, 6, .inr (.inr (.inr (.inr (fun _ => none)))))), (q2, .inl (cy 7, 6, .inr (.inr (.inr (.inr (fun _ => none)))))), (q3, .inl (cy 8, 30, .inr (.inr (.inr (.inr (fun _ => none)))))), (q4, .inl (cy 1, 5, .inl (fun _ => 0))), (q5, .inl (cy 1, 30, .inl (fun _ => 0)))] := hD
  refine lv_aload_n hx hb dX3_init_51 rfl (lv_at hl 0 rfl) ?_
  refine lv_iconst (v := 5) hx hb dX3_init_52 (by decide) ?_
  refine va_newa (atype := .int) (ty := .int) (a0 := (5, .inl (fun _ => 0))) hx hb (hts _ mw_28) rfl hK hP hD hS hA (fun _ => rfl) (by decide) (by decide) (Nat.le_of_ble_eq_true rfl) (Nat.le_of_ble_eq_true rfl) (Nat.le_of_ble_eq_true rfl) dX3_init_53 (fun q6 cA H hK9 hP hD hS => ?_)
  have hcA := my_cA hK9 hK 1 rfl
  subst hcA
  clear hK9
  have hP : va_P (dC, dI) vwCl [(h0, .inr (3, [.int 1, .int 0, .int 0, .int 0, .int 0, .int 0, .int 0, .int 0, .int 0, .int 0, .ref q1, .ref q2, .ref q3, .ref q4, .ref q5, .null, .int 0])), (q1, .inl (cy 6, 6, .inr (.inr (.inr (.inr (fun _ => none)))))), (q2, .inl (cy 7, 6, .inr (.inr (.inr (.inr (fun _ => none)))))), (q3, .inl (cy 8, 30, .inr (.inr (.inr (.inr (fun _ => none)))))), (q4, .inl (cy 1, 5, .inl (fun _ => 0))), (q5, .inl (cy 1, 30, .inl (fun _ => 0))), (q6, .inl (cy 1, 5, .inl (fun _ => 0)))] H := hP
  have hD : va_D A [(h0, .inr (3, [.int 1, .int 0, .int 0, .int 0, .int 0, .int 0, .int 0, .int 0, .int 0, .int 0, .ref q1, .ref q2, .ref q3, .ref q4, .ref q5, .null, .int 0])), (q1, .inl (cy 6, 6, .inr (.inr (.inr (.inr (fun _ => none)))))), (q2, .inl (cy 7, 6, .inr (.inr (.inr (.inr (fun _ => none)))))), (q3, .inl (cy 8, 30, .inr (.inr (.inr (.inr (fun _ => none)))))), (q4, .inl (cy 1, 5, .inl (fun _ => 0))), (q5, .inl (cy 1, 30, .inl (fun _ => 0))), (q6, .inl (cy 1, 5, .inl (fun _ => 0)))] := hD
  refine W.widen (k := 6) (n := 82) (by omega) (by omega) ?_
  refine va_putF (D := (dC, dI)) (ci := 3) (v := .ref q6) (ty := (.array .int)) (C := RX3) (T := TX3) (N := 17) hx hb hts inlX3 tyX3 tyX3_ok nmX3 hown hK hP hD hS 0 rfl rfl 15 (by decide) (hts _ mw_48) (fun _ h9 => h9) rfl hin rfl (by decide +kernel) rfl rfl (Nat.le_of_ble_eq_true rfl) dX3_init_55 (fun H locs hP hD hS => ?_)
  have hP : va_P (dC, dI) vwCl [(h0, .inr (3, [.int 1, .int 0, .int 0, .int 0, .int 0, .int 0, .int 0, .int 0, .int 0, .int 0, .ref q1, .ref q2, .ref q3, .ref q4, .ref q5, .ref q6, .int 0])), (q1, .inl (cy 6, 6, .inr (.inr (.inr (.inr (fun _ => none)))))), (q2, .inl (cy 7, 6, .inr (.inr (.inr (.inr (fun _ => none)))))), (q3, .inl (cy 8, 30, .inr (.inr (.inr (.inr (fun _ => none)))))), (q4, .inl (cy 1, 5, .inl (fun _ => 0))), (q5, .inl (cy 1, 30, .inl (fun _ => 0))), (q6, .inl (cy 1, 5, .inl (fun _ => 0)))] H := hP
  have hD : va_D A [(h0, .inr (3, [.int 1, .int 0, .int 0, .int 0, .int 0, .int 0, .int 0, .int 0, .int 0, .int 0, .ref q1, .ref q2, .ref q3, .ref q4, .ref q5, .ref q6, .int 0])), (q1, .inl (cy 6, 6, .inr (.inr (.inr (.inr (fun _ => none)))))), (q2, .inl (cy 7, 6, .inr (.inr (.inr (.inr (fun _ => none)))))), (q3, .inl (cy 8, 30, .inr (.inr (.inr (.inr (fun _ => none)))))), (q4, .inl (cy 1, 5, .inl (fun _ => 0))), (q5, .inl (cy 1, 30, .inl (fun _ => 0))), (q6, .inl (cy 1, 5, .inl (fun _ => 0)))] := hD
  have loopC : ∀ (z n : Nat) (a : Nat → Nat) (b : Nat → Nat) (c : Nat → Nat) (d : Nat → Nat) (f : Nat → Nat) (k : Nat → Nat), n + z = 30 → ∀ (H : Heap) (locs : List Loc) (ls : Array Slot), va_P (dC, dI) vwCl (LH cy h0 q1 q2 q3 q4 q5 q6 (fN 6 a) (fN 6 b) (fN (n) k) ++ SW (stZ nb) 6 a ++ LW cy 6 b c d f ++ SW (cdZ nb) (n) k) H → va_D A (LH cy h0 q1 q2 q3 q4 q5 q6 (fN 6 a) (fN 6 b) (fN (n) k) ++ SW (stZ nb) 6 a ++ LW cy 6 b c d f ++ SW (cdZ nb) (n) k) → va_S A s.heap H locs → lv_has ls 2 [(1, .int (nI n)), (0, .ref h0)] → W p l e (headSpec (wsg yX3_init cX3_init 2 none) ({ frames := 9, cells := 66, slots := 814, locals := 400 })).room s m ([.ref h0] : List Value).toArray below meth c9 H locs (36 + 1 * n) (544 + 9 * n) Qn (F0 m 114 ls []) := by
    intro z
    induction z with
    | zero =>
      intro n a b c d f k hn H locs ls hP hD hS hl
      obtain rfl : n = 30 := by omega
      refine lv_iload_n hx hb dX3_init_114 rfl (lv_at hl 0 rfl) ?_
      refine lv_bipush (v := 30) hx hb dX3_init_115 (by decide) ?_
      refine lv_icmp_ge (tgt := 139) hx hb dX3_init_117 (by decide) (fun _ => ?_) (fun h => absurd (by decide) h)
      refine W.widen (k := 66) (n := 814) (by omega) (by omega) ?_
      rw [hQ]
      exact W.vret hx hb hr (fun t ht hW => ⟨⟨(), rfl, trivial, q1, q2, q3, q4, q5, q6, a, b, c, d, f, k, by rw [ht]; exact hP, hD⟩, hS.F ht⟩) hS.2.2 dX3_init_139
    | succ z ih =>
      intro n a b c d f k hn H locs ls hP hD hS hl
      refine lv_iload_n hx hb dX3_init_114 rfl (lv_at hl 0 rfl) ?_
      refine lv_bipush (v := 30) hx hb dX3_init_115 (by decide) ?_
      refine lv_icmp_ge (tgt := 139) hx hb dX3_init_117 (by decide) (fun h => absurd h (my_ge (k := n) (N := 30) (by omega) (by decide) rfl)) (fun _ => ?_)
      refine lv_aload_n hx hb dX3_init_120 rfl (lv_at hl 1 rfl) ?_
      refine va_get (D := (dC, dI)) (ci := 3) (v := .ref q3) (C := RX3) (T := TX3) (N := 17) hx hb hts inlX3 hown hK hP 0 rfl rfl 12 (by decide) (hts _ mw_45) (fun _ h9 => h9) rfl dX3_init_121 ?_
      refine lv_iload_n hx hb dX3_init_124 rfl (lv_at hl 0 rfl) ?_
      refine va_new (ci := 2) (fs := [.int 0, .int 0, .null, .int 0, .int 0, .int 0, .int 0, .int 0, .int 0]) (C := RX1) (T := TX1) (N := 9) hx hb hts inlX1 tyX1 tyX1_ok hown (hts _ mw_44) (hts _ mw_53) (hts _ mw_54) hK hP hD hS hA rfl (fun j hj => by match j, hj with | 0, _ => rfl | 1, _ => rfl | 2, _ => rfl | 3, _ => rfl | 4, _ => rfl | 5, _ => rfl | 6, _ => rfl | 7, _ => rfl | 8, _ => rfl | (n+9), h => omega) (show 36 + 1 * n + 1 ≤ 66 by omega) (show 544 + 9 * n + 9 ≤ 814 by omega) dX3_init_125 (fun q9 H hP hD hS => ?_)
      have hPc := my_lastP hP
      have hDc := my_lastD hD
      have hFc := my_free hDc hS hA
      refine lv_dup hx hb dX3_init_128 rfl ?_
      refine va_callv (va_runIN (As := []) (rest := [.ref q9, .int (nI n), .ref q3]) ⟨hx, hb, hml, hown, hts⟩ (c_X1_init l dC dI cy nb q9 H.size) ⟨va_cnB 0 hts (gI mw_66) rfl rfl rfl (hE.n45) (hts _ mw_54) (by decide +kernel) ⟨Nat.le_of_ble_eq_true rfl, Nat.le_of_ble_eq_true rfl⟩, rfl, (hts _ mw_65)⟩ (my_preS hPc hK hDc hE hS hFc) rfl rfl hl.1 rfl (lv_room (Nat.le_of_ble_eq_true rfl)) dX3_init_129 ⟨show 36 + 1 * n + 1 + 0 ≤ 66 by omega, show 544 + 9 * n + 9 + 0 ≤ 814 by omega⟩) hS (fun q _ h => hFc q h) hFc (fun u t H1 locs ht hvm hw9 hB hz1 hk1 hS => ?_)
      obtain ⟨hP1, hD1⟩ := hB
      rw [ht] at hP1
      obtain ⟨hP, hD⟩ := my_join hP hD hk1 hFc hP1 hD1
      generalize H1 = H at hP hS ⊢
      clear hP1 hD1 hPc hDc hFc hk1 hz1 hvm ht
      refine va_astq hx hb hK hP hD hS 3 8 ((LH cy h0 q1 q2 q3 q4 q5 q6 (fN 6 a) (fN 6 b) (fN (n) k) ++ SW (stZ nb) 6 a ++ LW cy 6 b c d f ++ SW (cdZ nb) (n) k)).length 2 rfl rfl (by rw [List.getElem?_append_right (Nat.le_refl _), Nat.sub_self]; rfl) rfl (vp_in_nI (n := n) (by omega) (by decide)) dX3_init_132 (fun H locs hP hD hS => ?_)
      have eW : (LH cy h0 q1 q2 q3 q4 q5 q6 (fN 6 a) (fN 6 b) (va_up (fN n k) ((nI n).toNatClampNeg) (some q9)) ++ SW (stZ nb) 6 a ++ LW cy 6 b c d f ++ SW (cdZ nb) n k ++ [(q9, cdZ nb)]) = (LH cy h0 q1 q2 q3 q4 q5 q6 (fN 6 a) (fN 6 b) (fN (n + 1) (u1 k n q9)) ++ SW (stZ nb) 6 a ++ LW cy 6 b c d f ++ SW (cdZ nb) (n + 1) (u1 k n q9)) := by rw [fN_step (n := n) (by omega), List.append_assoc (_ ++ _ ++ _), SW_step]
      have hP : va_P (dC, dI) vwCl (LH cy h0 q1 q2 q3 q4 q5 q6 (fN 6 a) (fN 6 b) (fN (n + 1) (u1 k n q9)) ++ SW (stZ nb) 6 a ++ LW cy 6 b c d f ++ SW (cdZ nb) (n + 1) (u1 k n q9)) H := by rw [← eW]; exact hP
      have hD : va_D A (LH cy h0 q1 q2 q3 q4 q5 q6 (fN 6 a) (fN 6 b) (fN (n + 1) (u1 k n q9)) ++ SW (stZ nb) 6 a ++ LW cy 6 b c d f ++ SW (cdZ nb) (n + 1) (u1 k n q9)) := by rw [← eW]; exact hD
      refine lv_iinc (v := nI (n + 1)) (lv' := [(1, .int (nI (n + 1))), (0, .ref h0)]) hx hb dX3_init_133 hl (k := 0) rfl (nI_1 n) (by decide) rfl (fun ls hl => ?_)
      refine lv_goto (tgt := 114) hx hb dX3_init_136 (by decide) ?_
      refine W.widen (k := 36 + 1 * (n + 1)) (n := 544 + 9 * (n + 1)) (by omega) (by omega) ?_
      exact ih (n + 1) a b c d f (u1 k n q9) (by omega) _ _ _ hP hD hS hl
  have loopB : ∀ (z n : Nat) (a : Nat → Nat) (b : Nat → Nat) (c : Nat → Nat) (d : Nat → Nat) (f : Nat → Nat), n + z = 6 → ∀ (H : Heap) (locs : List Loc) (ls : Array Slot), va_P (dC, dI) vwCl (LH cy h0 q1 q2 q3 q4 q5 q6 (fN 6 a) (fN (n) b) (fun _ => none) ++ SW (stZ nb) 6 a ++ LW cy (n) b c d f) H → va_D A (LH cy h0 q1 q2 q3 q4 q5 q6 (fN 6 a) (fN (n) b) (fun _ => none) ++ SW (stZ nb) 6 a ++ LW cy (n) b c d f) → va_S A s.heap H locs → lv_has ls 2 [(1, .int (nI n)), (0, .ref h0)] → W p l e (headSpec (wsg yX3_init cX3_init 2 none) ({ frames := 9, cells := 66, slots := 814, locals := 400 })).room s m ([.ref h0] : List Value).toArray below meth c9 H locs (12 + 4 * n) (172 + 62 * n) Qn (F0 m 87 ls []) := by
    intro z
    induction z with
    | zero =>
      intro n a b c d f hn H locs ls hP hD hS hl
      obtain rfl : n = 6 := by omega
      refine lv_iload_n hx hb dX3_init_87 rfl (lv_at hl 0 rfl) ?_
      refine lv_bipush (v := 6) hx hb dX3_init_88 (by decide) ?_
      refine lv_icmp_ge (tgt := 112) hx hb dX3_init_90 (by decide) (fun _ => ?_) (fun h => absurd (by decide) h)
      refine lv_iconst (v := 0) hx hb dX3_init_112 (by decide) ?_
      refine lv_istore_n (lv' := [(1, .int 0), (0, .ref h0)]) hx hb dX3_init_113 rfl hl (by decide) rfl (fun ls hl => ?_)
      have eW : (LH cy h0 q1 q2 q3 q4 q5 q6 (fN 6 a) (fN (6) b) (fun _ => none) ++ SW (stZ nb) 6 a ++ LW cy (6) b c d f) = (LH cy h0 q1 q2 q3 q4 q5 q6 (fN 6 a) (fN 6 b) (fN 0 (fun _ => 0)) ++ SW (stZ nb) 6 a ++ LW cy 6 b c d f ++ SW (cdZ nb) 0 (fun _ => 0)) := by rw [fN_0 (a := fun _ => 0)]; exact (List.append_nil _).symm
      exact loopC 30 0 a b c d f (fun _ => 0) rfl _ _ _ (by rw [← eW]; exact hP) (by rw [← eW]; exact hD) hS hl
    | succ z ih =>
      intro n a b c d f hn H locs ls hP hD hS hl
      refine lv_iload_n hx hb dX3_init_87 rfl (lv_at hl 0 rfl) ?_
      refine lv_bipush (v := 6) hx hb dX3_init_88 (by decide) ?_
      refine lv_icmp_ge (tgt := 112) hx hb dX3_init_90 (by decide) (fun h => absurd h (my_ge (k := n) (N := 6) (by omega) (by decide) rfl)) (fun _ => ?_)
      refine lv_aload_n hx hb dX3_init_93 rfl (lv_at hl 1 rfl) ?_
      refine va_get (D := (dC, dI)) (ci := 3) (v := .ref q2) (C := RX3) (T := TX3) (N := 17) hx hb hts inlX3 hown hK hP 0 rfl rfl 11 (by decide) (hts _ mw_43) (fun _ h9 => h9) rfl dX3_init_94 ?_
      refine lv_iload_n hx hb dX3_init_97 rfl (lv_at hl 0 rfl) ?_
      refine va_new (ci := 4) (fs := [.int 0, .int 0, .null, .int 0, .int 0, .int 0, .int 0, .int 0, .int 0, .int 0, .null, .null]) (C := RX4) (T := TX4) (N := 12) hx hb hts inlX4 tyX4 tyX4_ok hown (hts _ mw_42) (hts _ mw_51) (hts _ mw_52) hK hP hD hS hA rfl (fun j hj => by match j, hj with | 0, _ => rfl | 1, _ => rfl | 2, _ => rfl | 3, _ => rfl | 4, _ => rfl | 5, _ => rfl | 6, _ => rfl | 7, _ => rfl | 8, _ => rfl | 9, _ => rfl | 10, _ => rfl | 11, _ => rfl | (n+12), h => omega) (show 12 + 4 * n + 1 ≤ 66 by omega) (show 172 + 62 * n + 12 ≤ 814 by omega) dX3_init_98 (fun q9 H hP hD hS => ?_)
      have hPc := my_lastP hP
      have hDc := my_lastD hD
      have hFc := my_free hDc hS hA
      refine lv_dup hx hb dX3_init_101 rfl ?_
      refine va_callv (va_runIN (As := []) (rest := [.ref q9, .int (nI n), .ref q2]) ⟨hx, hb, hml, hown, hts⟩ (c_X4_init l dC dI cy nb q9 H.size) ⟨va_cnB 0 hts (gI mw_60) rfl rfl rfl (hE.n44) (hts _ mw_52) (by decide +kernel) ⟨Nat.le_of_ble_eq_true rfl, Nat.le_of_ble_eq_true rfl⟩, rfl, (hts _ mw_59)⟩ (my_preS hPc hK hDc hE hS hFc) rfl rfl hl.1 rfl (lv_room (Nat.le_of_ble_eq_true rfl)) dX3_init_102 ⟨show 12 + 4 * n + 1 + 3 ≤ 66 by omega, show 172 + 62 * n + 12 + 50 ≤ 814 by omega⟩) hS (fun q _ h => hFc q h) hFc (fun u t H1 locs ht hvm hw9 hB hz1 hk1 hS => ?_)
      obtain ⟨r1, r2, r3, hP1, hD1⟩ := hB
      rw [ht] at hP1
      obtain ⟨hP, hD⟩ := my_join hP hD hk1 hFc hP1 hD1
      generalize H1 = H at hP hS ⊢
      clear hP1 hD1 hPc hDc hFc hk1 hz1 hvm ht
      refine va_astq hx hb hK hP hD hS 2 7 ((LH cy h0 q1 q2 q3 q4 q5 q6 (fN 6 a) (fN (n) b) (fun _ => none) ++ SW (stZ nb) 6 a ++ LW cy (n) b c d f)).length 4 rfl rfl (by rw [List.getElem?_append_right (Nat.le_refl _), Nat.sub_self]; rfl) rfl (vp_in_nI (n := n) (by omega) (by decide)) dX3_init_105 (fun H locs hP hD hS => ?_)
      have eW : (LH cy h0 q1 q2 q3 q4 q5 q6 (fN 6 a) (va_up (fN n b) ((nI n).toNatClampNeg) (some q9)) (fun _ => none) ++ SW (stZ nb) 6 a ++ LW cy n b c d f ++ LO4 cy q9 r1 r2 r3) = (LH cy h0 q1 q2 q3 q4 q5 q6 (fN 6 a) (fN (n + 1) (u1 b n q9)) (fun _ => none) ++ SW (stZ nb) 6 a ++ LW cy (n + 1) (u1 b n q9) (u1 c n r1) (u1 d n r2) (u1 f n r3)) := by rw [fN_step (n := n) (by omega), List.append_assoc (_ ++ _), LW_step]
      have hP : va_P (dC, dI) vwCl (LH cy h0 q1 q2 q3 q4 q5 q6 (fN 6 a) (fN (n + 1) (u1 b n q9)) (fun _ => none) ++ SW (stZ nb) 6 a ++ LW cy (n + 1) (u1 b n q9) (u1 c n r1) (u1 d n r2) (u1 f n r3)) H := by rw [← eW]; exact hP
      have hD : va_D A (LH cy h0 q1 q2 q3 q4 q5 q6 (fN 6 a) (fN (n + 1) (u1 b n q9)) (fun _ => none) ++ SW (stZ nb) 6 a ++ LW cy (n + 1) (u1 b n q9) (u1 c n r1) (u1 d n r2) (u1 f n r3)) := by rw [← eW]; exact hD
      refine lv_iinc (v := nI (n + 1)) (lv' := [(1, .int (nI (n + 1))), (0, .ref h0)]) hx hb dX3_init_106 hl (k := 0) rfl (nI_1 n) (by decide) rfl (fun ls hl => ?_)
      refine lv_goto (tgt := 87) hx hb dX3_init_109 (by decide) ?_
      refine W.widen (k := 12 + 4 * (n + 1)) (n := 172 + 62 * (n + 1)) (by omega) (by omega) ?_
      exact ih (n + 1) a (u1 b n q9) (u1 c n r1) (u1 d n r2) (u1 f n r3) (by omega) _ _ _ hP hD hS hl
  have loopA : ∀ (z n : Nat) (a : Nat → Nat), n + z = 6 → ∀ (H : Heap) (locs : List Loc) (ls : Array Slot), va_P (dC, dI) vwCl (LH cy h0 q1 q2 q3 q4 q5 q6 (fN (n) a) (fun _ => none) (fun _ => none) ++ SW (stZ nb) (n) a) H → va_D A (LH cy h0 q1 q2 q3 q4 q5 q6 (fN (n) a) (fun _ => none) (fun _ => none) ++ SW (stZ nb) (n) a) → va_S A s.heap H locs → lv_has ls 2 [(1, .int (nI n)), (0, .ref h0)] → W p l e (headSpec (wsg yX3_init cX3_init 2 none) ({ frames := 9, cells := 66, slots := 814, locals := 400 })).room s m ([.ref h0] : List Value).toArray below meth c9 H locs (6 + 1 * n) (82 + 15 * n) Qn (F0 m 60 ls []) := by
    intro z
    induction z with
    | zero =>
      intro n a hn H locs ls hP hD hS hl
      obtain rfl : n = 6 := by omega
      refine lv_iload_n hx hb dX3_init_60 rfl (lv_at hl 0 rfl) ?_
      refine lv_bipush (v := 6) hx hb dX3_init_61 (by decide) ?_
      refine lv_icmp_ge (tgt := 85) hx hb dX3_init_63 (by decide) (fun _ => ?_) (fun h => absurd (by decide) h)
      refine lv_iconst (v := 0) hx hb dX3_init_85 (by decide) ?_
      refine lv_istore_n (lv' := [(1, .int 0), (0, .ref h0)]) hx hb dX3_init_86 rfl hl (by decide) rfl (fun ls hl => ?_)
      have eW : (LH cy h0 q1 q2 q3 q4 q5 q6 (fN (6) a) (fun _ => none) (fun _ => none) ++ SW (stZ nb) (6) a) = (LH cy h0 q1 q2 q3 q4 q5 q6 (fN 6 a) (fN 0 (fun _ => 0)) (fun _ => none) ++ SW (stZ nb) 6 a ++ LW cy 0 (fun _ => 0) (fun _ => 0) (fun _ => 0) (fun _ => 0)) := by rw [← fN_0 (a := fun _ => 0)]; exact (List.append_nil _).symm
      exact loopB 6 0 a (fun _ => 0) (fun _ => 0) (fun _ => 0) (fun _ => 0) rfl _ _ _ (by rw [← eW]; exact hP) (by rw [← eW]; exact hD) hS hl
    | succ z ih =>
      intro n a hn H locs ls hP hD hS hl
      refine lv_iload_n hx hb dX3_init_60 rfl (lv_at hl 0 rfl) ?_
      refine lv_bipush (v := 6) hx hb dX3_init_61 (by decide) ?_
      refine lv_icmp_ge (tgt := 85) hx hb dX3_init_63 (by decide) (fun h => absurd h (my_ge (k := n) (N := 6) (by omega) (by decide) rfl)) (fun _ => ?_)
      refine lv_aload_n hx hb dX3_init_66 rfl (lv_at hl 1 rfl) ?_
      refine va_get (D := (dC, dI)) (ci := 3) (v := .ref q1) (C := RX3) (T := TX3) (N := 17) hx hb hts inlX3 hown hK hP 0 rfl rfl 10 (by decide) (hts _ mw_41) (fun _ h9 => h9) rfl dX3_init_67 ?_
      refine lv_iload_n hx hb dX3_init_70 rfl (lv_at hl 0 rfl) ?_
      refine va_new (ci := 6) (fs := [.int 0, .int 0, .null, .int 0, .int 0, .int 0, .int 0, .int 0, .int 0, .int 0, .int 0, .int 0, .int 0, .int 0, .int 0]) (C := RX6) (T := TX6) (N := 15) hx hb hts inlX6 tyX6 tyX6_ok hown (hts _ mw_40) (hts _ mw_49) (hts _ mw_50) hK hP hD hS hA rfl (fun j hj => by match j, hj with | 0, _ => rfl | 1, _ => rfl | 2, _ => rfl | 3, _ => rfl | 4, _ => rfl | 5, _ => rfl | 6, _ => rfl | 7, _ => rfl | 8, _ => rfl | 9, _ => rfl | 10, _ => rfl | 11, _ => rfl | 12, _ => rfl | 13, _ => rfl | 14, _ => rfl | (n+15), h => omega) (show 6 + 1 * n + 1 ≤ 66 by omega) (show 82 + 15 * n + 15 ≤ 814 by omega) dX3_init_71 (fun q9 H hP hD hS => ?_)
      have hPc := my_lastP hP
      have hDc := my_lastD hD
      have hFc := my_free hDc hS hA
      refine lv_dup hx hb dX3_init_74 rfl ?_
      refine va_callv (va_runIN (As := []) (rest := [.ref q9, .int (nI n), .ref q1]) ⟨hx, hb, hml, hown, hts⟩ (c_X6_init l dC dI cy nb q9 H.size) ⟨va_cnB 0 hts (gI mw_56) rfl rfl rfl (hE.n43) (hts _ mw_50) (by decide +kernel) ⟨Nat.le_of_ble_eq_true rfl, Nat.le_of_ble_eq_true rfl⟩, rfl, (hts _ mw_55)⟩ (my_preS hPc hK hDc hE hS hFc) rfl rfl hl.1 rfl (lv_room (Nat.le_of_ble_eq_true rfl)) dX3_init_75 ⟨show 6 + 1 * n + 1 + 0 ≤ 66 by omega, show 82 + 15 * n + 15 + 0 ≤ 814 by omega⟩) hS (fun q _ h => hFc q h) hFc (fun u t H1 locs ht hvm hw9 hB hz1 hk1 hS => ?_)
      obtain ⟨hP1, hD1⟩ := hB
      rw [ht] at hP1
      obtain ⟨hP, hD⟩ := my_join hP hD hk1 hFc hP1 hD1
      generalize H1 = H at hP hS ⊢
      clear hP1 hD1 hPc hDc hFc hk1 hz1 hvm ht
      refine va_astq hx hb hK hP hD hS 1 6 ((LH cy h0 q1 q2 q3 q4 q5 q6 (fN (n) a) (fun _ => none) (fun _ => none) ++ SW (stZ nb) (n) a)).length 6 rfl rfl (by rw [List.getElem?_append_right (Nat.le_refl _), Nat.sub_self]; rfl) rfl (vp_in_nI (n := n) (by omega) (by decide)) dX3_init_78 (fun H locs hP hD hS => ?_)
      have eW : (LH cy h0 q1 q2 q3 q4 q5 q6 (va_up (fN n a) ((nI n).toNatClampNeg) (some q9)) (fun _ => none) (fun _ => none) ++ SW (stZ nb) n a ++ [(q9, stZ nb)]) = (LH cy h0 q1 q2 q3 q4 q5 q6 (fN (n + 1) (u1 a n q9)) (fun _ => none) (fun _ => none) ++ SW (stZ nb) (n + 1) (u1 a n q9)) := by rw [fN_step (n := n) (by omega), List.append_assoc, SW_step]
      have hP : va_P (dC, dI) vwCl (LH cy h0 q1 q2 q3 q4 q5 q6 (fN (n + 1) (u1 a n q9)) (fun _ => none) (fun _ => none) ++ SW (stZ nb) (n + 1) (u1 a n q9)) H := by rw [← eW]; exact hP
      have hD : va_D A (LH cy h0 q1 q2 q3 q4 q5 q6 (fN (n + 1) (u1 a n q9)) (fun _ => none) (fun _ => none) ++ SW (stZ nb) (n + 1) (u1 a n q9)) := by rw [← eW]; exact hD
      refine lv_iinc (v := nI (n + 1)) (lv' := [(1, .int (nI (n + 1))), (0, .ref h0)]) hx hb dX3_init_79 hl (k := 0) rfl (nI_1 n) (by decide) rfl (fun ls hl => ?_)
      refine lv_goto (tgt := 60) hx hb dX3_init_82 (by decide) ?_
      refine W.widen (k := 6 + 1 * (n + 1)) (n := 82 + 15 * (n + 1)) (by omega) (by omega) ?_
      exact ih (n + 1) (u1 a n q9) (by omega) _ _ _ hP hD hS hl
  refine lv_iconst (v := 0) hx hb dX3_init_58 (by decide) ?_
  refine lv_istore_n (lv' := [(1, .int 0), (0, .ref h0)]) hx hb dX3_init_59 rfl hl (by decide) rfl (fun ls hl => ?_)
  have eW : LH cy h0 q1 q2 q3 q4 q5 q6 (fun _ => none) (fun _ => none) (fun _ => none) = (LH cy h0 q1 q2 q3 q4 q5 q6 (fN (0) (fun _ => 0)) (fun _ => none) (fun _ => none) ++ SW (stZ nb) (0) (fun _ => 0)) := by rw [← fN_0 (a := fun _ => 0)]; exact (List.append_nil _).symm
  exact loopA 6 0 (fun _ => 0) rfl _ _ _ (by rw [← eW]; exact hP) (by rw [← eW]; exact hD) hS hl
