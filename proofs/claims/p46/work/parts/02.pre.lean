theorem my_preS {nb : Nat → Nat} {D : va_G} {cl : List vw_C} {tys : List (ClassId × FieldType)} {W : va_W} {A0 A : Nat → Prop} {s : State} {H : Heap} {locs : List Loc} {av : List Value} (hP : va_P D cl W H) (hK : va_K D cl tys s) (hD : va_D A0 W) (hE : GE nb A s) (hS : va_S A s.heap H locs) (hF : ∀ q, va_A W H.size q → A q) : PreS s H (va_Pc av (fun U => U.heap.size = H.size ∧ va_P D cl W U.heap ∧ va_K D cl tys U ∧ va_D (fun _ => True) W ∧ GE nb (va_A W H.size) U)) av :=
  ⟨fun a U g mk q => by obtain ⟨q0, q1, qP, qK, qD, qE⟩ := q; exact ⟨q0, q1, qP, va_K.moved (u := U) (U := U.calling g mk a) (Vm.Alike.refl U.vm) qK, qD, GE.calling qE⟩, fun U hU hW => ⟨rfl, by rw [hU], by rw [hU]; exact hP, va_K.moved hW.alike hK, hD.weaken (fun _ _ _ _ => trivial), GE.call hE hS hF hU hW⟩⟩
theorem my_preV {nb : Nat → Nat} {D : va_G} {cl : List vw_C} {tys : List (ClassId × FieldType)} {W : va_W} {A0 A : Nat → Prop} {s : State} {H : Heap} {locs : List Loc} {As : List Value} {C : String} {b : Nat} (hP : va_P D cl W H) (hK : va_K D cl tys s) (hD : va_D A0 W) (hE : GE nb A s) (hS : va_S A s.heap H locs) (hF : ∀ q, va_A W H.size q → A q) (hr : ∃ cell : Cell, H[b]? = some cell ∧ cell.vm.isStatics = false ∧ s.vm.findClass C = some cell.cls) : PreV s H C b (va_Pc (.ref b :: As) (fun U => U.heap.size = H.size ∧ va_P D cl W U.heap ∧ va_K D cl tys U ∧ va_D (fun _ => True) W ∧ GE nb (va_A W H.size) U)) As :=
  ⟨fun a U g mk q => by obtain ⟨q0, q1, qP, qK, qD, qE⟩ := q; exact ⟨q0, q1, qP, va_K.moved (u := U) (U := U.calling g mk a) (Vm.Alike.refl U.vm) qK, qD, GE.calling qE⟩, hr, fun U hU hW => ⟨rfl, by rw [hU], by rw [hU]; exact hP, va_K.moved hW.alike hK, hD.weaken (fun _ _ _ _ => trivial), GE.call hE hS hF hU hW⟩⟩
noncomputable abbrev eL (cy : Nat → ClassId) (f : Nat → Int64) : va_E := .inl (cy 3, 1, .inr (.inl f))
noncomputable abbrev eD (cy : Nat → ClassId) (f : Nat → UInt64) : va_E := .inl (cy 4, 1, .inr (.inr (.inr (.inl f))))
theorem my_free {A0 : Nat → Prop} {ws : va_W} {H0 H : Heap} {locs : List Loc} (hD : va_D A0 ws) (hS : va_S A0 H0 H locs) (hA : ∀ q, H0.size ≤ q → A0 q) : ∀ q, va_A ws H.size q → A0 q := by
  intro q h
  rcases h with ⟨k, e, h⟩ | h
  · exact hD.2 k (q, e) h
  · exact hA q (Nat.le_trans hS.1 h)
theorem my_keep {D : va_G} {cl : List vw_C} {ws : va_W} {H H1 : Heap} (hP : va_P D cl ws H) (hk : ∀ q : Nat, q < H.size → ¬ va_A ([] : va_W) H.size q → H1[q]? = H[q]?) : va_P D cl ws H1 := fun k q hq => by
  have hl := (hP k q hq).lt
  refine (hP k q hq).kept (hk q.1 hl ?_)
  intro h
  rcases h with ⟨k, e, h⟩ | h
  · cases h
  · omega
theorem pn_J0 : plainName RJ0 = true := by decide
theorem pn_J1 : plainName RJ1 = true := by decide
theorem pn_J3 : plainName RJ3 = true := by decide
theorem pn_J7 : plainName RJ7 = true := by decide
theorem pn_Jx29ce0 : plainName RJx29ce0 = true := by decide
theorem pn_L : plainName RL = true := by decide
theorem pn_X1 : plainName RX1 = true := by decide
theorem pn_X3 : plainName RX3 = true := by decide
theorem pn_X4 : plainName RX4 = true := by decide
theorem pn_X5 : plainName RX5 = true := by decide
theorem pn_X6 : plainName RX6 = true := by decide
theorem pn_X7 : plainName RX7 = true := by decide
theorem pn_X8 : plainName RX8 = true := by decide
theorem mL {w a b : Jvm.Cond} (h : w ∈ flatC a) : w ∈ flatC (Jvm.Cond.and a b) := List.mem_append_left _ h
theorem mR {w a b : Jvm.Cond} (h : w ∈ flatC b) : w ∈ flatC (Jvm.Cond.and a b) := List.mem_append_right _ h
noncomputable abbrev eO (k : Nat) (l : List Value) : va_E := .inr (k, l)
noncomputable abbrev eI (cy : Nat → ClassId) (k n : Nat) (f : Nat → Int32) : va_E := .inl (cy k, n, .inl f)
