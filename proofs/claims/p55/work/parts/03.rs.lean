noncomputable abbrev RS : Type := Nat → Nat → Int32
noncomputable def up (u : RS) (k i : Nat) (v : Int32) : RS := fun j => if j = k then upd (u k) i v else u j
noncomputable def ws (u : RS) (k n : Nat) (i v : Int32) : Option RS := if 0 ≤ i.toInt ∧ i.toInt < n then some (up u k i.toNatClampNeg v) else none
noncomputable def rm (x y : Int32) : Option Int32 := if y = 0 then none else some (x - x / y * y)
noncomputable def nz (x : Int32) : Option Int32 := if x = 0 ∨ x = 1 then some x else none
theorem nz_e {x y : Int32} (h : nz x = some y) : x = y := by
  unfold nz at h; split at h
  · exact Option.some.inj h
  · cases h
theorem nz_n {x y : Int32} (h : nz x = some y) : narrow .boolean (.int y) = .int y := by
  have e := nz_e h; subst e
  unfold nz at h; split at h
  · rename_i q; rcases q with rfl | rfl <;> rfl
  · cases h
noncomputable def bt (bs : List Int32) (i : Int32) : Option Int32 := if 0 ≤ i.toInt ∧ i.toInt < bs.length then some (bs.getD i.toNatClampNeg 0) else none
theorem bt_in {bs : List Int32} {i x : Int32} (h : bt bs i = some x) : vp_in i bs.length := by
  unfold bt at h; split at h
  · rename_i q; exact vp_in_iff.mpr q
  · cases h
theorem bt_eq {bs : List Int32} {i x : Int32} (h : bt bs i = some x) : bs.getD i.toNatClampNeg 0 = x := by
  unfold bt at h; split at h
  · exact Option.some.inj h
  · cases h
theorem s1 {α : Type} {a b : α} (h : some a = some b) : a = b := Option.some.inj h
