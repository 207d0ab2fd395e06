noncomputable abbrev RS : Type := Nat → Nat → Int32
noncomputable def up (u : RS) (k i : Nat) (v : Int32) : RS := fun j => if j = k then upd (u k) i v else u j
noncomputable def ws (u : RS) (k n : Nat) (i v : Int32) : Option RS := if 0 ≤ i.toInt ∧ i.toInt < n then some (up u k i.toNatClampNeg v) else none
noncomputable def dv (x y : Int32) : Option Int32 := if y = 0 then none else some (x / y)
noncomputable def rm (x y : Int32) : Option Int32 := if y = 0 then none else some (x - x / y * y)
theorem dv_ne {x y z : Int32} (h : dv x y = some z) : ¬ y = 0 := by unfold dv at h; intro e; rw [if_pos e] at h; cases h
theorem dv_eq {x y z : Int32} (h : dv x y = some z) : x / y = z := by have e := dv_ne h; unfold dv at h; rw [if_neg e] at h; exact Option.some.inj h
theorem rm_ne {x y z : Int32} (h : rm x y = some z) : ¬ y = 0 := by unfold rm at h; intro e; rw [if_pos e] at h; cases h
theorem rm_eq {x y z : Int32} (h : rm x y = some z) : x - x / y * y = z := by have e := rm_ne h; unfold rm at h; rw [if_neg e] at h; exact Option.some.inj h
noncomputable def nz (x : Int32) : Option Int32 := if x = 0 ∨ x = 1 then some x else none
theorem nz_e {x y : Int32} (h : nz x = some y) : x = y := by
  unfold nz at h; split at h
  · exact Option.some.inj h
  · cases h
theorem nz_n {x y : Int32} (h : nz x = some y) : narrow .boolean (.int y) = .int y := by
  have e := nz_e h; subst e
  unfold nz at h; split at h
  · rename_i q; rcases q with rfl | rfl <;> rfl
  · cases h
noncomputable def nc (x : Int32) : Option Int32 := if narrow .char (.int x) = .int x then some x else none
theorem nc_e {x y : Int32} (h : nc x = some y) : x = y := by
  unfold nc at h; split at h
  · exact Option.some.inj h
  · cases h
theorem nc_n {x y : Int32} (h : nc x = some y) : narrow .char (.int y) = .int y := by
  have e := nc_e h; subst e
  unfold nc at h; split at h
  · assumption
  · cases h
noncomputable def bt (bs : List Int32) (i : Int32) : Option Int32 := if 0 ≤ i.toInt ∧ i.toInt < bs.length then some (bs.getD i.toNatClampNeg 0) else none
theorem bt_in {bs : List Int32} {i x : Int32} (h : bt bs i = some x) : vp_in i bs.length := by
  unfold bt at h; split at h
  · rename_i q; exact vp_in_iff.mpr q
  · cases h
theorem bt_eq {bs : List Int32} {i x : Int32} (h : bt bs i = some x) : bs.getD i.toNatClampNeg 0 = x := by
  unfold bt at h; split at h
  · exact Option.some.inj h
  · cases h
theorem s1 {α : Type} {a b : α} (h : some a = some b) : a = b := Option.some.inj h
noncomputable def FUEL : Nat := 10000
