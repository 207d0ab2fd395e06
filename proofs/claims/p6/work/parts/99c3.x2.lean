theorem x2_count {g : CG} {u : RS} {a1 k : Int32} (h : C7_count g u a1 = some (.inl k)) : k = 2 := by
  unfold C7_count at h
  repeat' (split at h)
  all_goals (first | exact (Sum.inl.inj (Option.some.inj h)).symm | cases h)
