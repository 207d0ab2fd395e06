/-! what is thrown where one kind alone is caught: a number out of range -/
theorem nd_range {a b c k : Int32} (h : C7_needRange a b c = some (.inl k)) : k = 2 := by
  unfold C7_needRange at h
  split at h
  · exact (Sum.inl.inj (Option.some.inj h)).symm
  · split at h
    · cases h
    · exact (Sum.inl.inj (Option.some.inj h)).symm
theorem tr_2 {α β : Type} {x : Option (Sum Int32 α)} {f : α → Option (Sum Int32 β)} {k : Int32} (h : (x.bind fun t => tr t f) = some (.inl k)) (h1 : ∀ z, x = some (.inl z) → z = 2) (h2 : ∀ a, NI (f a)) : k = 2 := by
  obtain ⟨t, e, h⟩ := ob h
  rcases t with z | z
  · have h3 : some (Sum.inl z) = some (Sum.inl k) := h
    rw [← Sum.inl.inj (Option.some.inj h3)]
    exact h1 z e
  · exact (h2 z k h).elim
theorem L24_r {t4 : CG × RS} {a : Int32} : ∀ (f : Nat) (y : Int32) (u : RS) (r : Sum Int32 (Int32 × CG × RS)), C7_runToLeave_L24 t4 a f y u = some (.inl r) → ∃ q, r = .inr q
  | 0, y, u, r, h => by rw [C7_runToLeave_L24] at h; cases h
  | f + 1, y, u, r, h => by
    rw [C7_runToLeave_L24] at h
    split at h
    · cases h
    · obtain ⟨t20, -, h⟩ := ob h
      split at h
      · exact L24_r f _ _ r h
      · have e := Sum.inl.inj (Option.some.inj h)
        exact ⟨_, e.symm⟩
theorem x2_runToLeave {g : CG} {u : RS} {a1 k : Int32} (h : C7_runToLeave g u a1 = some (.inl k)) : k = 2 := by
  unfold C7_runToLeave at h
  refine tr_2 h (fun z hz => nd_range hz) (fun a9 => NI.b fun t4 => fun k2 h2 => ?_)
  obtain ⟨t12, e, h2⟩ := ob h2
  rcases t12 with r | t16
  · obtain ⟨q, rfl⟩ := L24_r _ _ _ r e
    cases h2
  · cases h2
theorem x2_count {g : CG} {u : RS} {a1 k : Int32} (h : C7_count g u a1 = some (.inl k)) : k = 2 := by
  unfold C7_count at h
  repeat' (split at h)
  all_goals (first | exact (Sum.inl.inj (Option.some.inj h)).symm | cases h)
theorem x2_setting {g : CG} {u : RS} {a1 k : Int32} (h : C7_setting g u a1 = some (.inl k)) : k = 2 := by
  unfold C7_setting at h
  repeat' (split at h)
  all_goals (first | exact (Sum.inl.inj (Option.some.inj h)).symm | cases h)
theorem x2_total {g : CG} {u : RS} {a1 k : Int32} (h : C7_total g u a1 = some (.inl k)) : k = 2 := by
  unfold C7_total at h
  exact tr_2 h (fun z hz => nd_range hz) (fun a9 => by repeat' (first | exact NI.s | refine NI.b fun _ => ?_ | refine NI.i ?_ ?_))
theorem x2_refill {g : CG} {u : RS} {a1 k : Int32} (h : C7_refill g u a1 = some (.inl k)) : k = 2 := by
  unfold C7_refill at h
  exact tr_2 h (fun z hz => nd_range hz) (fun a9 => by repeat' (first | exact NI.s | refine NI.b fun _ => ?_ | refine NI.i ?_ ?_))
theorem x2_setTries {g : CG} {u : RS} {a1 k : Int32} (h : C7_setTries g u a1 = some (.inl k)) : k = 2 := by
  unfold C7_setTries at h
  exact tr_2 h (fun z hz => nd_range hz) (fun a9 => by repeat' (first | exact NI.s | refine NI.b fun _ => ?_ | refine NI.i ?_ ?_))
theorem x2_setTray {g : CG} {u : RS} {a1 k : Int32} (h : C7_setTray g u a1 = some (.inl k)) : k = 2 := by
  unfold C7_setTray at h
  exact tr_2 h (fun z hz => nd_range hz) (fun a9 => by repeat' (first | exact NI.s | refine NI.b fun _ => ?_ | refine NI.i ?_ ?_))
theorem x2_run {g : CG} {u : RS} {a1 k : Int32} (h : C7_run g u a1 = some (.inl k)) : k = 2 := by
  unfold C7_run at h
  exact tr_2 h (fun z hz => nd_range hz) (fun a9 => by repeat' (first | exact NI.s | refine NI.b fun _ => ?_ | refine NI.i ?_ ?_))
theorem x2_leftIn {g : CG} {u : RS} {a1 k : Int32} (h : C7_leftIn g u a1 = some (.inl k)) : k = 2 := by
  unfold C7_leftIn at h
  exact tr_2 h (fun z hz => nd_range hz) (fun a9 => by repeat' (first | exact NI.s | refine NI.b fun _ => ?_ | refine NI.i ?_ ?_))
theorem x2_blanksIn {g : CG} {u : RS} {a1 k : Int32} (h : C7_blanksIn g u a1 = some (.inl k)) : k = 2 := by
  unfold C7_blanksIn at h
  exact tr_2 h (fun z hz => nd_range hz) (fun a9 => by repeat' (first | exact NI.s | refine NI.b fun _ => ?_ | refine NI.i ?_ ?_))
theorem x2_saveSnapshot {g : CG} {u : RS} {a1 k : Int32} (h : C7_saveSnapshot g u a1 = some (.inl k)) : k = 2 := by
  unfold C7_saveSnapshot at h
  exact tr_2 h (fun z hz => nd_range hz) (fun a9 => by repeat' (first | exact NI.s | refine NI.b fun _ => ?_ | refine NI.i ?_ ?_))
theorem x2_restoreSnapshot {g : CG} {u : RS} {a1 k : Int32} (h : C7_restoreSnapshot g u a1 = some (.inl k)) : k = 2 := by
  unfold C7_restoreSnapshot at h
  exact tr_2 h (fun z hz => nd_range hz) (fun a9 => by repeat' (first | exact NI.s | refine NI.b fun _ => ?_ | refine NI.i ?_ ?_))
