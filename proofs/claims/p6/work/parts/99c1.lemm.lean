noncomputable def NI {α : Type} (x : Option (Sum Int32 α)) : Prop := ∀ k : Int32, ¬ x = some (.inl k)
theorem NI.b {α β : Type} {x : Option α} {f : α → Option (Sum Int32 β)} (h : ∀ a, NI (f a)) : NI (x.bind f) := fun k e => by
  obtain ⟨a, -, e⟩ := ob e
  exact h a k e
theorem NI.i {α : Type} {c : Prop} [Decidable c] {x y : Option (Sum Int32 α)} (h1 : NI x) (h2 : NI y) : NI (if c then x else y) := fun k e => by
  split at e
  · exact h1 k e
  · exact h2 k e
theorem NI.s {α : Type} {y : α} : NI (some (Sum.inr y) : Option (Sum Int32 α)) := fun k e => by cases e
theorem NI.no {α : Type} {x : Option (Sum Int32 α)} {k : Int32} {P : Prop} (hn : NI x) (h : x = some (.inl k)) : P := (hn k h).elim
theorem x1_letter {g : CG} {u : RS} {a1 a2 k : Int32} (h : C7_letter g u a1 a2 = some (.inl k)) : k = 1 := by
  unfold C7_letter at h
  refine tr_1 h (fun z hz => nd_card hz) (fun a9 h => ?_)
  exact NI.no (by repeat' (first | exact NI.s | refine NI.b fun _ => ?_ | refine NI.i ?_ ?_)) h
theorem x1_cardOf {g : CG} {u : RS} {a1 a2 k : Int32} (h : C7_cardOf g u a1 a2 = some (.inl k)) : k = 1 := by
  unfold C7_cardOf at h
  refine tr_1 h (fun z hz => nd_lot hz) (fun a9 h => ?_)
  exact NI.no (by repeat' (first | exact NI.s | refine NI.b fun _ => ?_ | refine NI.i ?_ ?_)) h
theorem x1_ticksFor {g : CG} {u : RS} {a1 a2 k : Int32} (h : C7_ticksFor g u a1 a2 = some (.inl k)) : k = 1 := by
  unfold C7_ticksFor at h
  refine tr_1 h (fun z hz => nd_station hz) (fun a9 h => ?_)
  refine tr_1 h (fun z hz => nd_card hz) (fun a8 h => ?_)
  exact NI.no (by repeat' (first | exact NI.s | refine NI.b fun _ => ?_ | refine NI.i ?_ ?_)) h
theorem x1_busyPart {g : CG} {u : RS} {a1 k : Int32} (h : C7_busyPart g u a1 = some (.inl k)) : k = 1 := by
  unfold C7_busyPart at h
  refine tr_1 h (fun z hz => nd_station hz) (fun a9 h => ?_)
  exact NI.no (by repeat' (first | exact NI.s | refine NI.b fun _ => ?_ | refine NI.i ?_ ?_)) h
theorem x1_order {g : CG} {u : RS} {a1 k : Int32} (h : C7_order g u a1 = some (.inl k)) : k = 1 := by
  unfold C7_order at h
  refine tr_1 h (fun z hz => nd_lot hz) (fun a9 h => ?_)
  exact NI.no (by repeat' (first | exact NI.s | refine NI.b fun _ => ?_ | refine NI.i ?_ ?_)) h
theorem x1_giveUp {g : CG} {u : RS} {a1 k : Int32} (h : C7_giveUp g u a1 = some (.inl k)) : k = 1 := by
  unfold C7_giveUp at h
  refine tr_1 h (fun z hz => nd_card hz) (fun a9 h => ?_)
  exact NI.no (by repeat' (first | exact NI.s | refine NI.b fun _ => ?_ | refine NI.i ?_ ?_)) h
theorem x1_stop {g : CG} {u : RS} {a1 a2 k : Int32} (h : C7_stop g u a1 a2 = some (.inl k)) : k = 1 := by
  unfold C7_stop at h
  refine tr_1 h (fun z hz => nd_station hz) (fun a9 h => ?_)
  exact NI.no (by repeat' (first | exact NI.s | refine NI.b fun _ => ?_ | refine NI.i ?_ ?_)) h
theorem x1_rush {g : CG} {u : RS} {a1 k : Int32} (h : C7_rush g u a1 = some (.inl k)) : k = 1 := by
  unfold C7_rush at h
  refine tr_1 h (fun z hz => nd_card hz) (fun a9 h => ?_)
  exact NI.no (by repeat' (first | exact NI.s | refine NI.b fun _ => ?_ | refine NI.i ?_ ?_)) h
theorem x1_leavesIn {g : CG} {u : RS} {a1 k : Int32} (h : C7_leavesIn g u a1 = some (.inl k)) : k = 1 := by
  unfold C7_leavesIn at h
  refine tr_1 h (fun z hz => nd_card hz) (fun a9 h => ?_)
  exact NI.no (by repeat' (first | exact NI.s | refine NI.b fun _ => ?_ | refine NI.i ?_ ?_)) h
theorem x1_lotIn {g : CG} {u : RS} {a1 k : Int32} (h : C7_lotIn g u a1 = some (.inl k)) : k = 1 := by
  unfold C7_lotIn at h
  refine tr_1 h (fun z hz => nd_lot hz) (fun a9 h => ?_)
  exact NI.no (by repeat' (first | exact NI.s | refine NI.b fun _ => ?_ | refine NI.i ?_ ?_)) h
theorem x1_failIn {g : CG} {u : RS} {a1 k : Int32} (h : C7_failIn g u a1 = some (.inl k)) : k = 1 := by
  unfold C7_failIn at h
  refine tr_1 h (fun z hz => nd_station hz) (fun a9 h => ?_)
  exact NI.no (by repeat' (first | exact NI.s | refine NI.b fun _ => ?_ | refine NI.i ?_ ?_)) h
theorem x1_restIn {g : CG} {u : RS} {a1 k : Int32} (h : C7_restIn g u a1 = some (.inl k)) : k = 1 := by
  unfold C7_restIn at h
  refine tr_1 h (fun z hz => nd_station hz) (fun a9 h => ?_)
  exact NI.no (by repeat' (first | exact NI.s | refine NI.b fun _ => ?_ | refine NI.i ?_ ?_)) h
theorem x1_bestRank {g : CG} {u : RS} {a1 k : Int32} (h : C7_bestRank g u a1 = some (.inl k)) : k = 1 := by
  unfold C7_bestRank at h
  refine tr_1 h (fun z hz => nd_lot hz) (fun a9 h => ?_)
  exact NI.no (by repeat' (first | exact NI.s | refine NI.b fun _ => ?_ | refine NI.i ?_ ?_)) h
theorem x1_writeCard {g : CG} {u : RS} {a1 k : Int32} (h : C7_writeCard g u a1 = some (.inl k)) : k = 1 := by
  unfold C7_writeCard at h
  refine tr_1 h (fun z hz => nd_card hz) (fun a9 h => ?_)
  exact NI.no (by repeat' (first | exact NI.s | refine NI.b fun _ => ?_ | refine NI.i ?_ ?_)) h
