noncomputable abbrev vwCl : List vw_C := [(RJ0, TJ0, 4), (RJ4, TJ4, 4), (RX1, TX1, 9), (RX3, TX3, 17), (RX4, TX4, 12), (RX5, TX5, 11), (RX6, TX6, 15), (RX7, TX7, 12), (RX8, TX8, 23)]
noncomputable abbrev tyL (cy : Nat → ClassId) : List (ClassId × FieldType) := [(cy 0, .byte), (cy 1, .int), (cy 2, .boolean), (cy 3, .long), (cy 4, .double), (cy 5, .object RX3), (cy 6, .object RX6), (cy 7, .object RX4), (cy 8, .object RX1)]
theorem my_cA {D : va_G} {cl : List vw_C} {tys : List (ClassId × FieldType)} {U : State} {cA cB : ClassId} {ty : FieldType} (h1 : va_K D cl (tys ++ [(cA, ty)]) U) (h2 : va_K D cl tys U) (k : Nat) (hk : tys[k]? = some (cB, ty)) : cA = cB := by
  have e1 := (h1.2 tys.length (cA, ty) (by simp)).2
  have e2 := (h2.2 k (cB, ty) hk).2
  cases ty <;> first | (simp only [va_RA] at e1 e2; rw [e1] at e2; exact Option.some.inj e2) | (obtain ⟨_, _, _, _, _, e1⟩ := e1; obtain ⟨_, _, _, _, _, e2⟩ := e2; rw [e1] at e2; exact Option.some.inj e2)
section MyTop
variable {p : Program} {l : Launch} {e : Env} {R : Room} {s : State} {m : MethodId} {args : Array Value} {below : List Frame} {meth : Method} {c : Code} {H : Heap} {locs : List Loc} {cells slots : Nat} {Q : State → Prop} {pc : Nat} {ls : Array Slot} {rest : List Value}
theorem my_topi {x y : Int32} (h : x = y) (k : W p l e R s m args below meth c H locs cells slots Q (F0 m pc ls (.int y :: rest))) : W p l e R s m args below meth c H locs cells slots Q (F0 m pc ls (.int x :: rest)) := h ▸ k
theorem my_top {x y : Value} (h : x = y) (k : W p l e R s m args below meth c H locs cells slots Q (F0 m pc ls (y :: rest))) : W p l e R s m args below meth c H locs cells slots Q (F0 m pc ls (x :: rest)) := h ▸ k
end MyTop
noncomputable abbrev xI : String := "java/lang/IndexOutOfBoundsException"
noncomputable abbrev xA : String := "java/lang/IllegalArgumentException"
noncomputable abbrev xR : String := "java/lang/RuntimeException"
noncomputable abbrev xE : String := "java/lang/Exception"
noncomputable def GV (U : State) : Prop :=
  (va_Nw (.methodLinkNest RX3 43 yX6_init "CardLine") U ∧ va_Nw (.methodLinkNest RX3 44 yX4_init "CardLine") U ∧ va_Nw (.methodLinkNest RX3 45 yX1_init "CardLine") U ∧ va_Nw (.methodLinkNest RX7 21 yX5_init "CardLine") U ∧ va_Nw (.methodLinkNest RX5 96 yX7_mostPace "CardLine") U ∧ va_Nw (.methodLinkNest RX6 62 yX7_stepsOf "CardLine") U) ∧
  (va_Nw (.fieldLinkNest RX1 9 RX7 "NO_BYTES" "[B" "CardLine") U ∧ va_Nw (.fieldLinkNest RX6 9 RX7 "NO_BYTES" "[B" "CardLine") U ∧ va_Nw (.fieldLinkNest RX5 187 RX7 "NO_BYTES" "[B" "CardLine") U) ∧
  (va_AO RX3 U ∧ va_AO RX6 U ∧ va_AO RX4 U ∧ va_AO RX1 U) ∧
  (va_Nw (.castable xI xI) U ∧ va_Nw (.castable xA xA) U ∧ va_Nc xA xI U ∧ (va_Nw (.declares (Bundle.initS xR)) U ∧ va_Nw (.declares (Bundle.initS xE)) U ∧ va_Nw (.declares (Bundle.initS Bundle.tN)) U)) ∧
  ((∃ q, vk_R RX7 90 "no such station" q U) ∧ (∃ q, vk_R RX7 98 "no such card" q U) ∧ (∃ q, vk_R RX7 103 "no such lot" q U) ∧ (∃ q, vk_R RX7 107 "a number is out of range" q U) ∧ (∃ q, vk_R RX7 116 "what is out of range" q U) ∧ (∃ q, vk_R RX7 266 "index or what is out of range" q U) ∧ (∃ q, vk_R RX7 316 "not two cards of one lot" q U))
theorem GV.warm {s U : State} (hW : s.WarmedH U.vm) (h : GV s) : GV U := by
  obtain ⟨⟨a1, a2, a3, a4, a5, a6⟩, ⟨f1, f2, f3⟩, ⟨b1, b2, b3, b4⟩, ⟨c1, c2, c3, ⟨m1, m2, m3⟩⟩, ⟨⟨q1, d1⟩, ⟨q2, d2⟩, ⟨q3, d3⟩, ⟨q4, d4⟩, ⟨q5, d5⟩, ⟨q6, d6⟩, ⟨q7, d7⟩⟩⟩ := h
  exact ⟨⟨a1.warmM hW, a2.warmM hW, a3.warmM hW, a4.warmM hW, a5.warmM hW, a6.warmM hW⟩, ⟨f1.warmF hW, f2.warmF hW, f3.warmF hW⟩, ⟨b1.moved hW.alike, b2.moved hW.alike, b3.moved hW.alike, b4.moved hW.alike⟩, ⟨c1.warmC hW, c2.warmC hW, c3.moved hW.alike, ⟨m1.warmD hW, m2.warmD hW, m3.warmD hW⟩⟩, ⟨⟨q1, d1.warm hW⟩, ⟨q2, d2.warm hW⟩, ⟨q3, d3.warm hW⟩, ⟨q4, d4.warm hW⟩, ⟨q5, d5.warm hW⟩, ⟨q6, d6.warm hW⟩, ⟨q7, d7.warm hW⟩⟩⟩
noncomputable def swF : Nat → Value := fun j => .int (([1, 2, 3, 4, 0] : List Int32).getD j 0)
noncomputable abbrev xW : List (String × Nat × String × List Int32) := [(RX5, 144, "chip", [99, 104, 105, 112]), (RX5, 150, "stripe", [115, 116, 114, 105, 112, 101]), (RX5, 152, "print", [112, 114, 105, 110, 116]), (RX5, 154, "wheel", [119, 104, 101, 101, 108]), (RX5, 156, "rest", [114, 101, 115, 116]), (RX5, 158, "lot", [108, 111, 116]), (RX5, 160, "card", [99, 97, 114, 100]), (RX5, 162, "line", [108, 105, 110, 101]), (RX8, 143, "line", [108, 105, 110, 101]), (RX8, 169, "chip", [99, 104, 105, 112]), (RX8, 174, "stripe", [115, 116, 114, 105, 112, 101]), (RX8, 176, "print", [112, 114, 105, 110, 116]), (RX8, 178, "wheel", [119, 104, 101, 101, 108]), (RX8, 180, "rest", [114, 101, 115, 116]), (RX8, 185, "lot", [108, 111, 116]), (RX8, 190, "card", [99, 97, 114, 100])]
noncomputable def WH (q v : Nat) (bs : List Int32) (A : Nat → Prop) (U : State) (H : Heap) : Prop := va_O RJ0 q A U H ∧ va_OF RJ0 "coder" "B" (.int 0) q A U H ∧ va_OF RJ0 "value" "[B" (.ref v) q A U H ∧ va_T .byte v bs.length (fun j => .int (bs.getD j 0)) A U H
theorem WH.moved {q v : Nat} {n : List Int32} {A : Nat → Prop} {u U : State} {H : Heap} (hvm : u.vm.Alike U.vm) (h : WH q v n A u H) : WH q v n A U H := by
  obtain ⟨h1, h2, h3, h4⟩ := h
  exact ⟨h1.moved hvm, h2.moved hvm, h3.moved hvm, h4.moved hvm⟩
theorem WH.kept {q v : Nat} {n : List Int32} {A : Nat → Prop} {U : State} {H H1 : Heap} (h : WH q v n A U H) (hq : ∀ a : Nat, a < H.size → ¬ A a → H1[a]? = H[a]?) : WH q v n A U H1 := by
  obtain ⟨h1, h2, h3, h4⟩ := h
  exact ⟨h1.kept hq, h2.kept hq, h3.kept hq, h4.kept hq⟩
theorem WH.narrow {q v : Nat} {n : List Int32} {A B : Nat → Prop} {U : State} {H : Heap} (h : WH q v n A U H) (hAB : ∀ q, B q → A q) : WH q v n B U H := by
  obtain ⟨h1, h2, h3, h4⟩ := h
  exact ⟨h1.narrow hAB, h2.narrow hAB, h3.narrow hAB, h4.narrow hAB⟩
noncomputable abbrev evN : List String := ["CARD_LEFT", "LOT_FINISHED", "ALL_FINISHED", "STATION_FAILED", "STATION_RESTS"]
noncomputable def EVS (nb : Nat → Nat) (A : Nat → Prop) (U : State) (H : Heap) : Prop := ∀ (k : Nat) (n : String), evN[k]? = some n → va_Z RX2 n "LCardLine$Event;" (.ref (nb (40 + k))) A U H ∧ va_O RX2 (nb (40 + k)) A U H ∧ va_OF "java/lang/Enum" "ordinal" "I" (.int (nI k)) (nb (40 + k)) A U H
theorem EVS.moved {nb : Nat → Nat} {A : Nat → Prop} {u U : State} {H : Heap} (h : EVS nb A u H) (hvm : u.vm.Alike U.vm) : EVS nb A U H := fun k n hn => ⟨(h k n hn).1.moved hvm, (h k n hn).2.1.moved hvm, (h k n hn).2.2.moved hvm⟩
theorem EVS.kept {nb : Nat → Nat} {A : Nat → Prop} {U : State} {H H1 : Heap} (h : EVS nb A U H) (hq : ∀ a : Nat, a < H.size → ¬ A a → H1[a]? = H[a]?) : EVS nb A U H1 := fun k n hn => ⟨(h k n hn).1.kept hq, (h k n hn).2.1.kept hq, (h k n hn).2.2.kept hq⟩
theorem EVS.narrow {nb : Nat → Nat} {A B : Nat → Prop} {U : State} {H : Heap} (h : EVS nb A U H) (hAB : ∀ q, B q → A q) : EVS nb B U H := fun k n hn => ⟨(h k n hn).1.narrow hAB, (h k n hn).2.1.narrow hAB, (h k n hn).2.2.narrow hAB⟩
noncomputable def GH (nb : Nat → Nat) (A : Nat → Prop) (U : State) (H : Heap) : Prop :=
  va_Z RX7 "NO_BYTES" "[B" (.ref (nb 0)) A U H ∧ vx_Zq Bundle.tN "UNASSIGNED_STACK" Bundle.steD A U H ∧ vx_Zq Bundle.tN "SUPPRESSED_SENTINEL" Bundle.listD A U H ∧
  (EVS nb A U H ∧ va_Z RX0 "$SwitchMap$CardLine$Event" "[I" (.ref (nb 2)) A U H ∧ va_T .int (nb 2) 5 swF A U H) ∧
  va_Z RJ0 "COMPACT_STRINGS" "Z" (.int 1) A U H ∧ va_Zq "jdk/internal/util/Preconditions" "SIOOBE_FORMATTER" "Ljava/util/function/BiFunction;" A U H ∧ ∀ (k : Nat) (w : String × Nat × String × List Int32), xW[k]? = some w → WH (nb (3 + 2 * k)) (nb (4 + 2 * k)) w.2.2.2 A U H
theorem GH.moved {nb : Nat → Nat} {A : Nat → Prop} {u U : State} {H : Heap} (hvm : u.vm.Alike U.vm) (h : GH nb A u H) : GH nb A U H := by
  obtain ⟨h1, h2, h3, ⟨e1, e4, e5⟩, h4, hv9, h5⟩ := h
  exact ⟨h1.moved hvm, h2.moved hvm, h3.moved hvm, ⟨e1.moved hvm, e4.moved hvm, e5.moved hvm⟩, h4.moved hvm, hv9.moved hvm, fun k w hk => (h5 k w hk).moved hvm⟩
theorem GH.kept {nb : Nat → Nat} {A : Nat → Prop} {U : State} {H H1 : Heap} (h : GH nb A U H) (hq : ∀ a : Nat, a < H.size → ¬ A a → H1[a]? = H[a]?) : GH nb A U H1 := by
  obtain ⟨h1, h2, h3, ⟨e1, e4, e5⟩, h4, hv9, h5⟩ := h
  exact ⟨h1.kept hq, h2.kept hq, h3.kept hq, ⟨e1.kept hq, e4.kept hq, e5.kept hq⟩, h4.kept hq, hv9.kept hq, fun k w hk => (h5 k w hk).kept hq⟩
theorem GH.narrow {nb : Nat → Nat} {A B : Nat → Prop} {U : State} {H : Heap} (h : GH nb A U H) (hAB : ∀ q, B q → A q) : GH nb B U H := by
  obtain ⟨h1, h2, h3, ⟨e1, e4, e5⟩, h4, hv9, h5⟩ := h
  exact ⟨h1.narrow hAB, h2.narrow hAB, h3.narrow hAB, ⟨e1.narrow hAB, e4.narrow hAB, e5.narrow hAB⟩, h4.narrow hAB, hv9.narrow hAB, fun k w hk => (h5 k w hk).narrow hAB⟩
noncomputable def GS (nb : Nat → Nat) (U : State) : Prop := ∀ (k : Nat) (w : String × Nat × String × List Int32), xW[k]? = some w → vk_R w.1 w.2.1 w.2.2.1 (nb (3 + 2 * k)) U
noncomputable def GE (nb : Nat → Nat) (A : Nat → Prop) (U : State) : Prop := GV U ∧ GH nb A U U.heap ∧ GS nb U
theorem GE.calling {nb : Nat → Nat} {A : Nat → Prop} {U : State} {g : JFrame} {mk : MethodId} {a : Array Value} (h : GE nb A U) : GE nb A (U.calling g mk a) := ⟨GV.warm (State.WarmedH.refl U) h.1, GH.moved (Vm.Alike.refl U.vm) h.2.1, fun k w hk => (h.2.2 k w hk).warm (State.WarmedH.refl U)⟩
theorem GE.call {nb : Nat → Nat} {A B : Nat → Prop} {s U : State} {H : Heap} {locs : List Loc} (h : GE nb A s) (hS : va_S A s.heap H locs) (hF : ∀ q, B q → A q) (hU : U.heap = H) (hW : s.WarmedH U.vm) : GE nb B U := by
  refine ⟨h.1.warm hW, ?_, fun k w hk => (h.2.2 k w hk).warm hW⟩
  rw [hU]
  exact ((h.2.1.kept (fun a h1 h2 => hS.2.1 a h1 h2)).narrow hF).moved hW.alike
theorem GE.n43 {nb : Nat → Nat} {A : Nat → Prop} {U : State} (h : GE nb A U) : va_Nw (.methodLinkNest RX3 43 yX6_init "CardLine") U := h.1.1.1
theorem GE.n44 {nb : Nat → Nat} {A : Nat → Prop} {U : State} (h : GE nb A U) : va_Nw (.methodLinkNest RX3 44 yX4_init "CardLine") U := h.1.1.2.1
theorem GE.n45 {nb : Nat → Nat} {A : Nat → Prop} {U : State} (h : GE nb A U) : va_Nw (.methodLinkNest RX3 45 yX1_init "CardLine") U := h.1.1.2.2.1
theorem GE.n21 {nb : Nat → Nat} {A : Nat → Prop} {U : State} (h : GE nb A U) : va_Nw (.methodLinkNest RX7 21 yX5_init "CardLine") U := h.1.1.2.2.2.1
theorem GE.n96 {nb : Nat → Nat} {A : Nat → Prop} {U : State} (h : GE nb A U) : va_Nw (.methodLinkNest RX5 96 yX7_mostPace "CardLine") U := h.1.1.2.2.2.2.1
theorem GE.n62 {nb : Nat → Nat} {A : Nat → Prop} {U : State} (h : GE nb A U) : va_Nw (.methodLinkNest RX6 62 yX7_stepsOf "CardLine") U := h.1.1.2.2.2.2.2
theorem GE.o3 {nb : Nat → Nat} {A : Nat → Prop} {U : State} (h : GE nb A U) : va_AO RX3 U := h.1.2.2.1.1
theorem GE.o6 {nb : Nat → Nat} {A : Nat → Prop} {U : State} (h : GE nb A U) : va_AO RX6 U := h.1.2.2.1.2.1
theorem GE.o4 {nb : Nat → Nat} {A : Nat → Prop} {U : State} (h : GE nb A U) : va_AO RX4 U := h.1.2.2.1.2.2.1
theorem GE.o1 {nb : Nat → Nat} {A : Nat → Prop} {U : State} (h : GE nb A U) : va_AO RX1 U := h.1.2.2.1.2.2.2
theorem GE.nb {nb : Nat → Nat} {A : Nat → Prop} {U : State} (h : GE nb A U) : va_Z RX7 "NO_BYTES" "[B" (.ref (nb 0)) A U U.heap := h.2.1.1
theorem GE.dc {nb : Nat → Nat} {A : Nat → Prop} {U : State} (h : GE nb A U) : va_Nw (.declares (Bundle.initS xR)) U ∧ va_Nw (.declares (Bundle.initS xE)) U ∧ va_Nw (.declares (Bundle.initS Bundle.tN)) U := h.1.2.2.2.1.2.2.2
noncomputable abbrev xB (X : String) : List Cond := [Cond.castable X X, Cond.declares (Bundle.initS xR), Cond.declares (Bundle.initS xE), Cond.declares (Bundle.initS Bundle.tN)]
theorem my_hat {args : Array Value} {s : State} {own : String} {ic : Nat} {X : String} (h1 : ∀ w ∈ (vx_atS own ic X ["java/lang/RuntimeException", "java/lang/Exception"]).filter goodWord, w.before args s = true) (h2 : ((vx_atS own ic X ["java/lang/RuntimeException", "java/lang/Exception"]).filter (fun w => !goodWord w)).all (fun w => decide (w ∈ xB X)) = true) (h3 : va_Nw (.castable X X) s) (h4 : va_Nw (.declares (Bundle.initS xR)) s ∧ va_Nw (.declares (Bundle.initS xE)) s ∧ va_Nw (.declares (Bundle.initS Bundle.tN)) s) : ∀ w ∈ vx_atS own ic X ["java/lang/RuntimeException", "java/lang/Exception"], w.before args s = true :=
  vx_hat (B := xB X) h1 (fun w hw => of_decide_eq_true (List.all_eq_true.mp h2 w hw)) (vx_c (va_Nw.use rfl h3) (vx_c (va_Nw.use rfl h4.1) (vx_c (va_Nw.use rfl h4.2.1) (vx_c (va_Nw.use rfl h4.2.2) vx_n))))
set_option maxRecDepth 20000 in
theorem my_atI : ((vx_atS RX7 92 xI ["java/lang/RuntimeException", "java/lang/Exception"]).filter (fun w => !goodWord w)).all (fun w => decide (w ∈ xB xI)) = true := by decide +kernel
set_option maxRecDepth 20000 in
theorem my_atA : ((vx_atS RX7 109 xA ["java/lang/RuntimeException", "java/lang/Exception"]).filter (fun w => !goodWord w)).all (fun w => decide (w ∈ xB xA)) = true := by decide +kernel
theorem GE.f1 {nb : Nat → Nat} {A : Nat → Prop} {U : State} (h : GE nb A U) : va_Nw (.fieldLinkNest RX1 9 RX7 "NO_BYTES" "[B" "CardLine") U := h.1.2.1.1
theorem GE.f6 {nb : Nat → Nat} {A : Nat → Prop} {U : State} (h : GE nb A U) : va_Nw (.fieldLinkNest RX6 9 RX7 "NO_BYTES" "[B" "CardLine") U := h.1.2.1.2.1
theorem GE.f5 {nb : Nat → Nat} {A : Nat → Prop} {U : State} (h : GE nb A U) : va_Nw (.fieldLinkNest RX5 187 RX7 "NO_BYTES" "[B" "CardLine") U := h.1.2.1.2.2
theorem GE.cI {nb : Nat → Nat} {A : Nat → Prop} {U : State} (h : GE nb A U) : va_Nw (.castable xI xI) U := h.1.2.2.2.1.1
theorem GE.cA {nb : Nat → Nat} {A : Nat → Prop} {U : State} (h : GE nb A U) : va_Nw (.castable xA xA) U := h.1.2.2.2.1.2.1
theorem GE.nc {nb : Nat → Nat} {A : Nat → Prop} {U : State} (h : GE nb A U) : va_Nc xA xI U := h.1.2.2.2.1.2.2.1
theorem GE.t90 {nb : Nat → Nat} {A : Nat → Prop} {U : State} (h : GE nb A U) : ∃ q, vk_R RX7 90 "no such station" q U := h.1.2.2.2.2.1
theorem GE.t98 {nb : Nat → Nat} {A : Nat → Prop} {U : State} (h : GE nb A U) : ∃ q, vk_R RX7 98 "no such card" q U := h.1.2.2.2.2.2.1
theorem GE.t103 {nb : Nat → Nat} {A : Nat → Prop} {U : State} (h : GE nb A U) : ∃ q, vk_R RX7 103 "no such lot" q U := h.1.2.2.2.2.2.2.1
theorem GE.t107 {nb : Nat → Nat} {A : Nat → Prop} {U : State} (h : GE nb A U) : ∃ q, vk_R RX7 107 "a number is out of range" q U := h.1.2.2.2.2.2.2.2.1
theorem GE.t116 {nb : Nat → Nat} {A : Nat → Prop} {U : State} (h : GE nb A U) : ∃ q, vk_R RX7 116 "what is out of range" q U := h.1.2.2.2.2.2.2.2.2.1
theorem GE.zU {nb : Nat → Nat} {A : Nat → Prop} {U : State} (h : GE nb A U) : vx_Zq Bundle.tN "UNASSIGNED_STACK" Bundle.steD A U U.heap := h.2.1.2.1
theorem GE.zN {nb : Nat → Nat} {A : Nat → Prop} {U : State} (h : GE nb A U) : vx_Zq Bundle.tN "SUPPRESSED_SENTINEL" Bundle.listD A U U.heap := h.2.1.2.2.1
theorem GE.evt {nb : Nat → Nat} {A : Nat → Prop} {U : State} (h : GE nb A U) : va_Z RX0 "$SwitchMap$CardLine$Event" "[I" (.ref (nb 2)) A U U.heap ∧ va_T .int (nb 2) 5 swF A U U.heap := h.2.1.2.2.2.1.2
theorem GE.evk {nb : Nat → Nat} {A : Nat → Prop} {U : State} (h : GE nb A U) (k : Nat) {n : String} (hn : evN[k]? = some n) : va_Z RX2 n "LCardLine$Event;" (.ref (nb (40 + k))) A U U.heap ∧ va_O RX2 (nb (40 + k)) A U U.heap ∧ va_OF "java/lang/Enum" "ordinal" "I" (.int (nI k)) (nb (40 + k)) A U U.heap := h.2.1.2.2.2.1.1 k n hn
theorem GE.t266 {nb : Nat → Nat} {A : Nat → Prop} {U : State} (h : GE nb A U) : ∃ q, vk_R RX7 266 "index or what is out of range" q U := h.1.2.2.2.2.2.2.2.2.2.1
theorem GE.t316 {nb : Nat → Nat} {A : Nat → Prop} {U : State} (h : GE nb A U) : ∃ q, vk_R RX7 316 "not two cards of one lot" q U := h.1.2.2.2.2.2.2.2.2.2.2
theorem GE.cs {nb : Nat → Nat} {A : Nat → Prop} {U : State} (h : GE nb A U) : va_Z RJ0 "COMPACT_STRINGS" "Z" (.int 1) A U U.heap := h.2.1.2.2.2.2.1
theorem GE.wh {nb : Nat → Nat} {A : Nat → Prop} {U : State} (h : GE nb A U) (k : Nat) {w : String × Nat × String × List Int32} (hk : xW[k]? = some w) : WH (nb (3 + 2 * k)) (nb (4 + 2 * k)) w.2.2.2 A U U.heap := h.2.1.2.2.2.2.2.2 k w hk
theorem GE.wr {nb : Nat → Nat} {A : Nat → Prop} {U : State} (h : GE nb A U) (k : Nat) {w : String × Nat × String × List Int32} (hk : xW[k]? = some w) : vk_R w.1 w.2.1 w.2.2.1 (nb (3 + 2 * k)) U := h.2.2 k w hk
theorem my_Q {p : Program} {l : Launch} {e : Env} {R : Room} {s : State} {m : MethodId} {args : Array Value} {below : List Frame} {meth : Method} {c : Code} {H : Heap} {locs : List Loc} {cells slots : Nat} {Q : State → Prop} {g : JFrame} (k : ∀ Q' : State → Prop, Q' = Q → W p l e R s m args below meth c H locs cells slots Q' g) : W p l e R s m args below meth c H locs cells slots Q g := k Q rfl
theorem my_ge {k N : Nat} {M : Int32} (h : k < N) (hN : N < 2 ^ 31) (hM : M = nI N) : ¬ M ≤ nI k := by rw [hM]; exact nI_ge h hN
theorem my_cmp_lt {x y : Int64} : lg_cmp x y < 0 ↔ x < y := by
  unfold lg_cmp
  by_cases h1 : y < x
  · rw [if_pos h1]; exact ⟨fun h => absurd h (by decide), fun h => absurd h (by simp only [Int64.lt_iff_toInt_lt] at *; omega)⟩
  · rw [if_neg h1]
    by_cases h2 : x = y
    · rw [if_pos h2]; exact ⟨fun h => absurd h (by decide), fun h => absurd h (by rw [h2]; simp only [Int64.lt_iff_toInt_lt] at *; omega)⟩
    · rw [if_neg h2]; refine ⟨fun _ => ?_, fun _ => by decide⟩
      have h3 : ¬ x.toInt = y.toInt := fun e => h2 (Int64.toInt_inj.mp e)
      simp only [Int64.lt_iff_toInt_lt] at *
      omega
theorem my_cmp_gt {x y : Int64} : 0 < lg_cmp x y ↔ y < x := by
  unfold lg_cmp
  by_cases h1 : y < x
  · rw [if_pos h1]; exact ⟨fun _ => h1, fun _ => by decide⟩
  · rw [if_neg h1]
    by_cases h2 : x = y
    · rw [if_pos h2]; exact ⟨fun h => absurd h (by decide), fun h => absurd h h1⟩
    · rw [if_neg h2]; exact ⟨fun h => absurd h (by decide), fun h => absurd h h1⟩
theorem GE.fm {nb : Nat → Nat} {A : Nat → Prop} {U : State} (h : GE nb A U) : va_Zq "jdk/internal/util/Preconditions" "SIOOBE_FORMATTER" "Ljava/util/function/BiFunction;" A U U.heap := h.2.1.2.2.2.2.2.1
