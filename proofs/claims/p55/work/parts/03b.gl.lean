noncomputable abbrev xL : List (String × Nat × String × List Int32) := [(RL, 48, " ", [32]), (RL, 50, "", []), (RL, 55, "2(", [50, 40]), (RL, 57, ")", [41]), (RL, 76, "( ", [40, 32]), (RL, 78, " (", [32, 40]), (RL, 99, "line ", [108, 105, 110, 101, 32]), (RL, 101, ";chip ", [59, 99, 104, 105, 112, 32]), (RL, 103, "; stripe ", [59, 32, 115, 116, 114, 105, 112, 101, 32]), (RL, 105, " ;print ", [32, 59, 112, 114, 105, 110, 116, 32]), (RL, 107, ";wheel ", [59, 119, 104, 101, 101, 108, 32]), (RL, 138, ";rest ", [59, 114, 101, 115, 116, 32]), (RL, 149, ";lot ", [59, 108, 111, 116, 32]), (RL, 156, ";card ", [59, 99, 97, 114, 100, 32]), (RL, 353, " 2(", [32, 50, 40]), (RL, 355, "b", [98]), (RL, 357, " )", [32, 41])]
noncomputable abbrev dgO : List Int32 := [48, 49, 50, 51, 52, 53, 54, 55, 56, 57, 48, 49, 50, 51, 52, 53, 54, 55, 56, 57, 48, 49, 50, 51, 52, 53, 54, 55, 56, 57, 48, 49, 50, 51, 52, 53, 54, 55, 56, 57, 48, 49, 50, 51, 52, 53, 54, 55, 56, 57, 48, 49, 50, 51, 52, 53, 54, 55, 56, 57, 48, 49, 50, 51, 52, 53, 54, 55, 56, 57, 48, 49, 50, 51, 52, 53, 54, 55, 56, 57, 48, 49, 50, 51, 52, 53, 54, 55, 56, 57, 48, 49, 50, 51, 52, 53, 54, 55, 56, 57]
noncomputable abbrev dgT : List Int32 := [48, 48, 48, 48, 48, 48, 48, 48, 48, 48, 49, 49, 49, 49, 49, 49, 49, 49, 49, 49, 50, 50, 50, 50, 50, 50, 50, 50, 50, 50, 51, 51, 51, 51, 51, 51, 51, 51, 51, 51, 52, 52, 52, 52, 52, 52, 52, 52, 52, 52, 53, 53, 53, 53, 53, 53, 53, 53, 53, 53, 54, 54, 54, 54, 54, 54, 54, 54, 54, 54, 55, 55, 55, 55, 55, 55, 55, 55, 55, 55, 56, 56, 56, 56, 56, 56, 56, 56, 56, 56, 57, 57, 57, 57, 57, 57, 57, 57, 57, 57]
noncomputable def GW (U : State) : Prop := va_Nw (.fieldLinkNest RJx35411 28 "java/util/ArrayList" "size" "I" "java/util/ArrayList") U ∧ va_Nw (.methodLinkNest RL 82 yX9_init "CardLineLaw") U ∧ va_AO "java/lang/Object" U ∧ va_AO "java/lang/String" U ∧ va_Nw (.castable RJ4 "java/lang/AbstractStringBuilder") U ∧ va_Nw (.castable "[B" "java/lang/Cloneable") U ∧ va_Nw (.castable "[I" "java/lang/Cloneable") U ∧ va_Nc RJ4 "java/lang/String" U ∧ va_Fw RJx4a65c ⟨"java/util/Collection", "toArray", "()[Ljava/lang/Object;"⟩ yJx4a65c_toArray_d5877 U ∧ va_Fw RJx35411 ⟨"java/util/Iterator", "hasNext", "()Z"⟩ yJx35411_hasNext_aae02 U ∧ va_Fw RJx35411 ⟨"java/util/Iterator", "next", "()Ljava/lang/Object;"⟩ yJx35411_next_0502b U ∧ va_Nw (.declares ⟨"java/lang/Object", "toString", "()Ljava/lang/String;"⟩) U ∧ va_Nw (.castable RX8 "java/lang/Object") U ∧ va_Nw (.castable RX9 "java/lang/Object") U ∧ va_Nw (.castable RX10 "java/lang/Object") U ∧ va_Nw (.castable "java/lang/Integer" "java/lang/Object") U ∧ va_Nw (.castable "[I" "java/lang/Object") U ∧ va_Dc U
theorem GW.warm {s U : State} (hW : s.WarmedH U.vm) (h : GW s) : GW U := by
  obtain ⟨h0, h1, h2, h3, h4, h5, h6, h7, h8, h9, h10, h11, h12, h13, h14, h15, h16, h17⟩ := h
  exact ⟨h0.warmF hW, h1.warmM hW, h2.moved hW.alike, h3.moved hW.alike, h4.warmC hW, h5.warmC hW, h6.warmC hW, h7.moved hW.alike, h8.moved (by decide) hW.alike, h9.moved (by decide) hW.alike, h10.moved (by decide) hW.alike, h11.warmD hW, h12.warmC hW, h13.warmC hW, h14.warmC hW, h15.warmC hW, h16.warmC hW, h17.moved hW.alike⟩
noncomputable def GJ (nb : Nat → Nat) (A : Nat → Prop) (U : State) (H : Heap) : Prop :=
  va_Z "java/lang/Integer$IntegerCache" "high" "I" (.int 127) A U H ∧ (va_Z "java/util/ArrayList" "DEFAULTCAPACITY_EMPTY_ELEMENTDATA" "[Ljava/lang/Object;" (.ref (nb 1990)) A U H ∧ va_T (.object "java/lang/Object") (nb 1990) 0 (fun _ => .null) A U H ∧ va_O "[Ljava/lang/Object;" (nb 1990) A U H) ∧
  (va_Z "java/lang/Integer" "DigitOnes" "[B" (.ref (nb 1991)) A U H ∧ va_T .byte (nb 1991) 100 (fun j => .int (dgO.getD j 0)) A U H) ∧ (va_Z "java/lang/Integer" "DigitTens" "[B" (.ref (nb 1992)) A U H ∧ va_T .byte (nb 1992) 100 (fun j => .int (dgT.getD j 0)) A U H) ∧
  (va_Z "java/lang/Integer$IntegerCache" "cache" "[Ljava/lang/Integer;" (.ref (nb 2000)) A U H ∧ va_T (.object "java/lang/Integer") (nb 2000) 256 (fun j => .ref (nb (2100 + j))) A U H ∧ vb_C (fun j => nb (2100 + j)) A U H) ∧
  (va_Z "java/lang/Character$CharacterCache" "cache" "[Ljava/lang/Character;" (.ref (nb 2400)) A U H ∧ va_T (.object "java/lang/Character") (nb 2400) 128 (fun j => .ref (nb (2500 + j))) A U H ∧ ∀ k : Nat, k < 128 → va_O "java/lang/Character" (nb (2500 + k)) A U H ∧ va_OF "java/lang/Character" "value" "C" (.int (nI k)) (nb (2500 + k)) A U H) ∧
  (True) ∧
  ∀ (k : Nat) (w : String × Nat × String × List Int32), xL[k]? = some w → WH (nb (1000 + 2 * k)) (nb (1001 + 2 * k)) w.2.2.2 A U H
theorem GJ.moved {nb : Nat → Nat} {A : Nat → Prop} {u U : State} {H : Heap} (hvm : u.vm.Alike U.vm) (h : GJ nb A u H) : GJ nb A U H := by
  obtain ⟨h1, ⟨a1, a2, a3⟩, ⟨b1, b2⟩, ⟨c1, c2⟩, ⟨d1, d2, d3⟩, ⟨e1, e2, e3⟩, -, h9⟩ := h
  exact ⟨h1.moved hvm, ⟨a1.moved hvm, a2.moved hvm, a3.moved hvm⟩, ⟨b1.moved hvm, b2.moved hvm⟩, ⟨c1.moved hvm, c2.moved hvm⟩, ⟨d1.moved hvm, d2.moved hvm, d3.moved hvm⟩, ⟨e1.moved hvm, e2.moved hvm, fun k hk => ⟨(e3 k hk).1.moved hvm, (e3 k hk).2.moved hvm⟩⟩, trivial, fun k w hk => (h9 k w hk).moved hvm⟩
theorem GJ.kept {nb : Nat → Nat} {A : Nat → Prop} {U : State} {H H1 : Heap} (h : GJ nb A U H) (hq : ∀ a : Nat, a < H.size → ¬ A a → H1[a]? = H[a]?) : GJ nb A U H1 := by
  obtain ⟨h1, ⟨a1, a2, a3⟩, ⟨b1, b2⟩, ⟨c1, c2⟩, ⟨d1, d2, d3⟩, ⟨e1, e2, e3⟩, -, h9⟩ := h
  exact ⟨h1.kept hq, ⟨a1.kept hq, a2.kept hq, a3.kept hq⟩, ⟨b1.kept hq, b2.kept hq⟩, ⟨c1.kept hq, c2.kept hq⟩, ⟨d1.kept hq, d2.kept hq, d3.kept hq⟩, ⟨e1.kept hq, e2.kept hq, fun k hk => ⟨(e3 k hk).1.kept hq, (e3 k hk).2.kept hq⟩⟩, trivial, fun k w hk => (h9 k w hk).kept hq⟩
theorem GJ.narrow {nb : Nat → Nat} {A B : Nat → Prop} {U : State} {H : Heap} (h : GJ nb A U H) (hAB : ∀ q, B q → A q) : GJ nb B U H := by
  obtain ⟨h1, ⟨a1, a2, a3⟩, ⟨b1, b2⟩, ⟨c1, c2⟩, ⟨d1, d2, d3⟩, ⟨e1, e2, e3⟩, -, h9⟩ := h
  exact ⟨h1.narrow hAB, ⟨a1.narrow hAB, a2.narrow hAB, a3.narrow hAB⟩, ⟨b1.narrow hAB, b2.narrow hAB⟩, ⟨c1.narrow hAB, c2.narrow hAB⟩, ⟨d1.narrow hAB, d2.narrow hAB, d3.narrow hAB⟩, ⟨e1.narrow hAB, e2.narrow hAB, fun k hk => ⟨(e3 k hk).1.narrow hAB, (e3 k hk).2.narrow hAB⟩⟩, trivial, fun k w hk => (h9 k w hk).narrow hAB⟩
noncomputable def GL (nb : Nat → Nat) (A : Nat → Prop) (U : State) : Prop := GE nb A U ∧ GW U ∧ GJ nb A U U.heap ∧ (va_Mi "[Ljava/lang/Object;" (nb 1993) U) ∧ ∀ (k : Nat) (w : String × Nat × String × List Int32), xL[k]? = some w → vk_R w.1 w.2.1 w.2.2.1 (nb (1000 + 2 * k)) U
theorem GL.calling {nb : Nat → Nat} {A : Nat → Prop} {U : State} {g : JFrame} {mk : MethodId} {a : Array Value} (h : GL nb A U) : GL nb A (U.calling g mk a) := ⟨h.1.calling, GW.warm (State.WarmedH.refl U) h.2.1, GJ.moved (Vm.Alike.refl U.vm) h.2.2.1, va_Mi.moved (Vm.Alike.refl U.vm) h.2.2.2.1, fun k w hk => (h.2.2.2.2 k w hk).warm (State.WarmedH.refl U)⟩
theorem GL.call {nb : Nat → Nat} {A B : Nat → Prop} {s U : State} {H : Heap} {locs : List Loc} (h : GL nb A s) (hS : va_S A s.heap H locs) (hF : ∀ q, B q → A q) (hU : U.heap = H) (hW : s.WarmedH U.vm) : GL nb B U := by
  refine ⟨h.1.call hS hF hU hW, h.2.1.warm hW, ?_, h.2.2.2.1.moved hW.alike, fun k w hk => (h.2.2.2.2 k w hk).warm hW⟩
  rw [hU]
  exact ((h.2.2.1.kept (fun a h1 h2 => hS.2.1 a h1 h2)).narrow hF).moved hW.alike
theorem GL.ge {nb : Nat → Nat} {A : Nat → Prop} {U : State} (h : GL nb A U) : GE nb A U := h.1
theorem GL.hi {nb : Nat → Nat} {A : Nat → Prop} {U : State} (h : GL nb A U) : va_Z "java/lang/Integer$IntegerCache" "high" "I" (.int 127) A U U.heap := h.2.2.1.1
theorem GL.dcp {nb : Nat → Nat} {A : Nat → Prop} {U : State} (h : GL nb A U) : va_Z "java/util/ArrayList" "DEFAULTCAPACITY_EMPTY_ELEMENTDATA" "[Ljava/lang/Object;" (.ref (nb 1990)) A U U.heap ∧ va_T (.object "java/lang/Object") (nb 1990) 0 (fun _ => .null) A U U.heap ∧ va_O "[Ljava/lang/Object;" (nb 1990) A U U.heap := h.2.2.1.2.1
theorem GL.dg1 {nb : Nat → Nat} {A : Nat → Prop} {U : State} (h : GL nb A U) : va_Z "java/lang/Integer" "DigitOnes" "[B" (.ref (nb 1991)) A U U.heap ∧ va_T .byte (nb 1991) 100 (fun j => .int (dgO.getD j 0)) A U U.heap := h.2.2.1.2.2.1
theorem GL.dg2 {nb : Nat → Nat} {A : Nat → Prop} {U : State} (h : GL nb A U) : va_Z "java/lang/Integer" "DigitTens" "[B" (.ref (nb 1992)) A U U.heap ∧ va_T .byte (nb 1992) 100 (fun j => .int (dgT.getD j 0)) A U U.heap := h.2.2.1.2.2.2.1
theorem GL.ich {nb : Nat → Nat} {A : Nat → Prop} {U : State} (h : GL nb A U) : va_Z "java/lang/Integer$IntegerCache" "cache" "[Ljava/lang/Integer;" (.ref (nb 2000)) A U U.heap ∧ va_T (.object "java/lang/Integer") (nb 2000) 256 (fun j => .ref (nb (2100 + j))) A U U.heap ∧ vb_C (fun j => nb (2100 + j)) A U U.heap := h.2.2.1.2.2.2.2.1
theorem GL.cch {nb : Nat → Nat} {A : Nat → Prop} {U : State} (h : GL nb A U) : va_Z "java/lang/Character$CharacterCache" "cache" "[Ljava/lang/Character;" (.ref (nb 2400)) A U U.heap ∧ va_T (.object "java/lang/Character") (nb 2400) 128 (fun j => .ref (nb (2500 + j))) A U U.heap ∧ ∀ k : Nat, k < 128 → va_O "java/lang/Character" (nb (2500 + k)) A U U.heap ∧ va_OF "java/lang/Character" "value" "C" (.int (nI k)) (nb (2500 + k)) A U U.heap := h.2.2.1.2.2.2.2.2.1
theorem GL.xw {nb : Nat → Nat} {A : Nat → Prop} {U : State} (h : GL nb A U) (k : Nat) {w : String × Nat × String × List Int32} (hk : xL[k]? = some w) : WH (nb (1000 + 2 * k)) (nb (1001 + 2 * k)) w.2.2.2 A U U.heap := h.2.2.1.2.2.2.2.2.2.2 k w hk
theorem GL.xr {nb : Nat → Nat} {A : Nat → Prop} {U : State} (h : GL nb A U) (k : Nat) {w : String × Nat × String × List Int32} (hk : xL[k]? = some w) : vk_R w.1 w.2.1 w.2.2.1 (nb (1000 + 2 * k)) U := h.2.2.2.2 k w hk
theorem GL.mi {nb : Nat → Nat} {A : Nat → Prop} {U : State} (h : GL nb A U) : va_Mi "[Ljava/lang/Object;" (nb 1993) U ∧ va_Dc U := ⟨h.2.2.2.1, h.2.1.2.2.2.2.2.2.2.2.2.2.2.2.2.2.2.2.2⟩
theorem GL.fn0 {nb : Nat → Nat} {A : Nat → Prop} {U : State} (h : GL nb A U) : va_Nw (.fieldLinkNest RJx35411 28 "java/util/ArrayList" "size" "I" "java/util/ArrayList") U := h.2.1.1
theorem GL.nm0 {nb : Nat → Nat} {A : Nat → Prop} {U : State} (h : GL nb A U) : va_Nw (.methodLinkNest RL 82 yX9_init "CardLineLaw") U := h.2.1.2.1
theorem GL.ao0 {nb : Nat → Nat} {A : Nat → Prop} {U : State} (h : GL nb A U) : va_AO "java/lang/Object" U := h.2.1.2.2.1
theorem GL.ao1 {nb : Nat → Nat} {A : Nat → Prop} {U : State} (h : GL nb A U) : va_AO "java/lang/String" U := h.2.1.2.2.2.1
theorem GL.cs0 {nb : Nat → Nat} {A : Nat → Prop} {U : State} (h : GL nb A U) : va_Nw (.castable RJ4 "java/lang/AbstractStringBuilder") U := h.2.1.2.2.2.2.1
theorem GL.cl0 {nb : Nat → Nat} {A : Nat → Prop} {U : State} (h : GL nb A U) : va_Nw (.castable "[B" "java/lang/Cloneable") U := h.2.1.2.2.2.2.2.1
theorem GL.cl1 {nb : Nat → Nat} {A : Nat → Prop} {U : State} (h : GL nb A U) : va_Nw (.castable "[I" "java/lang/Cloneable") U := h.2.1.2.2.2.2.2.2.1
theorem GL.nc0 {nb : Nat → Nat} {A : Nat → Prop} {U : State} (h : GL nb A U) : va_Nc RJ4 "java/lang/String" U := h.2.1.2.2.2.2.2.2.2.1
theorem GL.fw0 {nb : Nat → Nat} {A : Nat → Prop} {U : State} (h : GL nb A U) : va_Fw RJx4a65c ⟨"java/util/Collection", "toArray", "()[Ljava/lang/Object;"⟩ yJx4a65c_toArray_d5877 U := h.2.1.2.2.2.2.2.2.2.2.1
theorem GL.fw1 {nb : Nat → Nat} {A : Nat → Prop} {U : State} (h : GL nb A U) : va_Fw RJx35411 ⟨"java/util/Iterator", "hasNext", "()Z"⟩ yJx35411_hasNext_aae02 U := h.2.1.2.2.2.2.2.2.2.2.2.1
theorem GL.fw2 {nb : Nat → Nat} {A : Nat → Prop} {U : State} (h : GL nb A U) : va_Fw RJx35411 ⟨"java/util/Iterator", "next", "()Ljava/lang/Object;"⟩ yJx35411_next_0502b U := h.2.1.2.2.2.2.2.2.2.2.2.2.1
theorem GL.de0 {nb : Nat → Nat} {A : Nat → Prop} {U : State} (h : GL nb A U) : va_Nw (.declares ⟨"java/lang/Object", "toString", "()Ljava/lang/String;"⟩) U := h.2.1.2.2.2.2.2.2.2.2.2.2.2.1
theorem GL.an0 {nb : Nat → Nat} {A : Nat → Prop} {U : State} (h : GL nb A U) : va_Nw (.castable RX8 "java/lang/Object") U := h.2.1.2.2.2.2.2.2.2.2.2.2.2.2.1
theorem GL.an1 {nb : Nat → Nat} {A : Nat → Prop} {U : State} (h : GL nb A U) : va_Nw (.castable RX9 "java/lang/Object") U := h.2.1.2.2.2.2.2.2.2.2.2.2.2.2.2.1
theorem GL.an2 {nb : Nat → Nat} {A : Nat → Prop} {U : State} (h : GL nb A U) : va_Nw (.castable RX10 "java/lang/Object") U := h.2.1.2.2.2.2.2.2.2.2.2.2.2.2.2.2.1
theorem GL.an3 {nb : Nat → Nat} {A : Nat → Prop} {U : State} (h : GL nb A U) : va_Nw (.castable "java/lang/Integer" "java/lang/Object") U := h.2.1.2.2.2.2.2.2.2.2.2.2.2.2.2.2.2.1
theorem GL.an4 {nb : Nat → Nat} {A : Nat → Prop} {U : State} (h : GL nb A U) : va_Nw (.castable "[I" "java/lang/Object") U := h.2.1.2.2.2.2.2.2.2.2.2.2.2.2.2.2.2.2.1
theorem zq_v {C n d : String} {A : Nat → Prop} {U : State} {H : Heap} (h : va_Zq C n d A U H) : ∃ v : Value, (v = .null ∨ ∃ q, v = .ref q) ∧ va_Z C n d v A U H := h.elim (fun q => ⟨_, Or.inl rfl, q⟩) (fun ⟨t, q⟩ => ⟨_, Or.inr ⟨t, rfl⟩, q⟩)
theorem rf_c {nb ad : Nat → Nat} {n j : Nat} : rf nb ad n (1000000 + j) (nb j) := ⟨Or.inr (Nat.le_add_right _ _), by unfold AD; rw [if_neg (by omega)]; congr 1; omega⟩
theorem rf_cc {nb ad : Nat → Nat} {j : Nat} : AD nb ad (1000000 + j) = nb j := (rf_c (n := 0)).2
theorem rf_cs {nb ad : Nat → Nat} {n j : Nat} : rf nb ad n (1000000 + j) (AD nb ad (1000000 + j)) := ⟨Or.inr (Nat.le_add_right _ _), rfl⟩
theorem rf_self {nb ad : Nat → Nat} {n x a : Nat} (h : rf nb ad n x a) : rf nb ad n x (AD nb ad x) := ⟨h.1, rfl⟩
theorem mle1 {α : Type} {n s n2 s2 : Nat} {E E2 : HE} {m : MH α} {x : α} (h : m.1 (n, s, E) = some (x, n2, s2, E2)) : n ≤ n2 := (mle h).1
theorem mle2 {α : Type} {n s n2 s2 : Nat} {E E2 : HE} {m : MH α} {x : α} (h : m.1 (n, s, E) = some (x, n2, s2, E2)) : s ≤ s2 := (mle h).2.1
noncomputable def deq (x y : Nat) : Option Unit := if x = y then some () else none
theorem deq_a {nb ad : Nat → Nat} {n x a j : Nat} {u : Unit} (hr : rf nb ad n x a) (h : deq x (1000000 + j) = some u) : a = nb j := by
  unfold deq at h
  split at h
  · rename_i q; subst q; exact hr.2.symm.trans rf_cc
  · cases h
noncomputable def hp2 (n x y : Nat) : Option Unit := if x < n ∧ y < n then some () else none
theorem hp2_a {A : Nat → Prop} {cy : Nat → ClassId} {nb ad : Nat → Nat} {n x y a b : Nat} {E : HE} {u : Unit} (hD : va_D A (CH cy nb ad n E)) (hC : clo n E) (hx : rf nb ad n x a) (hy : rf nb ad n y b) (h : hp2 n x y = some u) : a = b ↔ x = y := by
  unfold hp2 at h
  split at h
  · rename_i q
    constructor
    · intro e
      exact hD.1 x y _ _ (ch_at hC hx q.1) (ch_at hC hy q.2) e
    · rintro rfl
      exact hx.2.symm.trans hy.2
  · cases h
noncomputable def nbt (x : Int32) : Option Int32 := if narrow .byte (.int x) = .int x ∧ fits .byte (.int x) = true then some x else none
theorem nbt_e {x y : Int32} (h : nbt x = some y) : x = y := by
  unfold nbt at h; split at h
  · exact Option.some.inj h
  · cases h
theorem nbt_n {x y : Int32} (h : nbt x = some y) : narrow .byte (.int y) = .int y := by
  have e := nbt_e h; subst e
  unfold nbt at h; split at h
  · rename_i q; exact q.1
  · cases h
theorem nbt_f {x y : Int32} (h : nbt x = some y) : fits .byte (.int y) = true := by
  have e := nbt_e h; subst e
  unfold nbt at h; split at h
  · rename_i q; exact q.2
  · cases h
section HsR
variable {D : va_G} {cl : List vw_C} {cy : Nat → ClassId} {nb ad : Nat → Nat} {n o a t ci : Nat} {E E2 : HE} {H : Heap}
theorem rdO_ {fs : List Value} (hP : va_P D cl (CH cy nb ad n E) H) (hC : clo n E) (hr : rf nb ad n o a) (h : fO n E o ci = some fs) : va_P D cl [(a, .inr (ci, fs.map (trV (AD nb ad))))] H := rdO hP hC hr h
theorem rdP_ {m : Nat} {f : Nat → Int32} (hP : va_P D cl (CH cy nb ad n E) H) (hC : clo n E) (hr : rf nb ad n o a) (h : aP n E o t = some (m, f)) : va_P D cl [(a, .inl (cy t, m, .inl f))] H := by
  obtain ⟨h4, h5⟩ := aP_s h
  have := ch_P hP hC hr h4
  rw [h5] at this
  exact this
theorem ch_in {m : Nat × (Nat → Int32)} (hC : clo n E) (hr : rf nb ad n o a) (h : aP n E o t = some m) : (∀ (_ _ : Unit), (CH cy nb ad n E)[o]? = some (a, .inl (cy t, m.1, .inl m.2))) ∧ True := by
  obtain ⟨h4, h5⟩ := aP_s h
  refine ⟨fun _ _ => ?_, trivial⟩
  rw [ch_at hC hr h4, h5]; rfl
end HsR
theorem arr_int {cA : ClassId} {m : Nat} {f : Nat → Int32} {i : Nat} {v : Value} (h : (vp_cell cA (m, .inl f)).slots[i]? = some v) : ∃ x : Int32, v = .int x := by
  have e : vp_cell cA (m, .inl f) = arrV cA m (fun j => .int (f j)) := rfl
  rw [e] at h
  obtain ⟨-, h2⟩ := Array.getElem?_eq_some_iff.mp h
  exact ⟨f i, by rw [← h2]; simp [arrV]⟩
noncomputable def kS (j : Nat) : Option (List Int32) := if 1000 ≤ j ∧ j % 2 = 0 then (xL[(j - 1000) / 2]?).map (·.2.2.2) else none
noncomputable def kB (j : Nat) : Option (List Int32) := if j = 1991 then some dgO else if j = 1992 then some dgT else if 1001 ≤ j ∧ j % 2 = 1 then (xL[(j - 1001) / 2]?).map (·.2.2.2) else none
theorem kS_s {j : Nat} {bs : List Int32} (h : kS j = some bs) : ∃ (k : Nat) (w : String × Nat × String × List Int32), j = 1000 + 2 * k ∧ xL[k]? = some w ∧ w.2.2.2 = bs := by
  unfold kS at h
  split at h
  · rename_i q
    obtain ⟨w, h1, h2⟩ := Option.map_eq_some_iff.mp h
    exact ⟨(j - 1000) / 2, w, by omega, h1, h2⟩
  · cases h
noncomputable def sOk (n : Nat) (E : HE) (o : Nat) : Option Unit := if o < 1000000 then (fO n E o 0).map fun _ => () else (kS (o - 1000000)).map fun _ => ()
noncomputable def sVl (n : Nat) (E : HE) (o : Nat) : Option Nat := if o < 1000000 then gR n E o 0 0 else (kS (o - 1000000)).map fun _ => o + 1
noncomputable def sCo (n : Nat) (E : HE) (o : Nat) : Option Int32 := if o < 1000000 then gI n E o 0 1 else (kS (o - 1000000)).map fun _ => 0
noncomputable def lB (n : Nat) (E : HE) (o : Nat) : Option Int32 := if o < 1000000 then lP n E o 0 else (kB (o - 1000000)).map fun bs => nI bs.length
noncomputable def gB (n : Nat) (E : HE) (o : Nat) (i : Int32) : Option Int32 := if o < 1000000 then gA n E o 0 i else (kB (o - 1000000)).bind fun bs => bt bs i
theorem sVl_r {nb ad : Nat → Nat} {n o x : Nat} {E : HE} (hC : clo n E) (h : sVl n E o = some x) : rf nb ad n x (AD nb ad x) := by
  refine ⟨?_, rfl⟩
  unfold sVl at h
  split at h
  · obtain ⟨fs, h1, h2⟩ := gR_s h
    obtain ⟨h3, h4⟩ := fO_s h1
    have h5 := hC.2 o h3
    rw [h4] at h5
    exact h5 _ (List.mem_of_getElem? h2)
  · obtain ⟨bs, -, rfl⟩ := Option.map_eq_some_iff.mp h
    exact Or.inr (by omega)
theorem fO_hp {n o ci : Nat} {E : HE} {fs : List Value} (h : fO n E o ci = some fs) : o < n := (fO_s h).1
section HsW
variable {p : Program} {l : Launch} {e : Env} {R : Room} {s : State} {m : MethodId} {args : Array Value} {below : List Frame} {meth : Method} {c : Code} {H : Heap} {locs : List Loc} {cells slots : Nat} {Q : State → Prop} {pc : Nat} {ls : Array Slot} {rest : List Value} {cc : ByteArray} {D : va_G} {cl : List vw_C} {cy : Nat → ClassId} {nb ad : Nat → Nat} {n o a : Nat} {E E2 : HE} {A : Nat → Prop} {Ts : List Cond}
theorem hs_kw {j : Nat} {bs : List Int32} (hE : GL nb A s) (hk : kS j = some bs) : WH (nb j) (nb (j + 1)) bs A s s.heap := by
  obtain ⟨k, w, rfl, h1, h2⟩ := kS_s hk
  have := hE.xw k h1
  rw [h2] at this
  rwa [show 1000 + 2 * k + 1 = 1001 + 2 * k by omega]
theorem hs_kb {j : Nat} {bs : List Int32} (hE : GL nb A s) (hk : kB j = some bs) : va_T .byte (nb j) bs.length (fun i => .int (bs.getD i 0)) A s s.heap := by
  unfold kB at hk
  split at hk
  · rename_i q; subst q; cases hk; exact hE.dg1.2
  · split at hk
    · rename_i q; subst q; cases hk; exact hE.dg2.2
    · split at hk
      · rename_i q
        obtain ⟨w, h1, h2⟩ := Option.map_eq_some_iff.mp hk
        have := (hE.xw _ h1).2.2.2
        rw [h2] at this
        rwa [show 1001 + 2 * ((j - 1001) / 2) = j by omega] at this
      · cases hk
theorem cst {n o a : Nat} (hr : rf nb ad n o a) (h : ¬ o < 1000000) : a = nb (o - 1000000) := by
  have := hr.2
  unfold AD at this
  rw [if_neg h] at this
  exact this.symm
theorem hs_srecv {u : Unit} (hK : va_K D cl (tyL cy) s) (hP : va_P D cl (CH cy nb ad n E) H) (hC : clo n E) (hE : GL nb A s) (hS : va_S A s.heap H locs) (hr : rf nb ad n o a) (h : sOk n E o = some u) (h0 : cl[0]? = some (RJ0, TJ0, 4) := by rfl) : ∃ cell : Cell, H[a]? = some cell ∧ cell.vm.isStatics = false ∧ s.vm.findClass RJ0 = some cell.cls := by
  unfold sOk at h
  split at h
  · obtain ⟨fs, h1, -⟩ := Option.map_eq_some_iff.mp h
    exact va_recv (q := (RJ0, TJ0, 4)) hK (rdO hP hC hr h1) (ci := 0) (q0 := 0) h0 rfl
  · rename_i q
    obtain ⟨bs, h1, -⟩ := Option.map_eq_some_iff.mp h
    rw [cst hr q]
    exact va_Orecv (hs_kw hE h1).1 hS
theorem hs_sval {own : String} {index x : Nat} (hx : p.tables.exec = Jvm.exec) (hb : c.code = cc) (hts : ∀ w ∈ Ts, w.before args s = true) (hin : ∀ w ∈ u_ws RJ0 TJ0 4, w ∈ Ts) (hown : s.vm.findClass own = some m.cls) (hK : va_K (D.1, D.2) vwCl (tyL cy) s) (hP : va_P (D.1, D.2) vwCl (CH cy nb ad n E) H) (hC : clo n E) (hE : GL nb A s) (hS : va_S A s.heap H locs) (hr : rf nb ad n o a) (h : sVl n E o = some x) (hl : (Cond.fieldLink own index RJ0 "value" "[B").before args s = true) (hdg : decode cc pc = .ok (.getfield index, 3))
    (kk : W p l e R s m args below meth c H locs cells slots Q (F0 m (pc + 3) ls (.ref (AD nb ad x) :: rest))) : W p l e R s m args below meth c H locs cells slots Q (F0 m pc ls (.ref a :: rest)) := by
  unfold sVl at h
  split at h
  · obtain ⟨hr2, fs, h9, g9⟩ := rdR hP hC hr h
    exact va_get (D := (D.1, D.2)) (ci := 0) (v := .ref (AD nb ad x)) (C := RJ0) (T := TJ0) (N := 4) hx hb hts hin hown hK h9 0 rfl rfl 0 (by decide) hl (fun _ h9 => h9) g9 hdg kk
  · rename_i q
    obtain ⟨bs, h1, rfl⟩ := Option.map_eq_some_iff.mp h
    have e1 : AD nb ad (o + 1) = nb (o - 1000000 + 1) := by
      unfold AD; rw [if_neg (by omega)]; congr 1; omega
    rw [e1] at kk
    rw [cst hr q]
    exact vk_getf (o := RJ0) (n := "value") (d := "[B") (v := .ref (nb (o - 1000000 + 1))) hx hb (hs_kw hE h1).2.2.1 hS hown hl (fun _ h9 => h9) hdg kk
theorem hs_scod {own : String} {index : Nat} {x : Int32} (hx : p.tables.exec = Jvm.exec) (hb : c.code = cc) (hts : ∀ w ∈ Ts, w.before args s = true) (hin : ∀ w ∈ u_ws RJ0 TJ0 4, w ∈ Ts) (hown : s.vm.findClass own = some m.cls) (hK : va_K (D.1, D.2) vwCl (tyL cy) s) (hP : va_P (D.1, D.2) vwCl (CH cy nb ad n E) H) (hC : clo n E) (hE : GL nb A s) (hS : va_S A s.heap H locs) (hr : rf nb ad n o a) (h : sCo n E o = some x) (hl : (Cond.fieldLink own index RJ0 "coder" "B").before args s = true) (hdg : decode cc pc = .ok (.getfield index, 3))
    (kk : W p l e R s m args below meth c H locs cells slots Q (F0 m (pc + 3) ls (.int x :: rest))) : W p l e R s m args below meth c H locs cells slots Q (F0 m pc ls (.ref a :: rest)) := by
  unfold sCo at h
  split at h
  · obtain ⟨fs, h9, g9⟩ := rdI hP hC hr h
    exact va_get (D := (D.1, D.2)) (ci := 0) (v := .int x) (C := RJ0) (T := TJ0) (N := 4) hx hb hts hin hown hK h9 0 rfl rfl 1 (by decide) hl (fun _ h9 => h9) g9 hdg kk
  · rename_i q
    obtain ⟨bs, h1, rfl⟩ := Option.map_eq_some_iff.mp h
    rw [cst hr q]
    exact vk_getf (o := RJ0) (n := "coder") (d := "B") (v := .int 0) hx hb (hs_kw hE h1).2.1 hS hown hl (fun _ h9 => h9) hdg kk
theorem hs_lB {x : Int32} (hx : p.tables.exec = Jvm.exec) (hb : c.code = cc) (hK : va_K (D.1, D.2) vwCl (tyL cy) s) (hP : va_P (D.1, D.2) vwCl (CH cy nb ad n E) H) (hC : clo n E) (hE : GL nb A s) (hS : va_S A s.heap H locs) (hr : rf nb ad n o a) (h : lB n E o = some x) (hdg : decode cc pc = .ok (.arraylength, 1))
    (kk : W p l e R s m args below meth c H locs cells slots Q (F0 m (pc + 1) ls (.int x :: rest))) : W p l e R s m args below meth c H locs cells slots Q (F0 m pc ls (.ref a :: rest)) := by
  unfold lB at h
  split at h
  · obtain ⟨m9, f9, h9, g9⟩ := rdL hP hC hr h
    exact va_alen hx hb hK h9 0 0 rfl (ty := .byte) rfl g9 hdg kk
  · rename_i q
    obtain ⟨bs, h1, rfl⟩ := Option.map_eq_some_iff.mp h
    rw [cst hr q]
    exact va_tlen hx hb (hs_kb hE h1) hS rfl hdg kk
theorem hs_gB {i x : Int32} (hx : p.tables.exec = Jvm.exec) (hb : c.code = cc) (hK : va_K (D.1, D.2) vwCl (tyL cy) s) (hP : va_P (D.1, D.2) vwCl (CH cy nb ad n E) H) (hC : clo n E) (hE : GL nb A s) (hS : va_S A s.heap H locs) (hr : rf nb ad n o a) (h : gB n E o i = some x) (hdg : decode cc pc = .ok (.baload, 1))
    (kk : W p l e R s m args below meth c H locs cells slots Q (F0 m (pc + 1) ls (.int x :: rest))) : W p l e R s m args below meth c H locs cells slots Q (F0 m pc ls (.int i :: .ref a :: rest)) := by
  unfold gB at h
  split at h
  · obtain ⟨m9, f9, h9, i9, g9⟩ := rdA hP hC hr h
    refine va_bald hx hb hK h9 0 0 rfl rfl i9 hdg ?_
    rw [g9]; exact kk
  · rename_i q
    obtain ⟨bs, h1, h2⟩ := Option.bind_eq_some_iff.mp h
    rw [cst hr q]
    exact va_tb (v := .int x) hx hb (hs_kb hE h1) hS (bt_in h2) (by rw [← bt_eq h2]) hdg kk
noncomputable def lO (n : Nat) (E : HE) (o : Nat) : Option Int32 := if o = 1001990 then some 0 else lQ n E o 9
noncomputable def isOA (n : Nat) (E : HE) (o : Nat) : Option Unit := if o = 1001990 then some () else (aQ n E o 9).map fun _ => ()
theorem hs_lO {x : Int32} (hx : p.tables.exec = Jvm.exec) (hb : c.code = cc) (hK : va_K (D.1, D.2) vwCl (tyL cy) s) (hP : va_P (D.1, D.2) vwCl (CH cy nb ad n E) H) (hC : clo n E) (hE : GL nb A s) (hS : va_S A s.heap H locs) (hr : rf nb ad n o a) (h : lO n E o = some x) (hdg : decode cc pc = .ok (.arraylength, 1))
    (kk : W p l e R s m args below meth c H locs cells slots Q (F0 m (pc + 1) ls (.int x :: rest))) : W p l e R s m args below meth c H locs cells slots Q (F0 m pc ls (.ref a :: rest)) := by
  unfold lO at h
  split at h
  · rename_i q; subst q; cases h
    rw [cst hr (by decide)]
    exact va_tlen hx hb hE.dcp.2.1 hS rfl hdg kk
  · obtain ⟨m9, f9, h9, g9⟩ := rdLQ hP hC hr h
    exact va_alen hx hb hK h9 0 9 rfl (ty := .object "java/lang/Object") rfl g9 hdg kk
theorem hs_getc {own : String} {index : Nat} {u : Unit} (hx : p.tables.exec = Jvm.exec) (hb : c.code = cc) (hml : c.maxLocals = ls.size) (hown : s.vm.findClass own = some m.cls) (hlink : (Cond.methodLink own index ⟨"java/lang/Object", "getClass", "()Ljava/lang/Class;"⟩).before args s = true) (hts : ∀ w ∈ Ts, w.before args s = true) (hw : Cond.selects "[Ljava/lang/Object;" ⟨"java/lang/Object", "getClass", "()Ljava/lang/Class;"⟩ ⟨"java/lang/Object", "getClass", "()Ljava/lang/Class;"⟩ ∈ Ts ∧ Cond.instanceMethod ⟨"java/lang/Object", "getClass", "()Ljava/lang/Class;"⟩ ∈ Ts ∧ Cond.native ⟨"java/lang/Object", "getClass", "()Ljava/lang/Class;"⟩ ∈ Ts) (hK : va_K (D.1, D.2) vwCl (tyL cy) s) (hP : va_P (D.1, D.2) vwCl (CH cy nb ad n E) H) (hC : clo n E) (hE : GL nb A s) (hS : va_S A s.heap H locs) (hr : rf nb ad n o a) (h : isOA n E o = some u) (hframes : 1 ≤ R.frames) (hlocals : (rest.map fun v => v.category).sum + 14 ≤ R.locals) (hdg : decode cc pc = .ok (.invokevirtual index, 3))
    (kk : W p l e R s m args below meth c H locs cells slots Q (F0 m (pc + 3) ls (.ref (nb 1993) :: rest))) : W p l e R s m args below meth c H locs cells slots Q (F0 m pc ls (.ref a :: rest)) := by
  refine va_getC (C := "[Ljava/lang/Object;") hx hb hml hown hlink hE.mi.2.use (hts _ hw.1) (hts _ hw.2.1) (hts _ hw.2.2) hE.mi.1 ?_ hframes hlocals hdg kk
  unfold isOA at h
  split at h
  · rename_i q; subst q
    rw [cst hr (by decide)]
    exact va_Orecv hE.dcp.2.2 hS
  · obtain ⟨⟨m9, f9⟩, h1, -⟩ := Option.map_eq_some_iff.mp h
    obtain ⟨h3, h4⟩ := aQ_s h1
    have h5 := ch_P hP hC hr h3
    rw [h4] at h5
    have h6 := h5 0 _ rfl
    refine ⟨_, h6, rfl, va_nmO (hK.2 9 _ rfl).2 (by decide)⟩
noncomputable def isIn (o : Nat) : Option Unit := if 1002100 ≤ o ∧ o < 1002356 then some () else none
noncomputable def isCh (o : Nat) : Option Unit := if 1002500 ≤ o ∧ o < 1002628 then some () else none
noncomputable def iVl (o : Nat) : Option Int32 := if 1002100 ≤ o ∧ o < 1002356 then some (vb_c (o - 1002100)) else none
noncomputable def cVl (o : Nat) : Option Int32 := if 1002500 ≤ o ∧ o < 1002628 then some (nI (o - 1002500)) else none
noncomputable def iCa (i : Int32) : Option Nat := if 0 ≤ i.toInt ∧ i.toInt < 256 then some (2100 + i.toNatClampNeg) else none
noncomputable def cCa (i : Int32) : Option Nat := if 0 ≤ i.toInt ∧ i.toInt < 128 then some (2500 + i.toNatClampNeg) else none
theorem hs_isIn {u : Unit} (hE : GL nb A s) (hS : va_S A s.heap H locs) (hr : rf nb ad n o a) (h : isIn o = some u) : ∃ cell : Cell, H[a]? = some cell ∧ cell.vm.isStatics = false ∧ s.vm.findClass "java/lang/Integer" = some cell.cls := by
  unfold isIn at h
  split at h
  · rename_i q
    rw [cst hr (by omega)]
    have := va_Orecv (hE.ich.2.2.1 (o - 1002100) (by omega)) hS
    rwa [show 2100 + (o - 1002100) = o - 1000000 by omega] at this
  · cases h
theorem hs_isCh {u : Unit} (hE : GL nb A s) (hS : va_S A s.heap H locs) (hr : rf nb ad n o a) (h : isCh o = some u) : ∃ cell : Cell, H[a]? = some cell ∧ cell.vm.isStatics = false ∧ s.vm.findClass "java/lang/Character" = some cell.cls := by
  unfold isCh at h
  split at h
  · rename_i q
    rw [cst hr (by omega)]
    have := va_Orecv (hE.cch.2.2 (o - 1002500) (by omega)).1 hS
    rwa [show 2500 + (o - 1002500) = o - 1000000 by omega] at this
  · cases h
theorem hs_iVl {own : String} {index : Nat} {x : Int32} (hx : p.tables.exec = Jvm.exec) (hb : c.code = cc) (hown : s.vm.findClass own = some m.cls) (hE : GL nb A s) (hS : va_S A s.heap H locs) (hr : rf nb ad n o a) (h : iVl o = some x) (hl : (Cond.fieldLink own index "java/lang/Integer" "value" "I").before args s = true) (hdg : decode cc pc = .ok (.getfield index, 3))
    (kk : W p l e R s m args below meth c H locs cells slots Q (F0 m (pc + 3) ls (.int x :: rest))) : W p l e R s m args below meth c H locs cells slots Q (F0 m pc ls (.ref a :: rest)) := by
  unfold iVl at h
  split at h
  · rename_i q
    cases h
    rw [cst hr (by omega)]
    have := hE.ich.2.2.2 (o - 1002100) (by omega)
    rw [show 2100 + (o - 1002100) = o - 1000000 by omega] at this
    exact vk_getf (o := "java/lang/Integer") (n := "value") (d := "I") hx hb this hS hown hl (fun _ h9 => h9) hdg kk
  · cases h
theorem hs_cVl {own : String} {index : Nat} {x : Int32} (hx : p.tables.exec = Jvm.exec) (hb : c.code = cc) (hown : s.vm.findClass own = some m.cls) (hE : GL nb A s) (hS : va_S A s.heap H locs) (hr : rf nb ad n o a) (h : cVl o = some x) (hl : (Cond.fieldLink own index "java/lang/Character" "value" "C").before args s = true) (hdg : decode cc pc = .ok (.getfield index, 3))
    (kk : W p l e R s m args below meth c H locs cells slots Q (F0 m (pc + 3) ls (.int x :: rest))) : W p l e R s m args below meth c H locs cells slots Q (F0 m pc ls (.ref a :: rest)) := by
  unfold cVl at h
  split at h
  · rename_i q
    cases h
    rw [cst hr (by omega)]
    have := (hE.cch.2.2 (o - 1002500) (by omega)).2
    rw [show 2500 + (o - 1002500) = o - 1000000 by omega] at this
    exact vk_getf (o := "java/lang/Character") (n := "value") (d := "C") hx hb this hS hown hl (fun _ h9 => h9) hdg kk
  · cases h
theorem hs_iCa {i : Int32} {x : Nat} (hx : p.tables.exec = Jvm.exec) (hb : c.code = cc) (hE : GL nb A s) (hS : va_S A s.heap H locs) (h : iCa i = some x) (hdg : decode cc pc = .ok (.aaload, 1))
    (kk : W p l e R s m args below meth c H locs cells slots Q (F0 m (pc + 1) ls (.ref (nb x) :: rest))) : W p l e R s m args below meth c H locs cells slots Q (F0 m pc ls (.int i :: .ref (nb 2000) :: rest)) := by
  unfold iCa at h
  split at h
  · rename_i q
    cases h
    exact vb_tq (v := .ref (nb (2100 + i.toNatClampNeg))) hx hb hE.ich.2.1 hS (vp_in_iff.mpr q) rfl hdg kk
  · cases h
theorem hs_cCa {i : Int32} {x : Nat} (hx : p.tables.exec = Jvm.exec) (hb : c.code = cc) (hE : GL nb A s) (hS : va_S A s.heap H locs) (h : cCa i = some x) (hdg : decode cc pc = .ok (.aaload, 1))
    (kk : W p l e R s m args below meth c H locs cells slots Q (F0 m (pc + 1) ls (.ref (nb x) :: rest))) : W p l e R s m args below meth c H locs cells slots Q (F0 m pc ls (.int i :: .ref (nb 2400) :: rest)) := by
  unfold cCa at h
  split at h
  · rename_i q
    cases h
    exact vb_tq (v := .ref (nb (2500 + i.toNatClampNeg))) hx hb hE.cch.2.1 hS (vp_in_iff.mpr q) rfl hdg kk
  · cases h
noncomputable def okA (n : Nat) (E : HE) (t x : Nat) : Option Unit :=
  if t = 9 then (if x < 1000000 then (if x < n then (match E x with
    | .inr (c, _) => if c = 8 ∨ c = 9 ∨ c = 10 then some () else none
    | .inl (c, _, .inl _) => if c = 1 then some () else none
    | .inl _ => none) else none) else isIn x)
  else if t = 10 then (fO n E x 9).map fun _ => ()
  else if t = 11 then sOk n E x else none
theorem any_s {C E0 : String} {a : Nat} (hr : ∃ cell : Cell, H[a]? = some cell ∧ cell.vm.isStatics = false ∧ s.vm.findClass C = some cell.cls) (ha : ∀ comp c0 : ClassId, s.vm.findClass E0 = some comp → s.vm.findClass C = some c0 → s.vm.assignable c0 comp = true) : va_Any E0 s H a := by
  obtain ⟨cell, h1, h2, h3⟩ := hr
  obtain ⟨kC, hkC, -⟩ := Vm.findClass_spec h3
  exact ⟨cell, h1, h2, ⟨kC, hkC⟩, fun comp hc => ha comp _ hc h3⟩
theorem hs_any9 {x b : Nat} {u : Unit} (hK : va_K (D.1, D.2) vwCl (tyL cy) s) (hP : va_P (D.1, D.2) vwCl (CH cy nb ad n E) H) (hC : clo n E) (hE : GL nb A s) (hS : va_S A s.heap H locs) (hr : rf nb ad n x b) (h : okA n E 9 x = some u) : va_Any "java/lang/Object" s H b := by
  unfold okA at h
  rw [if_pos rfl] at h
  split at h
  · split at h
    · rename_i hx
      have h1 := ch_P hP hC hr hx
      split at h
      · rename_i ci fs he
        rw [he] at h1
        split at h
        · rename_i q
          rcases q with rfl | rfl | rfl
          · exact va_rAny hK h1 (q0 := 0) (ci := 8) rfl rfl (vb_asgC hE.an0)
          · exact va_rAny hK h1 (q0 := 0) (ci := 9) rfl rfl (vb_asgC hE.an1)
          · exact va_rAny hK h1 (q0 := 0) (ci := 10) rfl rfl (vb_asgC hE.an2)
        · cases h
      · rename_i ci m f he
        rw [he] at h1
        split at h
        · rename_i q
          subst q
          exact any_s ⟨_, h1 0 _ rfl, rfl, va_nm_int (hK.2 1 _ rfl).2⟩ (vb_asgC hE.an4)
        · cases h
      · cases h
    · cases h
  · exact any_s (hs_isIn hE hS hr h) (vb_asgC hE.an3)
theorem hs_any10 {x b : Nat} {u : Unit} (hK : va_K (D.1, D.2) vwCl (tyL cy) s) (hP : va_P (D.1, D.2) vwCl (CH cy nb ad n E) H) (hC : clo n E) (hr : rf nb ad n x b) (h : okA n E 10 x = some u) : va_Any RX9 s H b := by
  unfold okA at h
  rw [if_neg (by decide), if_pos rfl] at h
  obtain ⟨fs, h1, -⟩ := Option.map_eq_some_iff.mp h
  exact va_rAny hK (rdO hP hC hr h1) (q0 := 0) (ci := 9) rfl rfl (fun _ _ h1 h2 => vb_asgS _ _ h1 h2)
theorem hs_any11 {x b : Nat} {u : Unit} (hK : va_K (D.1, D.2) vwCl (tyL cy) s) (hP : va_P (D.1, D.2) vwCl (CH cy nb ad n E) H) (hC : clo n E) (hE : GL nb A s) (hS : va_S A s.heap H locs) (hr : rf nb ad n x b) (h : okA n E 11 x = some u) : va_Any "java/lang/String" s H b := by
  unfold okA at h
  rw [if_neg (by decide), if_neg (by decide), if_pos rfl] at h
  exact any_s (hs_srecv hK hP hC hE hS hr h) (fun _ _ h1 h2 => vb_asgS _ _ h1 h2)
noncomputable def fitB (f : Nat → Int32) (sp k : Nat) : Prop := ∀ i : Nat, i < k → fits .byte (.int (f (sp + i))) = true
noncomputable def fitBd (f : Nat → Int32) (sp k : Nat) : Decidable (fitB f sp k) := by unfold fitB; infer_instance
noncomputable def rng (sp dp k : Int32) (m m2 : Nat) : Prop := 0 ≤ sp.toInt ∧ 0 ≤ dp.toInt ∧ 0 ≤ k.toInt ∧ sp.toNatClampNeg + k.toNatClampNeg ≤ m ∧ dp.toNatClampNeg + k.toNatClampNeg ≤ m2
noncomputable def rngd (sp dp k : Int32) (m m2 : Nat) : Decidable (rng sp dp k m m2) := by unfold rng; infer_instance
noncomputable def cp1 (E : HE) (b t : Nat) (m : Nat) (f : Nat → Int32) (m2 : Nat) (g : Nat → Int32) (sp dp k : Int32) : Option HE :=
  @ite _ (rng sp dp k m m2) (rngd _ _ _ _ _) (@ite _ (fitB f sp.toNatClampNeg k.toNatClampNeg) (fitBd _ _ _) (some (upE E b (.inl (t, m2, .inl (va_cpy f g sp.toNatClampNeg dp.toNatClampNeg k.toNatClampNeg))))) none) none
theorem cp1_s {E E2 : HE} {b t m m2 : Nat} {f g : Nat → Int32} {sp dp k : Int32} (h : cp1 E b t m f m2 g sp dp k = some E2) : rng sp dp k m m2 ∧ fitB f sp.toNatClampNeg k.toNatClampNeg ∧ E2 = upE E b (.inl (t, m2, .inl (va_cpy f g sp.toNatClampNeg dp.toNatClampNeg k.toNatClampNeg))) := by
  unfold cp1 at h
  split at h
  · rename_i q1
    split at h
    · rename_i q2; cases h; exact ⟨q1, q2, rfl⟩
    · cases h
  · cases h
noncomputable def cpB (n : Nat) (E : HE) (a b : Nat) (sp dp k : Int32) : Option HE := if a < 1000000 then (aP n E a 0).bind fun x => (aP n E b 0).bind fun y => cp1 E b 0 x.1 x.2 y.1 y.2 sp dp k
  else (kB (a - 1000000)).bind fun bs => (aP n E b 0).bind fun y => cp1 E b 0 bs.length (fun j => bs.getD j 0) y.1 y.2 sp dp k
theorem cpB_clo {n a b : Nat} {E E2 : HE} {sp dp k : Int32} (h : cpB n E a b sp dp k = some E2) (hC : clo n E) : clo n E2 := by
  unfold cpB at h
  split at h
  · obtain ⟨⟨m, f⟩, -, h⟩ := Option.bind_eq_some_iff.mp h
    obtain ⟨⟨m2, g⟩, -, h⟩ := Option.bind_eq_some_iff.mp h
    obtain ⟨-, -, rfl⟩ := cp1_s h
    exact hC.up trivial
  · obtain ⟨bs, -, h⟩ := Option.bind_eq_some_iff.mp h
    obtain ⟨⟨m2, g⟩, -, h⟩ := Option.bind_eq_some_iff.mp h
    obtain ⟨-, -, rfl⟩ := cp1_s h
    exact hC.up trivial
noncomputable def mcB (a : Nat) (sp : Int32) (b : Nat) (dp k : Int32) : MH Unit := mw (fun n E => cpB n E a b sp dp k) (fun _ _ _ h => cpB_clo h)
noncomputable def aPf (n : Nat) (E : HE) (o : Nat) : Option (Nat × (Nat → Int32)) := (aP n E o 0).bind fun x => @ite _ (fitB x.2 0 x.1) (fitBd _ _ _) (some x) none
theorem aPf_s {n o : Nat} {E : HE} {x : Nat × (Nat → Int32)} (h : aPf n E o = some x) : aP n E o 0 = some x ∧ fitB x.2 0 x.1 := by
  obtain ⟨y, h1, h2⟩ := Option.bind_eq_some_iff.mp h
  split at h2
  · rename_i q; cases h2; exact ⟨h1, q⟩
  · cases h2
theorem arr_fit {cA : ClassId} {x : Nat × (Nat → Int32)} {i : Nat} {v : Value} (hf : fitB x.2 0 x.1) (h : (vp_cell cA (x.1, .inl x.2)).slots[i]? = some v) : fits .byte v = true := by
  have e : vp_cell cA (x.1, .inl x.2) = arrV cA x.1 (fun j => .int (x.2 j)) := rfl
  rw [e] at h
  refine va_fit (cA := cA) (n := x.1) (F := fun j => .int (x.2 j)) (fun j hj => ?_) i v h
  have := hf j hj
  rwa [Nat.zero_add] at this
theorem nn_of' {x : Int32} (h : 0 ≤ x.toInt) : ¬ x < 0 := by
  rw [Int32.lt_iff_toInt_lt]
  have : (0 : Int32).toInt = 0 := rfl
  omega
theorem hs_copyB {own : String} {index a0 b b0 : Nat} {sp dp k : Int32} (hx : p.tables.exec = Jvm.exec) (hb : c.code = cc) (hml : c.maxLocals = ls.size) (hown : s.vm.findClass own = some m.cls) (hlink : (Cond.methodLink own index arraycopyName).before args s = true) (hnat : (Cond.native arraycopyName).before args s = true) (hstat : (Cond.static arraycopyName).before args s = true) (hini : (Cond.initialized "java/lang/System").before args s = true)
    (hK : va_K (D.1, D.2) vwCl (tyL cy) s) (hP : va_P (D.1, D.2) vwCl (CH cy nb ad n E) H) (hD : va_D A (CH cy nb ad n E)) (hC : clo n E) (hE : GL nb A s) (hS : va_S A s.heap H locs) (hra : rf nb ad n o a0) (hrb : rf nb ad n b b0) (h : cpB n E o b sp dp k = some E2)
    (hframes : 1 ≤ R.frames) (hlocals : (rest.map fun v => v.category).sum + (nativeFrameWords "java/lang/System" "arraycopy" 5 + 11) ≤ R.locals) (hdg : decode cc pc = .ok (.invokestatic index, 3))
    (kk : ∀ (H1 : Heap) (locs1 : List Loc), va_P (D.1, D.2) vwCl (CH cy nb ad n E2) H1 → va_D A (CH cy nb ad n E2) → va_S A s.heap H1 locs1 → W p l e R s m args below meth c H1 locs1 cells slots Q (F0 m (pc + 3) ls rest)) : W p l e R s m args below meth c H locs cells slots Q (F0 m pc ls (.int k :: .int dp :: .ref b0 :: .int sp :: .ref a0 :: rest)) := by
  unfold cpB at h
  split at h
  · obtain ⟨⟨m1, f⟩, h1, h⟩ := Option.bind_eq_some_iff.mp h
    obtain ⟨⟨m2, g⟩, h2, h⟩ := Option.bind_eq_some_iff.mp h
    obtain ⟨⟨r1, r2, r3, r4, r5⟩, hf, rfl⟩ := cp1_s h
    obtain ⟨i1, i2⟩ := aP_s h1
    obtain ⟨j1, j2⟩ := aP_s h2
    refine va_copyi hx hb hml hown hlink hnat hstat hini hK hP hD hS o b 0 0 (by rw [ch_at hC hra i1, i2]; rfl) (by rw [ch_at hC hrb j1, j2]; rfl) rfl rfl rfl (nn_of' r1) (nn_of' r2) (nn_of' r3) r4 r5 hf hframes hlocals hdg (fun H1 l1 q1 q2 q3 => ?_)
    have e := ch_set (cy := cy) (e := .inl (0, m2, .inl (va_cpy f g sp.toNatClampNeg dp.toNatClampNeg k.toNatClampNeg))) hC hrb j1
    exact kk H1 l1 (by rw [show CH cy nb ad n (upE E b (.inl (0, m2, .inl (va_cpy f g sp.toNatClampNeg dp.toNatClampNeg k.toNatClampNeg)))) = _ from e.symm]; exact q1) (by rw [show CH cy nb ad n (upE E b (.inl (0, m2, .inl (va_cpy f g sp.toNatClampNeg dp.toNatClampNeg k.toNatClampNeg)))) = _ from e.symm]; exact q2) q3
  · rename_i hlt
    obtain ⟨bs, h1, h⟩ := Option.bind_eq_some_iff.mp h
    obtain ⟨⟨m2, g⟩, h2, h⟩ := Option.bind_eq_some_iff.mp h
    obtain ⟨⟨r1, r2, r3, r4, r5⟩, hf, rfl⟩ := cp1_s h
    obtain ⟨j1, j2⟩ := aP_s h2
    rw [cst hra hlt]
    refine vk_copyt hx hb hml hown hlink hnat hstat hini hK hP hD hS (hs_kb hE h1) b 0 (by rw [ch_at hC hrb j1, j2]; rfl) rfl (nn_of' r1) (nn_of' r2) (nn_of' r3) r4 r5 hf hframes hlocals hdg (fun H1 l1 q1 q2 q3 => ?_)
    have e := ch_set (cy := cy) (e := .inl (0, m2, .inl (va_cpy (fun j => bs.getD j 0) g sp.toNatClampNeg dp.toNatClampNeg k.toNatClampNeg))) hC hrb j1
    exact kk H1 l1 (by rw [show CH cy nb ad n (upE E b (.inl (0, m2, .inl (va_cpy (fun j => bs.getD j 0) g sp.toNatClampNeg dp.toNatClampNeg k.toNatClampNeg)))) = _ from e.symm]; exact q1) (by rw [show CH cy nb ad n (upE E b (.inl (0, m2, .inl (va_cpy (fun j => bs.getD j 0) g sp.toNatClampNeg dp.toNatClampNeg k.toNatClampNeg)))) = _ from e.symm]; exact q2) q3
noncomputable def okR (n : Nat) (E : HE) (f : Nat → Option Nat) (sp k : Nat) : Prop := ∀ i : Nat, i < k → (match f (sp + i) with
  | some x => (okA n E 9 x).isSome
  | none => true) = true
noncomputable def okRd (n : Nat) (E : HE) (f : Nat → Option Nat) (sp k : Nat) : Decidable (okR n E f sp k) := by unfold okR; infer_instance
noncomputable def cp2 (E : HE) (b m : Nat) (f : Nat → Option Nat) (m2 : Nat) (g : Nat → Option Nat) (sp dp k : Int32) : Option HE :=
  @ite _ (rng sp dp k m m2) (rngd _ _ _ _ _) (some (upE E b (.inl (9, m2, .inr (.inr (.inr (.inr (va_cpy f g sp.toNatClampNeg dp.toNatClampNeg k.toNatClampNeg)))))))) none
theorem cp2_s {E E2 : HE} {b m m2 : Nat} {f g : Nat → Option Nat} {sp dp k : Int32} (h : cp2 E b m f m2 g sp dp k = some E2) : rng sp dp k m m2 ∧ E2 = upE E b (.inl (9, m2, .inr (.inr (.inr (.inr (va_cpy f g sp.toNatClampNeg dp.toNatClampNeg k.toNatClampNeg)))))) := by
  unfold cp2 at h
  split at h
  · rename_i q1; cases h; exact ⟨q1, rfl⟩
  · cases h
noncomputable def cpO (n : Nat) (E : HE) (a b : Nat) (sp dp k : Int32) : Option HE := if a = 1001990 then (aQ n E b 9).bind fun y => cp2 E b 0 (fun _ => none) y.1 y.2 sp dp k
  else (aQ n E a 9).bind fun x => (aQ n E b 9).bind fun y => @ite _ (okR n E x.2 sp.toNatClampNeg k.toNatClampNeg) (okRd _ _ _ _ _) (cp2 E b x.1 x.2 y.1 y.2 sp dp k) none
theorem aQ_ok {n o t m : Nat} {E : HE} {f : Nat → Option Nat} (hC : clo n E) (h : aQ n E o t = some (m, f)) {i y : Nat} (hf : f i = some y) : okI n y := by
  obtain ⟨h3, h4⟩ := aQ_s h
  have k1 := hC.2 o h3
  rw [h4] at k1
  exact k1 _ _ hf
theorem cpO_clo {n a b : Nat} {E E2 : HE} {sp dp k : Int32} (h : cpO n E a b sp dp k = some E2) (hC : clo n E) : clo n E2 := by
  unfold cpO at h
  split at h
  · obtain ⟨⟨m2, g⟩, h2, h⟩ := Option.bind_eq_some_iff.mp h
    obtain ⟨-, rfl⟩ := cp2_s h
    refine hC.up (fun j q hq => ?_)
    unfold va_cpy at hq
    split at hq
    · cases hq
    · exact aQ_ok hC h2 hq
  · obtain ⟨⟨m, f⟩, h1, h⟩ := Option.bind_eq_some_iff.mp h
    obtain ⟨⟨m2, g⟩, h2, h⟩ := Option.bind_eq_some_iff.mp h
    split at h
    · obtain ⟨-, rfl⟩ := cp2_s h
      refine hC.up (fun j q hq => ?_)
      unfold va_cpy at hq
      split at hq
      · exact aQ_ok hC h1 hq
      · exact aQ_ok hC h2 hq
    · cases h
noncomputable def mcO (a : Nat) (sp : Int32) (b : Nat) (dp k : Int32) : MH Unit := mw (fun n E => cpO n E a b sp dp k) (fun _ _ _ h => cpO_clo h)
theorem cpy_map {f g : Nat → Option Nat} {q : Nat → Nat} {a b k : Nat} : (fun i => (va_cpy f g a b k i).map q) = va_cpy (fun i => (f i).map q) (fun i => (g i).map q) a b k := by
  funext i
  unfold va_cpy
  split <;> rfl
theorem hs_copyQ {own : String} {index a0 b b0 : Nat} {sp dp k : Int32} (hx : p.tables.exec = Jvm.exec) (hb : c.code = cc) (hml : c.maxLocals = ls.size) (hown : s.vm.findClass own = some m.cls) (hlink : (Cond.methodLink own index arraycopyName).before args s = true) (hnat : (Cond.native arraycopyName).before args s = true) (hstat : (Cond.static arraycopyName).before args s = true) (hini : (Cond.initialized "java/lang/System").before args s = true)
    (hK : va_K (D.1, D.2) vwCl (tyL cy) s) (hP : va_P (D.1, D.2) vwCl (CH cy nb ad n E) H) (hD : va_D A (CH cy nb ad n E)) (hC : clo n E) (hE : GL nb A s) (hS : va_S A s.heap H locs) (hra : rf nb ad n o a0) (hrb : rf nb ad n b b0) (h : cpO n E o b sp dp k = some E2)
    (hframes : 1 ≤ R.frames) (hlocals : (rest.map fun v => v.category).sum + (nativeFrameWords "java/lang/System" "arraycopy" 5 + 11) ≤ R.locals) (hdg : decode cc pc = .ok (.invokestatic index, 3))
    (kk : ∀ (H1 : Heap) (locs1 : List Loc), va_P (D.1, D.2) vwCl (CH cy nb ad n E2) H1 → va_D A (CH cy nb ad n E2) → va_S A s.heap H1 locs1 → W p l e R s m args below meth c H1 locs1 cells slots Q (F0 m (pc + 3) ls rest)) : W p l e R s m args below meth c H locs cells slots Q (F0 m pc ls (.int k :: .int dp :: .ref b0 :: .int sp :: .ref a0 :: rest)) := by
  unfold cpO at h
  split at h
  · rename_i hlt
    subst hlt
    obtain ⟨⟨m2, g⟩, h2, h⟩ := Option.bind_eq_some_iff.mp h
    obtain ⟨⟨r1, r2, r3, r4, r5⟩, rfl⟩ := cp2_s h
    obtain ⟨j1, j2⟩ := aQ_s h2
    rw [cst hra (by decide)]
    refine va_copyg hx hb hml hown hlink hnat hstat hini hK hP hD hS b 9 hE.dcp.2.1 (by rw [ch_at hC hrb j1, j2]; rfl) rfl (nn_of' r1) (nn_of' r2) (nn_of' r3) r4 r5 hframes hlocals hdg (fun H1 l1 q1 q2 q3 => ?_)
    have e := ch_set (cy := cy) (e := .inl (9, m2, .inr (.inr (.inr (.inr (va_cpy (fun _ => none) g sp.toNatClampNeg dp.toNatClampNeg k.toNatClampNeg)))))) hC hrb j1
    rw [show trE cy (AD nb ad) (.inl (9, m2, .inr (.inr (.inr (.inr (va_cpy (fun _ => none) g sp.toNatClampNeg dp.toNatClampNeg k.toNatClampNeg)))))) = .inl (cy 9, m2, .inr (.inr (.inr (.inr fun i => (va_cpy (fun _ => none) g sp.toNatClampNeg dp.toNatClampNeg k.toNatClampNeg i).map (AD nb ad))))) from rfl, cpy_map] at e
    exact kk H1 l1 (by rw [show CH cy nb ad n (upE E b _) = _ from e.symm]; exact q1) (by rw [show CH cy nb ad n (upE E b _) = _ from e.symm]; exact q2) q3
  · obtain ⟨⟨m1, f⟩, h1, h⟩ := Option.bind_eq_some_iff.mp h
    obtain ⟨⟨m2, g⟩, h2, h⟩ := Option.bind_eq_some_iff.mp h
    split at h
    · rename_i hok
      obtain ⟨⟨r1, r2, r3, r4, r5⟩, rfl⟩ := cp2_s h
      obtain ⟨i1, i2⟩ := aQ_s h1
      obtain ⟨j1, j2⟩ := aQ_s h2
      refine va_copyM (E0 := "java/lang/Object") (E1 := "java/lang/Object") (f := fun i => (f i).map (AD nb ad)) (g := fun i => (g i).map (AD nb ad)) hx hb hml hown hlink hnat hstat hini hK hP hD hS o b 9 9 (by rw [ch_at hC hra i1, i2]; rfl) (by rw [ch_at hC hrb j1, j2]; rfl) rfl rfl (nn_of' r1) (nn_of' r2) (nn_of' r3) r4 r5 (fun i hi y hy => ?_) hframes hlocals hdg (fun H1 l1 q1 q2 q3 => ?_)
      · obtain ⟨x, hx1, rfl⟩ := Option.map_eq_some_iff.mp hy
        have h6 := hok i hi
        rw [hx1] at h6
        obtain ⟨u, hu⟩ := Option.isSome_iff_exists.mp h6
        exact hs_any9 hK hP hC hE hS ⟨aQ_ok hC h1 hx1, rfl⟩ hu
      · have e := ch_set (cy := cy) (e := .inl (9, m2, .inr (.inr (.inr (.inr (va_cpy f g sp.toNatClampNeg dp.toNatClampNeg k.toNatClampNeg)))))) hC hrb j1
        rw [show trE cy (AD nb ad) (.inl (9, m2, .inr (.inr (.inr (.inr (va_cpy f g sp.toNatClampNeg dp.toNatClampNeg k.toNatClampNeg)))))) = .inl (cy 9, m2, .inr (.inr (.inr (.inr fun i => (va_cpy f g sp.toNatClampNeg dp.toNatClampNeg k.toNatClampNeg i).map (AD nb ad))))) from rfl, cpy_map] at e
        exact kk H1 l1 (by rw [show CH cy nb ad n (upE E b _) = _ from e.symm]; exact q1) (by rw [show CH cy nb ad n (upE E b _) = _ from e.symm]; exact q2) q3
    · cases h
end HsW
theorem hl_preS {nb : Nat → Nat} {D : va_G} {cl : List vw_C} {tys : List (ClassId × FieldType)} {W : va_W} {A0 A : Nat → Prop} {s : State} {H : Heap} {locs : List Loc} {av : List Value} (hP : va_P D cl W H) (hK : va_K D cl tys s) (hD : va_D A0 W) (hE : GL nb A s) (hS : va_S A s.heap H locs) (hF : ∀ q, va_A W H.size q → A q) : PreS s H (va_Pc av (fun U => U.heap.size = H.size ∧ va_P D cl W U.heap ∧ va_K D cl tys U ∧ va_D (fun _ => True) W ∧ GL nb (va_A W H.size) U)) av :=
  ⟨fun a U g mk q => by obtain ⟨q0, q1, qP, qK, qD, qE⟩ := q; exact ⟨q0, q1, qP, va_K.moved (u := U) (U := U.calling g mk a) (Vm.Alike.refl U.vm) qK, qD, GL.calling qE⟩, fun U hU hW => ⟨rfl, by rw [hU], by rw [hU]; exact hP, va_K.moved hW.alike hK, hD.weaken (fun _ _ _ _ => trivial), GL.call hE hS hF hU hW⟩⟩
theorem hl_preV {nb : Nat → Nat} {D : va_G} {cl : List vw_C} {tys : List (ClassId × FieldType)} {W : va_W} {A0 A : Nat → Prop} {s : State} {H : Heap} {locs : List Loc} {As : List Value} {C : String} {b : Nat} (hP : va_P D cl W H) (hK : va_K D cl tys s) (hD : va_D A0 W) (hE : GL nb A s) (hS : va_S A s.heap H locs) (hF : ∀ q, va_A W H.size q → A q) (hr : ∃ cell : Cell, H[b]? = some cell ∧ cell.vm.isStatics = false ∧ s.vm.findClass C = some cell.cls) : PreV s H C b (va_Pc (.ref b :: As) (fun U => U.heap.size = H.size ∧ va_P D cl W U.heap ∧ va_K D cl tys U ∧ va_D (fun _ => True) W ∧ GL nb (va_A W H.size) U)) As :=
  ⟨fun a U g mk q => by obtain ⟨q0, q1, qP, qK, qD, qE⟩ := q; exact ⟨q0, q1, qP, va_K.moved (u := U) (U := U.calling g mk a) (Vm.Alike.refl U.vm) qK, qD, GL.calling qE⟩, hr, fun U hU hW => ⟨rfl, by rw [hU], by rw [hU]; exact hP, va_K.moved hW.alike hK, hD.weaken (fun _ _ _ _ => trivial), GL.call hE hS hF hU hW⟩⟩
theorem gF {own C : String} {idx : Nat} {x y : MethodName} {c : ByteArray} {n : Nat} {r : Option FieldType} (h1 : Cond.methodLink own idx x ∈ wsL_law) (h3 : Cond.selects C x y ∈ wsL_law) (h2 : Cond.instanceMethod y ∈ wsL_law) (h4 : Cond.initialized y.cls ∈ wsL_law) (h5 : Cond.code y c n r ∈ wsL_law) : GoodIn wsL_law (va_wsF own idx C x y (wsg y c n r)) := by
  intro w hw
  rcases List.mem_append.mp hw with hw | hw
  · simp only [List.mem_cons, List.not_mem_nil, or_false] at hw
    rcases hw with rfl | rfl | rfl | rfl
    · exact ⟨h1, my_good _ h1⟩
    · exact ⟨h3, my_good _ h3⟩
    · exact ⟨h2, my_good _ h2⟩
    · exact ⟨h4, my_good _ h4⟩
  · exact gI h5 w hw
theorem gSU {own : String} {idx : Nat} {y : MethodName} {c : ByteArray} {n : Nat} {r : Option FieldType} (h1 : Cond.methodLink own idx y ∈ wsL_law) (h6 : Cond.sameMethod y.cls y.cls y.name y.desc ∈ wsL_law) (h3 : Cond.superclass own y.cls ∈ wsL_law) (h2 : Cond.instanceMethod y ∈ wsL_law) (h4 : Cond.initialized y.cls ∈ wsL_law) (h5 : Cond.code y c n r ∈ wsL_law) : GoodIn wsL_law (va_wsSU own idx y (wsg y c n r)) := by
  intro w hw
  rcases List.mem_append.mp hw with hw | hw
  · simp only [List.mem_cons, List.not_mem_nil, or_false] at hw
    rcases hw with rfl | rfl | rfl | rfl | rfl
    · exact ⟨h1, my_good _ h1⟩
    · exact ⟨h6, my_good _ h6⟩
    · exact ⟨h3, my_good _ h3⟩
    · exact ⟨h2, my_good _ h2⟩
    · exact ⟨h4, my_good _ h4⟩
  · exact gI h5 w hw
theorem gO {own C owner : String} {idx : Nat} {x y : MethodName} {c : ByteArray} {n : Nat} {r : Option FieldType} (h1 : Cond.methodLink own idx x ∈ wsL_law) (h6 : Cond.sameMethod x.cls owner x.name x.desc ∈ wsL_law) (h7 : Cond.instanceMethod ⟨owner, x.name, x.desc⟩ ∈ wsL_law) (h3 : Cond.selects C x y ∈ wsL_law) (h2 : Cond.instanceMethod y ∈ wsL_law) (h4 : Cond.initialized y.cls ∈ wsL_law) (h5 : Cond.code y c n r ∈ wsL_law) : GoodIn wsL_law (va_wsO own idx C owner x y (wsg y c n r)) := by
  intro w hw
  rcases List.mem_append.mp hw with hw | hw
  · simp only [List.mem_cons, List.not_mem_nil, or_false] at hw
    rcases hw with rfl | rfl | rfl | rfl | rfl | rfl
    · exact ⟨h1, my_good _ h1⟩
    · exact ⟨h6, my_good _ h6⟩
    · exact ⟨h7, my_good _ h7⟩
    · exact ⟨h3, my_good _ h3⟩
    · exact ⟨h2, my_good _ h2⟩
    · exact ⟨h4, my_good _ h4⟩
  · exact gI h5 w hw
theorem nok_J0 : okE 0 (.inr (0, [.null, .int 0, .int 0, .int 0])) := fun v hv => by
  simp only [List.mem_cons, List.not_mem_nil, or_false] at hv
  rcases hv with rfl | rfl | rfl | rfl <;> trivial
theorem nok_J4 : okE 0 (.inr (1, [.null, .int 0, .int 0, .int 0])) := fun v hv => by
  simp only [List.mem_cons, List.not_mem_nil, or_false] at hv
  rcases hv with rfl | rfl | rfl | rfl <;> trivial
theorem nok_Jx35411 : okE 0 (.inr (13, [.int 0, .int 0, .int 0, .null])) := fun v hv => by
  simp only [List.mem_cons, List.not_mem_nil, or_false] at hv
  rcases hv with rfl | rfl | rfl | rfl <;> trivial
theorem nok_Jx4a65c : okE 0 (.inr (14, [.int 0, .null, .int 0])) := fun v hv => by
  simp only [List.mem_cons, List.not_mem_nil, or_false] at hv
  rcases hv with rfl | rfl | rfl <;> trivial
theorem nok_X10 : okE 0 (.inr (10, [.int 0, .null, .int 0, .int 0, .int 0, .int 0, .int 0, .int 0, .int 0, .int 0, .int 0, .int 0, .int 0, .int 0, .int 0])) := fun v hv => by
  simp only [List.mem_cons, List.not_mem_nil, or_false] at hv
  rcases hv with rfl | rfl | rfl | rfl | rfl | rfl | rfl | rfl | rfl | rfl | rfl | rfl | rfl | rfl | rfl <;> trivial
theorem nok_X8 : okE 0 (.inr (8, [.int 0, .null, .int 0, .int 0, .int 0, .int 0, .int 0, .int 0, .int 0])) := fun v hv => by
  simp only [List.mem_cons, List.not_mem_nil, or_false] at hv
  rcases hv with rfl | rfl | rfl | rfl | rfl | rfl | rfl | rfl | rfl <;> trivial
theorem nok_X9 : okE 0 (.inr (9, [.int 0, .int 0, .int 0, .int 0, .int 0, .int 0, .int 0, .null, .null, .null, .null, .null, .null, .null])) := fun v hv => by
  simp only [List.mem_cons, List.not_mem_nil, or_false] at hv
  rcases hv with rfl | rfl | rfl | rfl | rfl | rfl | rfl | rfl | rfl | rfl | rfl | rfl | rfl | rfl <;> trivial
