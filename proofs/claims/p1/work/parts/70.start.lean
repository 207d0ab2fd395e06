theorem mw_0 : Cond.classLink RL 8 RX7 ∈ wsL_law := mi_0 _ (List.mem_of_getElem? (i := 0) rfl)
theorem mw_1 : Cond.instantiable RX7 12 ∈ wsL_law := mi_0 _ (List.mem_of_getElem? (i := 1) rfl)
theorem mw_3 : Cond.classLink RL 127 RX8 ∈ wsL_law := mi_0 _ (List.mem_of_getElem? (i := 3) rfl)
theorem mw_4 : Cond.instantiable RX8 23 ∈ wsL_law := mi_0 _ (List.mem_of_getElem? (i := 4) rfl)
theorem mw_6 : Cond.arrayClass .long ∈ wsL_law := mi_0 _ (List.mem_of_getElem? (i := 6) rfl)
theorem mw_7 : Cond.arrayClass .double ∈ wsL_law := mi_0 _ (List.mem_of_getElem? (i := 7) rfl)
theorem mw_9 : Cond.methodLink RL 126 yX7_init ∈ wsL_law := mi_0 _ (List.mem_of_getElem? (i := 9) rfl)
theorem mw_10 : Cond.instanceMethod yX7_init ∈ wsL_law := mi_0 _ (List.mem_of_getElem? (i := 10) rfl)
theorem mw_11 : Cond.code yX7_init cX7_init 1 none ∈ wsL_law := mi_0 _ (List.mem_of_getElem? (i := 11) rfl)
theorem mw_93 : Cond.methodLink RL 129 yX8_init ∈ wsL_law := mi_72 _ (List.mem_of_getElem? (i := 21) rfl)
theorem mw_94 : Cond.instanceMethod yX8_init ∈ wsL_law := mi_72 _ (List.mem_of_getElem? (i := 22) rfl)
theorem mw_95 : Cond.code yX8_init cX8_init 1 none ∈ wsL_law := mi_72 _ (List.mem_of_getElem? (i := 23) rfl)
theorem my_aP {args : Array Value} {s : State} {ty : FieldType} (h : (Cond.arrayClass ty).before args s = true) : ∃ cA, s.vm.findClass ("[" ++ ty.toString) = some cA ∧ ArrOfT s cA ty := by
  obtain ⟨cA, kA, comp, h1, h2, h3⟩ := Cond.arrayClass_spec (args := args) (first := s) (o := none) (s := s) (idx := []) h
  exact ⟨cA, h1, fun N z => ⟨(fun k h => by cases h), kA, h2, comp, h3⟩⟩
theorem my_aO {args : Array Value} {s : State} {C : String} (h : (Cond.arrayOver (.object C)).before args s = true) : ∃ cA, va_RA s cA (.object C) ∧ ArrOfT s cA (.object C) := by
  obtain ⟨comp, cA, kA, h1, -, h3, h4, h5⟩ := Cond.arrayOver_spec (args := args) (first := s) (o := none) (s := s) (idx := []) h
  exact ⟨cA, ⟨kA, comp, h3, h4, h1, h5⟩, fun N z => ⟨(fun k h => by cases h), kA, h3, comp, h4⟩⟩
theorem my_ex {args : Array Value} {s : State} {t : Term} {nm : String} (h : (Cond.exactly t nm).before args s = true) : ∃ a : Nat, t.eval args s none [] s = some (.ref a) := by
  obtain ⟨a2, c, cA, kA, q1, -⟩ := Cond.exactly_spec (args := args) (first := s) (o := none) (s := s) (idx := []) (t := t) (cls := nm) h
  exact ⟨a2, q1⟩
/-- a String constant with its bytes -/
theorem my_WH {args : Array Value} {s : State} {C : String} {k q v n : Nat} {f : Nat → Value} {A : Nat → Prop} (hA : ∀ a : Nat, a < s.heap.size → ¬ A a) (h1 : (Cond.exactly (.string C k) "java/lang/String").before args s = true) (hq : (Term.string C k).eval args s none [] s = some (.ref q)) (h2 : (Cond.eq (.field (.string C k) "java/lang/String" "coder" "B") (.int 0)).before args s = true) (h3 : (Cond.arrayOf (.field (.string C k) "java/lang/String" "value" "[B") .byte).before args s = true) (h4 : (Cond.eq (.length (.field (.string C k) "java/lang/String" "value" "[B")) (.int (Int32.ofNat n))).before args s = true) (hn : n < 2 ^ 31) (hv : (Term.field (.string C k) "java/lang/String" "value" "[B").eval args s none [] s = some (.ref v)) (h5 : ∀ j : Nat, j < n → (Term.elem (.field (.string C k) "java/lang/String" "value" "[B") (.int (Int32.ofNat j))).eval args s none [] s = some (f j)) : WH q v n A s s.heap := by
  refine ⟨va_Oof h1 hq hA, vk_OFof hq (va_eqt h2) hA, vk_OFof hq hv hA, f, ?_⟩
  obtain ⟨t, ht, hT⟩ := va_Tof (f := f) (A := A) hn h3 (va_eqt h4) h5 hA
  cases hv.symm.trans ht
  exact hT

theorem start_K {s : State} {b : Nat} (hts : ∀ w ∈ lw_tbl, w.before #[Value.ref b] s = true) : ∃ (dC : Nat → ClassId) (dI : Nat → Nat → Nat) (cy : Nat → ClassId), va_K (dC, dI) vwCl (tyL cy) s := by
  obtain ⟨c0, i0, h0⟩ := u_known (C := RJ0) (T := TJ0) (N := 4) (n := 4) hts (fun w h => tr_1606 w h) (hts _ (tb_4 _ (List.mem_of_getElem? (i := 72) rfl)))
  obtain ⟨c1, i1, h1⟩ := u_known (C := RJ4) (T := TJ4) (N := 4) (n := 4) hts (fun w h => tr_1610 w h) (hts _ (tb_3 _ (List.mem_of_getElem? (i := 166) rfl)))
  obtain ⟨c2, i2, h2⟩ := u_known (C := RX1) (T := TX1) (N := 9) (n := 9) hts (fun w h => tr_1597 w h) (hts _ (tb_1 _ (List.mem_of_getElem? (i := 185) rfl)))
  obtain ⟨c3, i3, h3⟩ := u_known (C := RX3) (T := TX3) (N := 17) (n := 17) hts (fun w h => tr_1542 w h) (hts _ (tb_1 _ (List.mem_of_getElem? (i := 37) rfl)))
  obtain ⟨c4, i4, h4⟩ := u_known (C := RX4) (T := TX4) (N := 12) (n := 12) hts (fun w h => tr_1585 w h) (hts _ (tb_1 _ (List.mem_of_getElem? (i := 123) rfl)))
  obtain ⟨c5, i5, h5⟩ := u_known (C := RX5) (T := TX5) (N := 11) (n := 11) hts (fun w h => tr_1559 w h) (hts _ (tb_2 _ (List.mem_of_getElem? (i := 70) rfl)))
  obtain ⟨c6, i6, h6⟩ := u_known (C := RX6) (T := TX6) (N := 15) (n := 15) hts (fun w h => tr_1570 w h) (hts _ (tb_1 _ (List.mem_of_getElem? (i := 48) rfl)))
  obtain ⟨c7, i7, h7⟩ := u_known (C := RX7) (T := TX7) (N := 12) (n := 12) hts (fun w h => tr_1507 w h) (hts _ (tb_1 _ (List.mem_of_getElem? (i := 29) rfl)))
  obtain ⟨c8, i8, h8⟩ := u_known (C := RX8) (T := TX8) (N := 23) (n := 23) hts (fun w h => tr_1519 w h) (hts _ (tb_6 _ (List.mem_of_getElem? (i := 234) rfl)))
  obtain ⟨y0, e0, f0⟩ := my_aP (hts (.arrayClass .byte) (tb_2 _ (List.mem_of_getElem? (i := 113) rfl)))
  obtain ⟨y1, e1, f1⟩ := my_aP (hts (.arrayClass .int) (tb_1 _ (List.mem_of_getElem? (i := 122) rfl)))
  obtain ⟨y2, e2, f2⟩ := my_aP (hts (.arrayClass .boolean) (tb_7 _ (List.mem_of_getElem? (i := 73) rfl)))
  obtain ⟨y3, e3, f3⟩ := my_aP (hts (.arrayClass .long) (tb_9 _ (List.mem_of_getElem? (i := 113) rfl)))
  obtain ⟨y4, e4, f4⟩ := my_aP (hts (.arrayClass .double) (tb_9 _ (List.mem_of_getElem? (i := 114) rfl)))
  obtain ⟨y5, e5, f5⟩ := my_aO (hts (.arrayOver (.object RX3)) (tb_2 _ (List.mem_of_getElem? (i := 114) rfl)))
  obtain ⟨y6, e6, f6⟩ := my_aO (hts (.arrayOver (.object RX6)) (tb_1 _ (List.mem_of_getElem? (i := 43) rfl)))
  obtain ⟨y7, e7, f7⟩ := my_aO (hts (.arrayOver (.object RX4)) (tb_1 _ (List.mem_of_getElem? (i := 45) rfl)))
  obtain ⟨y8, e8, f8⟩ := my_aO (hts (.arrayOver (.object RX1)) (tb_1 _ (List.mem_of_getElem? (i := 47) rfl)))
  refine ⟨fun c => match c with | 0 => c0 | 1 => c1 | 2 => c2 | 3 => c3 | 4 => c4 | 5 => c5 | 6 => c6 | 7 => c7 | _ => c8, fun c => match c with | 0 => i0 | 1 => i1 | 2 => i2 | 3 => i3 | 4 => i4 | 5 => i5 | 6 => i6 | 7 => i7 | _ => i8, fun c => match c with | 0 => y0 | 1 => y1 | 2 => y2 | 3 => y3 | 4 => y4 | 5 => y5 | 6 => y6 | 7 => y7 | _ => y8, fun c q hq => ?_, fun k q hq => ?_⟩
  · match c, hq with
    | 0, hq => cases hq; exact h0
    | 1, hq => cases hq; exact h1
    | 2, hq => cases hq; exact h2
    | 3, hq => cases hq; exact h3
    | 4, hq => cases hq; exact h4
    | 5, hq => cases hq; exact h5
    | 6, hq => cases hq; exact h6
    | 7, hq => cases hq; exact h7
    | 8, hq => cases hq; exact h8
    | (n + 9), hq => cases hq
  · match k, hq with
    | 0, hq => cases hq; exact ⟨f0, e0⟩
    | 1, hq => cases hq; exact ⟨f1, e1⟩
    | 2, hq => cases hq; exact ⟨f2, e2⟩
    | 3, hq => cases hq; exact ⟨f3, e3⟩
    | 4, hq => cases hq; exact ⟨f4, e4⟩
    | 5, hq => cases hq; exact ⟨f5, e5⟩
    | 6, hq => cases hq; exact ⟨f6, e6⟩
    | 7, hq => cases hq; exact ⟨f7, e7⟩
    | 8, hq => cases hq; exact ⟨f8, e8⟩
    | (n + 9), hq => cases hq
set_option maxRecDepth 20000 in
theorem start_GV {s : State} {b : Nat} (hts : ∀ w ∈ lw_tbl, w.before #[Value.ref b] s = true) (hs : ∀ c ∈ flatC (Jvm.Cond.and given_1 narrow_1), c.before #[Value.ref b] s = true) : GV s := by
  obtain ⟨s90, hs90⟩ := my_ex (hs (Jvm.Cond.exactly (Jvm.Term.string "CardLine" (90 : Nat)) "java/lang/String") (List.mem_of_getElem? (i := 461) (by decide +kernel)))
  obtain ⟨s98, hs98⟩ := my_ex (hs (Jvm.Cond.exactly (Jvm.Term.string "CardLine" (98 : Nat)) "java/lang/String") (List.mem_of_getElem? (i := 490) (by decide +kernel)))
  obtain ⟨s103, hs103⟩ := my_ex (hs (Jvm.Cond.exactly (Jvm.Term.string "CardLine" (103 : Nat)) "java/lang/String") (List.mem_of_getElem? (i := 517) (by decide +kernel)))
  obtain ⟨s107, hs107⟩ := my_ex (hs (Jvm.Cond.exactly (Jvm.Term.string "CardLine" (107 : Nat)) "java/lang/String") (List.mem_of_getElem? (i := 544) (by decide +kernel)))
  obtain ⟨s116, hs116⟩ := my_ex (hs (Jvm.Cond.exactly (Jvm.Term.string "CardLine" (116 : Nat)) "java/lang/String") (List.mem_of_getElem? (i := 428) (by decide +kernel)))
  obtain ⟨s266, hs266⟩ := my_ex (hs (Jvm.Cond.exactly (Jvm.Term.string "CardLine" (266 : Nat)) "java/lang/String") (List.mem_of_getElem? (i := 585) (by decide +kernel)))
  obtain ⟨s316, hs316⟩ := my_ex (hs (Jvm.Cond.exactly (Jvm.Term.string "CardLine" (316 : Nat)) "java/lang/String") (List.mem_of_getElem? (i := 632) (by decide +kernel)))
  exact ⟨⟨(va_Nw.of (A := #[Value.ref b]) rfl (hts (.methodLinkNest RX3 43 yX6_init "CardLine") (tb_1 _ (List.mem_of_getElem? (i := 49) rfl)))), (va_Nw.of (A := #[Value.ref b]) rfl (hts (.methodLinkNest RX3 44 yX4_init "CardLine") (tb_1 _ (List.mem_of_getElem? (i := 124) rfl)))), (va_Nw.of (A := #[Value.ref b]) rfl (hts (.methodLinkNest RX3 45 yX1_init "CardLine") (tb_1 _ (List.mem_of_getElem? (i := 186) rfl)))), (va_Nw.of (A := #[Value.ref b]) rfl (hts (.methodLinkNest RX7 21 yX5_init "CardLine") (tb_2 _ (List.mem_of_getElem? (i := 71) rfl)))), (va_Nw.of (A := #[Value.ref b]) rfl (hts (.methodLinkNest RX5 96 yX7_mostPace "CardLine") (tb_3 _ (List.mem_of_getElem? (i := 109) rfl)))), (va_Nw.of (A := #[Value.ref b]) rfl (hts (.methodLinkNest RX6 62 yX7_stepsOf "CardLine") (tb_4 _ (List.mem_of_getElem? (i := 232) rfl))))⟩, ⟨(va_Nw.of (A := #[Value.ref b]) rfl (hts (.fieldLinkNest RX1 9 RX7 "NO_BYTES" "[B" "CardLine") (tb_1 _ (List.mem_of_getElem? (i := 190) rfl)))), (va_Nw.of (A := #[Value.ref b]) rfl (hts (.fieldLinkNest RX6 9 RX7 "NO_BYTES" "[B" "CardLine") (tb_1 _ (List.mem_of_getElem? (i := 53) rfl)))), (va_Nw.of (A := #[Value.ref b]) rfl (hts (.fieldLinkNest RX5 187 RX7 "NO_BYTES" "[B" "CardLine") (tb_4 _ (List.mem_of_getElem? (i := 141) rfl))))⟩, ⟨va_AO.of (hts (.arrayOver (.object RX3)) (tb_2 _ (List.mem_of_getElem? (i := 114) rfl))), va_AO.of (hts (.arrayOver (.object RX6)) (tb_1 _ (List.mem_of_getElem? (i := 43) rfl))), va_AO.of (hts (.arrayOver (.object RX4)) (tb_1 _ (List.mem_of_getElem? (i := 45) rfl))), va_AO.of (hts (.arrayOver (.object RX1)) (tb_1 _ (List.mem_of_getElem? (i := 47) rfl)))⟩, ⟨(va_Nw.of (A := #[Value.ref b]) rfl (hts (.castable xI xI) (tb_5 _ (List.mem_of_getElem? (i := 176) rfl)))), (va_Nw.of (A := #[Value.ref b]) rfl (hts (.castable xA xA) (tb_3 _ (List.mem_of_getElem? (i := 127) rfl)))), va_Nc.of (hs (Jvm.Cond.not (Jvm.Cond.castable "java/lang/IllegalArgumentException" "java/lang/IndexOutOfBoundsException")) (List.mem_of_getElem? (i := 266) (by decide +kernel))), ⟨(va_Nw.of (A := #[Value.ref b]) rfl (hts (.declares (Bundle.initS xR)) (tb_3 _ (List.mem_of_getElem? (i := 129) rfl)))), (va_Nw.of (A := #[Value.ref b]) rfl (hts (.declares (Bundle.initS xE)) (tb_3 _ (List.mem_of_getElem? (i := 131) rfl)))), (va_Nw.of (A := #[Value.ref b]) rfl (hts (.declares (Bundle.initS Bundle.tN)) (tb_3 _ (List.mem_of_getElem? (i := 133) rfl))))⟩⟩, ⟨⟨s90, vk_R.of (hts (.stringRef RX7 90 "no such station") (tb_5 _ (List.mem_of_getElem? (i := 183) rfl))) hs90⟩, ⟨s98, vk_R.of (hts (.stringRef RX7 98 "no such card") (tb_5 _ (List.mem_of_getElem? (i := 201) rfl))) hs98⟩, ⟨s103, vk_R.of (hts (.stringRef RX7 103 "no such lot") (tb_5 _ (List.mem_of_getElem? (i := 220) rfl))) hs103⟩, ⟨s107, vk_R.of (hts (.stringRef RX7 107 "a number is out of range") (tb_6 _ (List.mem_of_getElem? (i := 0) rfl))) hs107⟩, ⟨s116, vk_R.of (hts (.stringRef RX7 116 "what is out of range") (tb_5 _ (List.mem_of_getElem? (i := 153) rfl))) hs116⟩, ⟨s266, vk_R.of (hts (.stringRef RX7 266 "index or what is out of range") (tb_6 _ (List.mem_of_getElem? (i := 17) rfl))) hs266⟩, ⟨s316, vk_R.of (hts (.stringRef RX7 316 "not two cards of one lot") (tb_6 _ (List.mem_of_getElem? (i := 119) rfl))) hs316⟩⟩⟩
set_option maxRecDepth 20000 in
set_option maxHeartbeats 4000000 in
theorem start_GE {s : State} {b : Nat} (hts : ∀ w ∈ lw_tbl, w.before #[Value.ref b] s = true) (hs : ∀ c ∈ flatC (Jvm.Cond.and given_1 narrow_1), c.before #[Value.ref b] s = true) : ∃ nb : Nat → Nat, GE nb (fun q => s.heap.size ≤ q) s := by
  have hA : ∀ a : Nat, a < s.heap.size → ¬ (fun q : Nat => s.heap.size ≤ q) a := fun a h => Nat.not_le.mpr h
  obtain ⟨q0, h0⟩ := my_ex (hs (Jvm.Cond.exactly (Jvm.Term.static "CardLine" "NO_BYTES" "[B") "[B") (List.mem_of_getElem? (i := 899) (by decide +kernel)))
  have hev := (hs (Jvm.Cond.exactly (Jvm.Term.static "CardLine$Event" "ALL_FINISHED" "LCardLine$Event;") "CardLine$Event") (List.mem_of_getElem? (i := 220) (by decide +kernel)))
  obtain ⟨q1, h1⟩ := my_ex hev
  obtain ⟨q2, h2, hT⟩ := va_Tof (tm := .static RX0 "$SwitchMap$CardLine$Event" "[I") (ty := .int) (N := 5) (f := swF) (by decide) (hs (Jvm.Cond.arrayOf (Jvm.Term.static "CardLine$1" "$SwitchMap$CardLine$Event" "[I") Jvm.ClassFile.FieldType.int) (List.mem_of_getElem? (i := 223) (by decide +kernel))) (va_eqt (hs (Jvm.Cond.eq (Jvm.Term.length (Jvm.Term.static "CardLine$1" "$SwitchMap$CardLine$Event" "[I")) (Jvm.Term.int (5 : Int32))) (List.mem_of_getElem? (i := 224) (by decide +kernel)))) (fun j hj => match j, hj with | 0, _ => va_eqt (z := 1) (hs (Jvm.Cond.eq (Jvm.Term.elem (Jvm.Term.static "CardLine$1" "$SwitchMap$CardLine$Event" "[I") (Jvm.Term.int (0 : Int32))) (Jvm.Term.int (1 : Int32))) (List.mem_of_getElem? (i := 225) (by decide +kernel))) | 1, _ => va_eqt (z := 2) (hs (Jvm.Cond.eq (Jvm.Term.elem (Jvm.Term.static "CardLine$1" "$SwitchMap$CardLine$Event" "[I") (Jvm.Term.int (1 : Int32))) (Jvm.Term.int (2 : Int32))) (List.mem_of_getElem? (i := 226) (by decide +kernel))) | 2, _ => va_eqt (z := 3) (hs (Jvm.Cond.eq (Jvm.Term.elem (Jvm.Term.static "CardLine$1" "$SwitchMap$CardLine$Event" "[I") (Jvm.Term.int (2 : Int32))) (Jvm.Term.int (3 : Int32))) (List.mem_of_getElem? (i := 227) (by decide +kernel))) | 3, _ => va_eqt (z := 4) (hs (Jvm.Cond.eq (Jvm.Term.elem (Jvm.Term.static "CardLine$1" "$SwitchMap$CardLine$Event" "[I") (Jvm.Term.int (3 : Int32))) (Jvm.Term.int (4 : Int32))) (List.mem_of_getElem? (i := 228) (by decide +kernel))) | 4, _ => va_eqt (z := 0) (hs (Jvm.Cond.eq (Jvm.Term.elem (Jvm.Term.static "CardLine$1" "$SwitchMap$CardLine$Event" "[I") (Jvm.Term.int (4 : Int32))) (Jvm.Term.int (0 : Int32))) (List.mem_of_getElem? (i := 229) (by decide +kernel))) | (n + 5), hj => absurd hj (by omega)) hA
  have x0 := (hs (Jvm.Cond.exactly (Jvm.Term.string "CardLine$Reader" (144 : Nat)) "java/lang/String") (List.mem_of_getElem? (i := 318) (by decide +kernel)))
  obtain ⟨s0, hs0⟩ := my_ex x0
  obtain ⟨v0, hv0⟩ := my_ex (hs (Jvm.Cond.exactly (Jvm.Term.field (Jvm.Term.string "CardLine$Reader" (144 : Nat)) "java/lang/String" "value" "[B") "[B") (List.mem_of_getElem? (i := 902) (by decide +kernel)))
  have w0 : WH s0 v0 4 (fun q => s.heap.size ≤ q) s s.heap := my_WH (n := 4) (f := fun j => .int (([99, 104, 105, 112] : List Int32).getD j 0)) hA x0 hs0 (hs (Jvm.Cond.eq (Jvm.Term.field (Jvm.Term.string "CardLine$Reader" (144 : Nat)) "java/lang/String" "coder" "B") (Jvm.Term.int (0 : Int32))) (List.mem_of_getElem? (i := 319) (by decide +kernel))) (hs (Jvm.Cond.arrayOf (Jvm.Term.field (Jvm.Term.string "CardLine$Reader" (144 : Nat)) "java/lang/String" "value" "[B") Jvm.ClassFile.FieldType.byte) (List.mem_of_getElem? (i := 320) (by decide +kernel))) (hs (Jvm.Cond.eq (Jvm.Term.length (Jvm.Term.field (Jvm.Term.string "CardLine$Reader" (144 : Nat)) "java/lang/String" "value" "[B")) (Jvm.Term.int (4 : Int32))) (List.mem_of_getElem? (i := 321) (by decide +kernel))) (by decide) hv0 (fun j hj => match j, hj with | 0, _ => va_eqt (z := 99) (hs (Jvm.Cond.eq (Jvm.Term.elem (Jvm.Term.field (Jvm.Term.string "CardLine$Reader" (144 : Nat)) "java/lang/String" "value" "[B") (Jvm.Term.int (0 : Int32))) (Jvm.Term.int (99 : Int32))) (List.mem_of_getElem? (i := 322) (by decide +kernel))) | 1, _ => va_eqt (z := 104) (hs (Jvm.Cond.eq (Jvm.Term.elem (Jvm.Term.field (Jvm.Term.string "CardLine$Reader" (144 : Nat)) "java/lang/String" "value" "[B") (Jvm.Term.int (1 : Int32))) (Jvm.Term.int (104 : Int32))) (List.mem_of_getElem? (i := 323) (by decide +kernel))) | 2, _ => va_eqt (z := 105) (hs (Jvm.Cond.eq (Jvm.Term.elem (Jvm.Term.field (Jvm.Term.string "CardLine$Reader" (144 : Nat)) "java/lang/String" "value" "[B") (Jvm.Term.int (2 : Int32))) (Jvm.Term.int (105 : Int32))) (List.mem_of_getElem? (i := 324) (by decide +kernel))) | 3, _ => va_eqt (z := 112) (hs (Jvm.Cond.eq (Jvm.Term.elem (Jvm.Term.field (Jvm.Term.string "CardLine$Reader" (144 : Nat)) "java/lang/String" "value" "[B") (Jvm.Term.int (3 : Int32))) (Jvm.Term.int (112 : Int32))) (List.mem_of_getElem? (i := 325) (by decide +kernel))) | (n + 4), hj => absurd hj (by omega))
  have x1 := (hs (Jvm.Cond.exactly (Jvm.Term.string "CardLine$Reader" (150 : Nat)) "java/lang/String") (List.mem_of_getElem? (i := 326) (by decide +kernel)))
  obtain ⟨s1, hs1⟩ := my_ex x1
  obtain ⟨v1, hv1⟩ := my_ex (hs (Jvm.Cond.exactly (Jvm.Term.field (Jvm.Term.string "CardLine$Reader" (150 : Nat)) "java/lang/String" "value" "[B") "[B") (List.mem_of_getElem? (i := 903) (by decide +kernel)))
  have w1 : WH s1 v1 6 (fun q => s.heap.size ≤ q) s s.heap := my_WH (n := 6) (f := fun j => .int (([115, 116, 114, 105, 112, 101] : List Int32).getD j 0)) hA x1 hs1 (hs (Jvm.Cond.eq (Jvm.Term.field (Jvm.Term.string "CardLine$Reader" (150 : Nat)) "java/lang/String" "coder" "B") (Jvm.Term.int (0 : Int32))) (List.mem_of_getElem? (i := 327) (by decide +kernel))) (hs (Jvm.Cond.arrayOf (Jvm.Term.field (Jvm.Term.string "CardLine$Reader" (150 : Nat)) "java/lang/String" "value" "[B") Jvm.ClassFile.FieldType.byte) (List.mem_of_getElem? (i := 328) (by decide +kernel))) (hs (Jvm.Cond.eq (Jvm.Term.length (Jvm.Term.field (Jvm.Term.string "CardLine$Reader" (150 : Nat)) "java/lang/String" "value" "[B")) (Jvm.Term.int (6 : Int32))) (List.mem_of_getElem? (i := 329) (by decide +kernel))) (by decide) hv1 (fun j hj => match j, hj with | 0, _ => va_eqt (z := 115) (hs (Jvm.Cond.eq (Jvm.Term.elem (Jvm.Term.field (Jvm.Term.string "CardLine$Reader" (150 : Nat)) "java/lang/String" "value" "[B") (Jvm.Term.int (0 : Int32))) (Jvm.Term.int (115 : Int32))) (List.mem_of_getElem? (i := 330) (by decide +kernel))) | 1, _ => va_eqt (z := 116) (hs (Jvm.Cond.eq (Jvm.Term.elem (Jvm.Term.field (Jvm.Term.string "CardLine$Reader" (150 : Nat)) "java/lang/String" "value" "[B") (Jvm.Term.int (1 : Int32))) (Jvm.Term.int (116 : Int32))) (List.mem_of_getElem? (i := 331) (by decide +kernel))) | 2, _ => va_eqt (z := 114) (hs (Jvm.Cond.eq (Jvm.Term.elem (Jvm.Term.field (Jvm.Term.string "CardLine$Reader" (150 : Nat)) "java/lang/String" "value" "[B") (Jvm.Term.int (2 : Int32))) (Jvm.Term.int (114 : Int32))) (List.mem_of_getElem? (i := 332) (by decide +kernel))) | 3, _ => va_eqt (z := 105) (hs (Jvm.Cond.eq (Jvm.Term.elem (Jvm.Term.field (Jvm.Term.string "CardLine$Reader" (150 : Nat)) "java/lang/String" "value" "[B") (Jvm.Term.int (3 : Int32))) (Jvm.Term.int (105 : Int32))) (List.mem_of_getElem? (i := 333) (by decide +kernel))) | 4, _ => va_eqt (z := 112) (hs (Jvm.Cond.eq (Jvm.Term.elem (Jvm.Term.field (Jvm.Term.string "CardLine$Reader" (150 : Nat)) "java/lang/String" "value" "[B") (Jvm.Term.int (4 : Int32))) (Jvm.Term.int (112 : Int32))) (List.mem_of_getElem? (i := 334) (by decide +kernel))) | 5, _ => va_eqt (z := 101) (hs (Jvm.Cond.eq (Jvm.Term.elem (Jvm.Term.field (Jvm.Term.string "CardLine$Reader" (150 : Nat)) "java/lang/String" "value" "[B") (Jvm.Term.int (5 : Int32))) (Jvm.Term.int (101 : Int32))) (List.mem_of_getElem? (i := 335) (by decide +kernel))) | (n + 6), hj => absurd hj (by omega))
  have x2 := (hs (Jvm.Cond.exactly (Jvm.Term.string "CardLine$Reader" (152 : Nat)) "java/lang/String") (List.mem_of_getElem? (i := 337) (by decide +kernel)))
  obtain ⟨s2, hs2⟩ := my_ex x2
  obtain ⟨v2, hv2⟩ := my_ex (hs (Jvm.Cond.exactly (Jvm.Term.field (Jvm.Term.string "CardLine$Reader" (152 : Nat)) "java/lang/String" "value" "[B") "[B") (List.mem_of_getElem? (i := 904) (by decide +kernel)))
  have w2 : WH s2 v2 5 (fun q => s.heap.size ≤ q) s s.heap := my_WH (n := 5) (f := fun j => .int (([112, 114, 105, 110, 116] : List Int32).getD j 0)) hA x2 hs2 (hs (Jvm.Cond.eq (Jvm.Term.field (Jvm.Term.string "CardLine$Reader" (152 : Nat)) "java/lang/String" "coder" "B") (Jvm.Term.int (0 : Int32))) (List.mem_of_getElem? (i := 338) (by decide +kernel))) (hs (Jvm.Cond.arrayOf (Jvm.Term.field (Jvm.Term.string "CardLine$Reader" (152 : Nat)) "java/lang/String" "value" "[B") Jvm.ClassFile.FieldType.byte) (List.mem_of_getElem? (i := 339) (by decide +kernel))) (hs (Jvm.Cond.eq (Jvm.Term.length (Jvm.Term.field (Jvm.Term.string "CardLine$Reader" (152 : Nat)) "java/lang/String" "value" "[B")) (Jvm.Term.int (5 : Int32))) (List.mem_of_getElem? (i := 340) (by decide +kernel))) (by decide) hv2 (fun j hj => match j, hj with | 0, _ => va_eqt (z := 112) (hs (Jvm.Cond.eq (Jvm.Term.elem (Jvm.Term.field (Jvm.Term.string "CardLine$Reader" (152 : Nat)) "java/lang/String" "value" "[B") (Jvm.Term.int (0 : Int32))) (Jvm.Term.int (112 : Int32))) (List.mem_of_getElem? (i := 341) (by decide +kernel))) | 1, _ => va_eqt (z := 114) (hs (Jvm.Cond.eq (Jvm.Term.elem (Jvm.Term.field (Jvm.Term.string "CardLine$Reader" (152 : Nat)) "java/lang/String" "value" "[B") (Jvm.Term.int (1 : Int32))) (Jvm.Term.int (114 : Int32))) (List.mem_of_getElem? (i := 342) (by decide +kernel))) | 2, _ => va_eqt (z := 105) (hs (Jvm.Cond.eq (Jvm.Term.elem (Jvm.Term.field (Jvm.Term.string "CardLine$Reader" (152 : Nat)) "java/lang/String" "value" "[B") (Jvm.Term.int (2 : Int32))) (Jvm.Term.int (105 : Int32))) (List.mem_of_getElem? (i := 343) (by decide +kernel))) | 3, _ => va_eqt (z := 110) (hs (Jvm.Cond.eq (Jvm.Term.elem (Jvm.Term.field (Jvm.Term.string "CardLine$Reader" (152 : Nat)) "java/lang/String" "value" "[B") (Jvm.Term.int (3 : Int32))) (Jvm.Term.int (110 : Int32))) (List.mem_of_getElem? (i := 344) (by decide +kernel))) | 4, _ => va_eqt (z := 116) (hs (Jvm.Cond.eq (Jvm.Term.elem (Jvm.Term.field (Jvm.Term.string "CardLine$Reader" (152 : Nat)) "java/lang/String" "value" "[B") (Jvm.Term.int (4 : Int32))) (Jvm.Term.int (116 : Int32))) (List.mem_of_getElem? (i := 345) (by decide +kernel))) | (n + 5), hj => absurd hj (by omega))
  have x3 := (hs (Jvm.Cond.exactly (Jvm.Term.string "CardLine$Reader" (154 : Nat)) "java/lang/String") (List.mem_of_getElem? (i := 348) (by decide +kernel)))
  obtain ⟨s3, hs3⟩ := my_ex x3
  obtain ⟨v3, hv3⟩ := my_ex (hs (Jvm.Cond.exactly (Jvm.Term.field (Jvm.Term.string "CardLine$Reader" (154 : Nat)) "java/lang/String" "value" "[B") "[B") (List.mem_of_getElem? (i := 905) (by decide +kernel)))
  have w3 : WH s3 v3 5 (fun q => s.heap.size ≤ q) s s.heap := my_WH (n := 5) (f := fun j => .int (([119, 104, 101, 101, 108] : List Int32).getD j 0)) hA x3 hs3 (hs (Jvm.Cond.eq (Jvm.Term.field (Jvm.Term.string "CardLine$Reader" (154 : Nat)) "java/lang/String" "coder" "B") (Jvm.Term.int (0 : Int32))) (List.mem_of_getElem? (i := 349) (by decide +kernel))) (hs (Jvm.Cond.arrayOf (Jvm.Term.field (Jvm.Term.string "CardLine$Reader" (154 : Nat)) "java/lang/String" "value" "[B") Jvm.ClassFile.FieldType.byte) (List.mem_of_getElem? (i := 350) (by decide +kernel))) (hs (Jvm.Cond.eq (Jvm.Term.length (Jvm.Term.field (Jvm.Term.string "CardLine$Reader" (154 : Nat)) "java/lang/String" "value" "[B")) (Jvm.Term.int (5 : Int32))) (List.mem_of_getElem? (i := 351) (by decide +kernel))) (by decide) hv3 (fun j hj => match j, hj with | 0, _ => va_eqt (z := 119) (hs (Jvm.Cond.eq (Jvm.Term.elem (Jvm.Term.field (Jvm.Term.string "CardLine$Reader" (154 : Nat)) "java/lang/String" "value" "[B") (Jvm.Term.int (0 : Int32))) (Jvm.Term.int (119 : Int32))) (List.mem_of_getElem? (i := 352) (by decide +kernel))) | 1, _ => va_eqt (z := 104) (hs (Jvm.Cond.eq (Jvm.Term.elem (Jvm.Term.field (Jvm.Term.string "CardLine$Reader" (154 : Nat)) "java/lang/String" "value" "[B") (Jvm.Term.int (1 : Int32))) (Jvm.Term.int (104 : Int32))) (List.mem_of_getElem? (i := 353) (by decide +kernel))) | 2, _ => va_eqt (z := 101) (hs (Jvm.Cond.eq (Jvm.Term.elem (Jvm.Term.field (Jvm.Term.string "CardLine$Reader" (154 : Nat)) "java/lang/String" "value" "[B") (Jvm.Term.int (2 : Int32))) (Jvm.Term.int (101 : Int32))) (List.mem_of_getElem? (i := 354) (by decide +kernel))) | 3, _ => va_eqt (z := 101) (hs (Jvm.Cond.eq (Jvm.Term.elem (Jvm.Term.field (Jvm.Term.string "CardLine$Reader" (154 : Nat)) "java/lang/String" "value" "[B") (Jvm.Term.int (3 : Int32))) (Jvm.Term.int (101 : Int32))) (List.mem_of_getElem? (i := 355) (by decide +kernel))) | 4, _ => va_eqt (z := 108) (hs (Jvm.Cond.eq (Jvm.Term.elem (Jvm.Term.field (Jvm.Term.string "CardLine$Reader" (154 : Nat)) "java/lang/String" "value" "[B") (Jvm.Term.int (4 : Int32))) (Jvm.Term.int (108 : Int32))) (List.mem_of_getElem? (i := 356) (by decide +kernel))) | (n + 5), hj => absurd hj (by omega))
  have x4 := (hs (Jvm.Cond.exactly (Jvm.Term.string "CardLine$Reader" (156 : Nat)) "java/lang/String") (List.mem_of_getElem? (i := 360) (by decide +kernel)))
  obtain ⟨s4, hs4⟩ := my_ex x4
  obtain ⟨v4, hv4⟩ := my_ex (hs (Jvm.Cond.exactly (Jvm.Term.field (Jvm.Term.string "CardLine$Reader" (156 : Nat)) "java/lang/String" "value" "[B") "[B") (List.mem_of_getElem? (i := 906) (by decide +kernel)))
  have w4 : WH s4 v4 4 (fun q => s.heap.size ≤ q) s s.heap := my_WH (n := 4) (f := fun j => .int (([114, 101, 115, 116] : List Int32).getD j 0)) hA x4 hs4 (hs (Jvm.Cond.eq (Jvm.Term.field (Jvm.Term.string "CardLine$Reader" (156 : Nat)) "java/lang/String" "coder" "B") (Jvm.Term.int (0 : Int32))) (List.mem_of_getElem? (i := 361) (by decide +kernel))) (hs (Jvm.Cond.arrayOf (Jvm.Term.field (Jvm.Term.string "CardLine$Reader" (156 : Nat)) "java/lang/String" "value" "[B") Jvm.ClassFile.FieldType.byte) (List.mem_of_getElem? (i := 362) (by decide +kernel))) (hs (Jvm.Cond.eq (Jvm.Term.length (Jvm.Term.field (Jvm.Term.string "CardLine$Reader" (156 : Nat)) "java/lang/String" "value" "[B")) (Jvm.Term.int (4 : Int32))) (List.mem_of_getElem? (i := 363) (by decide +kernel))) (by decide) hv4 (fun j hj => match j, hj with | 0, _ => va_eqt (z := 114) (hs (Jvm.Cond.eq (Jvm.Term.elem (Jvm.Term.field (Jvm.Term.string "CardLine$Reader" (156 : Nat)) "java/lang/String" "value" "[B") (Jvm.Term.int (0 : Int32))) (Jvm.Term.int (114 : Int32))) (List.mem_of_getElem? (i := 364) (by decide +kernel))) | 1, _ => va_eqt (z := 101) (hs (Jvm.Cond.eq (Jvm.Term.elem (Jvm.Term.field (Jvm.Term.string "CardLine$Reader" (156 : Nat)) "java/lang/String" "value" "[B") (Jvm.Term.int (1 : Int32))) (Jvm.Term.int (101 : Int32))) (List.mem_of_getElem? (i := 365) (by decide +kernel))) | 2, _ => va_eqt (z := 115) (hs (Jvm.Cond.eq (Jvm.Term.elem (Jvm.Term.field (Jvm.Term.string "CardLine$Reader" (156 : Nat)) "java/lang/String" "value" "[B") (Jvm.Term.int (2 : Int32))) (Jvm.Term.int (115 : Int32))) (List.mem_of_getElem? (i := 366) (by decide +kernel))) | 3, _ => va_eqt (z := 116) (hs (Jvm.Cond.eq (Jvm.Term.elem (Jvm.Term.field (Jvm.Term.string "CardLine$Reader" (156 : Nat)) "java/lang/String" "value" "[B") (Jvm.Term.int (3 : Int32))) (Jvm.Term.int (116 : Int32))) (List.mem_of_getElem? (i := 367) (by decide +kernel))) | (n + 4), hj => absurd hj (by omega))
  have x5 := (hs (Jvm.Cond.exactly (Jvm.Term.string "CardLine$Reader" (158 : Nat)) "java/lang/String") (List.mem_of_getElem? (i := 372) (by decide +kernel)))
  obtain ⟨s5, hs5⟩ := my_ex x5
  obtain ⟨v5, hv5⟩ := my_ex (hs (Jvm.Cond.exactly (Jvm.Term.field (Jvm.Term.string "CardLine$Reader" (158 : Nat)) "java/lang/String" "value" "[B") "[B") (List.mem_of_getElem? (i := 907) (by decide +kernel)))
  have w5 : WH s5 v5 3 (fun q => s.heap.size ≤ q) s s.heap := my_WH (n := 3) (f := fun j => .int (([108, 111, 116] : List Int32).getD j 0)) hA x5 hs5 (hs (Jvm.Cond.eq (Jvm.Term.field (Jvm.Term.string "CardLine$Reader" (158 : Nat)) "java/lang/String" "coder" "B") (Jvm.Term.int (0 : Int32))) (List.mem_of_getElem? (i := 373) (by decide +kernel))) (hs (Jvm.Cond.arrayOf (Jvm.Term.field (Jvm.Term.string "CardLine$Reader" (158 : Nat)) "java/lang/String" "value" "[B") Jvm.ClassFile.FieldType.byte) (List.mem_of_getElem? (i := 374) (by decide +kernel))) (hs (Jvm.Cond.eq (Jvm.Term.length (Jvm.Term.field (Jvm.Term.string "CardLine$Reader" (158 : Nat)) "java/lang/String" "value" "[B")) (Jvm.Term.int (3 : Int32))) (List.mem_of_getElem? (i := 375) (by decide +kernel))) (by decide) hv5 (fun j hj => match j, hj with | 0, _ => va_eqt (z := 108) (hs (Jvm.Cond.eq (Jvm.Term.elem (Jvm.Term.field (Jvm.Term.string "CardLine$Reader" (158 : Nat)) "java/lang/String" "value" "[B") (Jvm.Term.int (0 : Int32))) (Jvm.Term.int (108 : Int32))) (List.mem_of_getElem? (i := 376) (by decide +kernel))) | 1, _ => va_eqt (z := 111) (hs (Jvm.Cond.eq (Jvm.Term.elem (Jvm.Term.field (Jvm.Term.string "CardLine$Reader" (158 : Nat)) "java/lang/String" "value" "[B") (Jvm.Term.int (1 : Int32))) (Jvm.Term.int (111 : Int32))) (List.mem_of_getElem? (i := 377) (by decide +kernel))) | 2, _ => va_eqt (z := 116) (hs (Jvm.Cond.eq (Jvm.Term.elem (Jvm.Term.field (Jvm.Term.string "CardLine$Reader" (158 : Nat)) "java/lang/String" "value" "[B") (Jvm.Term.int (2 : Int32))) (Jvm.Term.int (116 : Int32))) (List.mem_of_getElem? (i := 378) (by decide +kernel))) | (n + 3), hj => absurd hj (by omega))
  have x6 := (hs (Jvm.Cond.exactly (Jvm.Term.string "CardLine$Reader" (160 : Nat)) "java/lang/String") (List.mem_of_getElem? (i := 384) (by decide +kernel)))
  obtain ⟨s6, hs6⟩ := my_ex x6
  obtain ⟨v6, hv6⟩ := my_ex (hs (Jvm.Cond.exactly (Jvm.Term.field (Jvm.Term.string "CardLine$Reader" (160 : Nat)) "java/lang/String" "value" "[B") "[B") (List.mem_of_getElem? (i := 908) (by decide +kernel)))
  have w6 : WH s6 v6 4 (fun q => s.heap.size ≤ q) s s.heap := my_WH (n := 4) (f := fun j => .int (([99, 97, 114, 100] : List Int32).getD j 0)) hA x6 hs6 (hs (Jvm.Cond.eq (Jvm.Term.field (Jvm.Term.string "CardLine$Reader" (160 : Nat)) "java/lang/String" "coder" "B") (Jvm.Term.int (0 : Int32))) (List.mem_of_getElem? (i := 385) (by decide +kernel))) (hs (Jvm.Cond.arrayOf (Jvm.Term.field (Jvm.Term.string "CardLine$Reader" (160 : Nat)) "java/lang/String" "value" "[B") Jvm.ClassFile.FieldType.byte) (List.mem_of_getElem? (i := 386) (by decide +kernel))) (hs (Jvm.Cond.eq (Jvm.Term.length (Jvm.Term.field (Jvm.Term.string "CardLine$Reader" (160 : Nat)) "java/lang/String" "value" "[B")) (Jvm.Term.int (4 : Int32))) (List.mem_of_getElem? (i := 387) (by decide +kernel))) (by decide) hv6 (fun j hj => match j, hj with | 0, _ => va_eqt (z := 99) (hs (Jvm.Cond.eq (Jvm.Term.elem (Jvm.Term.field (Jvm.Term.string "CardLine$Reader" (160 : Nat)) "java/lang/String" "value" "[B") (Jvm.Term.int (0 : Int32))) (Jvm.Term.int (99 : Int32))) (List.mem_of_getElem? (i := 388) (by decide +kernel))) | 1, _ => va_eqt (z := 97) (hs (Jvm.Cond.eq (Jvm.Term.elem (Jvm.Term.field (Jvm.Term.string "CardLine$Reader" (160 : Nat)) "java/lang/String" "value" "[B") (Jvm.Term.int (1 : Int32))) (Jvm.Term.int (97 : Int32))) (List.mem_of_getElem? (i := 389) (by decide +kernel))) | 2, _ => va_eqt (z := 114) (hs (Jvm.Cond.eq (Jvm.Term.elem (Jvm.Term.field (Jvm.Term.string "CardLine$Reader" (160 : Nat)) "java/lang/String" "value" "[B") (Jvm.Term.int (2 : Int32))) (Jvm.Term.int (114 : Int32))) (List.mem_of_getElem? (i := 390) (by decide +kernel))) | 3, _ => va_eqt (z := 100) (hs (Jvm.Cond.eq (Jvm.Term.elem (Jvm.Term.field (Jvm.Term.string "CardLine$Reader" (160 : Nat)) "java/lang/String" "value" "[B") (Jvm.Term.int (3 : Int32))) (Jvm.Term.int (100 : Int32))) (List.mem_of_getElem? (i := 391) (by decide +kernel))) | (n + 4), hj => absurd hj (by omega))
  have x7 := (hs (Jvm.Cond.exactly (Jvm.Term.string "CardLine$Reader" (162 : Nat)) "java/lang/String") (List.mem_of_getElem? (i := 398) (by decide +kernel)))
  obtain ⟨s7, hs7⟩ := my_ex x7
  obtain ⟨v7, hv7⟩ := my_ex (hs (Jvm.Cond.exactly (Jvm.Term.field (Jvm.Term.string "CardLine$Reader" (162 : Nat)) "java/lang/String" "value" "[B") "[B") (List.mem_of_getElem? (i := 909) (by decide +kernel)))
  have w7 : WH s7 v7 4 (fun q => s.heap.size ≤ q) s s.heap := my_WH (n := 4) (f := fun j => .int (([108, 105, 110, 101] : List Int32).getD j 0)) hA x7 hs7 (hs (Jvm.Cond.eq (Jvm.Term.field (Jvm.Term.string "CardLine$Reader" (162 : Nat)) "java/lang/String" "coder" "B") (Jvm.Term.int (0 : Int32))) (List.mem_of_getElem? (i := 399) (by decide +kernel))) (hs (Jvm.Cond.arrayOf (Jvm.Term.field (Jvm.Term.string "CardLine$Reader" (162 : Nat)) "java/lang/String" "value" "[B") Jvm.ClassFile.FieldType.byte) (List.mem_of_getElem? (i := 400) (by decide +kernel))) (hs (Jvm.Cond.eq (Jvm.Term.length (Jvm.Term.field (Jvm.Term.string "CardLine$Reader" (162 : Nat)) "java/lang/String" "value" "[B")) (Jvm.Term.int (4 : Int32))) (List.mem_of_getElem? (i := 401) (by decide +kernel))) (by decide) hv7 (fun j hj => match j, hj with | 0, _ => va_eqt (z := 108) (hs (Jvm.Cond.eq (Jvm.Term.elem (Jvm.Term.field (Jvm.Term.string "CardLine$Reader" (162 : Nat)) "java/lang/String" "value" "[B") (Jvm.Term.int (0 : Int32))) (Jvm.Term.int (108 : Int32))) (List.mem_of_getElem? (i := 402) (by decide +kernel))) | 1, _ => va_eqt (z := 105) (hs (Jvm.Cond.eq (Jvm.Term.elem (Jvm.Term.field (Jvm.Term.string "CardLine$Reader" (162 : Nat)) "java/lang/String" "value" "[B") (Jvm.Term.int (1 : Int32))) (Jvm.Term.int (105 : Int32))) (List.mem_of_getElem? (i := 403) (by decide +kernel))) | 2, _ => va_eqt (z := 110) (hs (Jvm.Cond.eq (Jvm.Term.elem (Jvm.Term.field (Jvm.Term.string "CardLine$Reader" (162 : Nat)) "java/lang/String" "value" "[B") (Jvm.Term.int (2 : Int32))) (Jvm.Term.int (110 : Int32))) (List.mem_of_getElem? (i := 404) (by decide +kernel))) | 3, _ => va_eqt (z := 101) (hs (Jvm.Cond.eq (Jvm.Term.elem (Jvm.Term.field (Jvm.Term.string "CardLine$Reader" (162 : Nat)) "java/lang/String" "value" "[B") (Jvm.Term.int (3 : Int32))) (Jvm.Term.int (101 : Int32))) (List.mem_of_getElem? (i := 405) (by decide +kernel))) | (n + 4), hj => absurd hj (by omega))
  have x8 := (hs (Jvm.Cond.exactly (Jvm.Term.string "CardLineModel" (143 : Nat)) "java/lang/String") (List.mem_of_getElem? (i := 675) (by decide +kernel)))
  obtain ⟨s8, hs8⟩ := my_ex x8
  obtain ⟨v8, hv8⟩ := my_ex (hs (Jvm.Cond.exactly (Jvm.Term.field (Jvm.Term.string "CardLineModel" (143 : Nat)) "java/lang/String" "value" "[B") "[B") (List.mem_of_getElem? (i := 918) (by decide +kernel)))
  have w8 : WH s8 v8 4 (fun q => s.heap.size ≤ q) s s.heap := my_WH (n := 4) (f := fun j => .int (([108, 105, 110, 101] : List Int32).getD j 0)) hA x8 hs8 (hs (Jvm.Cond.eq (Jvm.Term.field (Jvm.Term.string "CardLineModel" (143 : Nat)) "java/lang/String" "coder" "B") (Jvm.Term.int (0 : Int32))) (List.mem_of_getElem? (i := 676) (by decide +kernel))) (hs (Jvm.Cond.arrayOf (Jvm.Term.field (Jvm.Term.string "CardLineModel" (143 : Nat)) "java/lang/String" "value" "[B") Jvm.ClassFile.FieldType.byte) (List.mem_of_getElem? (i := 677) (by decide +kernel))) (hs (Jvm.Cond.eq (Jvm.Term.length (Jvm.Term.field (Jvm.Term.string "CardLineModel" (143 : Nat)) "java/lang/String" "value" "[B")) (Jvm.Term.int (4 : Int32))) (List.mem_of_getElem? (i := 678) (by decide +kernel))) (by decide) hv8 (fun j hj => match j, hj with | 0, _ => va_eqt (z := 108) (hs (Jvm.Cond.eq (Jvm.Term.elem (Jvm.Term.field (Jvm.Term.string "CardLineModel" (143 : Nat)) "java/lang/String" "value" "[B") (Jvm.Term.int (0 : Int32))) (Jvm.Term.int (108 : Int32))) (List.mem_of_getElem? (i := 679) (by decide +kernel))) | 1, _ => va_eqt (z := 105) (hs (Jvm.Cond.eq (Jvm.Term.elem (Jvm.Term.field (Jvm.Term.string "CardLineModel" (143 : Nat)) "java/lang/String" "value" "[B") (Jvm.Term.int (1 : Int32))) (Jvm.Term.int (105 : Int32))) (List.mem_of_getElem? (i := 680) (by decide +kernel))) | 2, _ => va_eqt (z := 110) (hs (Jvm.Cond.eq (Jvm.Term.elem (Jvm.Term.field (Jvm.Term.string "CardLineModel" (143 : Nat)) "java/lang/String" "value" "[B") (Jvm.Term.int (2 : Int32))) (Jvm.Term.int (110 : Int32))) (List.mem_of_getElem? (i := 681) (by decide +kernel))) | 3, _ => va_eqt (z := 101) (hs (Jvm.Cond.eq (Jvm.Term.elem (Jvm.Term.field (Jvm.Term.string "CardLineModel" (143 : Nat)) "java/lang/String" "value" "[B") (Jvm.Term.int (3 : Int32))) (Jvm.Term.int (101 : Int32))) (List.mem_of_getElem? (i := 682) (by decide +kernel))) | (n + 4), hj => absurd hj (by omega))
  refine ⟨fun k => ([q0, q1, q2, s0, v0, s1, v1, s2, v2, s3, v3, s4, v4, s5, v5, s6, v6, s7, v7, s8, v8] : List Nat).getD k 0, start_GV hts hs, ⟨va_Zref (hts (.laysStatic "CardLine" "NO_BYTES" "[B") (tb_1 _ (List.mem_of_getElem? (i := 54) rfl))) (hts (.initialized "CardLine") (tb_1 _ (List.mem_of_getElem? (i := 1) rfl))) h0 hA, vx_Zqof (hts (.laysStatic "java/lang/Throwable" "UNASSIGNED_STACK" "[Ljava/lang/StackTraceElement;") (tb_3 _ (List.mem_of_getElem? (i := 152) rfl))) (hts (.initialized "java/lang/Throwable") (tb_1 _ (List.mem_of_getElem? (i := 15) rfl))) (hs (Jvm.Cond.isRef (Jvm.Term.static "java/lang/Throwable" "UNASSIGNED_STACK" "[Ljava/lang/StackTraceElement;")) (List.mem_of_getElem? (i := 12) (by decide +kernel))) hA, vx_Zqof (hts (.laysStatic "java/lang/Throwable" "SUPPRESSED_SENTINEL" "Ljava/util/List;") (tb_3 _ (List.mem_of_getElem? (i := 154) rfl))) (hts (.initialized "java/lang/Throwable") (tb_1 _ (List.mem_of_getElem? (i := 15) rfl))) (hs (Jvm.Cond.isRef (Jvm.Term.static "java/lang/Throwable" "SUPPRESSED_SENTINEL" "Ljava/util/List;")) (List.mem_of_getElem? (i := 13) (by decide +kernel))) hA, ⟨va_Zref (hts (.laysStatic "CardLine$Event" "ALL_FINISHED" "LCardLine$Event;") (tb_5 _ (List.mem_of_getElem? (i := 8) rfl))) (hts (.initialized "CardLine$Event") (tb_1 _ (List.mem_of_getElem? (i := 26) rfl))) h1 hA, va_Oof hev h1 hA, vk_OFof h1 (va_eqt (hs (Jvm.Cond.eq (Jvm.Term.field (Jvm.Term.static "CardLine$Event" "ALL_FINISHED" "LCardLine$Event;") "java/lang/Enum" "ordinal" "I") (Jvm.Term.int (2 : Int32))) (List.mem_of_getElem? (i := 221) (by decide +kernel)))) hA, va_Zref (hts (.laysStatic "CardLine$1" "$SwitchMap$CardLine$Event" "[I") (tb_5 _ (List.mem_of_getElem? (i := 17) rfl))) (hts (.initialized "CardLine$1") (tb_1 _ (List.mem_of_getElem? (i := 27) rfl))) h2 hA, hT⟩, va_Zof (hts (.laysStatic "java/lang/String" "COMPACT_STRINGS" "Z") (tb_2 _ (List.mem_of_getElem? (i := 208) rfl))) (hts (.initialized "java/lang/String") (tb_1 _ (List.mem_of_getElem? (i := 9) rfl))) (va_eqt (hs (Jvm.Cond.eq (Jvm.Term.static "java/lang/String" "COMPACT_STRINGS" "Z") (Jvm.Term.int (1 : Int32))) (List.mem_of_getElem? (i := 7) (by decide +kernel)))) hA, fun k w hk => ?_⟩, fun k w hk => ?_⟩
  · match k, hk with
    | 0, hk => cases hk; exact w0
    | 1, hk => cases hk; exact w1
    | 2, hk => cases hk; exact w2
    | 3, hk => cases hk; exact w3
    | 4, hk => cases hk; exact w4
    | 5, hk => cases hk; exact w5
    | 6, hk => cases hk; exact w6
    | 7, hk => cases hk; exact w7
    | 8, hk => cases hk; exact w8
    | (n + 9), hk => cases hk
  · match k, hk with
    | 0, hk => cases hk; exact vk_R.of (hts (.stringRef RX5 144 "chip") (tb_2 _ (List.mem_of_getElem? (i := 194) rfl))) hs0
    | 1, hk => cases hk; exact vk_R.of (hts (.stringRef RX5 150 "stripe") (tb_3 _ (List.mem_of_getElem? (i := 7) rfl))) hs1
    | 2, hk => cases hk; exact vk_R.of (hts (.stringRef RX5 152 "print") (tb_3 _ (List.mem_of_getElem? (i := 8) rfl))) hs2
    | 3, hk => cases hk; exact vk_R.of (hts (.stringRef RX5 154 "wheel") (tb_3 _ (List.mem_of_getElem? (i := 9) rfl))) hs3
    | 4, hk => cases hk; exact vk_R.of (hts (.stringRef RX5 156 "rest") (tb_3 _ (List.mem_of_getElem? (i := 10) rfl))) hs4
    | 5, hk => cases hk; exact vk_R.of (hts (.stringRef RX5 158 "lot") (tb_3 _ (List.mem_of_getElem? (i := 11) rfl))) hs5
    | 6, hk => cases hk; exact vk_R.of (hts (.stringRef RX5 160 "card") (tb_3 _ (List.mem_of_getElem? (i := 12) rfl))) hs6
    | 7, hk => cases hk; exact vk_R.of (hts (.stringRef RX5 162 "line") (tb_3 _ (List.mem_of_getElem? (i := 13) rfl))) hs7
    | 8, hk => cases hk; exact vk_R.of (hts (.stringRef RX8 143 "line") (tb_7 _ (List.mem_of_getElem? (i := 118) rfl))) hs8
    | (n + 9), hk => cases hk
theorem my_out {z lo hi : Int32} (h : z < lo ∨ hi < z) : inB z.toInt64 lo.toInt64 hi.toInt64 = 0 := by
  unfold inB
  rw [if_neg]
  rintro ⟨h1, h2⟩
  simp only [Int64.le_iff_toInt_le, Int32.toInt_toInt64] at h1 h2
  simp only [Int32.lt_iff_toInt_lt] at h
  omega
theorem my_in {z lo hi : Int32} {a n : Nat} (hl : lo.toInt = a) (hh : hi.toInt = n) (hn : n < 2 ^ 31) (h : ¬ (z < lo ∨ hi < z)) : ∃ y : Nat, z = nI y ∧ a ≤ y ∧ y ≤ n := by
  simp only [Int32.lt_iff_toInt_lt] at h
  have h0 : ¬ z < 0 := by
    rw [Int32.lt_iff_toInt_lt, show (0 : Int32).toInt = 0 by decide]
    omega
  obtain ⟨j, hj, rfl⟩ := nI_of h0
  rw [nI_toInt hj] at h
  exact ⟨j, rfl, by omega, by omega⟩

set_option maxHeartbeats 8000000 in
set_option maxRecDepth 100000 in
theorem law_cases {p : Program} {e : Env} {s : State} {m : MethodId} {below : List Frame} {meth : Method} {c : Code} (l : Launch) (hst : l.stackTraces = false) {b : Nat} {xs : Nat → Int32} (dC : Nat → ClassId) (dI : Nat → Nat → Nat) (cy : Nat → ClassId) (nb : Nat → Nat) (ch0 : Nat) (ca1 : Nat) (ca2 : Nat) (ca3 : Nat) (ca4 : Nat) (ca5 : Nat) (ca6 : Nat) (ca7 : Nat) (cb1 : Nat) (cb2 : Nat) (cb3 : Nat) (cb4 : Nat) (cb5 : Nat) (cb6 : Nat) (ce1 : Nat) (ce2 : Nat) (ce3 : Nat) (ce4 : Nat) (ce5 : Nat) (ce6 : Nat) (cw1 : Nat) (cw2 : Nat) (cw3 : Nat) (cw4 : Nat) (cf : Nat → Int32) (cg : Nat → Int32) (mh0 : Nat) (ma1 : Nat) (ma2 : Nat) (ma3 : Nat) (ma4 : Nat) (ma5 : Nat) (ma6 : Nat) (ma7 : Nat) (ma8 : Nat) (ma9 : Nat) (mb0 : Nat) (mg : Nat → Int32) (o3 : Nat) (o4 : Nat) (hcf : (∀ k : Nat, k < 5 → cf k = 0)) (hcg : (∀ k : Nat, k < 5 → cg k = 0)) (hmg : FN mg) (C0 : LX p s m meth c b 4 xs dC dI cy nb) {H : Heap} {locs : List Loc} {ls : Array Slot} (hP : va_P (dC, dI) vwCl [(ch0, .inr (7, [.ref ca1, .ref ca2, .ref ca3, .ref ca4, .ref ca5, .ref ca6, .ref ca7, .int 0, .int 0, .int (-1), .int 0, .int 0])), (ca1, .inr (3, [.int 480, .int 1, .int 1, .int 0, .int 0, .int 0, .int 0, .int 0, .int 0, .int 0, .ref cb1, .ref cb2, .ref cb3, .ref cb4, .ref cb5, .ref cb6, .int 0])), (cb4, .inl (cy 1, 5, .inl cf)), (cb5, .inl (cy 1, 30, .inl (fun _ => 0))), (cb6, .inl (cy 1, 5, .inl cg)), (ca2, .inr (3, [.int 1, .int 0, .int 0, .int 0, .int 0, .int 0, .int 0, .int 0, .int 0, .int 0, .ref ce1, .ref ce2, .ref ce3, .ref ce4, .ref ce5, .ref ce6, .int 0])), (ce4, .inl (cy 1, 5, .inl (fun _ => 0))), (ce5, .inl (cy 1, 30, .inl (fun _ => 0))), (ce6, .inl (cy 1, 5, .inl (fun _ => 0))), (ca3, .inr (5, [.ref cw1, .int 0, .int 0, .int 0, .int 0, .int 0, .ref cw2, .ref cw3, .ref cw4, .int 0, .int 0])), (cw1, .inl (cy 0, 600, .inl (fun _ => 0))), (ca5, .inl (cy 5, 8, .inr (.inr (.inr (.inr (fun _ => none)))))), (ca6, .inl (cy 5, 2, .inr (.inr (.inr (.inr (fun _ => none)))))), (mh0, .inr (8, [.ref ma1, .ref ma2, .ref ma3, .ref ma4, .ref ma5, .int 0, .int 0, .ref ma6, .int 0, .int 0, .int 0, .int 0, .int 0, .int 0, .int 0, .int 0, .int (-1), .ref ma7, .ref ma8, .int 0, .ref ma9, .ref mb0, .int 0])), (ma1, .inl (cy 1, 1037, .inl mg)), (ma2, .inl (cy 1, 1037, .inl (fun _ => 0))), (ma3, .inl (cy 1, 8296, .inl (fun _ => 0))), (ma4, .inl (cy 1, 2074, .inl (fun _ => 0))), (ma5, .inl (cy 2, 2, .inl (fun _ => 0))), (ma6, .inl (cy 0, 600, .inl (fun _ => 0))), (o3, .inl (cy 3, 1, .inr (.inl (fun _ => 0)))), (o4, .inl (cy 4, 1, .inr (.inr (.inr (.inl (fun _ => 0))))))] H) (hD : va_D (fun q : Nat => s.heap.size ≤ q) [(ch0, .inr (7, [.ref ca1, .ref ca2, .ref ca3, .ref ca4, .ref ca5, .ref ca6, .ref ca7, .int 0, .int 0, .int (-1), .int 0, .int 0])), (ca1, .inr (3, [.int 480, .int 1, .int 1, .int 0, .int 0, .int 0, .int 0, .int 0, .int 0, .int 0, .ref cb1, .ref cb2, .ref cb3, .ref cb4, .ref cb5, .ref cb6, .int 0])), (cb4, .inl (cy 1, 5, .inl cf)), (cb5, .inl (cy 1, 30, .inl (fun _ => 0))), (cb6, .inl (cy 1, 5, .inl cg)), (ca2, .inr (3, [.int 1, .int 0, .int 0, .int 0, .int 0, .int 0, .int 0, .int 0, .int 0, .int 0, .ref ce1, .ref ce2, .ref ce3, .ref ce4, .ref ce5, .ref ce6, .int 0])), (ce4, .inl (cy 1, 5, .inl (fun _ => 0))), (ce5, .inl (cy 1, 30, .inl (fun _ => 0))), (ce6, .inl (cy 1, 5, .inl (fun _ => 0))), (ca3, .inr (5, [.ref cw1, .int 0, .int 0, .int 0, .int 0, .int 0, .ref cw2, .ref cw3, .ref cw4, .int 0, .int 0])), (cw1, .inl (cy 0, 600, .inl (fun _ => 0))), (ca5, .inl (cy 5, 8, .inr (.inr (.inr (.inr (fun _ => none)))))), (ca6, .inl (cy 5, 2, .inr (.inr (.inr (.inr (fun _ => none)))))), (mh0, .inr (8, [.ref ma1, .ref ma2, .ref ma3, .ref ma4, .ref ma5, .int 0, .int 0, .ref ma6, .int 0, .int 0, .int 0, .int 0, .int 0, .int 0, .int 0, .int 0, .int (-1), .ref ma7, .ref ma8, .int 0, .ref ma9, .ref mb0, .int 0])), (ma1, .inl (cy 1, 1037, .inl mg)), (ma2, .inl (cy 1, 1037, .inl (fun _ => 0))), (ma3, .inl (cy 1, 8296, .inl (fun _ => 0))), (ma4, .inl (cy 1, 2074, .inl (fun _ => 0))), (ma5, .inl (cy 2, 2, .inl (fun _ => 0))), (ma6, .inl (cy 0, 600, .inl (fun _ => 0))), (o3, .inl (cy 3, 1, .inr (.inl (fun _ => 0)))), (o4, .inl (cy 4, 1, .inr (.inr (.inr (.inl (fun _ => 0))))))]) (hS : va_S (fun q : Nat => s.heap.size ≤ q) s.heap H locs) (hl : lv_has ls 10 [(5, .int 0), (4, .ref o4), (3, .ref o3), (2, .ref mh0), (1, .ref ch0), (0, .ref b)]) : W p l e room_1 s m #[Value.ref b] below meth c H locs 157 15678 (lw_Z below #[Value.ref b] s) (F0 m 37 ls []) := by
  have C00 := C0
  obtain ⟨hx, hb, hr, hml, hown, hts, hX, hbl, hlocks, hK, hE⟩ := C0
  have hbA : ¬ (fun q : Nat => s.heap.size ≤ q) b := Nat.not_le.mpr hbl
  refine lv_aload_n hx hb dL_law_37 rfl (lv_at hl 5 rfl) ?_
  refine lv_iload hx hb dL_law_38 (lv_at hl 0 rfl) ?_
  refine va_sld hx hb hX hbl hbA hS (vp_in_nI (n := 0) (by decide) (by decide)) dL_law_40 ?_
  refine my_topi (y := xs 0) rfl ?_
  refine lv_bipush (v := 63) hx hb dL_law_41 (by decide) ?_
  refine lv_iand hx hb dL_law_43 ?_
  obtain ⟨k, hk, e0⟩ := pk_andE (xs 0) (m := 63) 6 (by decide)
  refine my_topi (y := nI k) e0 ?_
  match k, hk with
  | 0, _ =>
    refine my_topi (y := 0) (by decide) ?_
    refine lv_tableIn (off := 224) (tgt := 268) hx hb dL_law_44 (by decide) (by decide) (by decide) (by decide) ?_
    exact law_c0 l hst dC dI cy nb ch0 ca1 ca2 ca3 ca4 ca5 ca6 ca7 cb1 cb2 cb3 cb4 cb5 cb6 ce1 ce2 ce3 ce4 ce5 ce6 cw1 cw2 cw3 cw4 cf cg mh0 ma1 ma2 ma3 ma4 ma5 ma6 ma7 ma8 ma9 mb0 mg o3 o4 hcf hcg hmg C00 hP hD hS hl
  | 1, _ =>
    refine my_topi (y := 1) (by decide) ?_
    refine lv_tableIn (off := 281) (tgt := 325) hx hb dL_law_44 (by decide) (by decide) (by decide) (by decide) ?_
    exact law_c1 l hst dC dI cy nb ch0 ca1 ca2 ca3 ca4 ca5 ca6 ca7 cb1 cb2 cb3 cb4 cb5 cb6 ce1 ce2 ce3 ce4 ce5 ce6 cw1 cw2 cw3 cw4 cf cg mh0 ma1 ma2 ma3 ma4 ma5 ma6 ma7 ma8 ma9 mb0 mg o3 o4 hcf hcg hmg C00 hP hD hS hl
  | 2, _ =>
    refine my_topi (y := 2) (by decide) ?_
    refine lv_tableIn (off := 294) (tgt := 338) hx hb dL_law_44 (by decide) (by decide) (by decide) (by decide) ?_
    exact law_c2 l hst dC dI cy nb ch0 ca1 ca2 ca3 ca4 ca5 ca6 ca7 cb1 cb2 cb3 cb4 cb5 cb6 ce1 ce2 ce3 ce4 ce5 ce6 cw1 cw2 cw3 cw4 cf cg mh0 ma1 ma2 ma3 ma4 ma5 ma6 ma7 ma8 ma9 mb0 mg o3 o4 hcf hcg hmg C00 hP hD hS hl
  | 3, _ =>
    refine my_topi (y := 3) (by decide) ?_
    refine lv_tableIn (off := 307) (tgt := 351) hx hb dL_law_44 (by decide) (by decide) (by decide) (by decide) ?_
    exact law_c3 l hst dC dI cy nb ch0 ca1 ca2 ca3 ca4 ca5 ca6 ca7 cb1 cb2 cb3 cb4 cb5 cb6 ce1 ce2 ce3 ce4 ce5 ce6 cw1 cw2 cw3 cw4 cf cg mh0 ma1 ma2 ma3 ma4 ma5 ma6 ma7 ma8 ma9 mb0 mg o3 o4 hcf hcg hmg C00 hP hD hS hl
  | 4, _ =>
    refine my_topi (y := 4) (by decide) ?_
    refine lv_tableIn (off := 320) (tgt := 364) hx hb dL_law_44 (by decide) (by decide) (by decide) (by decide) ?_
    by_cases hz : xs 1 < 0 ∨ 9 < xs 1
    · exact law_c4_o l hst dC dI cy nb ch0 ca1 ca2 ca3 ca4 ca5 ca6 ca7 cb1 cb2 cb3 cb4 cb5 cb6 ce1 ce2 ce3 ce4 ce5 ce6 cw1 cw2 cw3 cw4 cf cg mh0 ma1 ma2 ma3 ma4 ma5 ma6 ma7 ma8 ma9 mb0 mg o3 o4 hcf hcg hmg hz (my_out (lo := 0) (hi := 9) hz) C00 hP hD hS hl
    · obtain ⟨y, h1, hy1, hy2⟩ := my_in (a := 0) (n := 9) (by decide) (by decide) (by decide) hz
      rcases (show y = 0 ∨ y = 1 ∨ y = 2 ∨ y = 3 ∨ y = 4 ∨ y = 5 ∨ y = 6 ∨ y = 7 ∨ y = 8 ∨ y = 9 by omega) with rfl | rfl | rfl | rfl | rfl | rfl | rfl | rfl | rfl | rfl
      · exact law_c4_0 l hst dC dI cy nb ch0 ca1 ca2 ca3 ca4 ca5 ca6 ca7 cb1 cb2 cb3 cb4 cb5 cb6 ce1 ce2 ce3 ce4 ce5 ce6 cw1 cw2 cw3 cw4 cf cg mh0 ma1 ma2 ma3 ma4 ma5 ma6 ma7 ma8 ma9 mb0 mg o3 o4 hcf hcg hmg (h1.trans (by decide)) C00 hP hD hS hl
      · exact law_c4_1 l hst dC dI cy nb ch0 ca1 ca2 ca3 ca4 ca5 ca6 ca7 cb1 cb2 cb3 cb4 cb5 cb6 ce1 ce2 ce3 ce4 ce5 ce6 cw1 cw2 cw3 cw4 cf cg mh0 ma1 ma2 ma3 ma4 ma5 ma6 ma7 ma8 ma9 mb0 mg o3 o4 hcf hcg hmg (h1.trans (by decide)) C00 hP hD hS hl
      · exact law_c4_2 l hst dC dI cy nb ch0 ca1 ca2 ca3 ca4 ca5 ca6 ca7 cb1 cb2 cb3 cb4 cb5 cb6 ce1 ce2 ce3 ce4 ce5 ce6 cw1 cw2 cw3 cw4 cf cg mh0 ma1 ma2 ma3 ma4 ma5 ma6 ma7 ma8 ma9 mb0 mg o3 o4 hcf hcg hmg (h1.trans (by decide)) C00 hP hD hS hl
      · exact law_c4_3 l hst dC dI cy nb ch0 ca1 ca2 ca3 ca4 ca5 ca6 ca7 cb1 cb2 cb3 cb4 cb5 cb6 ce1 ce2 ce3 ce4 ce5 ce6 cw1 cw2 cw3 cw4 cf cg mh0 ma1 ma2 ma3 ma4 ma5 ma6 ma7 ma8 ma9 mb0 mg o3 o4 hcf hcg hmg (h1.trans (by decide)) C00 hP hD hS hl
      · exact law_c4_4 l hst dC dI cy nb ch0 ca1 ca2 ca3 ca4 ca5 ca6 ca7 cb1 cb2 cb3 cb4 cb5 cb6 ce1 ce2 ce3 ce4 ce5 ce6 cw1 cw2 cw3 cw4 cf cg mh0 ma1 ma2 ma3 ma4 ma5 ma6 ma7 ma8 ma9 mb0 mg o3 o4 hcf hcg hmg (h1.trans (by decide)) C00 hP hD hS hl
      · exact law_c4_5 l hst dC dI cy nb ch0 ca1 ca2 ca3 ca4 ca5 ca6 ca7 cb1 cb2 cb3 cb4 cb5 cb6 ce1 ce2 ce3 ce4 ce5 ce6 cw1 cw2 cw3 cw4 cf cg mh0 ma1 ma2 ma3 ma4 ma5 ma6 ma7 ma8 ma9 mb0 mg o3 o4 hcf hcg hmg (h1.trans (by decide)) C00 hP hD hS hl
      · exact law_c4_6 l hst dC dI cy nb ch0 ca1 ca2 ca3 ca4 ca5 ca6 ca7 cb1 cb2 cb3 cb4 cb5 cb6 ce1 ce2 ce3 ce4 ce5 ce6 cw1 cw2 cw3 cw4 cf cg mh0 ma1 ma2 ma3 ma4 ma5 ma6 ma7 ma8 ma9 mb0 mg o3 o4 hcf hcg hmg (h1.trans (by decide)) C00 hP hD hS hl
      · exact law_c4_7 l hst dC dI cy nb ch0 ca1 ca2 ca3 ca4 ca5 ca6 ca7 cb1 cb2 cb3 cb4 cb5 cb6 ce1 ce2 ce3 ce4 ce5 ce6 cw1 cw2 cw3 cw4 cf cg mh0 ma1 ma2 ma3 ma4 ma5 ma6 ma7 ma8 ma9 mb0 mg o3 o4 hcf hcg hmg (h1.trans (by decide)) C00 hP hD hS hl
      · exact law_c4_8 l hst dC dI cy nb ch0 ca1 ca2 ca3 ca4 ca5 ca6 ca7 cb1 cb2 cb3 cb4 cb5 cb6 ce1 ce2 ce3 ce4 ce5 ce6 cw1 cw2 cw3 cw4 cf cg mh0 ma1 ma2 ma3 ma4 ma5 ma6 ma7 ma8 ma9 mb0 mg o3 o4 hcf hcg hmg (h1.trans (by decide)) C00 hP hD hS hl
      · exact law_c4_9 l hst dC dI cy nb ch0 ca1 ca2 ca3 ca4 ca5 ca6 ca7 cb1 cb2 cb3 cb4 cb5 cb6 ce1 ce2 ce3 ce4 ce5 ce6 cw1 cw2 cw3 cw4 cf cg mh0 ma1 ma2 ma3 ma4 ma5 ma6 ma7 ma8 ma9 mb0 mg o3 o4 hcf hcg hmg (h1.trans (by decide)) C00 hP hD hS hl
  | 5, _ =>
    refine my_topi (y := 5) (by decide) ?_
    refine lv_tableIn (off := 376) (tgt := 420) hx hb dL_law_44 (by decide) (by decide) (by decide) (by decide) ?_
    by_cases hz : xs 1 < 0 ∨ 4 < xs 1
    · exact law_c5_o l hst dC dI cy nb ch0 ca1 ca2 ca3 ca4 ca5 ca6 ca7 cb1 cb2 cb3 cb4 cb5 cb6 ce1 ce2 ce3 ce4 ce5 ce6 cw1 cw2 cw3 cw4 cf cg mh0 ma1 ma2 ma3 ma4 ma5 ma6 ma7 ma8 ma9 mb0 mg o3 o4 hcf hcg hmg hz (my_out (lo := 0) (hi := 4) hz) C00 hP hD hS hl
    · obtain ⟨y, h1, hy1, hy2⟩ := my_in (a := 0) (n := 4) (by decide) (by decide) (by decide) hz
      rcases (show y = 0 ∨ y = 1 ∨ y = 2 ∨ y = 3 ∨ y = 4 by omega) with rfl | rfl | rfl | rfl | rfl
      · exact law_c5_0 l hst dC dI cy nb ch0 ca1 ca2 ca3 ca4 ca5 ca6 ca7 cb1 cb2 cb3 cb4 cb5 cb6 ce1 ce2 ce3 ce4 ce5 ce6 cw1 cw2 cw3 cw4 cf cg mh0 ma1 ma2 ma3 ma4 ma5 ma6 ma7 ma8 ma9 mb0 mg o3 o4 hcf hcg hmg (h1.trans (by decide)) C00 hP hD hS hl
      · exact law_c5_1 l hst dC dI cy nb ch0 ca1 ca2 ca3 ca4 ca5 ca6 ca7 cb1 cb2 cb3 cb4 cb5 cb6 ce1 ce2 ce3 ce4 ce5 ce6 cw1 cw2 cw3 cw4 cf cg mh0 ma1 ma2 ma3 ma4 ma5 ma6 ma7 ma8 ma9 mb0 mg o3 o4 hcf hcg hmg (h1.trans (by decide)) C00 hP hD hS hl
      · exact law_c5_2 l hst dC dI cy nb ch0 ca1 ca2 ca3 ca4 ca5 ca6 ca7 cb1 cb2 cb3 cb4 cb5 cb6 ce1 ce2 ce3 ce4 ce5 ce6 cw1 cw2 cw3 cw4 cf cg mh0 ma1 ma2 ma3 ma4 ma5 ma6 ma7 ma8 ma9 mb0 mg o3 o4 hcf hcg hmg (h1.trans (by decide)) C00 hP hD hS hl
      · exact law_c5_3 l hst dC dI cy nb ch0 ca1 ca2 ca3 ca4 ca5 ca6 ca7 cb1 cb2 cb3 cb4 cb5 cb6 ce1 ce2 ce3 ce4 ce5 ce6 cw1 cw2 cw3 cw4 cf cg mh0 ma1 ma2 ma3 ma4 ma5 ma6 ma7 ma8 ma9 mb0 mg o3 o4 hcf hcg hmg (h1.trans (by decide)) C00 hP hD hS hl
      · exact law_c5_4 l hst dC dI cy nb ch0 ca1 ca2 ca3 ca4 ca5 ca6 ca7 cb1 cb2 cb3 cb4 cb5 cb6 ce1 ce2 ce3 ce4 ce5 ce6 cw1 cw2 cw3 cw4 cf cg mh0 ma1 ma2 ma3 ma4 ma5 ma6 ma7 ma8 ma9 mb0 mg o3 o4 hcf hcg hmg (h1.trans (by decide)) C00 hP hD hS hl
  | 6, _ =>
    refine my_topi (y := 6) (by decide) ?_
    refine lv_tableIn (off := 432) (tgt := 476) hx hb dL_law_44 (by decide) (by decide) (by decide) (by decide) ?_
    exact law_c6 l hst dC dI cy nb ch0 ca1 ca2 ca3 ca4 ca5 ca6 ca7 cb1 cb2 cb3 cb4 cb5 cb6 ce1 ce2 ce3 ce4 ce5 ce6 cw1 cw2 cw3 cw4 cf cg mh0 ma1 ma2 ma3 ma4 ma5 ma6 ma7 ma8 ma9 mb0 mg o3 o4 hcf hcg hmg C00 hP hD hS hl
  | 7, _ =>
    refine my_topi (y := 7) (by decide) ?_
    refine lv_tableIn (off := 500) (tgt := 544) hx hb dL_law_44 (by decide) (by decide) (by decide) (by decide) ?_
    exact law_c7 l hst dC dI cy nb ch0 ca1 ca2 ca3 ca4 ca5 ca6 ca7 cb1 cb2 cb3 cb4 cb5 cb6 ce1 ce2 ce3 ce4 ce5 ce6 cw1 cw2 cw3 cw4 cf cg mh0 ma1 ma2 ma3 ma4 ma5 ma6 ma7 ma8 ma9 mb0 mg o3 o4 hcf hcg hmg C00 hP hD hS hl
  | 8, _ =>
    refine my_topi (y := 8) (by decide) ?_
    refine lv_tableIn (off := 568) (tgt := 612) hx hb dL_law_44 (by decide) (by decide) (by decide) (by decide) ?_
    exact law_c8 l hst dC dI cy nb ch0 ca1 ca2 ca3 ca4 ca5 ca6 ca7 cb1 cb2 cb3 cb4 cb5 cb6 ce1 ce2 ce3 ce4 ce5 ce6 cw1 cw2 cw3 cw4 cf cg mh0 ma1 ma2 ma3 ma4 ma5 ma6 ma7 ma8 ma9 mb0 mg o3 o4 hcf hcg hmg C00 hP hD hS hl
  | 9, _ =>
    refine my_topi (y := 9) (by decide) ?_
    refine lv_tableIn (off := 636) (tgt := 680) hx hb dL_law_44 (by decide) (by decide) (by decide) (by decide) ?_
    exact law_c9 l hst dC dI cy nb ch0 ca1 ca2 ca3 ca4 ca5 ca6 ca7 cb1 cb2 cb3 cb4 cb5 cb6 ce1 ce2 ce3 ce4 ce5 ce6 cw1 cw2 cw3 cw4 cf cg mh0 ma1 ma2 ma3 ma4 ma5 ma6 ma7 ma8 ma9 mb0 mg o3 o4 hcf hcg hmg C00 hP hD hS hl
  | 10, _ =>
    refine my_topi (y := 10) (by decide) ?_
    refine lv_tableIn (off := 704) (tgt := 748) hx hb dL_law_44 (by decide) (by decide) (by decide) (by decide) ?_
    exact law_c10 l hst dC dI cy nb ch0 ca1 ca2 ca3 ca4 ca5 ca6 ca7 cb1 cb2 cb3 cb4 cb5 cb6 ce1 ce2 ce3 ce4 ce5 ce6 cw1 cw2 cw3 cw4 cf cg mh0 ma1 ma2 ma3 ma4 ma5 ma6 ma7 ma8 ma9 mb0 mg o3 o4 hcf hcg hmg C00 hP hD hS hl
  | 11, _ =>
    refine my_topi (y := 11) (by decide) ?_
    refine lv_tableIn (off := 772) (tgt := 816) hx hb dL_law_44 (by decide) (by decide) (by decide) (by decide) ?_
    exact law_c11 l hst dC dI cy nb ch0 ca1 ca2 ca3 ca4 ca5 ca6 ca7 cb1 cb2 cb3 cb4 cb5 cb6 ce1 ce2 ce3 ce4 ce5 ce6 cw1 cw2 cw3 cw4 cf cg mh0 ma1 ma2 ma3 ma4 ma5 ma6 ma7 ma8 ma9 mb0 mg o3 o4 hcf hcg hmg C00 hP hD hS hl
  | 12, _ =>
    refine my_topi (y := 12) (by decide) ?_
    refine lv_tableIn (off := 797) (tgt := 841) hx hb dL_law_44 (by decide) (by decide) (by decide) (by decide) ?_
    exact law_c12 l hst dC dI cy nb ch0 ca1 ca2 ca3 ca4 ca5 ca6 ca7 cb1 cb2 cb3 cb4 cb5 cb6 ce1 ce2 ce3 ce4 ce5 ce6 cw1 cw2 cw3 cw4 cf cg mh0 ma1 ma2 ma3 ma4 ma5 ma6 ma7 ma8 ma9 mb0 mg o3 o4 hcf hcg hmg C00 hP hD hS hl
  | 13, _ =>
    refine my_topi (y := 13) (by decide) ?_
    refine lv_tableIn (off := 822) (tgt := 866) hx hb dL_law_44 (by decide) (by decide) (by decide) (by decide) ?_
    exact law_c13 l hst dC dI cy nb ch0 ca1 ca2 ca3 ca4 ca5 ca6 ca7 cb1 cb2 cb3 cb4 cb5 cb6 ce1 ce2 ce3 ce4 ce5 ce6 cw1 cw2 cw3 cw4 cf cg mh0 ma1 ma2 ma3 ma4 ma5 ma6 ma7 ma8 ma9 mb0 mg o3 o4 hcf hcg hmg C00 hP hD hS hl
  | 14, _ =>
    refine my_topi (y := 14) (by decide) ?_
    refine lv_tableIn (off := 835) (tgt := 879) hx hb dL_law_44 (by decide) (by decide) (by decide) (by decide) ?_
    exact law_c14 l hst dC dI cy nb ch0 ca1 ca2 ca3 ca4 ca5 ca6 ca7 cb1 cb2 cb3 cb4 cb5 cb6 ce1 ce2 ce3 ce4 ce5 ce6 cw1 cw2 cw3 cw4 cf cg mh0 ma1 ma2 ma3 ma4 ma5 ma6 ma7 ma8 ma9 mb0 mg o3 o4 hcf hcg hmg C00 hP hD hS hl
  | 15, _ =>
    refine my_topi (y := 15) (by decide) ?_
    refine lv_tableIn (off := 903) (tgt := 947) hx hb dL_law_44 (by decide) (by decide) (by decide) (by decide) ?_
    exact law_c15 l hst dC dI cy nb ch0 ca1 ca2 ca3 ca4 ca5 ca6 ca7 cb1 cb2 cb3 cb4 cb5 cb6 ce1 ce2 ce3 ce4 ce5 ce6 cw1 cw2 cw3 cw4 cf cg mh0 ma1 ma2 ma3 ma4 ma5 ma6 ma7 ma8 ma9 mb0 mg o3 o4 hcf hcg hmg C00 hP hD hS hl
  | 16, _ =>
    refine my_topi (y := 16) (by decide) ?_
    refine lv_tableIn (off := 971) (tgt := 1015) hx hb dL_law_44 (by decide) (by decide) (by decide) (by decide) ?_
    exact law_c16 l hst dC dI cy nb ch0 ca1 ca2 ca3 ca4 ca5 ca6 ca7 cb1 cb2 cb3 cb4 cb5 cb6 ce1 ce2 ce3 ce4 ce5 ce6 cw1 cw2 cw3 cw4 cf cg mh0 ma1 ma2 ma3 ma4 ma5 ma6 ma7 ma8 ma9 mb0 mg o3 o4 hcf hcg hmg C00 hP hD hS hl
  | 17, _ =>
    refine my_topi (y := 17) (by decide) ?_
    refine lv_tableIn (off := 984) (tgt := 1028) hx hb dL_law_44 (by decide) (by decide) (by decide) (by decide) ?_
    exact law_c17 l hst dC dI cy nb ch0 ca1 ca2 ca3 ca4 ca5 ca6 ca7 cb1 cb2 cb3 cb4 cb5 cb6 ce1 ce2 ce3 ce4 ce5 ce6 cw1 cw2 cw3 cw4 cf cg mh0 ma1 ma2 ma3 ma4 ma5 ma6 ma7 ma8 ma9 mb0 mg o3 o4 hcf hcg hmg C00 hP hD hS hl
  | 18, _ =>
    refine my_topi (y := 18) (by decide) ?_
    refine lv_tableIn (off := 1064) (tgt := 1108) hx hb dL_law_44 (by decide) (by decide) (by decide) (by decide) ?_
    exact law_c18 l hst dC dI cy nb ch0 ca1 ca2 ca3 ca4 ca5 ca6 ca7 cb1 cb2 cb3 cb4 cb5 cb6 ce1 ce2 ce3 ce4 ce5 ce6 cw1 cw2 cw3 cw4 cf cg mh0 ma1 ma2 ma3 ma4 ma5 ma6 ma7 ma8 ma9 mb0 mg o3 o4 hcf hcg hmg C00 hP hD hS hl
  | 19, _ =>
    refine my_topi (y := 19) (by decide) ?_
    refine lv_tableIn (off := 1132) (tgt := 1176) hx hb dL_law_44 (by decide) (by decide) (by decide) (by decide) ?_
    by_cases hz : xs 1 < 0 ∨ 4 < xs 1
    · exact law_c19_o l hst dC dI cy nb ch0 ca1 ca2 ca3 ca4 ca5 ca6 ca7 cb1 cb2 cb3 cb4 cb5 cb6 ce1 ce2 ce3 ce4 ce5 ce6 cw1 cw2 cw3 cw4 cf cg mh0 ma1 ma2 ma3 ma4 ma5 ma6 ma7 ma8 ma9 mb0 mg o3 o4 hcf hcg hmg hz (my_out (lo := 0) (hi := 4) hz) C00 hP hD hS hl
    · obtain ⟨y, h1, hy1, hy2⟩ := my_in (a := 0) (n := 4) (by decide) (by decide) (by decide) hz
      rcases (show y = 0 ∨ y = 1 ∨ y = 2 ∨ y = 3 ∨ y = 4 by omega) with rfl | rfl | rfl | rfl | rfl
      · exact law_c19_0 l hst dC dI cy nb ch0 ca1 ca2 ca3 ca4 ca5 ca6 ca7 cb1 cb2 cb3 cb4 cb5 cb6 ce1 ce2 ce3 ce4 ce5 ce6 cw1 cw2 cw3 cw4 cf cg mh0 ma1 ma2 ma3 ma4 ma5 ma6 ma7 ma8 ma9 mb0 mg o3 o4 hcf hcg hmg (h1.trans (by decide)) C00 hP hD hS hl
      · exact law_c19_1 l hst dC dI cy nb ch0 ca1 ca2 ca3 ca4 ca5 ca6 ca7 cb1 cb2 cb3 cb4 cb5 cb6 ce1 ce2 ce3 ce4 ce5 ce6 cw1 cw2 cw3 cw4 cf cg mh0 ma1 ma2 ma3 ma4 ma5 ma6 ma7 ma8 ma9 mb0 mg o3 o4 hcf hcg hmg (h1.trans (by decide)) C00 hP hD hS hl
      · exact law_c19_2 l hst dC dI cy nb ch0 ca1 ca2 ca3 ca4 ca5 ca6 ca7 cb1 cb2 cb3 cb4 cb5 cb6 ce1 ce2 ce3 ce4 ce5 ce6 cw1 cw2 cw3 cw4 cf cg mh0 ma1 ma2 ma3 ma4 ma5 ma6 ma7 ma8 ma9 mb0 mg o3 o4 hcf hcg hmg (h1.trans (by decide)) C00 hP hD hS hl
      · exact law_c19_3 l hst dC dI cy nb ch0 ca1 ca2 ca3 ca4 ca5 ca6 ca7 cb1 cb2 cb3 cb4 cb5 cb6 ce1 ce2 ce3 ce4 ce5 ce6 cw1 cw2 cw3 cw4 cf cg mh0 ma1 ma2 ma3 ma4 ma5 ma6 ma7 ma8 ma9 mb0 mg o3 o4 hcf hcg hmg (h1.trans (by decide)) C00 hP hD hS hl
      · exact law_c19_4 l hst dC dI cy nb ch0 ca1 ca2 ca3 ca4 ca5 ca6 ca7 cb1 cb2 cb3 cb4 cb5 cb6 ce1 ce2 ce3 ce4 ce5 ce6 cw1 cw2 cw3 cw4 cf cg mh0 ma1 ma2 ma3 ma4 ma5 ma6 ma7 ma8 ma9 mb0 mg o3 o4 hcf hcg hmg (h1.trans (by decide)) C00 hP hD hS hl
  | 20, _ =>
    refine my_topi (y := 20) (by decide) ?_
    refine lv_tableIn (off := 1188) (tgt := 1232) hx hb dL_law_44 (by decide) (by decide) (by decide) (by decide) ?_
    exact law_c20 l hst dC dI cy nb ch0 ca1 ca2 ca3 ca4 ca5 ca6 ca7 cb1 cb2 cb3 cb4 cb5 cb6 ce1 ce2 ce3 ce4 ce5 ce6 cw1 cw2 cw3 cw4 cf cg mh0 ma1 ma2 ma3 ma4 ma5 ma6 ma7 ma8 ma9 mb0 mg o3 o4 hcf hcg hmg C00 hP hD hS hl
  | 21, _ =>
    refine my_topi (y := 21) (by decide) ?_
    refine lv_tableIn (off := 1229) (tgt := 1273) hx hb dL_law_44 (by decide) (by decide) (by decide) (by decide) ?_
    exact law_c21 l hst dC dI cy nb ch0 ca1 ca2 ca3 ca4 ca5 ca6 ca7 cb1 cb2 cb3 cb4 cb5 cb6 ce1 ce2 ce3 ce4 ce5 ce6 cw1 cw2 cw3 cw4 cf cg mh0 ma1 ma2 ma3 ma4 ma5 ma6 ma7 ma8 ma9 mb0 mg o3 o4 hcf hcg hmg C00 hP hD hS hl
  | 22, _ =>
    refine my_topi (y := 22) (by decide) ?_
    refine lv_tableIn (off := 1272) (tgt := 1316) hx hb dL_law_44 (by decide) (by decide) (by decide) (by decide) ?_
    exact law_c22 l hst dC dI cy nb ch0 ca1 ca2 ca3 ca4 ca5 ca6 ca7 cb1 cb2 cb3 cb4 cb5 cb6 ce1 ce2 ce3 ce4 ce5 ce6 cw1 cw2 cw3 cw4 cf cg mh0 ma1 ma2 ma3 ma4 ma5 ma6 ma7 ma8 ma9 mb0 mg o3 o4 hcf hcg hmg C00 hP hD hS hl
  | 23, _ =>
    refine my_topi (y := 23) (by decide) ?_
    refine lv_tableIn (off := 1350) (tgt := 1394) hx hb dL_law_44 (by decide) (by decide) (by decide) (by decide) ?_
    exact law_c23 l hst dC dI cy nb ch0 ca1 ca2 ca3 ca4 ca5 ca6 ca7 cb1 cb2 cb3 cb4 cb5 cb6 ce1 ce2 ce3 ce4 ce5 ce6 cw1 cw2 cw3 cw4 cf cg mh0 ma1 ma2 ma3 ma4 ma5 ma6 ma7 ma8 ma9 mb0 mg o3 o4 hcf hcg hmg C00 hP hD hS hl
  | 24, _ =>
    refine my_topi (y := 24) (by decide) ?_
    refine lv_tableIn (off := 1363) (tgt := 1407) hx hb dL_law_44 (by decide) (by decide) (by decide) (by decide) ?_
    exact law_c24 l hst dC dI cy nb ch0 ca1 ca2 ca3 ca4 ca5 ca6 ca7 cb1 cb2 cb3 cb4 cb5 cb6 ce1 ce2 ce3 ce4 ce5 ce6 cw1 cw2 cw3 cw4 cf cg mh0 ma1 ma2 ma3 ma4 ma5 ma6 ma7 ma8 ma9 mb0 mg o3 o4 hcf hcg hmg C00 hP hD hS hl
  | 25, _ =>
    refine my_topi (y := 25) (by decide) ?_
    refine lv_tableIn (off := 1419) (tgt := 1463) hx hb dL_law_44 (by decide) (by decide) (by decide) (by decide) ?_
    exact law_c25 l hst dC dI cy nb ch0 ca1 ca2 ca3 ca4 ca5 ca6 ca7 cb1 cb2 cb3 cb4 cb5 cb6 ce1 ce2 ce3 ce4 ce5 ce6 cw1 cw2 cw3 cw4 cf cg mh0 ma1 ma2 ma3 ma4 ma5 ma6 ma7 ma8 ma9 mb0 mg o3 o4 hcf hcg hmg C00 hP hD hS hl
  | 26, _ =>
    refine my_topi (y := 26) (by decide) ?_
    refine lv_tableIn (off := 1475) (tgt := 1519) hx hb dL_law_44 (by decide) (by decide) (by decide) (by decide) ?_
    exact law_c26 l hst dC dI cy nb ch0 ca1 ca2 ca3 ca4 ca5 ca6 ca7 cb1 cb2 cb3 cb4 cb5 cb6 ce1 ce2 ce3 ce4 ce5 ce6 cw1 cw2 cw3 cw4 cf cg mh0 ma1 ma2 ma3 ma4 ma5 ma6 ma7 ma8 ma9 mb0 mg o3 o4 hcf hcg hmg C00 hP hD hS hl
  | 27, _ =>
    refine my_topi (y := 27) (by decide) ?_
    refine lv_tableIn (off := 1543) (tgt := 1587) hx hb dL_law_44 (by decide) (by decide) (by decide) (by decide) ?_
    by_cases hz : xs 1 < 1 ∨ 999 < xs 1
    · exact law_c27_o l hst dC dI cy nb ch0 ca1 ca2 ca3 ca4 ca5 ca6 ca7 cb1 cb2 cb3 cb4 cb5 cb6 ce1 ce2 ce3 ce4 ce5 ce6 cw1 cw2 cw3 cw4 cf cg mh0 ma1 ma2 ma3 ma4 ma5 ma6 ma7 ma8 ma9 mb0 mg o3 o4 hcf hcg hmg hz (my_out (lo := 1) (hi := 999) hz) C00 hP hD hS hl
    · obtain ⟨y, h1, hy1, hy2⟩ := my_in (a := 1) (n := 999) (by decide) (by decide) (by decide) hz
      exact law_c27_i l hst dC dI cy nb ch0 ca1 ca2 ca3 ca4 ca5 ca6 ca7 cb1 cb2 cb3 cb4 cb5 cb6 ce1 ce2 ce3 ce4 ce5 ce6 cw1 cw2 cw3 cw4 cf cg mh0 ma1 ma2 ma3 ma4 ma5 ma6 ma7 ma8 ma9 mb0 mg o3 o4 y hcf hcg hmg h1 hy1 hy2 C00 hP hD hS hl
  | 28, _ =>
    refine my_topi (y := 28) (by decide) ?_
    refine lv_tableIn (off := 1599) (tgt := 1643) hx hb dL_law_44 (by decide) (by decide) (by decide) (by decide) ?_
    exact law_c28 l hst dC dI cy nb ch0 ca1 ca2 ca3 ca4 ca5 ca6 ca7 cb1 cb2 cb3 cb4 cb5 cb6 ce1 ce2 ce3 ce4 ce5 ce6 cw1 cw2 cw3 cw4 cf cg mh0 ma1 ma2 ma3 ma4 ma5 ma6 ma7 ma8 ma9 mb0 mg o3 o4 hcf hcg hmg C00 hP hD hS hl
  | 29, _ =>
    refine my_topi (y := 29) (by decide) ?_
    refine lv_tableIn (off := 1667) (tgt := 1711) hx hb dL_law_44 (by decide) (by decide) (by decide) (by decide) ?_
    exact law_c29 l hst dC dI cy nb ch0 ca1 ca2 ca3 ca4 ca5 ca6 ca7 cb1 cb2 cb3 cb4 cb5 cb6 ce1 ce2 ce3 ce4 ce5 ce6 cw1 cw2 cw3 cw4 cf cg mh0 ma1 ma2 ma3 ma4 ma5 ma6 ma7 ma8 ma9 mb0 mg o3 o4 hcf hcg hmg C00 hP hD hS hl
  | 30, _ =>
    refine my_topi (y := 30) (by decide) ?_
    refine lv_tableIn (off := 1751) (tgt := 1795) hx hb dL_law_44 (by decide) (by decide) (by decide) (by decide) ?_
    exact law_c30 l hst dC dI cy nb ch0 ca1 ca2 ca3 ca4 ca5 ca6 ca7 cb1 cb2 cb3 cb4 cb5 cb6 ce1 ce2 ce3 ce4 ce5 ce6 cw1 cw2 cw3 cw4 cf cg mh0 ma1 ma2 ma3 ma4 ma5 ma6 ma7 ma8 ma9 mb0 mg o3 o4 hcf hcg hmg C00 hP hD hS hl
  | 31, _ =>
    refine my_topi (y := 31) (by decide) ?_
    refine lv_tableIn (off := 1831) (tgt := 1875) hx hb dL_law_44 (by decide) (by decide) (by decide) (by decide) ?_
    exact law_c31 l hst dC dI cy nb ch0 ca1 ca2 ca3 ca4 ca5 ca6 ca7 cb1 cb2 cb3 cb4 cb5 cb6 ce1 ce2 ce3 ce4 ce5 ce6 cw1 cw2 cw3 cw4 cf cg mh0 ma1 ma2 ma3 ma4 ma5 ma6 ma7 ma8 ma9 mb0 mg o3 o4 hcf hcg hmg C00 hP hD hS hl
  | 32, _ =>
    refine my_topi (y := 32) (by decide) ?_
    refine lv_tableIn (off := 1887) (tgt := 1931) hx hb dL_law_44 (by decide) (by decide) (by decide) (by decide) ?_
    exact law_c32 l hst dC dI cy nb ch0 ca1 ca2 ca3 ca4 ca5 ca6 ca7 cb1 cb2 cb3 cb4 cb5 cb6 ce1 ce2 ce3 ce4 ce5 ce6 cw1 cw2 cw3 cw4 cf cg mh0 ma1 ma2 ma3 ma4 ma5 ma6 ma7 ma8 ma9 mb0 mg o3 o4 hcf hcg hmg C00 hP hD hS hl
  | 33, _ =>
    refine my_topi (y := 33) (by decide) ?_
    refine lv_tableIn (off := 1955) (tgt := 1999) hx hb dL_law_44 (by decide) (by decide) (by decide) (by decide) ?_
    by_cases hz : xs 1 < 1 ∨ 9 < xs 1
    · exact law_c33_o l hst dC dI cy nb ch0 ca1 ca2 ca3 ca4 ca5 ca6 ca7 cb1 cb2 cb3 cb4 cb5 cb6 ce1 ce2 ce3 ce4 ce5 ce6 cw1 cw2 cw3 cw4 cf cg mh0 ma1 ma2 ma3 ma4 ma5 ma6 ma7 ma8 ma9 mb0 mg o3 o4 hcf hcg hmg hz (my_out (lo := 1) (hi := 9) hz) C00 hP hD hS hl
    · obtain ⟨y, h1, hy1, hy2⟩ := my_in (a := 1) (n := 9) (by decide) (by decide) (by decide) hz
      exact law_c33_i l hst dC dI cy nb ch0 ca1 ca2 ca3 ca4 ca5 ca6 ca7 cb1 cb2 cb3 cb4 cb5 cb6 ce1 ce2 ce3 ce4 ce5 ce6 cw1 cw2 cw3 cw4 cf cg mh0 ma1 ma2 ma3 ma4 ma5 ma6 ma7 ma8 ma9 mb0 mg o3 o4 y hcf hcg hmg h1 hy1 hy2 C00 hP hD hS hl
  | 34, _ =>
    refine my_topi (y := 34) (by decide) ?_
    refine lv_tableIn (off := 2011) (tgt := 2055) hx hb dL_law_44 (by decide) (by decide) (by decide) (by decide) ?_
    by_cases hz : xs 1 < 1 ∨ 20 < xs 1
    · exact law_c34_o l hst dC dI cy nb ch0 ca1 ca2 ca3 ca4 ca5 ca6 ca7 cb1 cb2 cb3 cb4 cb5 cb6 ce1 ce2 ce3 ce4 ce5 ce6 cw1 cw2 cw3 cw4 cf cg mh0 ma1 ma2 ma3 ma4 ma5 ma6 ma7 ma8 ma9 mb0 mg o3 o4 hcf hcg hmg hz (my_out (lo := 1) (hi := 20) hz) C00 hP hD hS hl
    · obtain ⟨y, h1, hy1, hy2⟩ := my_in (a := 1) (n := 20) (by decide) (by decide) (by decide) hz
      exact law_c34_i l hst dC dI cy nb ch0 ca1 ca2 ca3 ca4 ca5 ca6 ca7 cb1 cb2 cb3 cb4 cb5 cb6 ce1 ce2 ce3 ce4 ce5 ce6 cw1 cw2 cw3 cw4 cf cg mh0 ma1 ma2 ma3 ma4 ma5 ma6 ma7 ma8 ma9 mb0 mg o3 o4 y hcf hcg hmg h1 hy1 hy2 C00 hP hD hS hl
  | 35, _ =>
    refine my_topi (y := 35) (by decide) ?_
    refine lv_tableIn (off := 2067) (tgt := 2111) hx hb dL_law_44 (by decide) (by decide) (by decide) (by decide) ?_
    by_cases hz : xs 1 < 1 ∨ 2000 < xs 1
    · exact law_c35_o l hst dC dI cy nb ch0 ca1 ca2 ca3 ca4 ca5 ca6 ca7 cb1 cb2 cb3 cb4 cb5 cb6 ce1 ce2 ce3 ce4 ce5 ce6 cw1 cw2 cw3 cw4 cf cg mh0 ma1 ma2 ma3 ma4 ma5 ma6 ma7 ma8 ma9 mb0 mg o3 o4 hcf hcg hmg hz (my_out (lo := 1) (hi := 2000) hz) C00 hP hD hS hl
    · obtain ⟨y, h1, hy1, hy2⟩ := my_in (a := 1) (n := 2000) (by decide) (by decide) (by decide) hz
      exact law_c35_i l hst dC dI cy nb ch0 ca1 ca2 ca3 ca4 ca5 ca6 ca7 cb1 cb2 cb3 cb4 cb5 cb6 ce1 ce2 ce3 ce4 ce5 ce6 cw1 cw2 cw3 cw4 cf cg mh0 ma1 ma2 ma3 ma4 ma5 ma6 ma7 ma8 ma9 mb0 mg o3 o4 y hcf hcg hmg h1 hy1 hy2 C00 hP hD hS hl
  | 36, _ =>
    refine my_topi (y := 36) (by decide) ?_
    refine lv_tableIn (off := 2123) (tgt := 2167) hx hb dL_law_44 (by decide) (by decide) (by decide) (by decide) ?_
    by_cases hz : xs 1 < 1 ∨ 2000 < xs 1
    · exact law_c36_o l hst dC dI cy nb ch0 ca1 ca2 ca3 ca4 ca5 ca6 ca7 cb1 cb2 cb3 cb4 cb5 cb6 ce1 ce2 ce3 ce4 ce5 ce6 cw1 cw2 cw3 cw4 cf cg mh0 ma1 ma2 ma3 ma4 ma5 ma6 ma7 ma8 ma9 mb0 mg o3 o4 hcf hcg hmg hz (my_out (lo := 1) (hi := 2000) hz) C00 hP hD hS hl
    · obtain ⟨y, h1, hy1, hy2⟩ := my_in (a := 1) (n := 2000) (by decide) (by decide) (by decide) hz
      exact law_c36_i l hst dC dI cy nb ch0 ca1 ca2 ca3 ca4 ca5 ca6 ca7 cb1 cb2 cb3 cb4 cb5 cb6 ce1 ce2 ce3 ce4 ce5 ce6 cw1 cw2 cw3 cw4 cf cg mh0 ma1 ma2 ma3 ma4 ma5 ma6 ma7 ma8 ma9 mb0 mg o3 o4 y hcf hcg hmg h1 hy1 hy2 C00 hP hD hS hl
  | 37, _ =>
    refine my_topi (y := 37) (by decide) ?_
    refine lv_tableIn (off := 2179) (tgt := 2223) hx hb dL_law_44 (by decide) (by decide) (by decide) (by decide) ?_
    exact law_c37 l hst dC dI cy nb ch0 ca1 ca2 ca3 ca4 ca5 ca6 ca7 cb1 cb2 cb3 cb4 cb5 cb6 ce1 ce2 ce3 ce4 ce5 ce6 cw1 cw2 cw3 cw4 cf cg mh0 ma1 ma2 ma3 ma4 ma5 ma6 ma7 ma8 ma9 mb0 mg o3 o4 hcf hcg hmg C00 hP hD hS hl
  | 38, _ =>
    refine my_topi (y := 38) (by decide) ?_
    refine lv_tableIn (off := 2235) (tgt := 2279) hx hb dL_law_44 (by decide) (by decide) (by decide) (by decide) ?_
    exact law_c38 l hst dC dI cy nb ch0 ca1 ca2 ca3 ca4 ca5 ca6 ca7 cb1 cb2 cb3 cb4 cb5 cb6 ce1 ce2 ce3 ce4 ce5 ce6 cw1 cw2 cw3 cw4 cf cg mh0 ma1 ma2 ma3 ma4 ma5 ma6 ma7 ma8 ma9 mb0 mg o3 o4 hcf hcg hmg C00 hP hD hS hl
  | 39, _ =>
    refine my_topi (y := 39) (by decide) ?_
    refine lv_tableIn (off := 2291) (tgt := 2335) hx hb dL_law_44 (by decide) (by decide) (by decide) (by decide) ?_
    exact law_c39 l hst dC dI cy nb ch0 ca1 ca2 ca3 ca4 ca5 ca6 ca7 cb1 cb2 cb3 cb4 cb5 cb6 ce1 ce2 ce3 ce4 ce5 ce6 cw1 cw2 cw3 cw4 cf cg mh0 ma1 ma2 ma3 ma4 ma5 ma6 ma7 ma8 ma9 mb0 mg o3 o4 hcf hcg hmg C00 hP hD hS hl
  | 40, _ =>
    refine my_topi (y := 40) (by decide) ?_
    refine lv_tableIn (off := 2304) (tgt := 2348) hx hb dL_law_44 (by decide) (by decide) (by decide) (by decide) ?_
    by_cases hz : xs 1 < 1 ∨ 2000 < xs 1
    · exact law_c40_o l hst dC dI cy nb ch0 ca1 ca2 ca3 ca4 ca5 ca6 ca7 cb1 cb2 cb3 cb4 cb5 cb6 ce1 ce2 ce3 ce4 ce5 ce6 cw1 cw2 cw3 cw4 cf cg mh0 ma1 ma2 ma3 ma4 ma5 ma6 ma7 ma8 ma9 mb0 mg o3 o4 hcf hcg hmg hz (my_out (lo := 1) (hi := 2000) hz) C00 hP hD hS hl
    · obtain ⟨y, h1, hy1, hy2⟩ := my_in (a := 1) (n := 2000) (by decide) (by decide) (by decide) hz
      exact law_c40_i l hst dC dI cy nb ch0 ca1 ca2 ca3 ca4 ca5 ca6 ca7 cb1 cb2 cb3 cb4 cb5 cb6 ce1 ce2 ce3 ce4 ce5 ce6 cw1 cw2 cw3 cw4 cf cg mh0 ma1 ma2 ma3 ma4 ma5 ma6 ma7 ma8 ma9 mb0 mg o3 o4 y hcf hcg hmg h1 hy1 hy2 C00 hP hD hS hl
  | 41, _ =>
    refine my_topi (y := 41) (by decide) ?_
    refine lv_tableIn (off := 2360) (tgt := 2404) hx hb dL_law_44 (by decide) (by decide) (by decide) (by decide) ?_
    exact law_c41 l hst dC dI cy nb ch0 ca1 ca2 ca3 ca4 ca5 ca6 ca7 cb1 cb2 cb3 cb4 cb5 cb6 ce1 ce2 ce3 ce4 ce5 ce6 cw1 cw2 cw3 cw4 cf cg mh0 ma1 ma2 ma3 ma4 ma5 ma6 ma7 ma8 ma9 mb0 mg o3 o4 hcf hcg hmg C00 hP hD hS hl
  | 42, _ =>
    refine my_topi (y := 42) (by decide) ?_
    refine lv_tableIn (off := 2416) (tgt := 2460) hx hb dL_law_44 (by decide) (by decide) (by decide) (by decide) ?_
    by_cases hz : xs 1 < 1 ∨ 2000 < xs 1
    · exact law_c42_o l hst dC dI cy nb ch0 ca1 ca2 ca3 ca4 ca5 ca6 ca7 cb1 cb2 cb3 cb4 cb5 cb6 ce1 ce2 ce3 ce4 ce5 ce6 cw1 cw2 cw3 cw4 cf cg mh0 ma1 ma2 ma3 ma4 ma5 ma6 ma7 ma8 ma9 mb0 mg o3 o4 hcf hcg hmg hz (my_out (lo := 1) (hi := 2000) hz) C00 hP hD hS hl
    · obtain ⟨y, h1, hy1, hy2⟩ := my_in (a := 1) (n := 2000) (by decide) (by decide) (by decide) hz
      exact law_c42_i l hst dC dI cy nb ch0 ca1 ca2 ca3 ca4 ca5 ca6 ca7 cb1 cb2 cb3 cb4 cb5 cb6 ce1 ce2 ce3 ce4 ce5 ce6 cw1 cw2 cw3 cw4 cf cg mh0 ma1 ma2 ma3 ma4 ma5 ma6 ma7 ma8 ma9 mb0 mg o3 o4 y hcf hcg hmg h1 hy1 hy2 C00 hP hD hS hl
  | 43, _ =>
    refine my_topi (y := 43) (by decide) ?_
    refine lv_tableIn (off := 2472) (tgt := 2516) hx hb dL_law_44 (by decide) (by decide) (by decide) (by decide) ?_
    exact law_c43 l hst dC dI cy nb ch0 ca1 ca2 ca3 ca4 ca5 ca6 ca7 cb1 cb2 cb3 cb4 cb5 cb6 ce1 ce2 ce3 ce4 ce5 ce6 cw1 cw2 cw3 cw4 cf cg mh0 ma1 ma2 ma3 ma4 ma5 ma6 ma7 ma8 ma9 mb0 mg o3 o4 hcf hcg hmg C00 hP hD hS hl
  | 44, _ =>
    refine my_topi (y := 44) (by decide) ?_
    refine lv_tableIn (off := 2528) (tgt := 2572) hx hb dL_law_44 (by decide) (by decide) (by decide) (by decide) ?_
    exact law_c44 l hst dC dI cy nb ch0 ca1 ca2 ca3 ca4 ca5 ca6 ca7 cb1 cb2 cb3 cb4 cb5 cb6 ce1 ce2 ce3 ce4 ce5 ce6 cw1 cw2 cw3 cw4 cf cg mh0 ma1 ma2 ma3 ma4 ma5 ma6 ma7 ma8 ma9 mb0 mg o3 o4 hcf hcg hmg C00 hP hD hS hl
  | 45, _ =>
    refine my_topi (y := 45) (by decide) ?_
    refine lv_tableIn (off := 2553) (tgt := 2597) hx hb dL_law_44 (by decide) (by decide) (by decide) (by decide) ?_
    exact law_c45 l hst dC dI cy nb ch0 ca1 ca2 ca3 ca4 ca5 ca6 ca7 cb1 cb2 cb3 cb4 cb5 cb6 ce1 ce2 ce3 ce4 ce5 ce6 cw1 cw2 cw3 cw4 cf cg mh0 ma1 ma2 ma3 ma4 ma5 ma6 ma7 ma8 ma9 mb0 mg o3 o4 hcf hcg hmg C00 hP hD hS hl
  | 46, _ =>
    refine my_topi (y := 46) (by decide) ?_
    refine lv_tableIn (off := 2609) (tgt := 2653) hx hb dL_law_44 (by decide) (by decide) (by decide) (by decide) ?_
    exact law_c46 l hst dC dI cy nb ch0 ca1 ca2 ca3 ca4 ca5 ca6 ca7 cb1 cb2 cb3 cb4 cb5 cb6 ce1 ce2 ce3 ce4 ce5 ce6 cw1 cw2 cw3 cw4 cf cg mh0 ma1 ma2 ma3 ma4 ma5 ma6 ma7 ma8 ma9 mb0 mg o3 o4 hcf hcg hmg C00 hP hD hS hl
  | 47, _ =>
    refine my_topi (y := 47) (by decide) ?_
    refine lv_tableIn (off := 2622) (tgt := 2666) hx hb dL_law_44 (by decide) (by decide) (by decide) (by decide) ?_
    exact law_c47 l hst dC dI cy nb ch0 ca1 ca2 ca3 ca4 ca5 ca6 ca7 cb1 cb2 cb3 cb4 cb5 cb6 ce1 ce2 ce3 ce4 ce5 ce6 cw1 cw2 cw3 cw4 cf cg mh0 ma1 ma2 ma3 ma4 ma5 ma6 ma7 ma8 ma9 mb0 mg o3 o4 hcf hcg hmg C00 hP hD hS hl
  | 48, _ =>
    refine my_topi (y := 48) (by decide) ?_
    refine lv_tableIn (off := 2678) (tgt := 2722) hx hb dL_law_44 (by decide) (by decide) (by decide) (by decide) ?_
    exact law_c48 l hst dC dI cy nb ch0 ca1 ca2 ca3 ca4 ca5 ca6 ca7 cb1 cb2 cb3 cb4 cb5 cb6 ce1 ce2 ce3 ce4 ce5 ce6 cw1 cw2 cw3 cw4 cf cg mh0 ma1 ma2 ma3 ma4 ma5 ma6 ma7 ma8 ma9 mb0 mg o3 o4 hcf hcg hmg C00 hP hD hS hl
  | 49, _ =>
    refine my_topi (y := 49) (by decide) ?_
    refine lv_tableIn (off := 2703) (tgt := 2747) hx hb dL_law_44 (by decide) (by decide) (by decide) (by decide) ?_
    exact law_c49 l hst dC dI cy nb ch0 ca1 ca2 ca3 ca4 ca5 ca6 ca7 cb1 cb2 cb3 cb4 cb5 cb6 ce1 ce2 ce3 ce4 ce5 ce6 cw1 cw2 cw3 cw4 cf cg mh0 ma1 ma2 ma3 ma4 ma5 ma6 ma7 ma8 ma9 mb0 mg o3 o4 hcf hcg hmg C00 hP hD hS hl
  | 50, _ =>
    refine my_topi (y := 50) (by decide) ?_
    refine lv_tableIn (off := 2716) (tgt := 2760) hx hb dL_law_44 (by decide) (by decide) (by decide) (by decide) ?_
    by_cases hz : xs 1 < 0 ∨ 1 < xs 1
    · exact law_c50_o l hst dC dI cy nb ch0 ca1 ca2 ca3 ca4 ca5 ca6 ca7 cb1 cb2 cb3 cb4 cb5 cb6 ce1 ce2 ce3 ce4 ce5 ce6 cw1 cw2 cw3 cw4 cf cg mh0 ma1 ma2 ma3 ma4 ma5 ma6 ma7 ma8 ma9 mb0 mg o3 o4 hcf hcg hmg hz (my_out (lo := 0) (hi := 1) hz) C00 hP hD hS hl
    · obtain ⟨y, h1, hy1, hy2⟩ := my_in (a := 0) (n := 1) (by decide) (by decide) (by decide) hz
      rcases (show y = 0 ∨ y = 1 by omega) with rfl | rfl
      · exact law_c50_0 l hst dC dI cy nb ch0 ca1 ca2 ca3 ca4 ca5 ca6 ca7 cb1 cb2 cb3 cb4 cb5 cb6 ce1 ce2 ce3 ce4 ce5 ce6 cw1 cw2 cw3 cw4 cf cg mh0 ma1 ma2 ma3 ma4 ma5 ma6 ma7 ma8 ma9 mb0 mg o3 o4 hcf hcg hmg (h1.trans (by decide)) C00 hP hD hS hl
      · exact law_c50_1 l hst dC dI cy nb ch0 ca1 ca2 ca3 ca4 ca5 ca6 ca7 cb1 cb2 cb3 cb4 cb5 cb6 ce1 ce2 ce3 ce4 ce5 ce6 cw1 cw2 cw3 cw4 cf cg mh0 ma1 ma2 ma3 ma4 ma5 ma6 ma7 ma8 ma9 mb0 mg o3 o4 hcf hcg hmg (h1.trans (by decide)) C00 hP hD hS hl
  | 51, _ =>
    refine my_topi (y := 51) (by decide) ?_
    refine lv_tableIn (off := 2772) (tgt := 2816) hx hb dL_law_44 (by decide) (by decide) (by decide) (by decide) ?_
    by_cases hz : xs 1 < 0 ∨ 1 < xs 1
    · exact law_c51_o l hst dC dI cy nb ch0 ca1 ca2 ca3 ca4 ca5 ca6 ca7 cb1 cb2 cb3 cb4 cb5 cb6 ce1 ce2 ce3 ce4 ce5 ce6 cw1 cw2 cw3 cw4 cf cg mh0 ma1 ma2 ma3 ma4 ma5 ma6 ma7 ma8 ma9 mb0 mg o3 o4 hcf hcg hmg hz (my_out (lo := 0) (hi := 1) hz) C00 hP hD hS hl
    · obtain ⟨y, h1, hy1, hy2⟩ := my_in (a := 0) (n := 1) (by decide) (by decide) (by decide) hz
      rcases (show y = 0 ∨ y = 1 by omega) with rfl | rfl
      · exact law_c51_0 l hst dC dI cy nb ch0 ca1 ca2 ca3 ca4 ca5 ca6 ca7 cb1 cb2 cb3 cb4 cb5 cb6 ce1 ce2 ce3 ce4 ce5 ce6 cw1 cw2 cw3 cw4 cf cg mh0 ma1 ma2 ma3 ma4 ma5 ma6 ma7 ma8 ma9 mb0 mg o3 o4 hcf hcg hmg (h1.trans (by decide)) C00 hP hD hS hl
      · exact law_c51_1 l hst dC dI cy nb ch0 ca1 ca2 ca3 ca4 ca5 ca6 ca7 cb1 cb2 cb3 cb4 cb5 cb6 ce1 ce2 ce3 ce4 ce5 ce6 cw1 cw2 cw3 cw4 cf cg mh0 ma1 ma2 ma3 ma4 ma5 ma6 ma7 ma8 ma9 mb0 mg o3 o4 hcf hcg hmg (h1.trans (by decide)) C00 hP hD hS hl
  | 52, _ =>
    refine my_topi (y := 52) (by decide) ?_
    refine lv_tableOut (tgt := 2872) hx hb dL_law_44 (by decide) (by decide) ?_
    exact law_end l (b := b) (xs := xs) dC dI cy nb C00 hS (lv_sub hl [0, 5] rfl) (by omega) (by omega)
  | 53, _ =>
    refine my_topi (y := 53) (by decide) ?_
    refine lv_tableOut (tgt := 2872) hx hb dL_law_44 (by decide) (by decide) ?_
    exact law_end l (b := b) (xs := xs) dC dI cy nb C00 hS (lv_sub hl [0, 5] rfl) (by omega) (by omega)
  | 54, _ =>
    refine my_topi (y := 54) (by decide) ?_
    refine lv_tableOut (tgt := 2872) hx hb dL_law_44 (by decide) (by decide) ?_
    exact law_end l (b := b) (xs := xs) dC dI cy nb C00 hS (lv_sub hl [0, 5] rfl) (by omega) (by omega)
  | 55, _ =>
    refine my_topi (y := 55) (by decide) ?_
    refine lv_tableOut (tgt := 2872) hx hb dL_law_44 (by decide) (by decide) ?_
    exact law_end l (b := b) (xs := xs) dC dI cy nb C00 hS (lv_sub hl [0, 5] rfl) (by omega) (by omega)
  | 56, _ =>
    refine my_topi (y := 56) (by decide) ?_
    refine lv_tableOut (tgt := 2872) hx hb dL_law_44 (by decide) (by decide) ?_
    exact law_end l (b := b) (xs := xs) dC dI cy nb C00 hS (lv_sub hl [0, 5] rfl) (by omega) (by omega)
  | 57, _ =>
    refine my_topi (y := 57) (by decide) ?_
    refine lv_tableOut (tgt := 2872) hx hb dL_law_44 (by decide) (by decide) ?_
    exact law_end l (b := b) (xs := xs) dC dI cy nb C00 hS (lv_sub hl [0, 5] rfl) (by omega) (by omega)
  | 58, _ =>
    refine my_topi (y := 58) (by decide) ?_
    refine lv_tableOut (tgt := 2872) hx hb dL_law_44 (by decide) (by decide) ?_
    exact law_end l (b := b) (xs := xs) dC dI cy nb C00 hS (lv_sub hl [0, 5] rfl) (by omega) (by omega)
  | 59, _ =>
    refine my_topi (y := 59) (by decide) ?_
    refine lv_tableOut (tgt := 2872) hx hb dL_law_44 (by decide) (by decide) ?_
    exact law_end l (b := b) (xs := xs) dC dI cy nb C00 hS (lv_sub hl [0, 5] rfl) (by omega) (by omega)
  | 60, _ =>
    refine my_topi (y := 60) (by decide) ?_
    refine lv_tableOut (tgt := 2872) hx hb dL_law_44 (by decide) (by decide) ?_
    exact law_end l (b := b) (xs := xs) dC dI cy nb C00 hS (lv_sub hl [0, 5] rfl) (by omega) (by omega)
  | 61, _ =>
    refine my_topi (y := 61) (by decide) ?_
    refine lv_tableOut (tgt := 2872) hx hb dL_law_44 (by decide) (by decide) ?_
    exact law_end l (b := b) (xs := xs) dC dI cy nb C00 hS (lv_sub hl [0, 5] rfl) (by omega) (by omega)
  | 62, _ =>
    refine my_topi (y := 62) (by decide) ?_
    refine lv_tableOut (tgt := 2872) hx hb dL_law_44 (by decide) (by decide) ?_
    exact law_end l (b := b) (xs := xs) dC dI cy nb C00 hS (lv_sub hl [0, 5] rfl) (by omega) (by omega)
  | 63, _ =>
    refine my_topi (y := 63) (by decide) ?_
    refine lv_tableOut (tgt := 2872) hx hb dL_law_44 (by decide) (by decide) ?_
    exact law_end l (b := b) (xs := xs) dC dI cy nb C00 hS (lv_sub hl [0, 5] rfl) (by omega) (by omega)
  | (n + 64), hk => exact absurd hk (by omega)
set_option maxHeartbeats 4000000 in
/-- a script of fewer than four ints: no call -/
theorem law_out {p : Program} {e : Env} {s : State} {m : MethodId} {below : List Frame} {meth : Method} {c : Code} (l : Launch) {b : Nat} (hx : p.tables.exec = Jvm.exec) (hb : c.code = code) (hr : meth.sig.returnType = ret) (hlocks : meth.locks = false) {H : Heap} {locs : List Loc} {ls : Array Slot} (hS : va_S (fun q : Nat => s.heap.size ≤ q) s.heap H locs) {x : Int32} (hxx : x < 0) : W p l e room_1 s m #[Value.ref b] below meth c H locs 157 15678 (lw_Z below #[Value.ref b] s) (F0 m 34 ls [.int x, .int 0]) := by
  refine lv_icmp_gt (tgt := 2878) hx hb dL_law_34 (by decide) (fun _ => ?_) (fun h => absurd hxx h)
  refine lv_iconst (v := 1) hx hb dL_law_2878 (by decide) ?_
  refine W.widen (k := 600002) (n := 7302232) (by omega) (by omega) ?_
  refine va_forget (fun q hq => hS.2.2 q hq) ?_
  refine W.base ?_
  exact lw_ret (Drawn.sameBut.refl s.drawn lw_cs) hx hb hr hlocks dL_law_2879
set_option maxHeartbeats 8000000 in
set_option maxRecDepth 100000 in
/-- YOUR PART: from the entry, for every script of at most 4 ints, the law comes to its end with true -/
theorem whole_start {p : Program} {e : Env} {s : State} {m : MethodId} {below : List Frame} {meth : Method} {c : Code} (l : Launch) (hflags : l.flags = flags0) {b L : Nat} {xs : Nat → Int32} (hL : L ≤ 4) (C0 : lw_At p s m meth c b L xs) : W p l e room_1 s m #[Value.ref b] below meth c s.heap [] 0 0 (lw_Z below #[Value.ref b] s) (entryFrame m ([Value.ref b] : List Value).toArray 10) := by
  have hst : l.stackTraces = false := by unfold Launch.stackTraces; rw [hflags]; decide +kernel
  obtain ⟨hx, hb, hr, hml, hown, htl, hX, hbl, hlocks, hgv⟩ := C0
  have hs := flat_of_before _ hgv
  obtain ⟨dC, dI, cy, hK⟩ := start_K htl
  obtain ⟨nb, hE⟩ := start_GE htl hs
  have hts : ∀ w ∈ wsL_law, w.before #[Value.ref b] s = true := fun w h => htl w (tr_all w h)
  have hA : ∀ q : Nat, s.heap.size ≤ q → (fun q : Nat => s.heap.size ≤ q) q := fun _ h => h
  have hbA : ¬ (fun q : Nat => s.heap.size ≤ q) b := Nat.not_le.mpr hbl
  have hS : va_S (fun q : Nat => s.heap.size ≤ q) s.heap s.heap [] := va_S.rf
  have hP : va_P (dC, dI) vwCl [] s.heap := fun k q h => (by cases h)
  have hD : va_D (fun q : Nat => s.heap.size ≤ q) [] := ⟨fun i j p q h => (by cases h), fun k q h => (by cases h)⟩
  have hl := lv_entry ([Value.ref b]) (n := 10) (Nat.le_of_ble_eq_true rfl)
  rw [lg_entry_eq]
  generalize (lg_sl ([Value.ref b]) ++ List.replicate (10 - (lg_sl ([Value.ref b])).length) Slot.unset).toArray = ls at hl ⊢
  have hl : lv_has ls 10 [(0, .ref b)] := hl
  generalize hHe : s.heap = H at hP ⊢
  have hS : va_S (fun q : Nat => s.heap.size ≤ q) s.heap H [] := by rw [← hHe]; exact hS
  refine va_new (ci := 7) (fs := [.null, .null, .null, .null, .null, .null, .null, .int 0, .int 0, .int 0, .int 0, .int 0]) (C := RX7) (T := TX7) (N := 12) hx hb hts inlX7 tyX7 tyX7_ok hown (hts _ mw_0) (hts _ mw_1) (hts _ mw_2) hK hP hD hS hA rfl (fun j hj => by match j, hj with | 0, _ => rfl | 1, _ => rfl | 2, _ => rfl | 3, _ => rfl | 4, _ => rfl | 5, _ => rfl | 6, _ => rfl | 7, _ => rfl | 8, _ => rfl | 9, _ => rfl | 10, _ => rfl | 11, _ => rfl | (n+12), h => omega) (Nat.le_of_ble_eq_true rfl) (Nat.le_of_ble_eq_true rfl) dL_law_0 (fun q1 H hP hD hS => ?_)
  have hP : va_P (dC, dI) vwCl [(q1, .inr (7, [.null, .null, .null, .null, .null, .null, .null, .int 0, .int 0, .int 0, .int 0, .int 0]))] H := hP
  have hD : va_D (fun q : Nat => s.heap.size ≤ q) [(q1, .inr (7, [.null, .null, .null, .null, .null, .null, .null, .int 0, .int 0, .int 0, .int 0, .int 0]))] := hD
  refine W.widen (k := 1) (n := 12) (by omega) (by omega) ?_
  refine lv_dup hx hb dL_law_3 rfl ?_
  have hPc := hP.sub (ws' := [(q1, .inr (7, [.null, .null, .null, .null, .null, .null, .null, .int 0, .int 0, .int 0, .int 0, .int 0]))]) [0] rfl
  have hDc := hD.sub (ws' := [(q1, .inr (7, [.null, .null, .null, .null, .null, .null, .null, .int 0, .int 0, .int 0, .int 0, .int 0]))]) [0] (by decide) rfl
  have hFc := va_free (wc := [(q1, .inr (7, [.null, .null, .null, .null, .null, .null, .null, .int 0, .int 0, .int 0, .int 0, .int 0]))]) hD hS hA [0] rfl
  refine va_callv (va_runI (As := []) (rest := [.ref q1]) ⟨hx, hb, hml, hown, hts⟩ (c_X7_init l dC dI cy nb q1 H.size) (cwI 0 hts (gI mw_11) rfl rfl rfl (hts _ mw_2) (hts _ mw_9) (hts _ mw_10) rfl (by decide +kernel) ⟨Nat.le_of_ble_eq_true rfl, Nat.le_of_ble_eq_true rfl⟩) ⟨fun a U g mk q => by obtain ⟨q0, q1, qP, qK, qD, qE⟩ := q; exact ⟨q0, q1, qP, va_K.moved (u := U) (U := U.calling g mk a) (Vm.Alike.refl U.vm) qK, qD, GE.calling qE⟩, fun U hU hW => ⟨rfl, by rw [hU], by rw [hU]; exact hPc, va_K.moved hW.alike hK, hDc.weaken (fun _ _ _ _ => trivial), GE.call hE hS hFc hU hW⟩⟩ rfl rfl hl.1 rfl (lv_room (Nat.le_of_ble_eq_true rfl)) dL_law_4 ⟨Nat.le_of_ble_eq_true rfl, Nat.le_of_ble_eq_true rfl⟩) hS (fun q _ h => hFc q h) hFc (fun u t H1 locs ht hvm hw29 hB hz1 hk1 hS => ?_)
  obtain ⟨n2, n3, n4, n5, n6, n7, n8, n9, n10, n11, n12, n13, n14, n15, n16, n17, n18, n19, n20, n21, n22, n23, n24, g25, hg26, g27, hg28, hP1, hD1⟩ := hB
  rw [ht] at hP1
  obtain ⟨hP, hD⟩ := va_join (wr := []) (w1 := [(q1, .inr (7, [.ref n2, .ref n3, .ref n4, .ref n5, .ref n6, .ref n7, .ref n8, .int 0, .int 0, .int (-1), .int 0, .int 0])), (n2, .inr (3, [.int 480, .int 1, .int 1, .int 0, .int 0, .int 0, .int 0, .int 0, .int 0, .int 0, .ref n9, .ref n10, .ref n11, .ref n12, .ref n13, .ref n14, .int 0])), (n12, .inl (cy 1, 5, .inl g25)), (n13, .inl (cy 1, 30, .inl (fun _ => 0))), (n14, .inl (cy 1, 5, .inl g27)), (n3, .inr (3, [.int 1, .int 0, .int 0, .int 0, .int 0, .int 0, .int 0, .int 0, .int 0, .int 0, .ref n15, .ref n16, .ref n17, .ref n18, .ref n19, .ref n20, .int 0])), (n18, .inl (cy 1, 5, .inl (fun _ => 0))), (n19, .inl (cy 1, 30, .inl (fun _ => 0))), (n20, .inl (cy 1, 5, .inl (fun _ => 0))), (n4, .inr (5, [.ref n21, .int 0, .int 0, .int 0, .int 0, .int 0, .ref n22, .ref n23, .ref n24, .int 0, .int 0])), (n21, .inl (cy 0, 600, .inl (fun _ => 0))), (n6, .inl (cy 5, 8, .inr (.inr (.inr (.inr (fun _ => none)))))), (n7, .inl (cy 5, 2, .inr (.inr (.inr (.inr (fun _ => none))))))]) hP hD [0] [] rfl rfl (by decide) (by decide) hk1 hFc hP1 hD1
  generalize H1 = H at hP hS ⊢
  have hP : va_P (dC, dI) vwCl [(q1, .inr (7, [.ref n2, .ref n3, .ref n4, .ref n5, .ref n6, .ref n7, .ref n8, .int 0, .int 0, .int (-1), .int 0, .int 0])), (n2, .inr (3, [.int 480, .int 1, .int 1, .int 0, .int 0, .int 0, .int 0, .int 0, .int 0, .int 0, .ref n9, .ref n10, .ref n11, .ref n12, .ref n13, .ref n14, .int 0])), (n12, .inl (cy 1, 5, .inl g25)), (n13, .inl (cy 1, 30, .inl (fun _ => 0))), (n14, .inl (cy 1, 5, .inl g27)), (n3, .inr (3, [.int 1, .int 0, .int 0, .int 0, .int 0, .int 0, .int 0, .int 0, .int 0, .int 0, .ref n15, .ref n16, .ref n17, .ref n18, .ref n19, .ref n20, .int 0])), (n18, .inl (cy 1, 5, .inl (fun _ => 0))), (n19, .inl (cy 1, 30, .inl (fun _ => 0))), (n20, .inl (cy 1, 5, .inl (fun _ => 0))), (n4, .inr (5, [.ref n21, .int 0, .int 0, .int 0, .int 0, .int 0, .ref n22, .ref n23, .ref n24, .int 0, .int 0])), (n21, .inl (cy 0, 600, .inl (fun _ => 0))), (n6, .inl (cy 5, 8, .inr (.inr (.inr (.inr (fun _ => none)))))), (n7, .inl (cy 5, 2, .inr (.inr (.inr (.inr (fun _ => none))))))] H := hP
  have hD : va_D (fun q : Nat => s.heap.size ≤ q) [(q1, .inr (7, [.ref n2, .ref n3, .ref n4, .ref n5, .ref n6, .ref n7, .ref n8, .int 0, .int 0, .int (-1), .int 0, .int 0])), (n2, .inr (3, [.int 480, .int 1, .int 1, .int 0, .int 0, .int 0, .int 0, .int 0, .int 0, .int 0, .ref n9, .ref n10, .ref n11, .ref n12, .ref n13, .ref n14, .int 0])), (n12, .inl (cy 1, 5, .inl g25)), (n13, .inl (cy 1, 30, .inl (fun _ => 0))), (n14, .inl (cy 1, 5, .inl g27)), (n3, .inr (3, [.int 1, .int 0, .int 0, .int 0, .int 0, .int 0, .int 0, .int 0, .int 0, .int 0, .ref n15, .ref n16, .ref n17, .ref n18, .ref n19, .ref n20, .int 0])), (n18, .inl (cy 1, 5, .inl (fun _ => 0))), (n19, .inl (cy 1, 30, .inl (fun _ => 0))), (n20, .inl (cy 1, 5, .inl (fun _ => 0))), (n4, .inr (5, [.ref n21, .int 0, .int 0, .int 0, .int 0, .int 0, .ref n22, .ref n23, .ref n24, .int 0, .int 0])), (n21, .inl (cy 0, 600, .inl (fun _ => 0))), (n6, .inl (cy 5, 8, .inr (.inr (.inr (.inr (fun _ => none)))))), (n7, .inl (cy 5, 2, .inr (.inr (.inr (.inr (fun _ => none))))))] := hD
  refine W.widen (k := 144) (n := 2389) (by omega) (by omega) ?_
  refine lv_astore_n (lv' := [(1, .ref q1), (0, .ref b)]) hx hb dL_law_7 rfl hl (by decide) rfl (fun ls hl => ?_)
  refine va_new (ci := 8) (fs := [.null, .null, .null, .null, .null, .int 0, .int 0, .null, .int 0, .int 0, .int 0, .int 0, .int 0, .int 0, .int 0, .int 0, .int 0, .null, .null, .int 0, .null, .null, .int 0]) (C := RX8) (T := TX8) (N := 23) hx hb hts inlX8 tyX8 tyX8_ok hown (hts _ mw_3) (hts _ mw_4) (hts _ mw_5) hK hP hD hS hA rfl (fun j hj => by match j, hj with | 0, _ => rfl | 1, _ => rfl | 2, _ => rfl | 3, _ => rfl | 4, _ => rfl | 5, _ => rfl | 6, _ => rfl | 7, _ => rfl | 8, _ => rfl | 9, _ => rfl | 10, _ => rfl | 11, _ => rfl | 12, _ => rfl | 13, _ => rfl | 14, _ => rfl | 15, _ => rfl | 16, _ => rfl | 17, _ => rfl | 18, _ => rfl | 19, _ => rfl | 20, _ => rfl | 21, _ => rfl | 22, _ => rfl | (n+23), h => omega) (Nat.le_of_ble_eq_true rfl) (Nat.le_of_ble_eq_true rfl) dL_law_8 (fun q30 H hP hD hS => ?_)
  have hP : va_P (dC, dI) vwCl [(q1, .inr (7, [.ref n2, .ref n3, .ref n4, .ref n5, .ref n6, .ref n7, .ref n8, .int 0, .int 0, .int (-1), .int 0, .int 0])), (n2, .inr (3, [.int 480, .int 1, .int 1, .int 0, .int 0, .int 0, .int 0, .int 0, .int 0, .int 0, .ref n9, .ref n10, .ref n11, .ref n12, .ref n13, .ref n14, .int 0])), (n12, .inl (cy 1, 5, .inl g25)), (n13, .inl (cy 1, 30, .inl (fun _ => 0))), (n14, .inl (cy 1, 5, .inl g27)), (n3, .inr (3, [.int 1, .int 0, .int 0, .int 0, .int 0, .int 0, .int 0, .int 0, .int 0, .int 0, .ref n15, .ref n16, .ref n17, .ref n18, .ref n19, .ref n20, .int 0])), (n18, .inl (cy 1, 5, .inl (fun _ => 0))), (n19, .inl (cy 1, 30, .inl (fun _ => 0))), (n20, .inl (cy 1, 5, .inl (fun _ => 0))), (n4, .inr (5, [.ref n21, .int 0, .int 0, .int 0, .int 0, .int 0, .ref n22, .ref n23, .ref n24, .int 0, .int 0])), (n21, .inl (cy 0, 600, .inl (fun _ => 0))), (n6, .inl (cy 5, 8, .inr (.inr (.inr (.inr (fun _ => none)))))), (n7, .inl (cy 5, 2, .inr (.inr (.inr (.inr (fun _ => none)))))), (q30, .inr (8, [.null, .null, .null, .null, .null, .int 0, .int 0, .null, .int 0, .int 0, .int 0, .int 0, .int 0, .int 0, .int 0, .int 0, .int 0, .null, .null, .int 0, .null, .null, .int 0]))] H := hP
  have hD : va_D (fun q : Nat => s.heap.size ≤ q) [(q1, .inr (7, [.ref n2, .ref n3, .ref n4, .ref n5, .ref n6, .ref n7, .ref n8, .int 0, .int 0, .int (-1), .int 0, .int 0])), (n2, .inr (3, [.int 480, .int 1, .int 1, .int 0, .int 0, .int 0, .int 0, .int 0, .int 0, .int 0, .ref n9, .ref n10, .ref n11, .ref n12, .ref n13, .ref n14, .int 0])), (n12, .inl (cy 1, 5, .inl g25)), (n13, .inl (cy 1, 30, .inl (fun _ => 0))), (n14, .inl (cy 1, 5, .inl g27)), (n3, .inr (3, [.int 1, .int 0, .int 0, .int 0, .int 0, .int 0, .int 0, .int 0, .int 0, .int 0, .ref n15, .ref n16, .ref n17, .ref n18, .ref n19, .ref n20, .int 0])), (n18, .inl (cy 1, 5, .inl (fun _ => 0))), (n19, .inl (cy 1, 30, .inl (fun _ => 0))), (n20, .inl (cy 1, 5, .inl (fun _ => 0))), (n4, .inr (5, [.ref n21, .int 0, .int 0, .int 0, .int 0, .int 0, .ref n22, .ref n23, .ref n24, .int 0, .int 0])), (n21, .inl (cy 0, 600, .inl (fun _ => 0))), (n6, .inl (cy 5, 8, .inr (.inr (.inr (.inr (fun _ => none)))))), (n7, .inl (cy 5, 2, .inr (.inr (.inr (.inr (fun _ => none)))))), (q30, .inr (8, [.null, .null, .null, .null, .null, .int 0, .int 0, .null, .int 0, .int 0, .int 0, .int 0, .int 0, .int 0, .int 0, .int 0, .int 0, .null, .null, .int 0, .null, .null, .int 0]))] := hD
  refine W.widen (k := 145) (n := 2412) (by omega) (by omega) ?_
  refine lv_dup hx hb dL_law_11 rfl ?_
  have hPc := hP.sub (ws' := [(q30, .inr (8, [.null, .null, .null, .null, .null, .int 0, .int 0, .null, .int 0, .int 0, .int 0, .int 0, .int 0, .int 0, .int 0, .int 0, .int 0, .null, .null, .int 0, .null, .null, .int 0]))]) [13] rfl
  have hDc := hD.sub (ws' := [(q30, .inr (8, [.null, .null, .null, .null, .null, .int 0, .int 0, .null, .int 0, .int 0, .int 0, .int 0, .int 0, .int 0, .int 0, .int 0, .int 0, .null, .null, .int 0, .null, .null, .int 0]))]) [13] (by decide) rfl
  have hFc := va_free (wc := [(q30, .inr (8, [.null, .null, .null, .null, .null, .int 0, .int 0, .null, .int 0, .int 0, .int 0, .int 0, .int 0, .int 0, .int 0, .int 0, .int 0, .null, .null, .int 0, .null, .null, .int 0]))]) hD hS hA [13] rfl
  refine va_callv (va_runI (As := []) (rest := [.ref q30]) ⟨hx, hb, hml, hown, hts⟩ (c_X8_init l dC dI cy nb q30 H.size) (cwI 0 hts (gI mw_95) rfl rfl rfl (hts _ mw_5) (hts _ mw_93) (hts _ mw_94) rfl (by decide +kernel) ⟨Nat.le_of_ble_eq_true rfl, Nat.le_of_ble_eq_true rfl⟩) ⟨fun a U g mk q => by obtain ⟨q0, q1, qP, qK, qD, qE⟩ := q; exact ⟨q0, q1, qP, va_K.moved (u := U) (U := U.calling g mk a) (Vm.Alike.refl U.vm) qK, qD, GE.calling qE⟩, fun U hU hW => ⟨rfl, by rw [hU], by rw [hU]; exact hPc, va_K.moved hW.alike hK, hDc.weaken (fun _ _ _ _ => trivial), GE.call hE hS hFc hU hW⟩⟩ rfl rfl hl.1 rfl (lv_room (Nat.le_of_ble_eq_true rfl)) dL_law_12 ⟨Nat.le_of_ble_eq_true rfl, Nat.le_of_ble_eq_true rfl⟩) hS (fun q _ h => hFc q h) hFc (fun u t H1 locs ht hvm hw43 hB hz1 hk1 hS => ?_)
  obtain ⟨n31, n32, n33, n34, n35, n36, n37, n38, n39, n40, g41, hg42, hP1, hD1⟩ := hB
  rw [ht] at hP1
  obtain ⟨hP, hD⟩ := va_join (wr := [(q1, .inr (7, [.ref n2, .ref n3, .ref n4, .ref n5, .ref n6, .ref n7, .ref n8, .int 0, .int 0, .int (-1), .int 0, .int 0])), (n2, .inr (3, [.int 480, .int 1, .int 1, .int 0, .int 0, .int 0, .int 0, .int 0, .int 0, .int 0, .ref n9, .ref n10, .ref n11, .ref n12, .ref n13, .ref n14, .int 0])), (n12, .inl (cy 1, 5, .inl g25)), (n13, .inl (cy 1, 30, .inl (fun _ => 0))), (n14, .inl (cy 1, 5, .inl g27)), (n3, .inr (3, [.int 1, .int 0, .int 0, .int 0, .int 0, .int 0, .int 0, .int 0, .int 0, .int 0, .ref n15, .ref n16, .ref n17, .ref n18, .ref n19, .ref n20, .int 0])), (n18, .inl (cy 1, 5, .inl (fun _ => 0))), (n19, .inl (cy 1, 30, .inl (fun _ => 0))), (n20, .inl (cy 1, 5, .inl (fun _ => 0))), (n4, .inr (5, [.ref n21, .int 0, .int 0, .int 0, .int 0, .int 0, .ref n22, .ref n23, .ref n24, .int 0, .int 0])), (n21, .inl (cy 0, 600, .inl (fun _ => 0))), (n6, .inl (cy 5, 8, .inr (.inr (.inr (.inr (fun _ => none)))))), (n7, .inl (cy 5, 2, .inr (.inr (.inr (.inr (fun _ => none))))))]) (w1 := [(q30, .inr (8, [.ref n31, .ref n32, .ref n33, .ref n34, .ref n35, .int 0, .int 0, .ref n36, .int 0, .int 0, .int 0, .int 0, .int 0, .int 0, .int 0, .int 0, .int (-1), .ref n37, .ref n38, .int 0, .ref n39, .ref n40, .int 0])), (n31, .inl (cy 1, 1037, .inl g41)), (n32, .inl (cy 1, 1037, .inl (fun _ => 0))), (n33, .inl (cy 1, 8296, .inl (fun _ => 0))), (n34, .inl (cy 1, 2074, .inl (fun _ => 0))), (n35, .inl (cy 2, 2, .inl (fun _ => 0))), (n36, .inl (cy 0, 600, .inl (fun _ => 0)))]) hP hD [13] [0, 1, 2, 3, 4, 5, 6, 7, 8, 9, 10, 11, 12] rfl rfl (by decide) (by decide) hk1 hFc hP1 hD1
  generalize H1 = H at hP hS ⊢
  have hP : va_P (dC, dI) vwCl [(q1, .inr (7, [.ref n2, .ref n3, .ref n4, .ref n5, .ref n6, .ref n7, .ref n8, .int 0, .int 0, .int (-1), .int 0, .int 0])), (n2, .inr (3, [.int 480, .int 1, .int 1, .int 0, .int 0, .int 0, .int 0, .int 0, .int 0, .int 0, .ref n9, .ref n10, .ref n11, .ref n12, .ref n13, .ref n14, .int 0])), (n12, .inl (cy 1, 5, .inl g25)), (n13, .inl (cy 1, 30, .inl (fun _ => 0))), (n14, .inl (cy 1, 5, .inl g27)), (n3, .inr (3, [.int 1, .int 0, .int 0, .int 0, .int 0, .int 0, .int 0, .int 0, .int 0, .int 0, .ref n15, .ref n16, .ref n17, .ref n18, .ref n19, .ref n20, .int 0])), (n18, .inl (cy 1, 5, .inl (fun _ => 0))), (n19, .inl (cy 1, 30, .inl (fun _ => 0))), (n20, .inl (cy 1, 5, .inl (fun _ => 0))), (n4, .inr (5, [.ref n21, .int 0, .int 0, .int 0, .int 0, .int 0, .ref n22, .ref n23, .ref n24, .int 0, .int 0])), (n21, .inl (cy 0, 600, .inl (fun _ => 0))), (n6, .inl (cy 5, 8, .inr (.inr (.inr (.inr (fun _ => none)))))), (n7, .inl (cy 5, 2, .inr (.inr (.inr (.inr (fun _ => none)))))), (q30, .inr (8, [.ref n31, .ref n32, .ref n33, .ref n34, .ref n35, .int 0, .int 0, .ref n36, .int 0, .int 0, .int 0, .int 0, .int 0, .int 0, .int 0, .int 0, .int (-1), .ref n37, .ref n38, .int 0, .ref n39, .ref n40, .int 0])), (n31, .inl (cy 1, 1037, .inl g41)), (n32, .inl (cy 1, 1037, .inl (fun _ => 0))), (n33, .inl (cy 1, 8296, .inl (fun _ => 0))), (n34, .inl (cy 1, 2074, .inl (fun _ => 0))), (n35, .inl (cy 2, 2, .inl (fun _ => 0))), (n36, .inl (cy 0, 600, .inl (fun _ => 0)))] H := hP
  have hD : va_D (fun q : Nat => s.heap.size ≤ q) [(q1, .inr (7, [.ref n2, .ref n3, .ref n4, .ref n5, .ref n6, .ref n7, .ref n8, .int 0, .int 0, .int (-1), .int 0, .int 0])), (n2, .inr (3, [.int 480, .int 1, .int 1, .int 0, .int 0, .int 0, .int 0, .int 0, .int 0, .int 0, .ref n9, .ref n10, .ref n11, .ref n12, .ref n13, .ref n14, .int 0])), (n12, .inl (cy 1, 5, .inl g25)), (n13, .inl (cy 1, 30, .inl (fun _ => 0))), (n14, .inl (cy 1, 5, .inl g27)), (n3, .inr (3, [.int 1, .int 0, .int 0, .int 0, .int 0, .int 0, .int 0, .int 0, .int 0, .int 0, .ref n15, .ref n16, .ref n17, .ref n18, .ref n19, .ref n20, .int 0])), (n18, .inl (cy 1, 5, .inl (fun _ => 0))), (n19, .inl (cy 1, 30, .inl (fun _ => 0))), (n20, .inl (cy 1, 5, .inl (fun _ => 0))), (n4, .inr (5, [.ref n21, .int 0, .int 0, .int 0, .int 0, .int 0, .ref n22, .ref n23, .ref n24, .int 0, .int 0])), (n21, .inl (cy 0, 600, .inl (fun _ => 0))), (n6, .inl (cy 5, 8, .inr (.inr (.inr (.inr (fun _ => none)))))), (n7, .inl (cy 5, 2, .inr (.inr (.inr (.inr (fun _ => none)))))), (q30, .inr (8, [.ref n31, .ref n32, .ref n33, .ref n34, .ref n35, .int 0, .int 0, .ref n36, .int 0, .int 0, .int 0, .int 0, .int 0, .int 0, .int 0, .int 0, .int (-1), .ref n37, .ref n38, .int 0, .ref n39, .ref n40, .int 0])), (n31, .inl (cy 1, 1037, .inl g41)), (n32, .inl (cy 1, 1037, .inl (fun _ => 0))), (n33, .inl (cy 1, 8296, .inl (fun _ => 0))), (n34, .inl (cy 1, 2074, .inl (fun _ => 0))), (n35, .inl (cy 2, 2, .inl (fun _ => 0))), (n36, .inl (cy 0, 600, .inl (fun _ => 0)))] := hD
  refine W.widen (k := 155) (n := 15676) (by omega) (by omega) ?_
  refine lv_astore_n (lv' := [(2, .ref q30), (1, .ref q1), (0, .ref b)]) hx hb dL_law_15 rfl hl (by decide) rfl (fun ls hl => ?_)
  refine lv_iconst (v := 1) hx hb dL_law_16 (by decide) ?_
  refine va_newa (atype := .long) (ty := .long) (a0 := (1, .inr (.inl (fun _ => 0)))) hx hb (hts _ mw_6) rfl hK hP hD hS hA (fun _ => rfl) (by decide) (by decide) (Nat.le_of_ble_eq_true rfl) (Nat.le_of_ble_eq_true rfl) (Nat.le_of_ble_eq_true rfl) dL_law_17 (fun q44 cA H hK9 hP hD hS => ?_)
  have hcA := my_cA hK9 hK 3 rfl
  subst hcA
  clear hK9
  have hP : va_P (dC, dI) vwCl [(q1, .inr (7, [.ref n2, .ref n3, .ref n4, .ref n5, .ref n6, .ref n7, .ref n8, .int 0, .int 0, .int (-1), .int 0, .int 0])), (n2, .inr (3, [.int 480, .int 1, .int 1, .int 0, .int 0, .int 0, .int 0, .int 0, .int 0, .int 0, .ref n9, .ref n10, .ref n11, .ref n12, .ref n13, .ref n14, .int 0])), (n12, .inl (cy 1, 5, .inl g25)), (n13, .inl (cy 1, 30, .inl (fun _ => 0))), (n14, .inl (cy 1, 5, .inl g27)), (n3, .inr (3, [.int 1, .int 0, .int 0, .int 0, .int 0, .int 0, .int 0, .int 0, .int 0, .int 0, .ref n15, .ref n16, .ref n17, .ref n18, .ref n19, .ref n20, .int 0])), (n18, .inl (cy 1, 5, .inl (fun _ => 0))), (n19, .inl (cy 1, 30, .inl (fun _ => 0))), (n20, .inl (cy 1, 5, .inl (fun _ => 0))), (n4, .inr (5, [.ref n21, .int 0, .int 0, .int 0, .int 0, .int 0, .ref n22, .ref n23, .ref n24, .int 0, .int 0])), (n21, .inl (cy 0, 600, .inl (fun _ => 0))), (n6, .inl (cy 5, 8, .inr (.inr (.inr (.inr (fun _ => none)))))), (n7, .inl (cy 5, 2, .inr (.inr (.inr (.inr (fun _ => none)))))), (q30, .inr (8, [.ref n31, .ref n32, .ref n33, .ref n34, .ref n35, .int 0, .int 0, .ref n36, .int 0, .int 0, .int 0, .int 0, .int 0, .int 0, .int 0, .int 0, .int (-1), .ref n37, .ref n38, .int 0, .ref n39, .ref n40, .int 0])), (n31, .inl (cy 1, 1037, .inl g41)), (n32, .inl (cy 1, 1037, .inl (fun _ => 0))), (n33, .inl (cy 1, 8296, .inl (fun _ => 0))), (n34, .inl (cy 1, 2074, .inl (fun _ => 0))), (n35, .inl (cy 2, 2, .inl (fun _ => 0))), (n36, .inl (cy 0, 600, .inl (fun _ => 0))), (q44, .inl (cy 3, 1, .inr (.inl (fun _ => 0))))] H := hP
  have hD : va_D (fun q : Nat => s.heap.size ≤ q) [(q1, .inr (7, [.ref n2, .ref n3, .ref n4, .ref n5, .ref n6, .ref n7, .ref n8, .int 0, .int 0, .int (-1), .int 0, .int 0])), (n2, .inr (3, [.int 480, .int 1, .int 1, .int 0, .int 0, .int 0, .int 0, .int 0, .int 0, .int 0, .ref n9, .ref n10, .ref n11, .ref n12, .ref n13, .ref n14, .int 0])), (n12, .inl (cy 1, 5, .inl g25)), (n13, .inl (cy 1, 30, .inl (fun _ => 0))), (n14, .inl (cy 1, 5, .inl g27)), (n3, .inr (3, [.int 1, .int 0, .int 0, .int 0, .int 0, .int 0, .int 0, .int 0, .int 0, .int 0, .ref n15, .ref n16, .ref n17, .ref n18, .ref n19, .ref n20, .int 0])), (n18, .inl (cy 1, 5, .inl (fun _ => 0))), (n19, .inl (cy 1, 30, .inl (fun _ => 0))), (n20, .inl (cy 1, 5, .inl (fun _ => 0))), (n4, .inr (5, [.ref n21, .int 0, .int 0, .int 0, .int 0, .int 0, .ref n22, .ref n23, .ref n24, .int 0, .int 0])), (n21, .inl (cy 0, 600, .inl (fun _ => 0))), (n6, .inl (cy 5, 8, .inr (.inr (.inr (.inr (fun _ => none)))))), (n7, .inl (cy 5, 2, .inr (.inr (.inr (.inr (fun _ => none)))))), (q30, .inr (8, [.ref n31, .ref n32, .ref n33, .ref n34, .ref n35, .int 0, .int 0, .ref n36, .int 0, .int 0, .int 0, .int 0, .int 0, .int 0, .int 0, .int 0, .int (-1), .ref n37, .ref n38, .int 0, .ref n39, .ref n40, .int 0])), (n31, .inl (cy 1, 1037, .inl g41)), (n32, .inl (cy 1, 1037, .inl (fun _ => 0))), (n33, .inl (cy 1, 8296, .inl (fun _ => 0))), (n34, .inl (cy 1, 2074, .inl (fun _ => 0))), (n35, .inl (cy 2, 2, .inl (fun _ => 0))), (n36, .inl (cy 0, 600, .inl (fun _ => 0))), (q44, .inl (cy 3, 1, .inr (.inl (fun _ => 0))))] := hD
  refine W.widen (k := 156) (n := 15677) (by omega) (by omega) ?_
  refine lv_astore_n (lv' := [(3, .ref q44), (2, .ref q30), (1, .ref q1), (0, .ref b)]) hx hb dL_law_19 rfl hl (by decide) rfl (fun ls hl => ?_)
  refine lv_iconst (v := 1) hx hb dL_law_20 (by decide) ?_
  refine va_newa (atype := .double) (ty := .double) (a0 := (1, .inr (.inr (.inr (.inl (fun _ => 0)))))) hx hb (hts _ mw_7) rfl hK hP hD hS hA (fun _ => rfl) (by decide) (by decide) (Nat.le_of_ble_eq_true rfl) (Nat.le_of_ble_eq_true rfl) (Nat.le_of_ble_eq_true rfl) dL_law_21 (fun q45 cA H hK9 hP hD hS => ?_)
  have hcA := my_cA hK9 hK 4 rfl
  subst hcA
  clear hK9
  have hP : va_P (dC, dI) vwCl [(q1, .inr (7, [.ref n2, .ref n3, .ref n4, .ref n5, .ref n6, .ref n7, .ref n8, .int 0, .int 0, .int (-1), .int 0, .int 0])), (n2, .inr (3, [.int 480, .int 1, .int 1, .int 0, .int 0, .int 0, .int 0, .int 0, .int 0, .int 0, .ref n9, .ref n10, .ref n11, .ref n12, .ref n13, .ref n14, .int 0])), (n12, .inl (cy 1, 5, .inl g25)), (n13, .inl (cy 1, 30, .inl (fun _ => 0))), (n14, .inl (cy 1, 5, .inl g27)), (n3, .inr (3, [.int 1, .int 0, .int 0, .int 0, .int 0, .int 0, .int 0, .int 0, .int 0, .int 0, .ref n15, .ref n16, .ref n17, .ref n18, .ref n19, .ref n20, .int 0])), (n18, .inl (cy 1, 5, .inl (fun _ => 0))), (n19, .inl (cy 1, 30, .inl (fun _ => 0))), (n20, .inl (cy 1, 5, .inl (fun _ => 0))), (n4, .inr (5, [.ref n21, .int 0, .int 0, .int 0, .int 0, .int 0, .ref n22, .ref n23, .ref n24, .int 0, .int 0])), (n21, .inl (cy 0, 600, .inl (fun _ => 0))), (n6, .inl (cy 5, 8, .inr (.inr (.inr (.inr (fun _ => none)))))), (n7, .inl (cy 5, 2, .inr (.inr (.inr (.inr (fun _ => none)))))), (q30, .inr (8, [.ref n31, .ref n32, .ref n33, .ref n34, .ref n35, .int 0, .int 0, .ref n36, .int 0, .int 0, .int 0, .int 0, .int 0, .int 0, .int 0, .int 0, .int (-1), .ref n37, .ref n38, .int 0, .ref n39, .ref n40, .int 0])), (n31, .inl (cy 1, 1037, .inl g41)), (n32, .inl (cy 1, 1037, .inl (fun _ => 0))), (n33, .inl (cy 1, 8296, .inl (fun _ => 0))), (n34, .inl (cy 1, 2074, .inl (fun _ => 0))), (n35, .inl (cy 2, 2, .inl (fun _ => 0))), (n36, .inl (cy 0, 600, .inl (fun _ => 0))), (q44, .inl (cy 3, 1, .inr (.inl (fun _ => 0)))), (q45, .inl (cy 4, 1, .inr (.inr (.inr (.inl (fun _ => 0))))))] H := hP
  have hD : va_D (fun q : Nat => s.heap.size ≤ q) [(q1, .inr (7, [.ref n2, .ref n3, .ref n4, .ref n5, .ref n6, .ref n7, .ref n8, .int 0, .int 0, .int (-1), .int 0, .int 0])), (n2, .inr (3, [.int 480, .int 1, .int 1, .int 0, .int 0, .int 0, .int 0, .int 0, .int 0, .int 0, .ref n9, .ref n10, .ref n11, .ref n12, .ref n13, .ref n14, .int 0])), (n12, .inl (cy 1, 5, .inl g25)), (n13, .inl (cy 1, 30, .inl (fun _ => 0))), (n14, .inl (cy 1, 5, .inl g27)), (n3, .inr (3, [.int 1, .int 0, .int 0, .int 0, .int 0, .int 0, .int 0, .int 0, .int 0, .int 0, .ref n15, .ref n16, .ref n17, .ref n18, .ref n19, .ref n20, .int 0])), (n18, .inl (cy 1, 5, .inl (fun _ => 0))), (n19, .inl (cy 1, 30, .inl (fun _ => 0))), (n20, .inl (cy 1, 5, .inl (fun _ => 0))), (n4, .inr (5, [.ref n21, .int 0, .int 0, .int 0, .int 0, .int 0, .ref n22, .ref n23, .ref n24, .int 0, .int 0])), (n21, .inl (cy 0, 600, .inl (fun _ => 0))), (n6, .inl (cy 5, 8, .inr (.inr (.inr (.inr (fun _ => none)))))), (n7, .inl (cy 5, 2, .inr (.inr (.inr (.inr (fun _ => none)))))), (q30, .inr (8, [.ref n31, .ref n32, .ref n33, .ref n34, .ref n35, .int 0, .int 0, .ref n36, .int 0, .int 0, .int 0, .int 0, .int 0, .int 0, .int 0, .int 0, .int (-1), .ref n37, .ref n38, .int 0, .ref n39, .ref n40, .int 0])), (n31, .inl (cy 1, 1037, .inl g41)), (n32, .inl (cy 1, 1037, .inl (fun _ => 0))), (n33, .inl (cy 1, 8296, .inl (fun _ => 0))), (n34, .inl (cy 1, 2074, .inl (fun _ => 0))), (n35, .inl (cy 2, 2, .inl (fun _ => 0))), (n36, .inl (cy 0, 600, .inl (fun _ => 0))), (q44, .inl (cy 3, 1, .inr (.inl (fun _ => 0)))), (q45, .inl (cy 4, 1, .inr (.inr (.inr (.inl (fun _ => 0))))))] := hD
  refine W.widen (k := 157) (n := 15678) (by omega) (by omega) ?_
  refine lv_astore (lv' := [(4, .ref q45), (3, .ref q44), (2, .ref q30), (1, .ref q1), (0, .ref b)]) hx hb dL_law_23 hl (by decide) rfl (fun ls hl => ?_)
  refine lv_iconst (v := 0) hx hb dL_law_25 (by decide) ?_
  refine lv_istore (lv' := [(5, .int 0), (4, .ref q45), (3, .ref q44), (2, .ref q30), (1, .ref q1), (0, .ref b)]) hx hb dL_law_26 hl (by decide) rfl (fun ls hl => ?_)
  refine lv_iload hx hb dL_law_28 (lv_at hl 0 rfl) ?_
  refine lv_aload_n hx hb dL_law_30 rfl (lv_at hl 5 rfl) ?_
  refine va_slen hx hb hX hbl hbA hS dL_law_31 ?_
  refine lv_iconst (v := 4) hx hb dL_law_32 (by decide) ?_
  refine lv_isub hx hb dL_law_33 ?_
  rcases (show L = 0 ∨ L = 1 ∨ L = 2 ∨ L = 3 ∨ L = 4 by omega) with rfl | rfl | rfl | rfl | rfl
  · refine my_topi (y := -4) (by decide) ?_
    exact law_out l hx hb hr hlocks hS (by decide)
  · refine my_topi (y := -3) (by decide) ?_
    exact law_out l hx hb hr hlocks hS (by decide)
  · refine my_topi (y := -2) (by decide) ?_
    exact law_out l hx hb hr hlocks hS (by decide)
  · refine my_topi (y := (-1)) (by decide) ?_
    exact law_out l hx hb hr hlocks hS (by decide)
  · refine my_topi (y := 0) (by decide) ?_
    refine lv_icmp_gt (tgt := 2878) hx hb dL_law_34 (by decide) (fun h => absurd h (by decide)) (fun _ => ?_)
    exact law_cases l hst dC dI cy nb q1 n2 n3 n4 n5 n6 n7 n8 n9 n10 n11 n12 n13 n14 n15 n16 n17 n18 n19 n20 n21 n22 n23 n24 g25 g27 q30 n31 n32 n33 n34 n35 n36 n37 n38 n39 n40 g41 q44 q45 hg26 hg28 hg42 ⟨hx, hb, hr, hml, hown, hts, hX, hbl, hlocks, hK, hE⟩ (hP.sub [0, 1, 2, 3, 4, 5, 6, 7, 8, 9, 10, 11, 12, 13, 14, 15, 16, 17, 18, 19, 20, 21] rfl) (hD.sub [0, 1, 2, 3, 4, 5, 6, 7, 8, 9, 10, 11, 12, 13, 14, 15, 16, 17, 18, 19, 20, 21] (by decide) rfl) hS (lv_sub hl [0, 1, 2, 3, 4, 5] rfl)
