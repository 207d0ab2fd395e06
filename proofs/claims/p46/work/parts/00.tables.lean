noncomputable def lw_okq (q : MethodName × Nat) : Prop := (q.1.cls ≠ "java/lang/invoke/MethodHandle" ∧ q.1.cls ≠ "java/lang/invoke/VarHandle") ∧ Cond.instantiable q.1.cls q.2 ∈ tables_1 ∧ Cond.privateMethod q.1 ∈ tables_1 ∧ Cond.instanceMethod q.1 ∈ tables_1
theorem lw_b1 : ∀ w ∈ tables_1_1, w ∈ tables_1 := fun w h => List.mem_append_left _ h
theorem lw_b2 : ∀ w ∈ tables_1_2, w ∈ tables_1 := fun w h => List.mem_append_right _ (List.mem_append_left _ h)
theorem lw_b3 : ∀ w ∈ tables_1_3, w ∈ tables_1 := fun w h => List.mem_append_right _ (List.mem_append_right _ (List.mem_append_left _ h))
theorem lw_b4 : ∀ w ∈ tables_1_4, w ∈ tables_1 := fun w h => List.mem_append_right _ (List.mem_append_right _ (List.mem_append_right _ (List.mem_append_left _ h)))
theorem lw_b5 : ∀ w ∈ tables_1_5, w ∈ tables_1 := fun w h => List.mem_append_right _ (List.mem_append_right _ (List.mem_append_right _ (List.mem_append_right _ (List.mem_append_left _ h))))
theorem lw_b6 : ∀ w ∈ tables_1_6, w ∈ tables_1 := fun w h => List.mem_append_right _ (List.mem_append_right _ (List.mem_append_right _ (List.mem_append_right _ (List.mem_append_right _ (List.mem_append_left _ h)))))
theorem lw_b7 : ∀ w ∈ tables_1_7, w ∈ tables_1 := fun w h => List.mem_append_right _ (List.mem_append_right _ (List.mem_append_right _ (List.mem_append_right _ (List.mem_append_right _ (List.mem_append_right _ (List.mem_append_left _ h))))))
theorem lw_b8 : ∀ w ∈ tables_1_8, w ∈ tables_1 := fun w h => List.mem_append_right _ (List.mem_append_right _ (List.mem_append_right _ (List.mem_append_right _ (List.mem_append_right _ (List.mem_append_right _ (List.mem_append_right _ (List.mem_append_left _ h)))))))
theorem lw_b9 : ∀ w ∈ tables_1_9, w ∈ tables_1 := fun w h => List.mem_append_right _ (List.mem_append_right _ (List.mem_append_right _ (List.mem_append_right _ (List.mem_append_right _ (List.mem_append_right _ (List.mem_append_right _ (List.mem_append_right _ (h))))))))
set_option maxRecDepth 20000 in
theorem lw_c0 : ("CardLine$Reader" ≠ "java/lang/invoke/MethodHandle" ∧ "CardLine$Reader" ≠ "java/lang/invoke/VarHandle") ∧ Cond.instantiable "CardLine$Reader" 11 ∈ tables_1 := ⟨⟨by decide +kernel, by decide +kernel⟩, lw_b2 _ (List.mem_of_getElem? (i := 70) rfl)⟩
set_option maxRecDepth 20000 in
theorem lw_c1 : ("java/lang/Throwable" ≠ "java/lang/invoke/MethodHandle" ∧ "java/lang/Throwable" ≠ "java/lang/invoke/VarHandle") ∧ Cond.instantiable "java/lang/Throwable" 6 ∈ tables_1 := ⟨⟨by decide +kernel, by decide +kernel⟩, lw_b3 _ (List.mem_of_getElem? (i := 163) rfl)⟩
set_option maxRecDepth 20000 in
theorem lw_c2 : ("CardLine" ≠ "java/lang/invoke/MethodHandle" ∧ "CardLine" ≠ "java/lang/invoke/VarHandle") ∧ Cond.instantiable "CardLine" 12 ∈ tables_1 := ⟨⟨by decide +kernel, by decide +kernel⟩, lw_b1 _ (List.mem_of_getElem? (i := 29) rfl)⟩
set_option maxRecDepth 20000 in
theorem lw_c3 : ("CardLine$Station" ≠ "java/lang/invoke/MethodHandle" ∧ "CardLine$Station" ≠ "java/lang/invoke/VarHandle") ∧ Cond.instantiable "CardLine$Station" 15 ∈ tables_1 := ⟨⟨by decide +kernel, by decide +kernel⟩, lw_b1 _ (List.mem_of_getElem? (i := 48) rfl)⟩
set_option maxRecDepth 20000 in
theorem lw_c4 : ("CardLine$Line" ≠ "java/lang/invoke/MethodHandle" ∧ "CardLine$Line" ≠ "java/lang/invoke/VarHandle") ∧ Cond.instantiable "CardLine$Line" 17 ∈ tables_1 := ⟨⟨by decide +kernel, by decide +kernel⟩, lw_b1 _ (List.mem_of_getElem? (i := 37) rfl)⟩
set_option maxRecDepth 20000 in
theorem lw_c5 : ("CardLineModel" ≠ "java/lang/invoke/MethodHandle" ∧ "CardLineModel" ≠ "java/lang/invoke/VarHandle") ∧ Cond.instantiable "CardLineModel" 23 ∈ tables_1 := ⟨⟨by decide +kernel, by decide +kernel⟩, lw_b6 _ (List.mem_of_getElem? (i := 234) rfl)⟩
set_option maxRecDepth 20000 in
theorem lw_p0 : lw_okq (⟨"CardLine$Reader", "start", "()V"⟩, 11) := ⟨lw_c0.1, lw_c0.2, lw_b2 _ (List.mem_of_getElem? (i := 176) rfl), lw_b2 _ (List.mem_of_getElem? (i := 177) rfl)⟩
set_option maxRecDepth 20000 in
theorem lw_p1 : lw_okq (⟨"CardLine$Reader", "readStatement", "(LCardLine$Line;)V"⟩, 11) := ⟨lw_c0.1, lw_c0.2, lw_b2 _ (List.mem_of_getElem? (i := 180) rfl), lw_b2 _ (List.mem_of_getElem? (i := 181) rfl)⟩
set_option maxRecDepth 20000 in
theorem lw_p2 : lw_okq (⟨"CardLine$Reader", "skipSpaces", "()I"⟩, 11) := ⟨lw_c0.1, lw_c0.2, lw_b2 _ (List.mem_of_getElem? (i := 184) rfl), lw_b2 _ (List.mem_of_getElem? (i := 185) rfl)⟩
set_option maxRecDepth 20000 in
theorem lw_p3 : lw_okq (⟨"CardLine$Reader", "readWord", "()I"⟩, 11) := ⟨lw_c0.1, lw_c0.2, lw_b2 _ (List.mem_of_getElem? (i := 188) rfl), lw_b2 _ (List.mem_of_getElem? (i := 189) rfl)⟩
set_option maxRecDepth 20000 in
theorem lw_p4 : lw_okq (⟨"CardLine$Reader", "stands", "(Ljava/lang/String;I)Z"⟩, 11) := ⟨lw_c0.1, lw_c0.2, lw_b2 _ (List.mem_of_getElem? (i := 196) rfl), lw_b2 _ (List.mem_of_getElem? (i := 197) rfl)⟩
set_option maxRecDepth 20000 in
theorem lw_p5 : lw_okq (⟨"CardLine$Reader", "error", "(II)V"⟩, 11) := ⟨lw_c0.1, lw_c0.2, lw_b3 _ (List.mem_of_getElem? (i := 15) rfl), lw_b3 _ (List.mem_of_getElem? (i := 16) rfl)⟩
set_option maxRecDepth 20000 in
theorem lw_p6 : lw_okq (⟨"CardLine$Reader", "readLine", "(LCardLine$Line;)V"⟩, 11) := ⟨lw_c0.1, lw_c0.2, lw_b3 _ (List.mem_of_getElem? (i := 19) rfl), lw_b3 _ (List.mem_of_getElem? (i := 20) rfl)⟩
set_option maxRecDepth 20000 in
theorem lw_p7 : lw_okq (⟨"CardLine$Reader", "readNumber", "(II)I"⟩, 11) := ⟨lw_c0.1, lw_c0.2, lw_b3 _ (List.mem_of_getElem? (i := 23) rfl), lw_b3 _ (List.mem_of_getElem? (i := 24) rfl)⟩
set_option maxRecDepth 20000 in
theorem lw_p8 : lw_okq (⟨"CardLine$Reader", "isFine", "()Z"⟩, 11) := ⟨lw_c0.1, lw_c0.2, lw_b3 _ (List.mem_of_getElem? (i := 34) rfl), lw_b3 _ (List.mem_of_getElem? (i := 35) rfl)⟩
set_option maxRecDepth 20000 in
theorem lw_p9 : lw_okq (⟨"CardLine$Reader", "readRest", "(LCardLine$Line;)V"⟩, 11) := ⟨lw_c0.1, lw_c0.2, lw_b3 _ (List.mem_of_getElem? (i := 39) rfl), lw_b3 _ (List.mem_of_getElem? (i := 40) rfl)⟩
set_option maxRecDepth 20000 in
theorem lw_p10 : lw_okq (⟨"CardLine$Reader", "readLot", "(LCardLine$Line;I)V"⟩, 11) := ⟨lw_c0.1, lw_c0.2, lw_b3 _ (List.mem_of_getElem? (i := 43) rfl), lw_b3 _ (List.mem_of_getElem? (i := 44) rfl)⟩
set_option maxRecDepth 20000 in
theorem lw_p11 : lw_okq (⟨"CardLine$Reader", "readCard", "(LCardLine$Line;I)V"⟩, 11) := ⟨lw_c0.1, lw_c0.2, lw_b3 _ (List.mem_of_getElem? (i := 55) rfl), lw_b3 _ (List.mem_of_getElem? (i := 56) rfl)⟩
set_option maxRecDepth 20000 in
theorem lw_p12 : lw_okq (⟨"CardLine$Reader", "readText", "()V"⟩, 11) := ⟨lw_c0.1, lw_c0.2, lw_b3 _ (List.mem_of_getElem? (i := 59) rfl), lw_b3 _ (List.mem_of_getElem? (i := 60) rfl)⟩
set_option maxRecDepth 20000 in
theorem lw_p13 : lw_okq (⟨"CardLine$Reader", "readLetter", "(B)V"⟩, 11) := ⟨lw_c0.1, lw_c0.2, lw_b3 _ (List.mem_of_getElem? (i := 63) rfl), lw_b3 _ (List.mem_of_getElem? (i := 64) rfl)⟩
set_option maxRecDepth 20000 in
theorem lw_p14 : lw_okq (⟨"CardLine$Reader", "rowLength", "(I)I"⟩, 11) := ⟨lw_c0.1, lw_c0.2, lw_b3 _ (List.mem_of_getElem? (i := 67) rfl), lw_b3 _ (List.mem_of_getElem? (i := 68) rfl)⟩
set_option maxRecDepth 20000 in
theorem lw_p15 : lw_okq (⟨"CardLine$Reader", "openGroup", "(II)V"⟩, 11) := ⟨lw_c0.1, lw_c0.2, lw_b3 _ (List.mem_of_getElem? (i := 71) rfl), lw_b3 _ (List.mem_of_getElem? (i := 72) rfl)⟩
noncomputable def lw_privs_1 : List (MethodName × Nat) := [(⟨"CardLine$Reader", "start", "()V"⟩, 11), (⟨"CardLine$Reader", "readStatement", "(LCardLine$Line;)V"⟩, 11), (⟨"CardLine$Reader", "skipSpaces", "()I"⟩, 11), (⟨"CardLine$Reader", "readWord", "()I"⟩, 11), (⟨"CardLine$Reader", "stands", "(Ljava/lang/String;I)Z"⟩, 11), (⟨"CardLine$Reader", "error", "(II)V"⟩, 11), (⟨"CardLine$Reader", "readLine", "(LCardLine$Line;)V"⟩, 11), (⟨"CardLine$Reader", "readNumber", "(II)I"⟩, 11), (⟨"CardLine$Reader", "isFine", "()Z"⟩, 11), (⟨"CardLine$Reader", "readRest", "(LCardLine$Line;)V"⟩, 11), (⟨"CardLine$Reader", "readLot", "(LCardLine$Line;I)V"⟩, 11), (⟨"CardLine$Reader", "readCard", "(LCardLine$Line;I)V"⟩, 11), (⟨"CardLine$Reader", "readText", "()V"⟩, 11), (⟨"CardLine$Reader", "readLetter", "(B)V"⟩, 11), (⟨"CardLine$Reader", "rowLength", "(I)I"⟩, 11), (⟨"CardLine$Reader", "openGroup", "(II)V"⟩, 11)]
theorem lw_r1 : ∀ q ∈ lw_privs_1, lw_okq q := List.forall_mem_cons.mpr ⟨lw_p0, List.forall_mem_cons.mpr ⟨lw_p1, List.forall_mem_cons.mpr ⟨lw_p2, List.forall_mem_cons.mpr ⟨lw_p3, List.forall_mem_cons.mpr ⟨lw_p4, List.forall_mem_cons.mpr ⟨lw_p5, List.forall_mem_cons.mpr ⟨lw_p6, List.forall_mem_cons.mpr ⟨lw_p7, List.forall_mem_cons.mpr ⟨lw_p8, List.forall_mem_cons.mpr ⟨lw_p9, List.forall_mem_cons.mpr ⟨lw_p10, List.forall_mem_cons.mpr ⟨lw_p11, List.forall_mem_cons.mpr ⟨lw_p12, List.forall_mem_cons.mpr ⟨lw_p13, List.forall_mem_cons.mpr ⟨lw_p14, List.forall_mem_cons.mpr ⟨lw_p15, fun _ h => absurd h List.not_mem_nil⟩⟩⟩⟩⟩⟩⟩⟩⟩⟩⟩⟩⟩⟩⟩⟩
set_option maxRecDepth 20000 in
theorem lw_p16 : lw_okq (⟨"CardLine$Reader", "closeGroup", "()V"⟩, 11) := ⟨lw_c0.1, lw_c0.2, lw_b3 _ (List.mem_of_getElem? (i := 75) rfl), lw_b3 _ (List.mem_of_getElem? (i := 76) rfl)⟩
set_option maxRecDepth 20000 in
theorem lw_p17 : lw_okq (⟨"CardLine$Reader", "readStation", "(LCardLine$Line;II)V"⟩, 11) := ⟨lw_c0.1, lw_c0.2, lw_b3 _ (List.mem_of_getElem? (i := 106) rfl), lw_b3 _ (List.mem_of_getElem? (i := 107) rfl)⟩
set_option maxRecDepth 20000 in
theorem lw_p18 : lw_okq (⟨"CardLine$Reader", "readScript", "()[B"⟩, 11) := ⟨lw_c0.1, lw_c0.2, lw_b3 _ (List.mem_of_getElem? (i := 113) rfl), lw_b3 _ (List.mem_of_getElem? (i := 114) rfl)⟩
set_option maxRecDepth 20000 in
theorem lw_p19 : lw_okq (⟨"java/lang/Throwable", "fillInStackTrace", "(I)Ljava/lang/Throwable;"⟩, 6) := ⟨lw_c1.1, lw_c1.2, lw_b3 _ (List.mem_of_getElem? (i := 161) rfl), lw_b3 _ (List.mem_of_getElem? (i := 162) rfl)⟩
set_option maxRecDepth 20000 in
theorem lw_p20 : lw_okq (⟨"CardLine$Reader", "readSemicolon", "()Z"⟩, 11) := ⟨lw_c0.1, lw_c0.2, lw_b4 _ (List.mem_of_getElem? (i := 151) rfl), lw_b4 _ (List.mem_of_getElem? (i := 152) rfl)⟩
set_option maxRecDepth 20000 in
theorem lw_p21 : lw_okq (⟨"CardLine", "keepResult", "()V"⟩, 12) := ⟨lw_c2.1, lw_c2.2, lw_b4 _ (List.mem_of_getElem? (i := 155) rfl), lw_b4 _ (List.mem_of_getElem? (i := 156) rfl)⟩
set_option maxRecDepth 20000 in
theorem lw_p22 : lw_okq (⟨"CardLine$Station", "ticksWith", "([BI)I"⟩, 15) := ⟨lw_c3.1, lw_c3.2, lw_b4 _ (List.mem_of_getElem? (i := 236) rfl), lw_b4 _ (List.mem_of_getElem? (i := 237) rfl)⟩
set_option maxRecDepth 20000 in
theorem lw_p23 : lw_okq (⟨"CardLine", "copyOfLine", "()LCardLine$Line;"⟩, 12) := ⟨lw_c2.1, lw_c2.2, lw_b5 _ (List.mem_of_getElem? (i := 4) rfl), lw_b5 _ (List.mem_of_getElem? (i := 5) rfl)⟩
set_option maxRecDepth 20000 in
theorem lw_p24 : lw_okq (⟨"CardLine$Line", "restOrWork", "(LCardLine$Station;)Z"⟩, 17) := ⟨lw_c4.1, lw_c4.2, lw_b5 _ (List.mem_of_getElem? (i := 33) rfl), lw_b5 _ (List.mem_of_getElem? (i := 34) rfl)⟩
set_option maxRecDepth 20000 in
theorem lw_p25 : lw_okq (⟨"CardLine$Line", "failCardIn", "(LCardLine$Station;)V"⟩, 17) := ⟨lw_c4.1, lw_c4.2, lw_b5 _ (List.mem_of_getElem? (i := 41) rfl), lw_b5 _ (List.mem_of_getElem? (i := 42) rfl)⟩
set_option maxRecDepth 20000 in
theorem lw_p26 : lw_okq (⟨"CardLine$Line", "changeState", "(LCardLine$Card;I)V"⟩, 17) := ⟨lw_c4.1, lw_c4.2, lw_b5 _ (List.mem_of_getElem? (i := 53) rfl), lw_b5 _ (List.mem_of_getElem? (i := 54) rfl)⟩
set_option maxRecDepth 20000 in
theorem lw_p27 : lw_okq (⟨"CardLine$Line", "findNextCard", "(LCardLine$Lot;)V"⟩, 17) := ⟨lw_c4.1, lw_c4.2, lw_b5 _ (List.mem_of_getElem? (i := 57) rfl), lw_b5 _ (List.mem_of_getElem? (i := 58) rfl)⟩
set_option maxRecDepth 20000 in
theorem lw_p28 : lw_okq (⟨"CardLine$Line", "comeOut", "(LCardLine$Station;)V"⟩, 17) := ⟨lw_c4.1, lw_c4.2, lw_b5 _ (List.mem_of_getElem? (i := 65) rfl), lw_b5 _ (List.mem_of_getElem? (i := 66) rfl)⟩
set_option maxRecDepth 20000 in
theorem lw_p29 : lw_okq (⟨"CardLine$Line", "leave", "(I)V"⟩, 17) := ⟨lw_c4.1, lw_c4.2, lw_b5 _ (List.mem_of_getElem? (i := 81) rfl), lw_b5 _ (List.mem_of_getElem? (i := 82) rfl)⟩
set_option maxRecDepth 20000 in
theorem lw_p30 : lw_okq (⟨"CardLine$Line", "goOn", "(LCardLine$Station;I)V"⟩, 17) := ⟨lw_c4.1, lw_c4.2, lw_b5 _ (List.mem_of_getElem? (i := 85) rfl), lw_b5 _ (List.mem_of_getElem? (i := 86) rfl)⟩
set_option maxRecDepth 20000 in
theorem lw_p31 : lw_okq (⟨"CardLine$Line", "enter", "(II)V"⟩, 17) := ⟨lw_c4.1, lw_c4.2, lw_b5 _ (List.mem_of_getElem? (i := 89) rfl), lw_b5 _ (List.mem_of_getElem? (i := 90) rfl)⟩
noncomputable def lw_privs_2 : List (MethodName × Nat) := [(⟨"CardLine$Reader", "closeGroup", "()V"⟩, 11), (⟨"CardLine$Reader", "readStation", "(LCardLine$Line;II)V"⟩, 11), (⟨"CardLine$Reader", "readScript", "()[B"⟩, 11), (⟨"java/lang/Throwable", "fillInStackTrace", "(I)Ljava/lang/Throwable;"⟩, 6), (⟨"CardLine$Reader", "readSemicolon", "()Z"⟩, 11), (⟨"CardLine", "keepResult", "()V"⟩, 12), (⟨"CardLine$Station", "ticksWith", "([BI)I"⟩, 15), (⟨"CardLine", "copyOfLine", "()LCardLine$Line;"⟩, 12), (⟨"CardLine$Line", "restOrWork", "(LCardLine$Station;)Z"⟩, 17), (⟨"CardLine$Line", "failCardIn", "(LCardLine$Station;)V"⟩, 17), (⟨"CardLine$Line", "changeState", "(LCardLine$Card;I)V"⟩, 17), (⟨"CardLine$Line", "findNextCard", "(LCardLine$Lot;)V"⟩, 17), (⟨"CardLine$Line", "comeOut", "(LCardLine$Station;)V"⟩, 17), (⟨"CardLine$Line", "leave", "(I)V"⟩, 17), (⟨"CardLine$Line", "goOn", "(LCardLine$Station;I)V"⟩, 17), (⟨"CardLine$Line", "enter", "(II)V"⟩, 17)]
theorem lw_r2 : ∀ q ∈ lw_privs_2, lw_okq q := List.forall_mem_cons.mpr ⟨lw_p16, List.forall_mem_cons.mpr ⟨lw_p17, List.forall_mem_cons.mpr ⟨lw_p18, List.forall_mem_cons.mpr ⟨lw_p19, List.forall_mem_cons.mpr ⟨lw_p20, List.forall_mem_cons.mpr ⟨lw_p21, List.forall_mem_cons.mpr ⟨lw_p22, List.forall_mem_cons.mpr ⟨lw_p23, List.forall_mem_cons.mpr ⟨lw_p24, List.forall_mem_cons.mpr ⟨lw_p25, List.forall_mem_cons.mpr ⟨lw_p26, List.forall_mem_cons.mpr ⟨lw_p27, List.forall_mem_cons.mpr ⟨lw_p28, List.forall_mem_cons.mpr ⟨lw_p29, List.forall_mem_cons.mpr ⟨lw_p30, List.forall_mem_cons.mpr ⟨lw_p31, fun _ h => absurd h List.not_mem_nil⟩⟩⟩⟩⟩⟩⟩⟩⟩⟩⟩⟩⟩⟩⟩⟩
set_option maxRecDepth 20000 in
theorem lw_p32 : lw_okq (⟨"CardLine$Line", "feed", "()V"⟩, 17) := ⟨lw_c4.1, lw_c4.2, lw_b5 _ (List.mem_of_getElem? (i := 98) rfl), lw_b5 _ (List.mem_of_getElem? (i := 99) rfl)⟩
set_option maxRecDepth 20000 in
theorem lw_p33 : lw_okq (⟨"CardLine$Line", "emptyTray", "()V"⟩, 17) := ⟨lw_c4.1, lw_c4.2, lw_b5 _ (List.mem_of_getElem? (i := 103) rfl), lw_b5 _ (List.mem_of_getElem? (i := 104) rfl)⟩
set_option maxRecDepth 20000 in
theorem lw_p34 : lw_okq (⟨"CardLine$Line", "countReadyCards", "()V"⟩, 17) := ⟨lw_c4.1, lw_c4.2, lw_b5 _ (List.mem_of_getElem? (i := 107) rfl), lw_b5 _ (List.mem_of_getElem? (i := 108) rfl)⟩
set_option maxRecDepth 20000 in
theorem lw_p35 : lw_okq (⟨"CardLine$Line", "passTime", "()V"⟩, 17) := ⟨lw_c4.1, lw_c4.2, lw_b5 _ (List.mem_of_getElem? (i := 111) rfl), lw_b5 _ (List.mem_of_getElem? (i := 112) rfl)⟩
set_option maxRecDepth 20000 in
theorem lw_p36 : lw_okq (⟨"CardLine", "lotsFinishedBefore", "(I)I"⟩, 12) := ⟨lw_c2.1, lw_c2.2, lw_b5 _ (List.mem_of_getElem? (i := 129) rfl), lw_b5 _ (List.mem_of_getElem? (i := 130) rfl)⟩
set_option maxRecDepth 20000 in
theorem lw_p37 : lw_okq (⟨"CardLine", "needStation", "(I)V"⟩, 12) := ⟨lw_c2.1, lw_c2.2, lw_b5 _ (List.mem_of_getElem? (i := 171) rfl), lw_b5 _ (List.mem_of_getElem? (i := 172) rfl)⟩
set_option maxRecDepth 20000 in
theorem lw_p38 : lw_okq (⟨"CardLine", "needCard", "(I)V"⟩, 12) := ⟨lw_c2.1, lw_c2.2, lw_b5 _ (List.mem_of_getElem? (i := 198) rfl), lw_b5 _ (List.mem_of_getElem? (i := 199) rfl)⟩
set_option maxRecDepth 20000 in
theorem lw_p39 : lw_okq (⟨"CardLine", "needLot", "(I)V"⟩, 12) := ⟨lw_c2.1, lw_c2.2, lw_b5 _ (List.mem_of_getElem? (i := 217) rfl), lw_b5 _ (List.mem_of_getElem? (i := 218) rfl)⟩
set_option maxRecDepth 20000 in
theorem lw_p40 : lw_okq (⟨"CardLine", "remember", "()V"⟩, 12) := ⟨lw_c2.1, lw_c2.2, lw_b6 _ (List.mem_of_getElem? (i := 52) rfl), lw_b6 _ (List.mem_of_getElem? (i := 53) rfl)⟩
set_option maxRecDepth 20000 in
theorem lw_p41 : lw_okq (⟨"CardLine", "waits", "(I)Z"⟩, 12) := ⟨lw_c2.1, lw_c2.2, lw_b6 _ (List.mem_of_getElem? (i := 65) rfl), lw_b6 _ (List.mem_of_getElem? (i := 66) rfl)⟩
set_option maxRecDepth 20000 in
theorem lw_p42 : lw_okq (⟨"CardLine", "copyBehind", "(I)LCardLine$Line;"⟩, 12) := ⟨lw_c2.1, lw_c2.2, lw_b6 _ (List.mem_of_getElem? (i := 176) rfl), lw_b6 _ (List.mem_of_getElem? (i := 177) rfl)⟩
set_option maxRecDepth 20000 in
theorem lw_p43 : lw_okq (⟨"CardLineModel", "begins", "()V"⟩, 23) := ⟨lw_c5.1, lw_c5.2, lw_b7 _ (List.mem_of_getElem? (i := 0) rfl), lw_b7 _ (List.mem_of_getElem? (i := 1) rfl)⟩
set_option maxRecDepth 20000 in
theorem lw_p44 : lw_okq (⟨"CardLineModel", "starts", "()V"⟩, 23) := ⟨lw_c5.1, lw_c5.2, lw_b7 _ (List.mem_of_getElem? (i := 87) rfl), lw_b7 _ (List.mem_of_getElem? (i := 88) rfl)⟩
set_option maxRecDepth 20000 in
theorem lw_p45 : lw_okq (⟨"CardLineModel", "linePart", "()V"⟩, 23) := ⟨lw_c5.1, lw_c5.2, lw_b7 _ (List.mem_of_getElem? (i := 94) rfl), lw_b7 _ (List.mem_of_getElem? (i := 95) rfl)⟩
set_option maxRecDepth 20000 in
theorem lw_p46 : lw_okq (⟨"CardLineModel", "reads", "()V"⟩, 23) := ⟨lw_c5.1, lw_c5.2, lw_b7 _ (List.mem_of_getElem? (i := 98) rfl), lw_b7 _ (List.mem_of_getElem? (i := 99) rfl)⟩
set_option maxRecDepth 20000 in
theorem lw_p47 : lw_okq (⟨"CardLineModel", "next", "()I"⟩, 23) := ⟨lw_c5.1, lw_c5.2, lw_b7 _ (List.mem_of_getElem? (i := 102) rfl), lw_b7 _ (List.mem_of_getElem? (i := 103) rfl)⟩
noncomputable def lw_privs_3 : List (MethodName × Nat) := [(⟨"CardLine$Line", "feed", "()V"⟩, 17), (⟨"CardLine$Line", "emptyTray", "()V"⟩, 17), (⟨"CardLine$Line", "countReadyCards", "()V"⟩, 17), (⟨"CardLine$Line", "passTime", "()V"⟩, 17), (⟨"CardLine", "lotsFinishedBefore", "(I)I"⟩, 12), (⟨"CardLine", "needStation", "(I)V"⟩, 12), (⟨"CardLine", "needCard", "(I)V"⟩, 12), (⟨"CardLine", "needLot", "(I)V"⟩, 12), (⟨"CardLine", "remember", "()V"⟩, 12), (⟨"CardLine", "waits", "(I)Z"⟩, 12), (⟨"CardLine", "copyBehind", "(I)LCardLine$Line;"⟩, 12), (⟨"CardLineModel", "begins", "()V"⟩, 23), (⟨"CardLineModel", "starts", "()V"⟩, 23), (⟨"CardLineModel", "linePart", "()V"⟩, 23), (⟨"CardLineModel", "reads", "()V"⟩, 23), (⟨"CardLineModel", "next", "()I"⟩, 23)]
theorem lw_r3 : ∀ q ∈ lw_privs_3, lw_okq q := List.forall_mem_cons.mpr ⟨lw_p32, List.forall_mem_cons.mpr ⟨lw_p33, List.forall_mem_cons.mpr ⟨lw_p34, List.forall_mem_cons.mpr ⟨lw_p35, List.forall_mem_cons.mpr ⟨lw_p36, List.forall_mem_cons.mpr ⟨lw_p37, List.forall_mem_cons.mpr ⟨lw_p38, List.forall_mem_cons.mpr ⟨lw_p39, List.forall_mem_cons.mpr ⟨lw_p40, List.forall_mem_cons.mpr ⟨lw_p41, List.forall_mem_cons.mpr ⟨lw_p42, List.forall_mem_cons.mpr ⟨lw_p43, List.forall_mem_cons.mpr ⟨lw_p44, List.forall_mem_cons.mpr ⟨lw_p45, List.forall_mem_cons.mpr ⟨lw_p46, List.forall_mem_cons.mpr ⟨lw_p47, fun _ h => absurd h List.not_mem_nil⟩⟩⟩⟩⟩⟩⟩⟩⟩⟩⟩⟩⟩⟩⟩⟩
set_option maxRecDepth 20000 in
theorem lw_p48 : lw_okq (⟨"CardLineModel", "here", "()I"⟩, 23) := ⟨lw_c5.1, lw_c5.2, lw_b7 _ (List.mem_of_getElem? (i := 106) rfl), lw_b7 _ (List.mem_of_getElem? (i := 107) rfl)⟩
set_option maxRecDepth 20000 in
theorem lw_p49 : lw_okq (⟨"CardLineModel", "isWord", "(Ljava/lang/String;)Z"⟩, 23) := ⟨lw_c5.1, lw_c5.2, lw_b7 _ (List.mem_of_getElem? (i := 116) rfl), lw_b7 _ (List.mem_of_getElem? (i := 117) rfl)⟩
set_option maxRecDepth 20000 in
theorem lw_p50 : lw_okq (⟨"CardLineModel", "fails", "(I)V"⟩, 23) := ⟨lw_c5.1, lw_c5.2, lw_b7 _ (List.mem_of_getElem? (i := 122) rfl), lw_b7 _ (List.mem_of_getElem? (i := 123) rfl)⟩
set_option maxRecDepth 20000 in
theorem lw_p51 : lw_okq (⟨"CardLineModel", "number", "(II)I"⟩, 23) := ⟨lw_c5.1, lw_c5.2, lw_b7 _ (List.mem_of_getElem? (i := 126) rfl), lw_b7 _ (List.mem_of_getElem? (i := 127) rfl)⟩
set_option maxRecDepth 20000 in
theorem lw_p52 : lw_okq (⟨"CardLineModel", "isMore", "()Z"⟩, 23) := ⟨lw_c5.1, lw_c5.2, lw_b7 _ (List.mem_of_getElem? (i := 134) rfl), lw_b7 _ (List.mem_of_getElem? (i := 135) rfl)⟩
set_option maxRecDepth 20000 in
theorem lw_p53 : lw_okq (⟨"CardLineModel", "statement", "()V"⟩, 23) := ⟨lw_c5.1, lw_c5.2, lw_b7 _ (List.mem_of_getElem? (i := 138) rfl), lw_b7 _ (List.mem_of_getElem? (i := 139) rfl)⟩
set_option maxRecDepth 20000 in
theorem lw_p54 : lw_okq (⟨"CardLineModel", "stationPart", "(I)V"⟩, 23) := ⟨lw_c5.1, lw_c5.2, lw_b7 _ (List.mem_of_getElem? (i := 143) rfl), lw_b7 _ (List.mem_of_getElem? (i := 144) rfl)⟩
set_option maxRecDepth 20000 in
theorem lw_p55 : lw_okq (⟨"CardLineModel", "tooMany", "(Z)V"⟩, 23) := ⟨lw_c5.1, lw_c5.2, lw_b7 _ (List.mem_of_getElem? (i := 147) rfl), lw_b7 _ (List.mem_of_getElem? (i := 148) rfl)⟩
set_option maxRecDepth 20000 in
theorem lw_p56 : lw_okq (⟨"CardLineModel", "sets", "(III)V"⟩, 23) := ⟨lw_c5.1, lw_c5.2, lw_b7 _ (List.mem_of_getElem? (i := 151) rfl), lw_b7 _ (List.mem_of_getElem? (i := 152) rfl)⟩
set_option maxRecDepth 20000 in
theorem lw_p57 : lw_okq (⟨"CardLineModel", "scriptPart", "(I)V"⟩, 23) := ⟨lw_c5.1, lw_c5.2, lw_b7 _ (List.mem_of_getElem? (i := 158) rfl), lw_b7 _ (List.mem_of_getElem? (i := 159) rfl)⟩
set_option maxRecDepth 20000 in
theorem lw_p58 : lw_okq (⟨"CardLineModel", "restPart", "()V"⟩, 23) := ⟨lw_c5.1, lw_c5.2, lw_b7 _ (List.mem_of_getElem? (i := 166) rfl), lw_b7 _ (List.mem_of_getElem? (i := 167) rfl)⟩
set_option maxRecDepth 20000 in
theorem lw_p59 : lw_okq (⟨"CardLineModel", "lotPart", "()V"⟩, 23) := ⟨lw_c5.1, lw_c5.2, lw_b7 _ (List.mem_of_getElem? (i := 171) rfl), lw_b7 _ (List.mem_of_getElem? (i := 172) rfl)⟩
set_option maxRecDepth 20000 in
theorem lw_p60 : lw_okq (⟨"CardLineModel", "cardPart", "()V"⟩, 23) := ⟨lw_c5.1, lw_c5.2, lw_b7 _ (List.mem_of_getElem? (i := 176) rfl), lw_b7 _ (List.mem_of_getElem? (i := 177) rfl)⟩
set_option maxRecDepth 20000 in
theorem lw_p61 : lw_okq (⟨"CardLineModel", "text", "()V"⟩, 23) := ⟨lw_c5.1, lw_c5.2, lw_b7 _ (List.mem_of_getElem? (i := 180) rfl), lw_b7 _ (List.mem_of_getElem? (i := 181) rfl)⟩
set_option maxRecDepth 20000 in
theorem lw_p62 : lw_okq (⟨"CardLineModel", "pieces", "(I)V"⟩, 23) := ⟨lw_c5.1, lw_c5.2, lw_b7 _ (List.mem_of_getElem? (i := 184) rfl), lw_b7 _ (List.mem_of_getElem? (i := 185) rfl)⟩
set_option maxRecDepth 20000 in
theorem lw_p63 : lw_okq (⟨"CardLineModel", "takes", "(II)V"⟩, 23) := ⟨lw_c5.1, lw_c5.2, lw_b7 _ (List.mem_of_getElem? (i := 188) rfl), lw_b7 _ (List.mem_of_getElem? (i := 189) rfl)⟩
noncomputable def lw_privs_4 : List (MethodName × Nat) := [(⟨"CardLineModel", "here", "()I"⟩, 23), (⟨"CardLineModel", "isWord", "(Ljava/lang/String;)Z"⟩, 23), (⟨"CardLineModel", "fails", "(I)V"⟩, 23), (⟨"CardLineModel", "number", "(II)I"⟩, 23), (⟨"CardLineModel", "isMore", "()Z"⟩, 23), (⟨"CardLineModel", "statement", "()V"⟩, 23), (⟨"CardLineModel", "stationPart", "(I)V"⟩, 23), (⟨"CardLineModel", "tooMany", "(Z)V"⟩, 23), (⟨"CardLineModel", "sets", "(III)V"⟩, 23), (⟨"CardLineModel", "scriptPart", "(I)V"⟩, 23), (⟨"CardLineModel", "restPart", "()V"⟩, 23), (⟨"CardLineModel", "lotPart", "()V"⟩, 23), (⟨"CardLineModel", "cardPart", "()V"⟩, 23), (⟨"CardLineModel", "text", "()V"⟩, 23), (⟨"CardLineModel", "pieces", "(I)V"⟩, 23), (⟨"CardLineModel", "takes", "(II)V"⟩, 23)]
theorem lw_r4 : ∀ q ∈ lw_privs_4, lw_okq q := List.forall_mem_cons.mpr ⟨lw_p48, List.forall_mem_cons.mpr ⟨lw_p49, List.forall_mem_cons.mpr ⟨lw_p50, List.forall_mem_cons.mpr ⟨lw_p51, List.forall_mem_cons.mpr ⟨lw_p52, List.forall_mem_cons.mpr ⟨lw_p53, List.forall_mem_cons.mpr ⟨lw_p54, List.forall_mem_cons.mpr ⟨lw_p55, List.forall_mem_cons.mpr ⟨lw_p56, List.forall_mem_cons.mpr ⟨lw_p57, List.forall_mem_cons.mpr ⟨lw_p58, List.forall_mem_cons.mpr ⟨lw_p59, List.forall_mem_cons.mpr ⟨lw_p60, List.forall_mem_cons.mpr ⟨lw_p61, List.forall_mem_cons.mpr ⟨lw_p62, List.forall_mem_cons.mpr ⟨lw_p63, fun _ h => absurd h List.not_mem_nil⟩⟩⟩⟩⟩⟩⟩⟩⟩⟩⟩⟩⟩⟩⟩⟩
set_option maxRecDepth 20000 in
theorem lw_p64 : lw_okq (⟨"CardLineModel", "group", "(I)V"⟩, 23) := ⟨lw_c5.1, lw_c5.2, lw_b7 _ (List.mem_of_getElem? (i := 192) rfl), lw_b7 _ (List.mem_of_getElem? (i := 193) rfl)⟩
set_option maxRecDepth 20000 in
theorem lw_p65 : lw_okq (⟨"CardLineModel", "repeats", "(II)V"⟩, 23) := ⟨lw_c5.1, lw_c5.2, lw_b7 _ (List.mem_of_getElem? (i := 196) rfl), lw_b7 _ (List.mem_of_getElem? (i := 197) rfl)⟩
set_option maxRecDepth 20000 in
theorem lw_p66 : lw_okq (⟨"CardLineModel", "adds", "(I)V"⟩, 23) := ⟨lw_c5.1, lw_c5.2, lw_b7 _ (List.mem_of_getElem? (i := 200) rfl), lw_b7 _ (List.mem_of_getElem? (i := 201) rfl)⟩
set_option maxRecDepth 20000 in
theorem lw_p67 : lw_okq (⟨"CardLineModel", "setsCard", "(III)V"⟩, 23) := ⟨lw_c5.1, lw_c5.2, lw_b7 _ (List.mem_of_getElem? (i := 204) rfl), lw_b7 _ (List.mem_of_getElem? (i := 205) rfl)⟩
set_option maxRecDepth 20000 in
theorem lw_p68 : lw_okq (⟨"CardLineModel", "ofLot", "(II)I"⟩, 23) := ⟨lw_c5.1, lw_c5.2, lw_b7 _ (List.mem_of_getElem? (i := 208) rfl), lw_b7 _ (List.mem_of_getElem? (i := 209) rfl)⟩
set_option maxRecDepth 20000 in
theorem lw_p69 : lw_okq (⟨"CardLineModel", "settles", "()V"⟩, 23) := ⟨lw_c5.1, lw_c5.2, lw_b7 _ (List.mem_of_getElem? (i := 212) rfl), lw_b7 _ (List.mem_of_getElem? (i := 213) rfl)⟩
set_option maxRecDepth 20000 in
theorem lw_p70 : lw_okq (⟨"CardLineModel", "isLot", "(I)Z"⟩, 23) := ⟨lw_c5.1, lw_c5.2, lw_b7 _ (List.mem_of_getElem? (i := 220) rfl), lw_b7 _ (List.mem_of_getElem? (i := 221) rfl)⟩
set_option maxRecDepth 20000 in
theorem lw_p71 : lw_okq (⟨"CardLineModel", "isThrown", "(ZI)Z"⟩, 23) := ⟨lw_c5.1, lw_c5.2, lw_b7 _ (List.mem_of_getElem? (i := 224) rfl), lw_b7 _ (List.mem_of_getElem? (i := 225) rfl)⟩
set_option maxRecDepth 20000 in
theorem lw_p72 : lw_okq (⟨"CardLineModel", "keeps", "()V"⟩, 23) := ⟨lw_c5.1, lw_c5.2, lw_b7 _ (List.mem_of_getElem? (i := 228) rfl), lw_b7 _ (List.mem_of_getElem? (i := 229) rfl)⟩
set_option maxRecDepth 20000 in
theorem lw_p73 : lw_okq (⟨"CardLineModel", "inState", "(I)I"⟩, 23) := ⟨lw_c5.1, lw_c5.2, lw_b8 _ (List.mem_of_getElem? (i := 5) rfl), lw_b8 _ (List.mem_of_getElem? (i := 6) rfl)⟩
set_option maxRecDepth 20000 in
theorem lw_p74 : lw_okq (⟨"CardLineModel", "ofCard", "(II)I"⟩, 23) := ⟨lw_c5.1, lw_c5.2, lw_b8 _ (List.mem_of_getElem? (i := 9) rfl), lw_b8 _ (List.mem_of_getElem? (i := 10) rfl)⟩
set_option maxRecDepth 20000 in
theorem lw_p75 : lw_okq (⟨"CardLineModel", "isStation", "(I)Z"⟩, 23) := ⟨lw_c5.1, lw_c5.2, lw_b8 _ (List.mem_of_getElem? (i := 22) rfl), lw_b8 _ (List.mem_of_getElem? (i := 23) rfl)⟩
set_option maxRecDepth 20000 in
theorem lw_p76 : lw_okq (⟨"CardLineModel", "of", "(II)I"⟩, 23) := ⟨lw_c5.1, lw_c5.2, lw_b8 _ (List.mem_of_getElem? (i := 27) rfl), lw_b8 _ (List.mem_of_getElem? (i := 28) rfl)⟩
set_option maxRecDepth 20000 in
theorem lw_p77 : lw_okq (⟨"CardLineModel", "isCard", "(I)Z"⟩, 23) := ⟨lw_c5.1, lw_c5.2, lw_b8 _ (List.mem_of_getElem? (i := 35) rfl), lw_b8 _ (List.mem_of_getElem? (i := 36) rfl)⟩
set_option maxRecDepth 20000 in
theorem lw_p78 : lw_okq (⟨"CardLineModel", "inStateOf", "(II)I"⟩, 23) := ⟨lw_c5.1, lw_c5.2, lw_b8 _ (List.mem_of_getElem? (i := 49) rfl), lw_b8 _ (List.mem_of_getElem? (i := 50) rfl)⟩
set_option maxRecDepth 20000 in
theorem lw_p79 : lw_okq (⟨"CardLineModel", "sumOf", "(II)I"⟩, 23) := ⟨lw_c5.1, lw_c5.2, lw_b8 _ (List.mem_of_getElem? (i := 53) rfl), lw_b8 _ (List.mem_of_getElem? (i := 54) rfl)⟩
noncomputable def lw_privs_5 : List (MethodName × Nat) := [(⟨"CardLineModel", "group", "(I)V"⟩, 23), (⟨"CardLineModel", "repeats", "(II)V"⟩, 23), (⟨"CardLineModel", "adds", "(I)V"⟩, 23), (⟨"CardLineModel", "setsCard", "(III)V"⟩, 23), (⟨"CardLineModel", "ofLot", "(II)I"⟩, 23), (⟨"CardLineModel", "settles", "()V"⟩, 23), (⟨"CardLineModel", "isLot", "(I)Z"⟩, 23), (⟨"CardLineModel", "isThrown", "(ZI)Z"⟩, 23), (⟨"CardLineModel", "keeps", "()V"⟩, 23), (⟨"CardLineModel", "inState", "(I)I"⟩, 23), (⟨"CardLineModel", "ofCard", "(II)I"⟩, 23), (⟨"CardLineModel", "isStation", "(I)Z"⟩, 23), (⟨"CardLineModel", "of", "(II)I"⟩, 23), (⟨"CardLineModel", "isCard", "(I)Z"⟩, 23), (⟨"CardLineModel", "inStateOf", "(II)I"⟩, 23), (⟨"CardLineModel", "sumOf", "(II)I"⟩, 23)]
theorem lw_r5 : ∀ q ∈ lw_privs_5, lw_okq q := List.forall_mem_cons.mpr ⟨lw_p64, List.forall_mem_cons.mpr ⟨lw_p65, List.forall_mem_cons.mpr ⟨lw_p66, List.forall_mem_cons.mpr ⟨lw_p67, List.forall_mem_cons.mpr ⟨lw_p68, List.forall_mem_cons.mpr ⟨lw_p69, List.forall_mem_cons.mpr ⟨lw_p70, List.forall_mem_cons.mpr ⟨lw_p71, List.forall_mem_cons.mpr ⟨lw_p72, List.forall_mem_cons.mpr ⟨lw_p73, List.forall_mem_cons.mpr ⟨lw_p74, List.forall_mem_cons.mpr ⟨lw_p75, List.forall_mem_cons.mpr ⟨lw_p76, List.forall_mem_cons.mpr ⟨lw_p77, List.forall_mem_cons.mpr ⟨lw_p78, List.forall_mem_cons.mpr ⟨lw_p79, fun _ h => absurd h List.not_mem_nil⟩⟩⟩⟩⟩⟩⟩⟩⟩⟩⟩⟩⟩⟩⟩⟩
set_option maxRecDepth 20000 in
theorem lw_p80 : lw_okq (⟨"CardLineModel", "nextOf", "(I)I"⟩, 23) := ⟨lw_c5.1, lw_c5.2, lw_b8 _ (List.mem_of_getElem? (i := 57) rfl), lw_b8 _ (List.mem_of_getElem? (i := 58) rfl)⟩
set_option maxRecDepth 20000 in
theorem lw_p81 : lw_okq (⟨"CardLineModel", "isFinished", "(I)Z"⟩, 23) := ⟨lw_c5.1, lw_c5.2, lw_b8 _ (List.mem_of_getElem? (i := 61) rfl), lw_b8 _ (List.mem_of_getElem? (i := 62) rfl)⟩
set_option maxRecDepth 20000 in
theorem lw_p82 : lw_okq (⟨"CardLineModel", "at", "(II)I"⟩, 23) := ⟨lw_c5.1, lw_c5.2, lw_b8 _ (List.mem_of_getElem? (i := 69) rfl), lw_b8 _ (List.mem_of_getElem? (i := 70) rfl)⟩
set_option maxRecDepth 20000 in
theorem lw_p83 : lw_okq (⟨"CardLineModel", "toFeed", "()I"⟩, 23) := ⟨lw_c5.1, lw_c5.2, lw_b8 _ (List.mem_of_getElem? (i := 85) rfl), lw_b8 _ (List.mem_of_getElem? (i := 86) rfl)⟩
set_option maxRecDepth 20000 in
theorem lw_p84 : lw_okq (⟨"CardLineModel", "isAhead", "(II)Z"⟩, 23) := ⟨lw_c5.1, lw_c5.2, lw_b8 _ (List.mem_of_getElem? (i := 89) rfl), lw_b8 _ (List.mem_of_getElem? (i := 90) rfl)⟩
set_option maxRecDepth 20000 in
theorem lw_p85 : lw_okq (⟨"CardLineModel", "classOf", "(I)I"⟩, 23) := ⟨lw_c5.1, lw_c5.2, lw_b8 _ (List.mem_of_getElem? (i := 93) rfl), lw_b8 _ (List.mem_of_getElem? (i := 94) rfl)⟩
set_option maxRecDepth 20000 in
theorem lw_p86 : lw_okq (⟨"CardLineModel", "rankOf", "(I)I"⟩, 23) := ⟨lw_c5.1, lw_c5.2, lw_b8 _ (List.mem_of_getElem? (i := 97) rfl), lw_b8 _ (List.mem_of_getElem? (i := 98) rfl)⟩
set_option maxRecDepth 20000 in
theorem lw_p87 : lw_okq (⟨"CardLineModel", "stepsOf", "(II)I"⟩, 23) := ⟨lw_c5.1, lw_c5.2, lw_b8 _ (List.mem_of_getElem? (i := 106) rfl), lw_b8 _ (List.mem_of_getElem? (i := 107) rfl)⟩
set_option maxRecDepth 20000 in
theorem lw_p88 : lw_okq (⟨"CardLineModel", "ticksOf", "(II)I"⟩, 23) := ⟨lw_c5.1, lw_c5.2, lw_b8 _ (List.mem_of_getElem? (i := 120) rfl), lw_b8 _ (List.mem_of_getElem? (i := 121) rfl)⟩
set_option maxRecDepth 20000 in
theorem lw_p89 : lw_okq (⟨"CardLineModel", "puts", "(II)I"⟩, 23) := ⟨lw_c5.1, lw_c5.2, lw_b8 _ (List.mem_of_getElem? (i := 169) rfl), lw_b8 _ (List.mem_of_getElem? (i := 170) rfl)⟩
set_option maxRecDepth 20000 in
theorem lw_p90 : lw_okq (⟨"CardLineModel", "passes", "()V"⟩, 23) := ⟨lw_c5.1, lw_c5.2, lw_b8 _ (List.mem_of_getElem? (i := 213) rfl), lw_b8 _ (List.mem_of_getElem? (i := 214) rfl)⟩
set_option maxRecDepth 20000 in
theorem lw_p91 : lw_okq (⟨"CardLineModel", "stationPasses", "(I)V"⟩, 23) := ⟨lw_c5.1, lw_c5.2, lw_b8 _ (List.mem_of_getElem? (i := 217) rfl), lw_b8 _ (List.mem_of_getElem? (i := 218) rfl)⟩
set_option maxRecDepth 20000 in
theorem lw_p92 : lw_okq (⟨"CardLineModel", "grows", "(III)V"⟩, 23) := ⟨lw_c5.1, lw_c5.2, lw_b8 _ (List.mem_of_getElem? (i := 221) rfl), lw_b8 _ (List.mem_of_getElem? (i := 222) rfl)⟩
set_option maxRecDepth 20000 in
theorem lw_p93 : lw_okq (⟨"CardLineModel", "works", "(I)V"⟩, 23) := ⟨lw_c5.1, lw_c5.2, lw_b8 _ (List.mem_of_getElem? (i := 225) rfl), lw_b8 _ (List.mem_of_getElem? (i := 226) rfl)⟩
set_option maxRecDepth 20000 in
theorem lw_p94 : lw_okq (⟨"CardLineModel", "isBad", "(I)Z"⟩, 23) := ⟨lw_c5.1, lw_c5.2, lw_b8 _ (List.mem_of_getElem? (i := 229) rfl), lw_b8 _ (List.mem_of_getElem? (i := 230) rfl)⟩
set_option maxRecDepth 20000 in
theorem lw_p95 : lw_okq (⟨"CardLineModel", "failsIn", "(II)V"⟩, 23) := ⟨lw_c5.1, lw_c5.2, lw_b8 _ (List.mem_of_getElem? (i := 233) rfl), lw_b8 _ (List.mem_of_getElem? (i := 234) rfl)⟩
noncomputable def lw_privs_6 : List (MethodName × Nat) := [(⟨"CardLineModel", "nextOf", "(I)I"⟩, 23), (⟨"CardLineModel", "isFinished", "(I)Z"⟩, 23), (⟨"CardLineModel", "at", "(II)I"⟩, 23), (⟨"CardLineModel", "toFeed", "()I"⟩, 23), (⟨"CardLineModel", "isAhead", "(II)Z"⟩, 23), (⟨"CardLineModel", "classOf", "(I)I"⟩, 23), (⟨"CardLineModel", "rankOf", "(I)I"⟩, 23), (⟨"CardLineModel", "stepsOf", "(II)I"⟩, 23), (⟨"CardLineModel", "ticksOf", "(II)I"⟩, 23), (⟨"CardLineModel", "puts", "(II)I"⟩, 23), (⟨"CardLineModel", "passes", "()V"⟩, 23), (⟨"CardLineModel", "stationPasses", "(I)V"⟩, 23), (⟨"CardLineModel", "grows", "(III)V"⟩, 23), (⟨"CardLineModel", "works", "(I)V"⟩, 23), (⟨"CardLineModel", "isBad", "(I)Z"⟩, 23), (⟨"CardLineModel", "failsIn", "(II)V"⟩, 23)]
theorem lw_r6 : ∀ q ∈ lw_privs_6, lw_okq q := List.forall_mem_cons.mpr ⟨lw_p80, List.forall_mem_cons.mpr ⟨lw_p81, List.forall_mem_cons.mpr ⟨lw_p82, List.forall_mem_cons.mpr ⟨lw_p83, List.forall_mem_cons.mpr ⟨lw_p84, List.forall_mem_cons.mpr ⟨lw_p85, List.forall_mem_cons.mpr ⟨lw_p86, List.forall_mem_cons.mpr ⟨lw_p87, List.forall_mem_cons.mpr ⟨lw_p88, List.forall_mem_cons.mpr ⟨lw_p89, List.forall_mem_cons.mpr ⟨lw_p90, List.forall_mem_cons.mpr ⟨lw_p91, List.forall_mem_cons.mpr ⟨lw_p92, List.forall_mem_cons.mpr ⟨lw_p93, List.forall_mem_cons.mpr ⟨lw_p94, List.forall_mem_cons.mpr ⟨lw_p95, fun _ h => absurd h List.not_mem_nil⟩⟩⟩⟩⟩⟩⟩⟩⟩⟩⟩⟩⟩⟩⟩⟩
set_option maxRecDepth 20000 in
theorem lw_p96 : lw_okq (⟨"CardLineModel", "isReady", "(I)Z"⟩, 23) := ⟨lw_c5.1, lw_c5.2, lw_b8 _ (List.mem_of_getElem? (i := 237) rfl), lw_b8 _ (List.mem_of_getElem? (i := 238) rfl)⟩
set_option maxRecDepth 20000 in
theorem lw_p97 : lw_okq (⟨"CardLineModel", "goesOn", "(I)V"⟩, 23) := ⟨lw_c5.1, lw_c5.2, lw_b9 _ (List.mem_of_getElem? (i := 1) rfl), lw_b9 _ (List.mem_of_getElem? (i := 2) rfl)⟩
set_option maxRecDepth 20000 in
theorem lw_p98 : lw_okq (⟨"CardLineModel", "enters", "(II)V"⟩, 23) := ⟨lw_c5.1, lw_c5.2, lw_b9 _ (List.mem_of_getElem? (i := 5) rfl), lw_b9 _ (List.mem_of_getElem? (i := 6) rfl)⟩
set_option maxRecDepth 20000 in
theorem lw_p99 : lw_okq (⟨"CardLineModel", "leaves", "(I)V"⟩, 23) := ⟨lw_c5.1, lw_c5.2, lw_b9 _ (List.mem_of_getElem? (i := 9) rfl), lw_b9 _ (List.mem_of_getElem? (i := 10) rfl)⟩
set_option maxRecDepth 20000 in
theorem lw_p100 : lw_okq (⟨"CardLineModel", "feeds", "()V"⟩, 23) := ⟨lw_c5.1, lw_c5.2, lw_b9 _ (List.mem_of_getElem? (i := 13) rfl), lw_b9 _ (List.mem_of_getElem? (i := 14) rfl)⟩
set_option maxRecDepth 20000 in
theorem lw_p101 : lw_okq (⟨"CardLineModel", "clearsTray", "()V"⟩, 23) := ⟨lw_c5.1, lw_c5.2, lw_b9 _ (List.mem_of_getElem? (i := 17) rfl), lw_b9 _ (List.mem_of_getElem? (i := 18) rfl)⟩
set_option maxRecDepth 20000 in
theorem lw_p102 : lw_okq (⟨"CardLineModel", "dayEnds", "()V"⟩, 23) := ⟨lw_c5.1, lw_c5.2, lw_b9 _ (List.mem_of_getElem? (i := 21) rfl), lw_b9 _ (List.mem_of_getElem? (i := 22) rfl)⟩
set_option maxRecDepth 20000 in
theorem lw_p103 : lw_okq (⟨"CardLineModel", "behind", "(II)I"⟩, 23) := ⟨lw_c5.1, lw_c5.2, lw_b9 _ (List.mem_of_getElem? (i := 33) rfl), lw_b9 _ (List.mem_of_getElem? (i := 34) rfl)⟩
set_option maxRecDepth 20000 in
theorem lw_p104 : lw_okq (⟨"CardLineModel", "goes", "(II)I"⟩, 23) := ⟨lw_c5.1, lw_c5.2, lw_b9 _ (List.mem_of_getElem? (i := 37) rfl), lw_b9 _ (List.mem_of_getElem? (i := 38) rfl)⟩
set_option maxRecDepth 20000 in
theorem lw_p105 : lw_okq (⟨"CardLineModel", "isMet", "(III)Z"⟩, 23) := ⟨lw_c5.1, lw_c5.2, lw_b9 _ (List.mem_of_getElem? (i := 41) rfl), lw_b9 _ (List.mem_of_getElem? (i := 42) rfl)⟩
set_option maxRecDepth 20000 in
theorem lw_p106 : lw_okq (⟨"CardLineModel", "areFinished", "(I)Z"⟩, 23) := ⟨lw_c5.1, lw_c5.2, lw_b9 _ (List.mem_of_getElem? (i := 45) rfl), lw_b9 _ (List.mem_of_getElem? (i := 46) rfl)⟩
set_option maxRecDepth 20000 in
theorem lw_p107 : lw_okq (⟨"CardLineModel", "then", "(II)I"⟩, 23) := ⟨lw_c5.1, lw_c5.2, lw_b9 _ (List.mem_of_getElem? (i := 61) rfl), lw_b9 _ (List.mem_of_getElem? (i := 62) rfl)⟩
set_option maxRecDepth 20000 in
theorem lw_p108 : lw_okq (⟨"CardLineModel", "bestOf", "(IIIII)I"⟩, 23) := ⟨lw_c5.1, lw_c5.2, lw_b9 _ (List.mem_of_getElem? (i := 85) rfl), lw_b9 _ (List.mem_of_getElem? (i := 86) rfl)⟩
noncomputable def lw_privs_7 : List (MethodName × Nat) := [(⟨"CardLineModel", "isReady", "(I)Z"⟩, 23), (⟨"CardLineModel", "goesOn", "(I)V"⟩, 23), (⟨"CardLineModel", "enters", "(II)V"⟩, 23), (⟨"CardLineModel", "leaves", "(I)V"⟩, 23), (⟨"CardLineModel", "feeds", "()V"⟩, 23), (⟨"CardLineModel", "clearsTray", "()V"⟩, 23), (⟨"CardLineModel", "dayEnds", "()V"⟩, 23), (⟨"CardLineModel", "behind", "(II)I"⟩, 23), (⟨"CardLineModel", "goes", "(II)I"⟩, 23), (⟨"CardLineModel", "isMet", "(III)Z"⟩, 23), (⟨"CardLineModel", "areFinished", "(I)Z"⟩, 23), (⟨"CardLineModel", "then", "(II)I"⟩, 23), (⟨"CardLineModel", "bestOf", "(IIIII)I"⟩, 23)]
theorem lw_r7 : ∀ q ∈ lw_privs_7, lw_okq q := List.forall_mem_cons.mpr ⟨lw_p96, List.forall_mem_cons.mpr ⟨lw_p97, List.forall_mem_cons.mpr ⟨lw_p98, List.forall_mem_cons.mpr ⟨lw_p99, List.forall_mem_cons.mpr ⟨lw_p100, List.forall_mem_cons.mpr ⟨lw_p101, List.forall_mem_cons.mpr ⟨lw_p102, List.forall_mem_cons.mpr ⟨lw_p103, List.forall_mem_cons.mpr ⟨lw_p104, List.forall_mem_cons.mpr ⟨lw_p105, List.forall_mem_cons.mpr ⟨lw_p106, List.forall_mem_cons.mpr ⟨lw_p107, List.forall_mem_cons.mpr ⟨lw_p108, fun _ h => absurd h List.not_mem_nil⟩⟩⟩⟩⟩⟩⟩⟩⟩⟩⟩⟩⟩
noncomputable def lw_privs : List (MethodName × Nat) := lw_privs_1 ++ (lw_privs_2 ++ (lw_privs_3 ++ (lw_privs_4 ++ (lw_privs_5 ++ (lw_privs_6 ++ (lw_privs_7))))))
noncomputable def lw_tbl : List Cond := k2_sels lw_privs ++ tables_1
theorem lw_privs_ok : ∀ q ∈ lw_privs, lw_okq q := by
  show ∀ q ∈ lw_privs_1 ++ (lw_privs_2 ++ (lw_privs_3 ++ (lw_privs_4 ++ (lw_privs_5 ++ (lw_privs_6 ++ (lw_privs_7)))))), lw_okq q
  exact List.forall_mem_append.mpr ⟨lw_r1, List.forall_mem_append.mpr ⟨lw_r2, List.forall_mem_append.mpr ⟨lw_r3, List.forall_mem_append.mpr ⟨lw_r4, List.forall_mem_append.mpr ⟨lw_r5, List.forall_mem_append.mpr ⟨lw_r6, lw_r7⟩⟩⟩⟩⟩⟩
noncomputable abbrev lw_cs : List Choice := [Jvm.Choice.named "NaN.bits"]
