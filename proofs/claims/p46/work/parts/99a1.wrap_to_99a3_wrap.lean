section
theorem my_topf {p : Program} {l : Launch} {e : Env} {R : Room} {s : State} {m : MethodId} {args : Array Value} {below : List Frame} {meth : Method} {c : Code} {H : Heap} {locs : List Loc} {cells slots : Nat} {Q : State → Prop} {pc : Nat} {ls : Array Slot} {rest : List Value} {x y : UInt32} (h : x = y) (k : W p l e R s m args below meth c H locs cells slots Q (F0 m pc ls (.float y :: rest))) : W p l e R s m args below meth c H locs cells slots Q (F0 m pc ls (.float x :: rest)) := h ▸ k
set_option maxHeartbeats 4000000 in
set_option maxRecDepth 100000 in
theorem cn_count (l : Launch) (hst : l.stackTraces = false) (dC : Nat → ClassId) (dI : Nat → Nat → Nat) (cy : Nat → ClassId) (nb : Nat → Nat) (ad : CK → Nat) (ks : List CK) (g : CG) (hk : GA nb ad g ks) (u0 : RS) (a1 : Int32) (o1 : Nat) (fo : Nat → Int64) (ro : Int32) (sz : Nat) (hF : C7_count g u0 a1 = some (.inr ro)) : vx_Met l yL_count (wsgH yL_count cL_count 4 (some .int) [(0, 9, 12, 13)]) ({ frames := 8, cells := 0, slots := 0, locals := 300 }) (va_Pc [.ref (ad .cl), .int a1, .ref o1] (fun U => U.heap.size = sz ∧ va_P (dC, dI) vwCl ([(o1, eL cy fo)] ++ WC cy ad ks g u0) U.heap ∧ va_K (dC, dI) vwCl (tyL cy) U ∧ va_D (fun _ => True) ([(o1, eL cy fo)] ++ WC cy ad ks g u0) ∧ GE nb (va_A ([(o1, eL cy fo)] ++ WC cy ad ks g u0) sz) U)) (va_Qi (fun (r : Int32) (_ : Unit) => r = 0) (fun _ t => va_P (dC, dI) vwCl ([(o1, eL cy (vp_updL fo ((0 : Int32).toNatClampNeg) (ro.toInt64)))] ++ WC cy ad ks g u0) t.heap ∧ va_D (va_A ([(o1, eL cy fo)] ++ WC cy ad ks g u0) sz) ([(o1, eL cy (vp_updL fo ((0 : Int32).toNatClampNeg) (ro.toInt64)))] ++ WC cy ad ks g u0)) (va_A ([(o1, eL cy fo)] ++ WC cy ad ks g u0) sz)) (vx_X (fun (_ : Unit) => False) (fun _ _ _ => True) (va_A ([(o1, eL cy fo)] ++ WC cy ad ks g u0) sz)) 0 0 (va_A ([(o1, eL cy fo)] ++ WC cy ad ks g u0) sz) := by
  refine vx_ofWH (cc := cL_count) (maxL := 4) (ret := (some .int)) (hh := [(0, 9, 12, 13)]) pn_L rfl ?_
  intro p e s m args below meth c s₁ B hml hv
  obtain ⟨rfl, hsz, hP, hK, hD0, hE⟩ := hv
  have hx := B.exec
  have hb := B.bytes
  have hr := B.returns
  have hts0 := atoms_spec (ws := (wsgH yL_count cL_count 4 (some .int) [(0, 9, 12, 13)])) B.pre
  have hts : ∀ w ∈ wsL_law, w.before _ s = true := fun w h => hts0 w (List.mem_cons_of_mem _ h)
  have hown : s.vm.findClass RL = some m.cls := by have h9 := findClass_of_methodNamed B.named; exact h9
  have hlocks := B.notSynchronized
  subst hsz
  have hD := hD0.self (sz := s.heap.size)
  generalize hAe : va_A ([(o1, eL cy fo)] ++ WC cy ad ks g u0) s.heap.size = A at hD hE ⊢
  have hA : ∀ q : Nat, s.heap.size ≤ q → A q := fun q h => by rw [← hAe]; exact Or.inr h
  have hS : va_S A s.heap s.heap [] := va_S.rf
  have hl := lv_entry ([.ref (ad .cl), .int a1, .ref o1]) (n := 4) (Nat.le_of_ble_eq_true rfl)
  rw [lg_entry_eq]
  generalize (lg_sl ([.ref (ad .cl), .int a1, .ref o1]) ++ List.replicate (4 - (lg_sl ([.ref (ad .cl), .int a1, .ref o1])).length) Slot.unset).toArray = ls at hl ⊢
  have hl : lv_has ls 4 [(0, .ref (ad .cl)), (1, .int a1), (2, .ref o1)] := hl
  generalize hHe : s.heap = H at hP hS ⊢
  have hS : va_S A s.heap H [] := by rw [hHe]; exact hS
  have htab := vx_table (x := yL_count) B (hts0 (.codeWith yL_count cL_count 4 (some .int) [(0, 9, 12, 13)]) List.mem_cons_self)
  refine lv_aload_n hx hb dL_count_0 rfl (lv_at hl 2 rfl) ?_
  refine lv_iconst (v := 0) hx hb dL_count_1 (by decide) ?_
  refine lv_aload_n hx hb dL_count_2 rfl (lv_at hl 0 rfl) ?_
  refine lv_iload_n hx hb dL_count_3 rfl (lv_at hl 1 rfl) ?_
  have hPc : va_P (dC, dI) vwCl (WC cy ad ks g u0) H := hP.part (X := [(o1, eL cy fo)]) (cx := []) [] rfl
  have hDc : va_D A (WC cy ad ks g u0) := hD.part (X := [(o1, eL cy fo)]) (cx := []) [] (by decide) rfl
  have hFc : ∀ q, va_A (WC cy ad ks g u0) H.size q → A q := va_freeP (X := [(o1, eL cy fo)]) (cx := []) hD hS hA [] rfl
  obtain ⟨q8, h8⟩ := wc_at (cy := cy) (ad := ad) (ks := ks) (g := g) (u := u0) (κ := .cl) hk.1 True.intro
  refine va_calli (va_runV (As := [.int a1]) (rest := [.int 0, .ref o1]) ⟨hx, hb, hml, hown, hts⟩ (c_X7_count l dC dI cy nb ad ks g hk u0 a1 ro H.size hF) (cwV 1 hts (gV mw_565 mw_566 mw_567 mw_2 mw_568) rfl rfl rfl (by decide +kernel) ⟨Nat.le_of_ble_eq_true rfl, Nat.le_of_ble_eq_true rfl⟩) (my_preV hPc hK hDc hE hS hFc (va_recv (q := (RX7, TX7, 12)) hK hPc (ci := 7) (q0 := q8) rfl h8)) rfl rfl hl.1 rfl (lv_room (Nat.le_of_ble_eq_true rfl)) dL_count_4 ⟨Nat.le_of_ble_eq_true rfl, Nat.le_of_ble_eq_true rfl⟩) hS (fun q _ h => hFc q h) hFc (fun r u t H1 locs ht hvm hw hB hz1 hk1 hS => ?_)
  clear h8
  obtain ⟨hP1, hD1⟩ := hB
  rw [ht] at hP1
  obtain ⟨hP, hD⟩ := va_joinP (X := [(o1, eL cy fo)]) (cx := []) (wr := [(o1, eL cy fo)]) (rx := []) (pl := WC cy ad ks g u0) (pl1 := WC cy ad ks g u0) hP hD [] [0] rfl rfl (by decide) (by decide) hk1 hFc hP1 hD1
  generalize H1 = H at hP hS ⊢
  have hP : va_P (dC, dI) vwCl ([(o1, eL cy fo)] ++ WC cy ad ks g u0) H := hP
  have hD : va_D A ([(o1, eL cy fo)] ++ WC cy ad ks g u0) := hD
  refine my_topi hw ?_
  refine W.widen (k := 0) (n := 0) (by omega) (by omega) ?_
  refine lv_i2l (v := ro.toInt64) hx hb dL_count_7 rfl ?_
  refine va_last hx hb hK hP hD hS 0 3 rfl rfl (vp_in_nI (n := 0) (by decide) (by decide)) dL_count_8 (fun H locs hP hD hS => ?_)
  have hP : va_P (dC, dI) vwCl ([(o1, eL cy (vp_updL fo ((0 : Int32).toNatClampNeg) (ro.toInt64)))] ++ WC cy ad ks g u0) H := hP
  have hD : va_D A ([(o1, eL cy (vp_updL fo ((0 : Int32).toNatClampNeg) (ro.toInt64)))] ++ WC cy ad ks g u0) := hD
  refine lv_goto (tgt := 15) hx hb dL_count_9 (by decide) ?_
  refine lv_iconst (v := 0) hx hb dL_count_15 (by decide) ?_
  refine vx_ret ?_
  exact W.iret (v := 0) hx hb hr (fun t ht hW => ⟨⟨0, (), rfl, rfl, by rw [ht]; exact hP, hD⟩, hS.F ht⟩) hS.2.2 dL_count_16
set_option maxHeartbeats 4000000 in
set_option maxRecDepth 100000 in
theorem ct_count (l : Launch) (hst : l.stackTraces = false) (dC : Nat → ClassId) (dI : Nat → Nat → Nat) (cy : Nat → ClassId) (nb : Nat → Nat) (ad : CK → Nat) (ks : List CK) (g : CG) (hk : GA nb ad g ks) (u0 : RS) (a1 : Int32) (o1 : Nat) (fo : Nat → Int64) (xc : Int32) (sz : Nat) (hxc : ¬ xc = 1) (hF : C7_count g u0 a1 = some (.inl xc)) : vx_Met l yL_count (wsgH yL_count cL_count 4 (some .int) [(0, 9, 12, 13)]) ({ frames := 8, cells := 1, slots := 6, locals := 300 }) (va_Pc [.ref (ad .cl), .int a1, .ref o1] (fun U => U.heap.size = sz ∧ va_P (dC, dI) vwCl ([(o1, eL cy fo)] ++ WC cy ad ks g u0) U.heap ∧ va_K (dC, dI) vwCl (tyL cy) U ∧ va_D (fun _ => True) ([(o1, eL cy fo)] ++ WC cy ad ks g u0) ∧ GE nb (va_A ([(o1, eL cy fo)] ++ WC cy ad ks g u0) sz) U)) (va_Qi (fun (r : Int32) (_ : Unit) => r = 1) (fun _ t => va_P (dC, dI) vwCl ([(o1, eL cy fo)] ++ WC cy ad ks g u0) t.heap ∧ va_D (va_A ([(o1, eL cy fo)] ++ WC cy ad ks g u0) sz) ([(o1, eL cy fo)] ++ WC cy ad ks g u0)) (va_A ([(o1, eL cy fo)] ++ WC cy ad ks g u0) sz)) (vx_X (fun (_ : Unit) => False) (fun _ _ _ => True) (va_A ([(o1, eL cy fo)] ++ WC cy ad ks g u0) sz)) 1 6 (va_A ([(o1, eL cy fo)] ++ WC cy ad ks g u0) sz) := by
  refine vx_ofWH (cc := cL_count) (maxL := 4) (ret := (some .int)) (hh := [(0, 9, 12, 13)]) pn_L rfl ?_
  intro p e s m args below meth c s₁ B hml hv
  obtain ⟨rfl, hsz, hP, hK, hD0, hE⟩ := hv
  have hx := B.exec
  have hb := B.bytes
  have hr := B.returns
  have hts0 := atoms_spec (ws := (wsgH yL_count cL_count 4 (some .int) [(0, 9, 12, 13)])) B.pre
  have hts : ∀ w ∈ wsL_law, w.before _ s = true := fun w h => hts0 w (List.mem_cons_of_mem _ h)
  have hown : s.vm.findClass RL = some m.cls := by have h9 := findClass_of_methodNamed B.named; exact h9
  have hlocks := B.notSynchronized
  subst hsz
  have hD := hD0.self (sz := s.heap.size)
  generalize hAe : va_A ([(o1, eL cy fo)] ++ WC cy ad ks g u0) s.heap.size = A at hD hE ⊢
  have hA : ∀ q : Nat, s.heap.size ≤ q → A q := fun q h => by rw [← hAe]; exact Or.inr h
  have hS : va_S A s.heap s.heap [] := va_S.rf
  have hl := lv_entry ([.ref (ad .cl), .int a1, .ref o1]) (n := 4) (Nat.le_of_ble_eq_true rfl)
  rw [lg_entry_eq]
  generalize (lg_sl ([.ref (ad .cl), .int a1, .ref o1]) ++ List.replicate (4 - (lg_sl ([.ref (ad .cl), .int a1, .ref o1])).length) Slot.unset).toArray = ls at hl ⊢
  have hl : lv_has ls 4 [(0, .ref (ad .cl)), (1, .int a1), (2, .ref o1)] := hl
  generalize hHe : s.heap = H at hP hS ⊢
  have hS : va_S A s.heap H [] := by rw [hHe]; exact hS
  have htab := vx_table (x := yL_count) B (hts0 (.codeWith yL_count cL_count 4 (some .int) [(0, 9, 12, 13)]) List.mem_cons_self)
  refine lv_aload_n hx hb dL_count_0 rfl (lv_at hl 2 rfl) ?_
  refine lv_iconst (v := 0) hx hb dL_count_1 (by decide) ?_
  refine lv_aload_n hx hb dL_count_2 rfl (lv_at hl 0 rfl) ?_
  refine lv_iload_n hx hb dL_count_3 rfl (lv_at hl 1 rfl) ?_
  have hPc : va_P (dC, dI) vwCl (WC cy ad ks g u0) H := hP.part (X := [(o1, eL cy fo)]) (cx := []) [] rfl
  have hDc : va_D A (WC cy ad ks g u0) := hD.part (X := [(o1, eL cy fo)]) (cx := []) [] (by decide) rfl
  have hFc : ∀ q, va_A (WC cy ad ks g u0) H.size q → A q := va_freeP (X := [(o1, eL cy fo)]) (cx := []) hD hS hA [] rfl
  obtain ⟨q8, h8⟩ := wc_at (cy := cy) (ad := ad) (ks := ks) (g := g) (u := u0) (κ := .cl) hk.1 True.intro
  refine vx_calli (vx_runV (As := [.int a1]) (rest := [.int 0, .ref o1]) ⟨hx, hb, hml, hown, hts⟩ (c_X7_count_y l hst dC dI cy nb ad ks g hk u0 a1 xc H.size hF) (cwV 1 hts (gV mw_565 mw_566 mw_567 mw_2 mw_568) rfl rfl rfl (by decide +kernel) ⟨Nat.le_of_ble_eq_true rfl, Nat.le_of_ble_eq_true rfl⟩) (my_preV hPc hK hDc hE hS hFc (va_recv (q := (RX7, TX7, 12)) hK hPc (ci := 7) (q0 := q8) rfl h8)) rfl rfl hl.1 rfl (lv_room (Nat.le_of_ble_eq_true rfl)) dL_count_4 ⟨Nat.le_of_ble_eq_true rfl, Nat.le_of_ble_eq_true rfl⟩) hS (fun q _ h => hFc q h) hFc (fun q _ h => hFc q h) (fun E9 ce9 q9 u9 t9 H1 locs1 ht9 hvm9 hp9 hB9 hz9 hk9 hS9 hc9 hv9 hcl9 => ?_) (fun r9 u9 t9 H1 locs1 ht9 hvm9 hp9 _ _ _ _ => hp9.elim)
  clear h8
  obtain ⟨hB8, hP1⟩ := hB9
  rw [ht9] at hP1
  obtain ⟨hP, hD⟩ := va_joinP (X := [(o1, eL cy fo)]) (cx := []) (wr := [(o1, eL cy fo)]) (rx := []) (pl := WC cy ad ks g u0) (pl1 := WC cy ad ks g u0) hP hD [] [0] rfl rfl (by decide) (by decide) hk9 hFc hP1 hDc.self
  have hP : va_P (dC, dI) vwCl ([(o1, eL cy fo)] ++ WC cy ad ks g u0) H1 := hP
  have hD : va_D A ([(o1, eL cy fo)] ++ WC cy ad ks g u0) := hD
  obtain rfl : E9 = xA := hB8.trans (if_neg hxc)
  refine vx_catch (own := RL) (name := xA) hown (tableOf []) _ (tableOf []) (htab.trans rfl) (fun z hz => nomatch hz) (by decide) (by decide) (hts _ mw_564) (va_Nw.use rfl hE.cA) hc9 hv9 hcl9 ?_
  generalize H1 = H at hP hS9 ⊢
  refine W.widen (k := 1) (n := 6) (by omega) (by omega) ?_
  refine lv_astore_n (lv' := [(3, .ref q9), (0, .ref (ad .cl)), (1, .int a1), (2, .ref o1)]) hx hb dL_count_12 rfl hl (by decide) rfl (fun ls hl => ?_)
  refine lv_iconst (v := 1) hx hb dL_count_13 (by decide) ?_
  refine vx_ret ?_
  exact W.iret (v := 1) hx hb hr (fun t ht hW => ⟨⟨1, (), rfl, rfl, by rw [ht]; exact hP, hD⟩, hS9.F ht⟩) hS9.2.2 dL_count_14
set_option maxHeartbeats 4000000 in
set_option maxRecDepth 100000 in
theorem cn_setting (l : Launch) (hst : l.stackTraces = false) (dC : Nat → ClassId) (dI : Nat → Nat → Nat) (cy : Nat → ClassId) (nb : Nat → Nat) (ad : CK → Nat) (ks : List CK) (g : CG) (hk : GA nb ad g ks) (u0 : RS) (a1 : Int32) (o1 : Nat) (fo : Nat → Int64) (ro : Int32) (sz : Nat) (hF : C7_setting g u0 a1 = some (.inr ro)) : vx_Met l yL_setting (wsgH yL_setting cL_setting 4 (some .int) [(0, 9, 12, 13)]) ({ frames := 8, cells := 0, slots := 0, locals := 300 }) (va_Pc [.ref (ad .cl), .int a1, .ref o1] (fun U => U.heap.size = sz ∧ va_P (dC, dI) vwCl ([(o1, eL cy fo)] ++ WC cy ad ks g u0) U.heap ∧ va_K (dC, dI) vwCl (tyL cy) U ∧ va_D (fun _ => True) ([(o1, eL cy fo)] ++ WC cy ad ks g u0) ∧ GE nb (va_A ([(o1, eL cy fo)] ++ WC cy ad ks g u0) sz) U)) (va_Qi (fun (r : Int32) (_ : Unit) => r = 0) (fun _ t => va_P (dC, dI) vwCl ([(o1, eL cy (vp_updL fo ((0 : Int32).toNatClampNeg) (ro.toInt64)))] ++ WC cy ad ks g u0) t.heap ∧ va_D (va_A ([(o1, eL cy fo)] ++ WC cy ad ks g u0) sz) ([(o1, eL cy (vp_updL fo ((0 : Int32).toNatClampNeg) (ro.toInt64)))] ++ WC cy ad ks g u0)) (va_A ([(o1, eL cy fo)] ++ WC cy ad ks g u0) sz)) (vx_X (fun (_ : Unit) => False) (fun _ _ _ => True) (va_A ([(o1, eL cy fo)] ++ WC cy ad ks g u0) sz)) 0 0 (va_A ([(o1, eL cy fo)] ++ WC cy ad ks g u0) sz) := by
  refine vx_ofWH (cc := cL_setting) (maxL := 4) (ret := (some .int)) (hh := [(0, 9, 12, 13)]) pn_L rfl ?_
  intro p e s m args below meth c s₁ B hml hv
  obtain ⟨rfl, hsz, hP, hK, hD0, hE⟩ := hv
  have hx := B.exec
  have hb := B.bytes
  have hr := B.returns
  have hts0 := atoms_spec (ws := (wsgH yL_setting cL_setting 4 (some .int) [(0, 9, 12, 13)])) B.pre
  have hts : ∀ w ∈ wsL_law, w.before _ s = true := fun w h => hts0 w (List.mem_cons_of_mem _ h)
  have hown : s.vm.findClass RL = some m.cls := by have h9 := findClass_of_methodNamed B.named; exact h9
  have hlocks := B.notSynchronized
  subst hsz
  have hD := hD0.self (sz := s.heap.size)
  generalize hAe : va_A ([(o1, eL cy fo)] ++ WC cy ad ks g u0) s.heap.size = A at hD hE ⊢
  have hA : ∀ q : Nat, s.heap.size ≤ q → A q := fun q h => by rw [← hAe]; exact Or.inr h
  have hS : va_S A s.heap s.heap [] := va_S.rf
  have hl := lv_entry ([.ref (ad .cl), .int a1, .ref o1]) (n := 4) (Nat.le_of_ble_eq_true rfl)
  rw [lg_entry_eq]
  generalize (lg_sl ([.ref (ad .cl), .int a1, .ref o1]) ++ List.replicate (4 - (lg_sl ([.ref (ad .cl), .int a1, .ref o1])).length) Slot.unset).toArray = ls at hl ⊢
  have hl : lv_has ls 4 [(0, .ref (ad .cl)), (1, .int a1), (2, .ref o1)] := hl
  generalize hHe : s.heap = H at hP hS ⊢
  have hS : va_S A s.heap H [] := by rw [hHe]; exact hS
  have htab := vx_table (x := yL_setting) B (hts0 (.codeWith yL_setting cL_setting 4 (some .int) [(0, 9, 12, 13)]) List.mem_cons_self)
  refine lv_aload_n hx hb dL_setting_0 rfl (lv_at hl 2 rfl) ?_
  refine lv_iconst (v := 0) hx hb dL_setting_1 (by decide) ?_
  refine lv_aload_n hx hb dL_setting_2 rfl (lv_at hl 0 rfl) ?_
  refine lv_iload_n hx hb dL_setting_3 rfl (lv_at hl 1 rfl) ?_
  have hPc : va_P (dC, dI) vwCl (WC cy ad ks g u0) H := hP.part (X := [(o1, eL cy fo)]) (cx := []) [] rfl
  have hDc : va_D A (WC cy ad ks g u0) := hD.part (X := [(o1, eL cy fo)]) (cx := []) [] (by decide) rfl
  have hFc : ∀ q, va_A (WC cy ad ks g u0) H.size q → A q := va_freeP (X := [(o1, eL cy fo)]) (cx := []) hD hS hA [] rfl
  obtain ⟨q8, h8⟩ := wc_at (cy := cy) (ad := ad) (ks := ks) (g := g) (u := u0) (κ := .cl) hk.1 True.intro
  refine va_calli (va_runV (As := [.int a1]) (rest := [.int 0, .ref o1]) ⟨hx, hb, hml, hown, hts⟩ (c_X7_setting l dC dI cy nb ad ks g hk u0 a1 ro H.size hF) (cwV 1 hts (gV mw_595 mw_596 mw_597 mw_2 mw_598) rfl rfl rfl (by decide +kernel) ⟨Nat.le_of_ble_eq_true rfl, Nat.le_of_ble_eq_true rfl⟩) (my_preV hPc hK hDc hE hS hFc (va_recv (q := (RX7, TX7, 12)) hK hPc (ci := 7) (q0 := q8) rfl h8)) rfl rfl hl.1 rfl (lv_room (Nat.le_of_ble_eq_true rfl)) dL_setting_4 ⟨Nat.le_of_ble_eq_true rfl, Nat.le_of_ble_eq_true rfl⟩) hS (fun q _ h => hFc q h) hFc (fun r u t H1 locs ht hvm hw hB hz1 hk1 hS => ?_)
  clear h8
  obtain ⟨hP1, hD1⟩ := hB
  rw [ht] at hP1
  obtain ⟨hP, hD⟩ := va_joinP (X := [(o1, eL cy fo)]) (cx := []) (wr := [(o1, eL cy fo)]) (rx := []) (pl := WC cy ad ks g u0) (pl1 := WC cy ad ks g u0) hP hD [] [0] rfl rfl (by decide) (by decide) hk1 hFc hP1 hD1
  generalize H1 = H at hP hS ⊢
  have hP : va_P (dC, dI) vwCl ([(o1, eL cy fo)] ++ WC cy ad ks g u0) H := hP
  have hD : va_D A ([(o1, eL cy fo)] ++ WC cy ad ks g u0) := hD
  refine my_topi hw ?_
  refine W.widen (k := 0) (n := 0) (by omega) (by omega) ?_
  refine lv_i2l (v := ro.toInt64) hx hb dL_setting_7 rfl ?_
  refine va_last hx hb hK hP hD hS 0 3 rfl rfl (vp_in_nI (n := 0) (by decide) (by decide)) dL_setting_8 (fun H locs hP hD hS => ?_)
  have hP : va_P (dC, dI) vwCl ([(o1, eL cy (vp_updL fo ((0 : Int32).toNatClampNeg) (ro.toInt64)))] ++ WC cy ad ks g u0) H := hP
  have hD : va_D A ([(o1, eL cy (vp_updL fo ((0 : Int32).toNatClampNeg) (ro.toInt64)))] ++ WC cy ad ks g u0) := hD
  refine lv_goto (tgt := 15) hx hb dL_setting_9 (by decide) ?_
  refine lv_iconst (v := 0) hx hb dL_setting_15 (by decide) ?_
  refine vx_ret ?_
  exact W.iret (v := 0) hx hb hr (fun t ht hW => ⟨⟨0, (), rfl, rfl, by rw [ht]; exact hP, hD⟩, hS.F ht⟩) hS.2.2 dL_setting_16
set_option maxHeartbeats 4000000 in
set_option maxRecDepth 100000 in
theorem ct_setting (l : Launch) (hst : l.stackTraces = false) (dC : Nat → ClassId) (dI : Nat → Nat → Nat) (cy : Nat → ClassId) (nb : Nat → Nat) (ad : CK → Nat) (ks : List CK) (g : CG) (hk : GA nb ad g ks) (u0 : RS) (a1 : Int32) (o1 : Nat) (fo : Nat → Int64) (xc : Int32) (sz : Nat) (hxc : ¬ xc = 1) (hF : C7_setting g u0 a1 = some (.inl xc)) : vx_Met l yL_setting (wsgH yL_setting cL_setting 4 (some .int) [(0, 9, 12, 13)]) ({ frames := 8, cells := 1, slots := 6, locals := 300 }) (va_Pc [.ref (ad .cl), .int a1, .ref o1] (fun U => U.heap.size = sz ∧ va_P (dC, dI) vwCl ([(o1, eL cy fo)] ++ WC cy ad ks g u0) U.heap ∧ va_K (dC, dI) vwCl (tyL cy) U ∧ va_D (fun _ => True) ([(o1, eL cy fo)] ++ WC cy ad ks g u0) ∧ GE nb (va_A ([(o1, eL cy fo)] ++ WC cy ad ks g u0) sz) U)) (va_Qi (fun (r : Int32) (_ : Unit) => r = 1) (fun _ t => va_P (dC, dI) vwCl ([(o1, eL cy fo)] ++ WC cy ad ks g u0) t.heap ∧ va_D (va_A ([(o1, eL cy fo)] ++ WC cy ad ks g u0) sz) ([(o1, eL cy fo)] ++ WC cy ad ks g u0)) (va_A ([(o1, eL cy fo)] ++ WC cy ad ks g u0) sz)) (vx_X (fun (_ : Unit) => False) (fun _ _ _ => True) (va_A ([(o1, eL cy fo)] ++ WC cy ad ks g u0) sz)) 1 6 (va_A ([(o1, eL cy fo)] ++ WC cy ad ks g u0) sz) := by
  refine vx_ofWH (cc := cL_setting) (maxL := 4) (ret := (some .int)) (hh := [(0, 9, 12, 13)]) pn_L rfl ?_
  intro p e s m args below meth c s₁ B hml hv
  obtain ⟨rfl, hsz, hP, hK, hD0, hE⟩ := hv
  have hx := B.exec
  have hb := B.bytes
  have hr := B.returns
  have hts0 := atoms_spec (ws := (wsgH yL_setting cL_setting 4 (some .int) [(0, 9, 12, 13)])) B.pre
  have hts : ∀ w ∈ wsL_law, w.before _ s = true := fun w h => hts0 w (List.mem_cons_of_mem _ h)
  have hown : s.vm.findClass RL = some m.cls := by have h9 := findClass_of_methodNamed B.named; exact h9
  have hlocks := B.notSynchronized
  subst hsz
  have hD := hD0.self (sz := s.heap.size)
  generalize hAe : va_A ([(o1, eL cy fo)] ++ WC cy ad ks g u0) s.heap.size = A at hD hE ⊢
  have hA : ∀ q : Nat, s.heap.size ≤ q → A q := fun q h => by rw [← hAe]; exact Or.inr h
  have hS : va_S A s.heap s.heap [] := va_S.rf
  have hl := lv_entry ([.ref (ad .cl), .int a1, .ref o1]) (n := 4) (Nat.le_of_ble_eq_true rfl)
  rw [lg_entry_eq]
  generalize (lg_sl ([.ref (ad .cl), .int a1, .ref o1]) ++ List.replicate (4 - (lg_sl ([.ref (ad .cl), .int a1, .ref o1])).length) Slot.unset).toArray = ls at hl ⊢
  have hl : lv_has ls 4 [(0, .ref (ad .cl)), (1, .int a1), (2, .ref o1)] := hl
  generalize hHe : s.heap = H at hP hS ⊢
  have hS : va_S A s.heap H [] := by rw [hHe]; exact hS
  have htab := vx_table (x := yL_setting) B (hts0 (.codeWith yL_setting cL_setting 4 (some .int) [(0, 9, 12, 13)]) List.mem_cons_self)
  refine lv_aload_n hx hb dL_setting_0 rfl (lv_at hl 2 rfl) ?_
  refine lv_iconst (v := 0) hx hb dL_setting_1 (by decide) ?_
  refine lv_aload_n hx hb dL_setting_2 rfl (lv_at hl 0 rfl) ?_
  refine lv_iload_n hx hb dL_setting_3 rfl (lv_at hl 1 rfl) ?_
  have hPc : va_P (dC, dI) vwCl (WC cy ad ks g u0) H := hP.part (X := [(o1, eL cy fo)]) (cx := []) [] rfl
  have hDc : va_D A (WC cy ad ks g u0) := hD.part (X := [(o1, eL cy fo)]) (cx := []) [] (by decide) rfl
  have hFc : ∀ q, va_A (WC cy ad ks g u0) H.size q → A q := va_freeP (X := [(o1, eL cy fo)]) (cx := []) hD hS hA [] rfl
  obtain ⟨q8, h8⟩ := wc_at (cy := cy) (ad := ad) (ks := ks) (g := g) (u := u0) (κ := .cl) hk.1 True.intro
  refine vx_calli (vx_runV (As := [.int a1]) (rest := [.int 0, .ref o1]) ⟨hx, hb, hml, hown, hts⟩ (c_X7_setting_y l hst dC dI cy nb ad ks g hk u0 a1 xc H.size hF) (cwV 1 hts (gV mw_595 mw_596 mw_597 mw_2 mw_598) rfl rfl rfl (by decide +kernel) ⟨Nat.le_of_ble_eq_true rfl, Nat.le_of_ble_eq_true rfl⟩) (my_preV hPc hK hDc hE hS hFc (va_recv (q := (RX7, TX7, 12)) hK hPc (ci := 7) (q0 := q8) rfl h8)) rfl rfl hl.1 rfl (lv_room (Nat.le_of_ble_eq_true rfl)) dL_setting_4 ⟨Nat.le_of_ble_eq_true rfl, Nat.le_of_ble_eq_true rfl⟩) hS (fun q _ h => hFc q h) hFc (fun q _ h => hFc q h) (fun E9 ce9 q9 u9 t9 H1 locs1 ht9 hvm9 hp9 hB9 hz9 hk9 hS9 hc9 hv9 hcl9 => ?_) (fun r9 u9 t9 H1 locs1 ht9 hvm9 hp9 _ _ _ _ => hp9.elim)
  clear h8
  obtain ⟨hB8, hP1⟩ := hB9
  rw [ht9] at hP1
  obtain ⟨hP, hD⟩ := va_joinP (X := [(o1, eL cy fo)]) (cx := []) (wr := [(o1, eL cy fo)]) (rx := []) (pl := WC cy ad ks g u0) (pl1 := WC cy ad ks g u0) hP hD [] [0] rfl rfl (by decide) (by decide) hk9 hFc hP1 hDc.self
  have hP : va_P (dC, dI) vwCl ([(o1, eL cy fo)] ++ WC cy ad ks g u0) H1 := hP
  have hD : va_D A ([(o1, eL cy fo)] ++ WC cy ad ks g u0) := hD
  obtain rfl : E9 = xA := hB8.trans (if_neg hxc)
  refine vx_catch (own := RL) (name := xA) hown (tableOf []) _ (tableOf []) (htab.trans rfl) (fun z hz => nomatch hz) (by decide) (by decide) (hts _ mw_564) (va_Nw.use rfl hE.cA) hc9 hv9 hcl9 ?_
  generalize H1 = H at hP hS9 ⊢
  refine W.widen (k := 1) (n := 6) (by omega) (by omega) ?_
  refine lv_astore_n (lv' := [(3, .ref q9), (0, .ref (ad .cl)), (1, .int a1), (2, .ref o1)]) hx hb dL_setting_12 rfl hl (by decide) rfl (fun ls hl => ?_)
  refine lv_iconst (v := 1) hx hb dL_setting_13 (by decide) ?_
  refine vx_ret ?_
  exact W.iret (v := 1) hx hb hr (fun t ht hW => ⟨⟨1, (), rfl, rfl, by rw [ht]; exact hP, hD⟩, hS9.F ht⟩) hS9.2.2 dL_setting_14
set_option maxHeartbeats 4000000 in
set_option maxRecDepth 100000 in
theorem cn_station (l : Launch) (hst : l.stackTraces = false) (dC : Nat → ClassId) (dI : Nat → Nat → Nat) (cy : Nat → ClassId) (nb : Nat → Nat) (ad : CK → Nat) (ks : List CK) (g : CG) (hk : GA nb ad g ks) (u0 : RS) (a1 : Int32) (a2 : Int32) (o1 : Nat) (fo : Nat → Int64) (ro : Int32) (sz : Nat) (hF : C7_station g u0 a1 a2 = some (.inr ro)) : vx_Met l yL_station (wsgH yL_station cL_station 5 (some .int) [(0, 10, 13, 22), (0, 10, 17, 13)]) ({ frames := 9, cells := 0, slots := 0, locals := 400 }) (va_Pc [.ref (ad .cl), .int a1, .int a2, .ref o1] (fun U => U.heap.size = sz ∧ va_P (dC, dI) vwCl ([(o1, eL cy fo)] ++ WC cy ad ks g u0) U.heap ∧ va_K (dC, dI) vwCl (tyL cy) U ∧ va_D (fun _ => True) ([(o1, eL cy fo)] ++ WC cy ad ks g u0) ∧ GE nb (va_A ([(o1, eL cy fo)] ++ WC cy ad ks g u0) sz) U)) (va_Qi (fun (r : Int32) (_ : Unit) => r = 0) (fun _ t => va_P (dC, dI) vwCl ([(o1, eL cy (vp_updL fo ((0 : Int32).toNatClampNeg) (ro.toInt64)))] ++ WC cy ad ks g u0) t.heap ∧ va_D (va_A ([(o1, eL cy fo)] ++ WC cy ad ks g u0) sz) ([(o1, eL cy (vp_updL fo ((0 : Int32).toNatClampNeg) (ro.toInt64)))] ++ WC cy ad ks g u0)) (va_A ([(o1, eL cy fo)] ++ WC cy ad ks g u0) sz)) (vx_X (fun (_ : Unit) => False) (fun _ _ _ => True) (va_A ([(o1, eL cy fo)] ++ WC cy ad ks g u0) sz)) 0 0 (va_A ([(o1, eL cy fo)] ++ WC cy ad ks g u0) sz) := by
  refine vx_ofWH (cc := cL_station) (maxL := 5) (ret := (some .int)) (hh := [(0, 10, 13, 22), (0, 10, 17, 13)]) pn_L rfl ?_
  intro p e s m args below meth c s₁ B hml hv
  obtain ⟨rfl, hsz, hP, hK, hD0, hE⟩ := hv
  have hx := B.exec
  have hb := B.bytes
  have hr := B.returns
  have hts0 := atoms_spec (ws := (wsgH yL_station cL_station 5 (some .int) [(0, 10, 13, 22), (0, 10, 17, 13)])) B.pre
  have hts : ∀ w ∈ wsL_law, w.before _ s = true := fun w h => hts0 w (List.mem_cons_of_mem _ h)
  have hown : s.vm.findClass RL = some m.cls := by have h9 := findClass_of_methodNamed B.named; exact h9
  have hlocks := B.notSynchronized
  subst hsz
  have hD := hD0.self (sz := s.heap.size)
  generalize hAe : va_A ([(o1, eL cy fo)] ++ WC cy ad ks g u0) s.heap.size = A at hD hE ⊢
  have hA : ∀ q : Nat, s.heap.size ≤ q → A q := fun q h => by rw [← hAe]; exact Or.inr h
  have hS : va_S A s.heap s.heap [] := va_S.rf
  have hl := lv_entry ([.ref (ad .cl), .int a1, .int a2, .ref o1]) (n := 5) (Nat.le_of_ble_eq_true rfl)
  rw [lg_entry_eq]
  generalize (lg_sl ([.ref (ad .cl), .int a1, .int a2, .ref o1]) ++ List.replicate (5 - (lg_sl ([.ref (ad .cl), .int a1, .int a2, .ref o1])).length) Slot.unset).toArray = ls at hl ⊢
  have hl : lv_has ls 5 [(0, .ref (ad .cl)), (1, .int a1), (2, .int a2), (3, .ref o1)] := hl
  generalize hHe : s.heap = H at hP hS ⊢
  have hS : va_S A s.heap H [] := by rw [hHe]; exact hS
  have htab := vx_table (x := yL_station) B (hts0 (.codeWith yL_station cL_station 5 (some .int) [(0, 10, 13, 22), (0, 10, 17, 13)]) List.mem_cons_self)
  refine lv_aload_n hx hb dL_station_0 rfl (lv_at hl 3 rfl) ?_
  refine lv_iconst (v := 0) hx hb dL_station_1 (by decide) ?_
  refine lv_aload_n hx hb dL_station_2 rfl (lv_at hl 0 rfl) ?_
  refine lv_iload_n hx hb dL_station_3 rfl (lv_at hl 1 rfl) ?_
  refine lv_iload_n hx hb dL_station_4 rfl (lv_at hl 2 rfl) ?_
  have hPc : va_P (dC, dI) vwCl (WC cy ad ks g u0) H := hP.part (X := [(o1, eL cy fo)]) (cx := []) [] rfl
  have hDc : va_D A (WC cy ad ks g u0) := hD.part (X := [(o1, eL cy fo)]) (cx := []) [] (by decide) rfl
  have hFc : ∀ q, va_A (WC cy ad ks g u0) H.size q → A q := va_freeP (X := [(o1, eL cy fo)]) (cx := []) hD hS hA [] rfl
  obtain ⟨q8, h8⟩ := wc_at (cy := cy) (ad := ad) (ks := ks) (g := g) (u := u0) (κ := .cl) hk.1 True.intro
  refine va_calli (va_runV (As := [.int a1, .int a2]) (rest := [.int 0, .ref o1]) ⟨hx, hb, hml, hown, hts⟩ (c_X7_station l dC dI cy nb ad ks g hk u0 a1 a2 ro H.size hF) (cwV 2 hts (gV mw_613 mw_614 mw_615 mw_2 mw_616) rfl rfl rfl (by decide +kernel) ⟨Nat.le_of_ble_eq_true rfl, Nat.le_of_ble_eq_true rfl⟩) (my_preV hPc hK hDc hE hS hFc (va_recv (q := (RX7, TX7, 12)) hK hPc (ci := 7) (q0 := q8) rfl h8)) rfl rfl hl.1 rfl (lv_room (Nat.le_of_ble_eq_true rfl)) dL_station_5 ⟨Nat.le_of_ble_eq_true rfl, Nat.le_of_ble_eq_true rfl⟩) hS (fun q _ h => hFc q h) hFc (fun r u t H1 locs ht hvm hw hB hz1 hk1 hS => ?_)
  clear h8
  obtain ⟨hP1, hD1⟩ := hB
  rw [ht] at hP1
  obtain ⟨hP, hD⟩ := va_joinP (X := [(o1, eL cy fo)]) (cx := []) (wr := [(o1, eL cy fo)]) (rx := []) (pl := WC cy ad ks g u0) (pl1 := WC cy ad ks g u0) hP hD [] [0] rfl rfl (by decide) (by decide) hk1 hFc hP1 hD1
  generalize H1 = H at hP hS ⊢
  have hP : va_P (dC, dI) vwCl ([(o1, eL cy fo)] ++ WC cy ad ks g u0) H := hP
  have hD : va_D A ([(o1, eL cy fo)] ++ WC cy ad ks g u0) := hD
  refine my_topi hw ?_
  refine W.widen (k := 0) (n := 0) (by omega) (by omega) ?_
  refine lv_i2l (v := ro.toInt64) hx hb dL_station_8 rfl ?_
  refine va_last hx hb hK hP hD hS 0 3 rfl rfl (vp_in_nI (n := 0) (by decide) (by decide)) dL_station_9 (fun H locs hP hD hS => ?_)
  have hP : va_P (dC, dI) vwCl ([(o1, eL cy (vp_updL fo ((0 : Int32).toNatClampNeg) (ro.toInt64)))] ++ WC cy ad ks g u0) H := hP
  have hD : va_D A ([(o1, eL cy (vp_updL fo ((0 : Int32).toNatClampNeg) (ro.toInt64)))] ++ WC cy ad ks g u0) := hD
  refine lv_goto (tgt := 21) hx hb dL_station_10 (by decide) ?_
  refine lv_iconst (v := 0) hx hb dL_station_21 (by decide) ?_
  refine vx_ret ?_
  exact W.iret (v := 0) hx hb hr (fun t ht hW => ⟨⟨0, (), rfl, rfl, by rw [ht]; exact hP, hD⟩, hS.F ht⟩) hS.2.2 dL_station_22
set_option maxHeartbeats 4000000 in
set_option maxRecDepth 100000 in
theorem ct_station (l : Launch) (hst : l.stackTraces = false) (dC : Nat → ClassId) (dI : Nat → Nat → Nat) (cy : Nat → ClassId) (nb : Nat → Nat) (ad : CK → Nat) (ks : List CK) (g : CG) (hk : GA nb ad g ks) (u0 : RS) (a1 : Int32) (a2 : Int32) (o1 : Nat) (fo : Nat → Int64) (xc : Int32) (sz : Nat) (hF : C7_station g u0 a1 a2 = some (.inl xc)) : vx_Met l yL_station (wsgH yL_station cL_station 5 (some .int) [(0, 10, 13, 22), (0, 10, 17, 13)]) ({ frames := 9, cells := 1, slots := 6, locals := 400 }) (va_Pc [.ref (ad .cl), .int a1, .int a2, .ref o1] (fun U => U.heap.size = sz ∧ va_P (dC, dI) vwCl ([(o1, eL cy fo)] ++ WC cy ad ks g u0) U.heap ∧ va_K (dC, dI) vwCl (tyL cy) U ∧ va_D (fun _ => True) ([(o1, eL cy fo)] ++ WC cy ad ks g u0) ∧ GE nb (va_A ([(o1, eL cy fo)] ++ WC cy ad ks g u0) sz) U)) (va_Qi (fun (r : Int32) (_ : Unit) => r = if xc = 1 then 1 else 2) (fun _ t => va_P (dC, dI) vwCl ([(o1, eL cy fo)] ++ WC cy ad ks g u0) t.heap ∧ va_D (va_A ([(o1, eL cy fo)] ++ WC cy ad ks g u0) sz) ([(o1, eL cy fo)] ++ WC cy ad ks g u0)) (va_A ([(o1, eL cy fo)] ++ WC cy ad ks g u0) sz)) (vx_X (fun (_ : Unit) => False) (fun _ _ _ => True) (va_A ([(o1, eL cy fo)] ++ WC cy ad ks g u0) sz)) 1 6 (va_A ([(o1, eL cy fo)] ++ WC cy ad ks g u0) sz) := by
  refine vx_ofWH (cc := cL_station) (maxL := 5) (ret := (some .int)) (hh := [(0, 10, 13, 22), (0, 10, 17, 13)]) pn_L rfl ?_
  intro p e s m args below meth c s₁ B hml hv
  obtain ⟨rfl, hsz, hP, hK, hD0, hE⟩ := hv
  have hx := B.exec
  have hb := B.bytes
  have hr := B.returns
  have hts0 := atoms_spec (ws := (wsgH yL_station cL_station 5 (some .int) [(0, 10, 13, 22), (0, 10, 17, 13)])) B.pre
  have hts : ∀ w ∈ wsL_law, w.before _ s = true := fun w h => hts0 w (List.mem_cons_of_mem _ h)
  have hown : s.vm.findClass RL = some m.cls := by have h9 := findClass_of_methodNamed B.named; exact h9
  have hlocks := B.notSynchronized
  subst hsz
  have hD := hD0.self (sz := s.heap.size)
  generalize hAe : va_A ([(o1, eL cy fo)] ++ WC cy ad ks g u0) s.heap.size = A at hD hE ⊢
  have hA : ∀ q : Nat, s.heap.size ≤ q → A q := fun q h => by rw [← hAe]; exact Or.inr h
  have hS : va_S A s.heap s.heap [] := va_S.rf
  have hl := lv_entry ([.ref (ad .cl), .int a1, .int a2, .ref o1]) (n := 5) (Nat.le_of_ble_eq_true rfl)
  rw [lg_entry_eq]
  generalize (lg_sl ([.ref (ad .cl), .int a1, .int a2, .ref o1]) ++ List.replicate (5 - (lg_sl ([.ref (ad .cl), .int a1, .int a2, .ref o1])).length) Slot.unset).toArray = ls at hl ⊢
  have hl : lv_has ls 5 [(0, .ref (ad .cl)), (1, .int a1), (2, .int a2), (3, .ref o1)] := hl
  generalize hHe : s.heap = H at hP hS ⊢
  have hS : va_S A s.heap H [] := by rw [hHe]; exact hS
  have htab := vx_table (x := yL_station) B (hts0 (.codeWith yL_station cL_station 5 (some .int) [(0, 10, 13, 22), (0, 10, 17, 13)]) List.mem_cons_self)
  refine lv_aload_n hx hb dL_station_0 rfl (lv_at hl 3 rfl) ?_
  refine lv_iconst (v := 0) hx hb dL_station_1 (by decide) ?_
  refine lv_aload_n hx hb dL_station_2 rfl (lv_at hl 0 rfl) ?_
  refine lv_iload_n hx hb dL_station_3 rfl (lv_at hl 1 rfl) ?_
  refine lv_iload_n hx hb dL_station_4 rfl (lv_at hl 2 rfl) ?_
  have hPc : va_P (dC, dI) vwCl (WC cy ad ks g u0) H := hP.part (X := [(o1, eL cy fo)]) (cx := []) [] rfl
  have hDc : va_D A (WC cy ad ks g u0) := hD.part (X := [(o1, eL cy fo)]) (cx := []) [] (by decide) rfl
  have hFc : ∀ q, va_A (WC cy ad ks g u0) H.size q → A q := va_freeP (X := [(o1, eL cy fo)]) (cx := []) hD hS hA [] rfl
  obtain ⟨q8, h8⟩ := wc_at (cy := cy) (ad := ad) (ks := ks) (g := g) (u := u0) (κ := .cl) hk.1 True.intro
  refine vx_calli (vx_runV (As := [.int a1, .int a2]) (rest := [.int 0, .ref o1]) ⟨hx, hb, hml, hown, hts⟩ (c_X7_station_y l hst dC dI cy nb ad ks g hk u0 a1 a2 xc H.size hF) (cwV 2 hts (gV mw_613 mw_614 mw_615 mw_2 mw_616) rfl rfl rfl (by decide +kernel) ⟨Nat.le_of_ble_eq_true rfl, Nat.le_of_ble_eq_true rfl⟩) (my_preV hPc hK hDc hE hS hFc (va_recv (q := (RX7, TX7, 12)) hK hPc (ci := 7) (q0 := q8) rfl h8)) rfl rfl hl.1 rfl (lv_room (Nat.le_of_ble_eq_true rfl)) dL_station_5 ⟨Nat.le_of_ble_eq_true rfl, Nat.le_of_ble_eq_true rfl⟩) hS (fun q _ h => hFc q h) hFc (fun q _ h => hFc q h) (fun E9 ce9 q9 u9 t9 H1 locs1 ht9 hvm9 hp9 hB9 hz9 hk9 hS9 hc9 hv9 hcl9 => ?_) (fun r9 u9 t9 H1 locs1 ht9 hvm9 hp9 _ _ _ _ => hp9.elim)
  clear h8
  obtain ⟨hB8, hP1⟩ := hB9
  rw [ht9] at hP1
  obtain ⟨hP, hD⟩ := va_joinP (X := [(o1, eL cy fo)]) (cx := []) (wr := [(o1, eL cy fo)]) (rx := []) (pl := WC cy ad ks g u0) (pl1 := WC cy ad ks g u0) hP hD [] [0] rfl rfl (by decide) (by decide) hk9 hFc hP1 hDc.self
  have hP : va_P (dC, dI) vwCl ([(o1, eL cy fo)] ++ WC cy ad ks g u0) H1 := hP
  have hD : va_D A ([(o1, eL cy fo)] ++ WC cy ad ks g u0) := hD
  by_cases hxc : xc = 1
  · obtain rfl : E9 = xI := hB8.trans (if_pos hxc)
    refine vx_catch (own := RL) (name := xI) hown (tableOf []) _ (tableOf [(0, 10, 17, 13)]) (htab.trans rfl) (fun z hz => nomatch hz) (by decide) (by decide) (hts _ mw_612) (va_Nw.use rfl hE.cI) hc9 hv9 hcl9 ?_
    generalize H1 = H at hP hS9 ⊢
    refine W.widen (k := 1) (n := 6) (by omega) (by omega) ?_
    refine lv_astore (lv' := [(4, .ref q9), (0, .ref (ad .cl)), (1, .int a1), (2, .int a2), (3, .ref o1)]) hx hb dL_station_13 hl (by decide) rfl (fun ls hl => ?_)
    refine lv_iconst (v := 1) hx hb dL_station_15 (by decide) ?_
    refine vx_ret ?_
    exact W.iret (v := 1) hx hb hr (fun t ht hW => ⟨⟨1, (), rfl, (if_pos hxc).symm, by rw [ht]; exact hP, hD⟩, hS9.F ht⟩) hS9.2.2 dL_station_16
  · obtain rfl : E9 = xA := hB8.trans (if_neg hxc)
    refine vx_catch (own := RL) (name := xA) hown (tableOf [(0, 10, 13, 22)]) _ (tableOf []) (htab.trans rfl) (fun z hz => by obtain rfl := List.mem_singleton.mp hz; exact Or.inr ⟨by decide, xI, hts _ mw_612, hE.nc⟩) (by decide) (by decide) (hts _ mw_564) (va_Nw.use rfl hE.cA) hc9 hv9 hcl9 ?_
    generalize H1 = H at hP hS9 ⊢
    refine W.widen (k := 1) (n := 6) (by omega) (by omega) ?_
    refine lv_astore (lv' := [(4, .ref q9), (0, .ref (ad .cl)), (1, .int a1), (2, .int a2), (3, .ref o1)]) hx hb dL_station_17 hl (by decide) rfl (fun ls hl => ?_)
    refine lv_iconst (v := 2) hx hb dL_station_19 (by decide) ?_
    refine vx_ret ?_
    exact W.iret (v := 2) hx hb hr (fun t ht hW => ⟨⟨2, (), rfl, (if_neg hxc).symm, by rw [ht]; exact hP, hD⟩, hS9.F ht⟩) hS9.2.2 dL_station_20
set_option maxHeartbeats 4000000 in
set_option maxRecDepth 100000 in
theorem cn_card (l : Launch) (hst : l.stackTraces = false) (dC : Nat → ClassId) (dI : Nat → Nat → Nat) (cy : Nat → ClassId) (nb : Nat → Nat) (ad : CK → Nat) (ks : List CK) (g : CG) (hk : GA nb ad g ks) (u0 : RS) (a1 : Int32) (a2 : Int32) (o1 : Nat) (fo : Nat → Int64) (ro : Int32) (sz : Nat) (hF : C7_card g u0 a1 a2 = some (.inr ro)) : vx_Met l yL_card (wsgH yL_card cL_card 5 (some .int) [(0, 10, 13, 22), (0, 10, 17, 13)]) ({ frames := 9, cells := 0, slots := 0, locals := 400 }) (va_Pc [.ref (ad .cl), .int a1, .int a2, .ref o1] (fun U => U.heap.size = sz ∧ va_P (dC, dI) vwCl ([(o1, eL cy fo)] ++ WC cy ad ks g u0) U.heap ∧ va_K (dC, dI) vwCl (tyL cy) U ∧ va_D (fun _ => True) ([(o1, eL cy fo)] ++ WC cy ad ks g u0) ∧ GE nb (va_A ([(o1, eL cy fo)] ++ WC cy ad ks g u0) sz) U)) (va_Qi (fun (r : Int32) (_ : Unit) => r = 0) (fun _ t => va_P (dC, dI) vwCl ([(o1, eL cy (vp_updL fo ((0 : Int32).toNatClampNeg) (ro.toInt64)))] ++ WC cy ad ks g u0) t.heap ∧ va_D (va_A ([(o1, eL cy fo)] ++ WC cy ad ks g u0) sz) ([(o1, eL cy (vp_updL fo ((0 : Int32).toNatClampNeg) (ro.toInt64)))] ++ WC cy ad ks g u0)) (va_A ([(o1, eL cy fo)] ++ WC cy ad ks g u0) sz)) (vx_X (fun (_ : Unit) => False) (fun _ _ _ => True) (va_A ([(o1, eL cy fo)] ++ WC cy ad ks g u0) sz)) 0 0 (va_A ([(o1, eL cy fo)] ++ WC cy ad ks g u0) sz) := by
  refine vx_ofWH (cc := cL_card) (maxL := 5) (ret := (some .int)) (hh := [(0, 10, 13, 22), (0, 10, 17, 13)]) pn_L rfl ?_
  intro p e s m args below meth c s₁ B hml hv
  obtain ⟨rfl, hsz, hP, hK, hD0, hE⟩ := hv
  have hx := B.exec
  have hb := B.bytes
  have hr := B.returns
  have hts0 := atoms_spec (ws := (wsgH yL_card cL_card 5 (some .int) [(0, 10, 13, 22), (0, 10, 17, 13)])) B.pre
  have hts : ∀ w ∈ wsL_law, w.before _ s = true := fun w h => hts0 w (List.mem_cons_of_mem _ h)
  have hown : s.vm.findClass RL = some m.cls := by have h9 := findClass_of_methodNamed B.named; exact h9
  have hlocks := B.notSynchronized
  subst hsz
  have hD := hD0.self (sz := s.heap.size)
  generalize hAe : va_A ([(o1, eL cy fo)] ++ WC cy ad ks g u0) s.heap.size = A at hD hE ⊢
  have hA : ∀ q : Nat, s.heap.size ≤ q → A q := fun q h => by rw [← hAe]; exact Or.inr h
  have hS : va_S A s.heap s.heap [] := va_S.rf
  have hl := lv_entry ([.ref (ad .cl), .int a1, .int a2, .ref o1]) (n := 5) (Nat.le_of_ble_eq_true rfl)
  rw [lg_entry_eq]
  generalize (lg_sl ([.ref (ad .cl), .int a1, .int a2, .ref o1]) ++ List.replicate (5 - (lg_sl ([.ref (ad .cl), .int a1, .int a2, .ref o1])).length) Slot.unset).toArray = ls at hl ⊢
  have hl : lv_has ls 5 [(0, .ref (ad .cl)), (1, .int a1), (2, .int a2), (3, .ref o1)] := hl
  generalize hHe : s.heap = H at hP hS ⊢
  have hS : va_S A s.heap H [] := by rw [hHe]; exact hS
  have htab := vx_table (x := yL_card) B (hts0 (.codeWith yL_card cL_card 5 (some .int) [(0, 10, 13, 22), (0, 10, 17, 13)]) List.mem_cons_self)
  refine lv_aload_n hx hb dL_card_0 rfl (lv_at hl 3 rfl) ?_
  refine lv_iconst (v := 0) hx hb dL_card_1 (by decide) ?_
  refine lv_aload_n hx hb dL_card_2 rfl (lv_at hl 0 rfl) ?_
  refine lv_iload_n hx hb dL_card_3 rfl (lv_at hl 1 rfl) ?_
  refine lv_iload_n hx hb dL_card_4 rfl (lv_at hl 2 rfl) ?_
  have hPc : va_P (dC, dI) vwCl (WC cy ad ks g u0) H := hP.part (X := [(o1, eL cy fo)]) (cx := []) [] rfl
  have hDc : va_D A (WC cy ad ks g u0) := hD.part (X := [(o1, eL cy fo)]) (cx := []) [] (by decide) rfl
  have hFc : ∀ q, va_A (WC cy ad ks g u0) H.size q → A q := va_freeP (X := [(o1, eL cy fo)]) (cx := []) hD hS hA [] rfl
  obtain ⟨q8, h8⟩ := wc_at (cy := cy) (ad := ad) (ks := ks) (g := g) (u := u0) (κ := .cl) hk.1 True.intro
  refine va_calli (va_runV (As := [.int a1, .int a2]) (rest := [.int 0, .ref o1]) ⟨hx, hb, hml, hown, hts⟩ (c_X7_card l dC dI cy nb ad ks g hk u0 a1 a2 ro H.size hF) (cwV 2 hts (gV mw_653 mw_654 mw_655 mw_2 mw_656) rfl rfl rfl (by decide +kernel) ⟨Nat.le_of_ble_eq_true rfl, Nat.le_of_ble_eq_true rfl⟩) (my_preV hPc hK hDc hE hS hFc (va_recv (q := (RX7, TX7, 12)) hK hPc (ci := 7) (q0 := q8) rfl h8)) rfl rfl hl.1 rfl (lv_room (Nat.le_of_ble_eq_true rfl)) dL_card_5 ⟨Nat.le_of_ble_eq_true rfl, Nat.le_of_ble_eq_true rfl⟩) hS (fun q _ h => hFc q h) hFc (fun r u t H1 locs ht hvm hw hB hz1 hk1 hS => ?_)
  clear h8
  obtain ⟨hP1, hD1⟩ := hB
  rw [ht] at hP1
  obtain ⟨hP, hD⟩ := va_joinP (X := [(o1, eL cy fo)]) (cx := []) (wr := [(o1, eL cy fo)]) (rx := []) (pl := WC cy ad ks g u0) (pl1 := WC cy ad ks g u0) hP hD [] [0] rfl rfl (by decide) (by decide) hk1 hFc hP1 hD1
  generalize H1 = H at hP hS ⊢
  have hP : va_P (dC, dI) vwCl ([(o1, eL cy fo)] ++ WC cy ad ks g u0) H := hP
  have hD : va_D A ([(o1, eL cy fo)] ++ WC cy ad ks g u0) := hD
  refine my_topi hw ?_
  refine W.widen (k := 0) (n := 0) (by omega) (by omega) ?_
  refine lv_i2l (v := ro.toInt64) hx hb dL_card_8 rfl ?_
  refine va_last hx hb hK hP hD hS 0 3 rfl rfl (vp_in_nI (n := 0) (by decide) (by decide)) dL_card_9 (fun H locs hP hD hS => ?_)
  have hP : va_P (dC, dI) vwCl ([(o1, eL cy (vp_updL fo ((0 : Int32).toNatClampNeg) (ro.toInt64)))] ++ WC cy ad ks g u0) H := hP
  have hD : va_D A ([(o1, eL cy (vp_updL fo ((0 : Int32).toNatClampNeg) (ro.toInt64)))] ++ WC cy ad ks g u0) := hD
  refine lv_goto (tgt := 21) hx hb dL_card_10 (by decide) ?_
  refine lv_iconst (v := 0) hx hb dL_card_21 (by decide) ?_
  refine vx_ret ?_
  exact W.iret (v := 0) hx hb hr (fun t ht hW => ⟨⟨0, (), rfl, rfl, by rw [ht]; exact hP, hD⟩, hS.F ht⟩) hS.2.2 dL_card_22
set_option maxHeartbeats 4000000 in
set_option maxRecDepth 100000 in
theorem ct_card (l : Launch) (hst : l.stackTraces = false) (dC : Nat → ClassId) (dI : Nat → Nat → Nat) (cy : Nat → ClassId) (nb : Nat → Nat) (ad : CK → Nat) (ks : List CK) (g : CG) (hk : GA nb ad g ks) (u0 : RS) (a1 : Int32) (a2 : Int32) (o1 : Nat) (fo : Nat → Int64) (xc : Int32) (sz : Nat) (hF : C7_card g u0 a1 a2 = some (.inl xc)) : vx_Met l yL_card (wsgH yL_card cL_card 5 (some .int) [(0, 10, 13, 22), (0, 10, 17, 13)]) ({ frames := 9, cells := 1, slots := 6, locals := 400 }) (va_Pc [.ref (ad .cl), .int a1, .int a2, .ref o1] (fun U => U.heap.size = sz ∧ va_P (dC, dI) vwCl ([(o1, eL cy fo)] ++ WC cy ad ks g u0) U.heap ∧ va_K (dC, dI) vwCl (tyL cy) U ∧ va_D (fun _ => True) ([(o1, eL cy fo)] ++ WC cy ad ks g u0) ∧ GE nb (va_A ([(o1, eL cy fo)] ++ WC cy ad ks g u0) sz) U)) (va_Qi (fun (r : Int32) (_ : Unit) => r = if xc = 1 then 1 else 2) (fun _ t => va_P (dC, dI) vwCl ([(o1, eL cy fo)] ++ WC cy ad ks g u0) t.heap ∧ va_D (va_A ([(o1, eL cy fo)] ++ WC cy ad ks g u0) sz) ([(o1, eL cy fo)] ++ WC cy ad ks g u0)) (va_A ([(o1, eL cy fo)] ++ WC cy ad ks g u0) sz)) (vx_X (fun (_ : Unit) => False) (fun _ _ _ => True) (va_A ([(o1, eL cy fo)] ++ WC cy ad ks g u0) sz)) 1 6 (va_A ([(o1, eL cy fo)] ++ WC cy ad ks g u0) sz) := by
  refine vx_ofWH (cc := cL_card) (maxL := 5) (ret := (some .int)) (hh := [(0, 10, 13, 22), (0, 10, 17, 13)]) pn_L rfl ?_
  intro p e s m args below meth c s₁ B hml hv
  obtain ⟨rfl, hsz, hP, hK, hD0, hE⟩ := hv
  have hx := B.exec
  have hb := B.bytes
  have hr := B.returns
  have hts0 := atoms_spec (ws := (wsgH yL_card cL_card 5 (some .int) [(0, 10, 13, 22), (0, 10, 17, 13)])) B.pre
  have hts : ∀ w ∈ wsL_law, w.before _ s = true := fun w h => hts0 w (List.mem_cons_of_mem _ h)
  have hown : s.vm.findClass RL = some m.cls := by have h9 := findClass_of_methodNamed B.named; exact h9
  have hlocks := B.notSynchronized
  subst hsz
  have hD := hD0.self (sz := s.heap.size)
  generalize hAe : va_A ([(o1, eL cy fo)] ++ WC cy ad ks g u0) s.heap.size = A at hD hE ⊢
  have hA : ∀ q : Nat, s.heap.size ≤ q → A q := fun q h => by rw [← hAe]; exact Or.inr h
  have hS : va_S A s.heap s.heap [] := va_S.rf
  have hl := lv_entry ([.ref (ad .cl), .int a1, .int a2, .ref o1]) (n := 5) (Nat.le_of_ble_eq_true rfl)
  rw [lg_entry_eq]
  generalize (lg_sl ([.ref (ad .cl), .int a1, .int a2, .ref o1]) ++ List.replicate (5 - (lg_sl ([.ref (ad .cl), .int a1, .int a2, .ref o1])).length) Slot.unset).toArray = ls at hl ⊢
  have hl : lv_has ls 5 [(0, .ref (ad .cl)), (1, .int a1), (2, .int a2), (3, .ref o1)] := hl
  generalize hHe : s.heap = H at hP hS ⊢
  have hS : va_S A s.heap H [] := by rw [hHe]; exact hS
  have htab := vx_table (x := yL_card) B (hts0 (.codeWith yL_card cL_card 5 (some .int) [(0, 10, 13, 22), (0, 10, 17, 13)]) List.mem_cons_self)
  refine lv_aload_n hx hb dL_card_0 rfl (lv_at hl 3 rfl) ?_
  refine lv_iconst (v := 0) hx hb dL_card_1 (by decide) ?_
  refine lv_aload_n hx hb dL_card_2 rfl (lv_at hl 0 rfl) ?_
  refine lv_iload_n hx hb dL_card_3 rfl (lv_at hl 1 rfl) ?_
  refine lv_iload_n hx hb dL_card_4 rfl (lv_at hl 2 rfl) ?_
  have hPc : va_P (dC, dI) vwCl (WC cy ad ks g u0) H := hP.part (X := [(o1, eL cy fo)]) (cx := []) [] rfl
  have hDc : va_D A (WC cy ad ks g u0) := hD.part (X := [(o1, eL cy fo)]) (cx := []) [] (by decide) rfl
  have hFc : ∀ q, va_A (WC cy ad ks g u0) H.size q → A q := va_freeP (X := [(o1, eL cy fo)]) (cx := []) hD hS hA [] rfl
  obtain ⟨q8, h8⟩ := wc_at (cy := cy) (ad := ad) (ks := ks) (g := g) (u := u0) (κ := .cl) hk.1 True.intro
  refine vx_calli (vx_runV (As := [.int a1, .int a2]) (rest := [.int 0, .ref o1]) ⟨hx, hb, hml, hown, hts⟩ (c_X7_card_y l hst dC dI cy nb ad ks g hk u0 a1 a2 xc H.size hF) (cwV 2 hts (gV mw_653 mw_654 mw_655 mw_2 mw_656) rfl rfl rfl (by decide +kernel) ⟨Nat.le_of_ble_eq_true rfl, Nat.le_of_ble_eq_true rfl⟩) (my_preV hPc hK hDc hE hS hFc (va_recv (q := (RX7, TX7, 12)) hK hPc (ci := 7) (q0 := q8) rfl h8)) rfl rfl hl.1 rfl (lv_room (Nat.le_of_ble_eq_true rfl)) dL_card_5 ⟨Nat.le_of_ble_eq_true rfl, Nat.le_of_ble_eq_true rfl⟩) hS (fun q _ h => hFc q h) hFc (fun q _ h => hFc q h) (fun E9 ce9 q9 u9 t9 H1 locs1 ht9 hvm9 hp9 hB9 hz9 hk9 hS9 hc9 hv9 hcl9 => ?_) (fun r9 u9 t9 H1 locs1 ht9 hvm9 hp9 _ _ _ _ => hp9.elim)
  clear h8
  obtain ⟨hB8, hP1⟩ := hB9
  rw [ht9] at hP1
  obtain ⟨hP, hD⟩ := va_joinP (X := [(o1, eL cy fo)]) (cx := []) (wr := [(o1, eL cy fo)]) (rx := []) (pl := WC cy ad ks g u0) (pl1 := WC cy ad ks g u0) hP hD [] [0] rfl rfl (by decide) (by decide) hk9 hFc hP1 hDc.self
  have hP : va_P (dC, dI) vwCl ([(o1, eL cy fo)] ++ WC cy ad ks g u0) H1 := hP
  have hD : va_D A ([(o1, eL cy fo)] ++ WC cy ad ks g u0) := hD
  by_cases hxc : xc = 1
  · obtain rfl : E9 = xI := hB8.trans (if_pos hxc)
    refine vx_catch (own := RL) (name := xI) hown (tableOf []) _ (tableOf [(0, 10, 17, 13)]) (htab.trans rfl) (fun z hz => nomatch hz) (by decide) (by decide) (hts _ mw_612) (va_Nw.use rfl hE.cI) hc9 hv9 hcl9 ?_
    generalize H1 = H at hP hS9 ⊢
    refine W.widen (k := 1) (n := 6) (by omega) (by omega) ?_
    refine lv_astore (lv' := [(4, .ref q9), (0, .ref (ad .cl)), (1, .int a1), (2, .int a2), (3, .ref o1)]) hx hb dL_card_13 hl (by decide) rfl (fun ls hl => ?_)
    refine lv_iconst (v := 1) hx hb dL_card_15 (by decide) ?_
    refine vx_ret ?_
    exact W.iret (v := 1) hx hb hr (fun t ht hW => ⟨⟨1, (), rfl, (if_pos hxc).symm, by rw [ht]; exact hP, hD⟩, hS9.F ht⟩) hS9.2.2 dL_card_16
  · obtain rfl : E9 = xA := hB8.trans (if_neg hxc)
    refine vx_catch (own := RL) (name := xA) hown (tableOf [(0, 10, 13, 22)]) _ (tableOf []) (htab.trans rfl) (fun z hz => by obtain rfl := List.mem_singleton.mp hz; exact Or.inr ⟨by decide, xI, hts _ mw_612, hE.nc⟩) (by decide) (by decide) (hts _ mw_564) (va_Nw.use rfl hE.cA) hc9 hv9 hcl9 ?_
    generalize H1 = H at hP hS9 ⊢
    refine W.widen (k := 1) (n := 6) (by omega) (by omega) ?_
    refine lv_astore (lv' := [(4, .ref q9), (0, .ref (ad .cl)), (1, .int a1), (2, .int a2), (3, .ref o1)]) hx hb dL_card_17 hl (by decide) rfl (fun ls hl => ?_)
    refine lv_iconst (v := 2) hx hb dL_card_19 (by decide) ?_
    refine vx_ret ?_
    exact W.iret (v := 2) hx hb hr (fun t ht hW => ⟨⟨2, (), rfl, (if_neg hxc).symm, by rw [ht]; exact hP, hD⟩, hS9.F ht⟩) hS9.2.2 dL_card_20
set_option maxHeartbeats 4000000 in
set_option maxRecDepth 100000 in
theorem cn_letter (l : Launch) (hst : l.stackTraces = false) (dC : Nat → ClassId) (dI : Nat → Nat → Nat) (cy : Nat → ClassId) (nb : Nat → Nat) (ad : CK → Nat) (ks : List CK) (g : CG) (hk : GA nb ad g ks) (u0 : RS) (a1 : Int32) (a2 : Int32) (o1 : Nat) (fo : Nat → Int64) (ro : Int32) (sz : Nat) (hF : C7_letter g u0 a1 a2 = some (.inr ro)) : vx_Met l yL_letter (wsgH yL_letter cL_letter 5 (some .int) [(0, 10, 13, 22)]) ({ frames := 9, cells := 0, slots := 0, locals := 400 }) (va_Pc [.ref (ad .cl), .int a1, .int a2, .ref o1] (fun U => U.heap.size = sz ∧ va_P (dC, dI) vwCl ([(o1, eL cy fo)] ++ WC cy ad ks g u0) U.heap ∧ va_K (dC, dI) vwCl (tyL cy) U ∧ va_D (fun _ => True) ([(o1, eL cy fo)] ++ WC cy ad ks g u0) ∧ GE nb (va_A ([(o1, eL cy fo)] ++ WC cy ad ks g u0) sz) U)) (va_Qi (fun (r : Int32) (_ : Unit) => r = 0) (fun _ t => va_P (dC, dI) vwCl ([(o1, eL cy (vp_updL fo ((0 : Int32).toNatClampNeg) (ro.toInt64)))] ++ WC cy ad ks g u0) t.heap ∧ va_D (va_A ([(o1, eL cy fo)] ++ WC cy ad ks g u0) sz) ([(o1, eL cy (vp_updL fo ((0 : Int32).toNatClampNeg) (ro.toInt64)))] ++ WC cy ad ks g u0)) (va_A ([(o1, eL cy fo)] ++ WC cy ad ks g u0) sz)) (vx_X (fun (_ : Unit) => False) (fun _ _ _ => True) (va_A ([(o1, eL cy fo)] ++ WC cy ad ks g u0) sz)) 0 0 (va_A ([(o1, eL cy fo)] ++ WC cy ad ks g u0) sz) := by
  refine vx_ofWH (cc := cL_letter) (maxL := 5) (ret := (some .int)) (hh := [(0, 10, 13, 22)]) pn_L rfl ?_
  intro p e s m args below meth c s₁ B hml hv
  obtain ⟨rfl, hsz, hP, hK, hD0, hE⟩ := hv
  have hx := B.exec
  have hb := B.bytes
  have hr := B.returns
  have hts0 := atoms_spec (ws := (wsgH yL_letter cL_letter 5 (some .int) [(0, 10, 13, 22)])) B.pre
  have hts : ∀ w ∈ wsL_law, w.before _ s = true := fun w h => hts0 w (List.mem_cons_of_mem _ h)
  have hown : s.vm.findClass RL = some m.cls := by have h9 := findClass_of_methodNamed B.named; exact h9
  have hlocks := B.notSynchronized
  subst hsz
  have hD := hD0.self (sz := s.heap.size)
  generalize hAe : va_A ([(o1, eL cy fo)] ++ WC cy ad ks g u0) s.heap.size = A at hD hE ⊢
  have hA : ∀ q : Nat, s.heap.size ≤ q → A q := fun q h => by rw [← hAe]; exact Or.inr h
  have hS : va_S A s.heap s.heap [] := va_S.rf
  have hl := lv_entry ([.ref (ad .cl), .int a1, .int a2, .ref o1]) (n := 5) (Nat.le_of_ble_eq_true rfl)
  rw [lg_entry_eq]
  generalize (lg_sl ([.ref (ad .cl), .int a1, .int a2, .ref o1]) ++ List.replicate (5 - (lg_sl ([.ref (ad .cl), .int a1, .int a2, .ref o1])).length) Slot.unset).toArray = ls at hl ⊢
  have hl : lv_has ls 5 [(0, .ref (ad .cl)), (1, .int a1), (2, .int a2), (3, .ref o1)] := hl
  generalize hHe : s.heap = H at hP hS ⊢
  have hS : va_S A s.heap H [] := by rw [hHe]; exact hS
  have htab := vx_table (x := yL_letter) B (hts0 (.codeWith yL_letter cL_letter 5 (some .int) [(0, 10, 13, 22)]) List.mem_cons_self)
  refine lv_aload_n hx hb dL_letter_0 rfl (lv_at hl 3 rfl) ?_
  refine lv_iconst (v := 0) hx hb dL_letter_1 (by decide) ?_
  refine lv_aload_n hx hb dL_letter_2 rfl (lv_at hl 0 rfl) ?_
  refine lv_iload_n hx hb dL_letter_3 rfl (lv_at hl 1 rfl) ?_
  refine lv_iload_n hx hb dL_letter_4 rfl (lv_at hl 2 rfl) ?_
  have hPc : va_P (dC, dI) vwCl (WC cy ad ks g u0) H := hP.part (X := [(o1, eL cy fo)]) (cx := []) [] rfl
  have hDc : va_D A (WC cy ad ks g u0) := hD.part (X := [(o1, eL cy fo)]) (cx := []) [] (by decide) rfl
  have hFc : ∀ q, va_A (WC cy ad ks g u0) H.size q → A q := va_freeP (X := [(o1, eL cy fo)]) (cx := []) hD hS hA [] rfl
  obtain ⟨q8, h8⟩ := wc_at (cy := cy) (ad := ad) (ks := ks) (g := g) (u := u0) (κ := .cl) hk.1 True.intro
  refine va_calli (va_runV (As := [.int a1, .int a2]) (rest := [.int 0, .ref o1]) ⟨hx, hb, hml, hown, hts⟩ (c_X7_letter l dC dI cy nb ad ks g hk u0 a1 a2 ro H.size hF) (cwV 2 hts (gV mw_682 mw_683 mw_684 mw_2 mw_685) rfl rfl rfl (by decide +kernel) ⟨Nat.le_of_ble_eq_true rfl, Nat.le_of_ble_eq_true rfl⟩) (my_preV hPc hK hDc hE hS hFc (va_recv (q := (RX7, TX7, 12)) hK hPc (ci := 7) (q0 := q8) rfl h8)) rfl rfl hl.1 rfl (lv_room (Nat.le_of_ble_eq_true rfl)) dL_letter_5 ⟨Nat.le_of_ble_eq_true rfl, Nat.le_of_ble_eq_true rfl⟩) hS (fun q _ h => hFc q h) hFc (fun r u t H1 locs ht hvm hw hB hz1 hk1 hS => ?_)
  clear h8
  obtain ⟨hP1, hD1⟩ := hB
  rw [ht] at hP1
  obtain ⟨hP, hD⟩ := va_joinP (X := [(o1, eL cy fo)]) (cx := []) (wr := [(o1, eL cy fo)]) (rx := []) (pl := WC cy ad ks g u0) (pl1 := WC cy ad ks g u0) hP hD [] [0] rfl rfl (by decide) (by decide) hk1 hFc hP1 hD1
  generalize H1 = H at hP hS ⊢
  have hP : va_P (dC, dI) vwCl ([(o1, eL cy fo)] ++ WC cy ad ks g u0) H := hP
  have hD : va_D A ([(o1, eL cy fo)] ++ WC cy ad ks g u0) := hD
  refine my_topi hw ?_
  refine W.widen (k := 0) (n := 0) (by omega) (by omega) ?_
  refine lv_i2l (v := ro.toInt64) hx hb dL_letter_8 rfl ?_
  refine va_last hx hb hK hP hD hS 0 3 rfl rfl (vp_in_nI (n := 0) (by decide) (by decide)) dL_letter_9 (fun H locs hP hD hS => ?_)
  have hP : va_P (dC, dI) vwCl ([(o1, eL cy (vp_updL fo ((0 : Int32).toNatClampNeg) (ro.toInt64)))] ++ WC cy ad ks g u0) H := hP
  have hD : va_D A ([(o1, eL cy (vp_updL fo ((0 : Int32).toNatClampNeg) (ro.toInt64)))] ++ WC cy ad ks g u0) := hD
  refine lv_goto (tgt := 17) hx hb dL_letter_10 (by decide) ?_
  refine lv_iconst (v := 0) hx hb dL_letter_17 (by decide) ?_
  refine vx_ret ?_
  exact W.iret (v := 0) hx hb hr (fun t ht hW => ⟨⟨0, (), rfl, rfl, by rw [ht]; exact hP, hD⟩, hS.F ht⟩) hS.2.2 dL_letter_18
set_option maxHeartbeats 4000000 in
set_option maxRecDepth 100000 in
theorem ct_letter (l : Launch) (hst : l.stackTraces = false) (dC : Nat → ClassId) (dI : Nat → Nat → Nat) (cy : Nat → ClassId) (nb : Nat → Nat) (ad : CK → Nat) (ks : List CK) (g : CG) (hk : GA nb ad g ks) (u0 : RS) (a1 : Int32) (a2 : Int32) (o1 : Nat) (fo : Nat → Int64) (xc : Int32) (sz : Nat) (hxc : xc = 1) (hF : C7_letter g u0 a1 a2 = some (.inl xc)) : vx_Met l yL_letter (wsgH yL_letter cL_letter 5 (some .int) [(0, 10, 13, 22)]) ({ frames := 9, cells := 1, slots := 6, locals := 400 }) (va_Pc [.ref (ad .cl), .int a1, .int a2, .ref o1] (fun U => U.heap.size = sz ∧ va_P (dC, dI) vwCl ([(o1, eL cy fo)] ++ WC cy ad ks g u0) U.heap ∧ va_K (dC, dI) vwCl (tyL cy) U ∧ va_D (fun _ => True) ([(o1, eL cy fo)] ++ WC cy ad ks g u0) ∧ GE nb (va_A ([(o1, eL cy fo)] ++ WC cy ad ks g u0) sz) U)) (va_Qi (fun (r : Int32) (_ : Unit) => r = 1) (fun _ t => va_P (dC, dI) vwCl ([(o1, eL cy fo)] ++ WC cy ad ks g u0) t.heap ∧ va_D (va_A ([(o1, eL cy fo)] ++ WC cy ad ks g u0) sz) ([(o1, eL cy fo)] ++ WC cy ad ks g u0)) (va_A ([(o1, eL cy fo)] ++ WC cy ad ks g u0) sz)) (vx_X (fun (_ : Unit) => False) (fun _ _ _ => True) (va_A ([(o1, eL cy fo)] ++ WC cy ad ks g u0) sz)) 1 6 (va_A ([(o1, eL cy fo)] ++ WC cy ad ks g u0) sz) := by
  refine vx_ofWH (cc := cL_letter) (maxL := 5) (ret := (some .int)) (hh := [(0, 10, 13, 22)]) pn_L rfl ?_
  intro p e s m args below meth c s₁ B hml hv
  obtain ⟨rfl, hsz, hP, hK, hD0, hE⟩ := hv
  have hx := B.exec
  have hb := B.bytes
  have hr := B.returns
  have hts0 := atoms_spec (ws := (wsgH yL_letter cL_letter 5 (some .int) [(0, 10, 13, 22)])) B.pre
  have hts : ∀ w ∈ wsL_law, w.before _ s = true := fun w h => hts0 w (List.mem_cons_of_mem _ h)
  have hown : s.vm.findClass RL = some m.cls := by have h9 := findClass_of_methodNamed B.named; exact h9
  have hlocks := B.notSynchronized
  subst hsz
  have hD := hD0.self (sz := s.heap.size)
  generalize hAe : va_A ([(o1, eL cy fo)] ++ WC cy ad ks g u0) s.heap.size = A at hD hE ⊢
  have hA : ∀ q : Nat, s.heap.size ≤ q → A q := fun q h => by rw [← hAe]; exact Or.inr h
  have hS : va_S A s.heap s.heap [] := va_S.rf
  have hl := lv_entry ([.ref (ad .cl), .int a1, .int a2, .ref o1]) (n := 5) (Nat.le_of_ble_eq_true rfl)
  rw [lg_entry_eq]
  generalize (lg_sl ([.ref (ad .cl), .int a1, .int a2, .ref o1]) ++ List.replicate (5 - (lg_sl ([.ref (ad .cl), .int a1, .int a2, .ref o1])).length) Slot.unset).toArray = ls at hl ⊢
  have hl : lv_has ls 5 [(0, .ref (ad .cl)), (1, .int a1), (2, .int a2), (3, .ref o1)] := hl
  generalize hHe : s.heap = H at hP hS ⊢
  have hS : va_S A s.heap H [] := by rw [hHe]; exact hS
  have htab := vx_table (x := yL_letter) B (hts0 (.codeWith yL_letter cL_letter 5 (some .int) [(0, 10, 13, 22)]) List.mem_cons_self)
  refine lv_aload_n hx hb dL_letter_0 rfl (lv_at hl 3 rfl) ?_
  refine lv_iconst (v := 0) hx hb dL_letter_1 (by decide) ?_
  refine lv_aload_n hx hb dL_letter_2 rfl (lv_at hl 0 rfl) ?_
  refine lv_iload_n hx hb dL_letter_3 rfl (lv_at hl 1 rfl) ?_
  refine lv_iload_n hx hb dL_letter_4 rfl (lv_at hl 2 rfl) ?_
  have hPc : va_P (dC, dI) vwCl (WC cy ad ks g u0) H := hP.part (X := [(o1, eL cy fo)]) (cx := []) [] rfl
  have hDc : va_D A (WC cy ad ks g u0) := hD.part (X := [(o1, eL cy fo)]) (cx := []) [] (by decide) rfl
  have hFc : ∀ q, va_A (WC cy ad ks g u0) H.size q → A q := va_freeP (X := [(o1, eL cy fo)]) (cx := []) hD hS hA [] rfl
  obtain ⟨q8, h8⟩ := wc_at (cy := cy) (ad := ad) (ks := ks) (g := g) (u := u0) (κ := .cl) hk.1 True.intro
  refine vx_calli (vx_runV (As := [.int a1, .int a2]) (rest := [.int 0, .ref o1]) ⟨hx, hb, hml, hown, hts⟩ (c_X7_letter_y l hst dC dI cy nb ad ks g hk u0 a1 a2 xc H.size hF) (cwV 2 hts (gV mw_682 mw_683 mw_684 mw_2 mw_685) rfl rfl rfl (by decide +kernel) ⟨Nat.le_of_ble_eq_true rfl, Nat.le_of_ble_eq_true rfl⟩) (my_preV hPc hK hDc hE hS hFc (va_recv (q := (RX7, TX7, 12)) hK hPc (ci := 7) (q0 := q8) rfl h8)) rfl rfl hl.1 rfl (lv_room (Nat.le_of_ble_eq_true rfl)) dL_letter_5 ⟨Nat.le_of_ble_eq_true rfl, Nat.le_of_ble_eq_true rfl⟩) hS (fun q _ h => hFc q h) hFc (fun q _ h => hFc q h) (fun E9 ce9 q9 u9 t9 H1 locs1 ht9 hvm9 hp9 hB9 hz9 hk9 hS9 hc9 hv9 hcl9 => ?_) (fun r9 u9 t9 H1 locs1 ht9 hvm9 hp9 _ _ _ _ => hp9.elim)
  clear h8
  obtain ⟨hB8, hP1⟩ := hB9
  rw [ht9] at hP1
  obtain ⟨hP, hD⟩ := va_joinP (X := [(o1, eL cy fo)]) (cx := []) (wr := [(o1, eL cy fo)]) (rx := []) (pl := WC cy ad ks g u0) (pl1 := WC cy ad ks g u0) hP hD [] [0] rfl rfl (by decide) (by decide) hk9 hFc hP1 hDc.self
  have hP : va_P (dC, dI) vwCl ([(o1, eL cy fo)] ++ WC cy ad ks g u0) H1 := hP
  have hD : va_D A ([(o1, eL cy fo)] ++ WC cy ad ks g u0) := hD
  obtain rfl : E9 = xI := hB8.trans (if_pos hxc)
  refine vx_catch (own := RL) (name := xI) hown (tableOf []) _ (tableOf []) (htab.trans rfl) (fun z hz => nomatch hz) (by decide) (by decide) (hts _ mw_612) (va_Nw.use rfl hE.cI) hc9 hv9 hcl9 ?_
  generalize H1 = H at hP hS9 ⊢
  refine W.widen (k := 1) (n := 6) (by omega) (by omega) ?_
  refine lv_astore (lv' := [(4, .ref q9), (0, .ref (ad .cl)), (1, .int a1), (2, .int a2), (3, .ref o1)]) hx hb dL_letter_13 hl (by decide) rfl (fun ls hl => ?_)
  refine lv_iconst (v := 1) hx hb dL_letter_15 (by decide) ?_
  refine vx_ret ?_
  exact W.iret (v := 1) hx hb hr (fun t ht hW => ⟨⟨1, (), rfl, rfl, by rw [ht]; exact hP, hD⟩, hS9.F ht⟩) hS9.2.2 dL_letter_16
set_option maxHeartbeats 4000000 in
set_option maxRecDepth 100000 in
theorem cn_lot (l : Launch) (hst : l.stackTraces = false) (dC : Nat → ClassId) (dI : Nat → Nat → Nat) (cy : Nat → ClassId) (nb : Nat → Nat) (ad : CK → Nat) (ks : List CK) (g : CG) (hk : GA nb ad g ks) (u0 : RS) (a1 : Int32) (a2 : Int32) (o1 : Nat) (fo : Nat → Int64) (ro : Int32) (sz : Nat) (hF : C7_lot g u0 a1 a2 = some (.inr ro)) : vx_Met l yL_lot (wsgH yL_lot cL_lot 5 (some .int) [(0, 10, 13, 22), (0, 10, 17, 13)]) ({ frames := 10, cells := 0, slots := 0, locals := 500 }) (va_Pc [.ref (ad .cl), .int a1, .int a2, .ref o1] (fun U => U.heap.size = sz ∧ va_P (dC, dI) vwCl ([(o1, eL cy fo)] ++ WC cy ad ks g u0) U.heap ∧ va_K (dC, dI) vwCl (tyL cy) U ∧ va_D (fun _ => True) ([(o1, eL cy fo)] ++ WC cy ad ks g u0) ∧ GE nb (va_A ([(o1, eL cy fo)] ++ WC cy ad ks g u0) sz) U)) (va_Qi (fun (r : Int32) (_ : Unit) => r = 0) (fun _ t => va_P (dC, dI) vwCl ([(o1, eL cy (vp_updL fo ((0 : Int32).toNatClampNeg) (ro.toInt64)))] ++ WC cy ad ks g u0) t.heap ∧ va_D (va_A ([(o1, eL cy fo)] ++ WC cy ad ks g u0) sz) ([(o1, eL cy (vp_updL fo ((0 : Int32).toNatClampNeg) (ro.toInt64)))] ++ WC cy ad ks g u0)) (va_A ([(o1, eL cy fo)] ++ WC cy ad ks g u0) sz)) (vx_X (fun (_ : Unit) => False) (fun _ _ _ => True) (va_A ([(o1, eL cy fo)] ++ WC cy ad ks g u0) sz)) 0 0 (va_A ([(o1, eL cy fo)] ++ WC cy ad ks g u0) sz) := by
  refine vx_ofWH (cc := cL_lot) (maxL := 5) (ret := (some .int)) (hh := [(0, 10, 13, 22), (0, 10, 17, 13)]) pn_L rfl ?_
  intro p e s m args below meth c s₁ B hml hv
  obtain ⟨rfl, hsz, hP, hK, hD0, hE⟩ := hv
  have hx := B.exec
  have hb := B.bytes
  have hr := B.returns
  have hts0 := atoms_spec (ws := (wsgH yL_lot cL_lot 5 (some .int) [(0, 10, 13, 22), (0, 10, 17, 13)])) B.pre
  have hts : ∀ w ∈ wsL_law, w.before _ s = true := fun w h => hts0 w (List.mem_cons_of_mem _ h)
  have hown : s.vm.findClass RL = some m.cls := by have h9 := findClass_of_methodNamed B.named; exact h9
  have hlocks := B.notSynchronized
  subst hsz
  have hD := hD0.self (sz := s.heap.size)
  generalize hAe : va_A ([(o1, eL cy fo)] ++ WC cy ad ks g u0) s.heap.size = A at hD hE ⊢
  have hA : ∀ q : Nat, s.heap.size ≤ q → A q := fun q h => by rw [← hAe]; exact Or.inr h
  have hS : va_S A s.heap s.heap [] := va_S.rf
  have hl := lv_entry ([.ref (ad .cl), .int a1, .int a2, .ref o1]) (n := 5) (Nat.le_of_ble_eq_true rfl)
  rw [lg_entry_eq]
  generalize (lg_sl ([.ref (ad .cl), .int a1, .int a2, .ref o1]) ++ List.replicate (5 - (lg_sl ([.ref (ad .cl), .int a1, .int a2, .ref o1])).length) Slot.unset).toArray = ls at hl ⊢
  have hl : lv_has ls 5 [(0, .ref (ad .cl)), (1, .int a1), (2, .int a2), (3, .ref o1)] := hl
  generalize hHe : s.heap = H at hP hS ⊢
  have hS : va_S A s.heap H [] := by rw [hHe]; exact hS
  have htab := vx_table (x := yL_lot) B (hts0 (.codeWith yL_lot cL_lot 5 (some .int) [(0, 10, 13, 22), (0, 10, 17, 13)]) List.mem_cons_self)
  refine lv_aload_n hx hb dL_lot_0 rfl (lv_at hl 3 rfl) ?_
  refine lv_iconst (v := 0) hx hb dL_lot_1 (by decide) ?_
  refine lv_aload_n hx hb dL_lot_2 rfl (lv_at hl 0 rfl) ?_
  refine lv_iload_n hx hb dL_lot_3 rfl (lv_at hl 1 rfl) ?_
  refine lv_iload_n hx hb dL_lot_4 rfl (lv_at hl 2 rfl) ?_
  have hPc : va_P (dC, dI) vwCl (WC cy ad ks g u0) H := hP.part (X := [(o1, eL cy fo)]) (cx := []) [] rfl
  have hDc : va_D A (WC cy ad ks g u0) := hD.part (X := [(o1, eL cy fo)]) (cx := []) [] (by decide) rfl
  have hFc : ∀ q, va_A (WC cy ad ks g u0) H.size q → A q := va_freeP (X := [(o1, eL cy fo)]) (cx := []) hD hS hA [] rfl
  obtain ⟨q8, h8⟩ := wc_at (cy := cy) (ad := ad) (ks := ks) (g := g) (u := u0) (κ := .cl) hk.1 True.intro
  refine va_calli (va_runV (As := [.int a1, .int a2]) (rest := [.int 0, .ref o1]) ⟨hx, hb, hml, hown, hts⟩ (c_X7_lot l dC dI cy nb ad ks g hk u0 a1 a2 ro H.size hF) (cwV 2 hts (gV mw_693 mw_694 mw_695 mw_2 mw_696) rfl rfl rfl (by decide +kernel) ⟨Nat.le_of_ble_eq_true rfl, Nat.le_of_ble_eq_true rfl⟩) (my_preV hPc hK hDc hE hS hFc (va_recv (q := (RX7, TX7, 12)) hK hPc (ci := 7) (q0 := q8) rfl h8)) rfl rfl hl.1 rfl (lv_room (Nat.le_of_ble_eq_true rfl)) dL_lot_5 ⟨Nat.le_of_ble_eq_true rfl, Nat.le_of_ble_eq_true rfl⟩) hS (fun q _ h => hFc q h) hFc (fun r u t H1 locs ht hvm hw hB hz1 hk1 hS => ?_)
  clear h8
  obtain ⟨hP1, hD1⟩ := hB
  rw [ht] at hP1
  obtain ⟨hP, hD⟩ := va_joinP (X := [(o1, eL cy fo)]) (cx := []) (wr := [(o1, eL cy fo)]) (rx := []) (pl := WC cy ad ks g u0) (pl1 := WC cy ad ks g u0) hP hD [] [0] rfl rfl (by decide) (by decide) hk1 hFc hP1 hD1
  generalize H1 = H at hP hS ⊢
  have hP : va_P (dC, dI) vwCl ([(o1, eL cy fo)] ++ WC cy ad ks g u0) H := hP
  have hD : va_D A ([(o1, eL cy fo)] ++ WC cy ad ks g u0) := hD
  refine my_topi hw ?_
  refine W.widen (k := 0) (n := 0) (by omega) (by omega) ?_
  refine lv_i2l (v := ro.toInt64) hx hb dL_lot_8 rfl ?_
  refine va_last hx hb hK hP hD hS 0 3 rfl rfl (vp_in_nI (n := 0) (by decide) (by decide)) dL_lot_9 (fun H locs hP hD hS => ?_)
  have hP : va_P (dC, dI) vwCl ([(o1, eL cy (vp_updL fo ((0 : Int32).toNatClampNeg) (ro.toInt64)))] ++ WC cy ad ks g u0) H := hP
  have hD : va_D A ([(o1, eL cy (vp_updL fo ((0 : Int32).toNatClampNeg) (ro.toInt64)))] ++ WC cy ad ks g u0) := hD
  refine lv_goto (tgt := 21) hx hb dL_lot_10 (by decide) ?_
  refine lv_iconst (v := 0) hx hb dL_lot_21 (by decide) ?_
  refine vx_ret ?_
  exact W.iret (v := 0) hx hb hr (fun t ht hW => ⟨⟨0, (), rfl, rfl, by rw [ht]; exact hP, hD⟩, hS.F ht⟩) hS.2.2 dL_lot_22
set_option maxHeartbeats 4000000 in
set_option maxRecDepth 100000 in
theorem ct_lot (l : Launch) (hst : l.stackTraces = false) (dC : Nat → ClassId) (dI : Nat → Nat → Nat) (cy : Nat → ClassId) (nb : Nat → Nat) (ad : CK → Nat) (ks : List CK) (g : CG) (hk : GA nb ad g ks) (u0 : RS) (a1 : Int32) (a2 : Int32) (o1 : Nat) (fo : Nat → Int64) (xc : Int32) (sz : Nat) (hF : C7_lot g u0 a1 a2 = some (.inl xc)) : vx_Met l yL_lot (wsgH yL_lot cL_lot 5 (some .int) [(0, 10, 13, 22), (0, 10, 17, 13)]) ({ frames := 10, cells := 1, slots := 6, locals := 500 }) (va_Pc [.ref (ad .cl), .int a1, .int a2, .ref o1] (fun U => U.heap.size = sz ∧ va_P (dC, dI) vwCl ([(o1, eL cy fo)] ++ WC cy ad ks g u0) U.heap ∧ va_K (dC, dI) vwCl (tyL cy) U ∧ va_D (fun _ => True) ([(o1, eL cy fo)] ++ WC cy ad ks g u0) ∧ GE nb (va_A ([(o1, eL cy fo)] ++ WC cy ad ks g u0) sz) U)) (va_Qi (fun (r : Int32) (_ : Unit) => r = if xc = 1 then 1 else 2) (fun _ t => va_P (dC, dI) vwCl ([(o1, eL cy fo)] ++ WC cy ad ks g u0) t.heap ∧ va_D (va_A ([(o1, eL cy fo)] ++ WC cy ad ks g u0) sz) ([(o1, eL cy fo)] ++ WC cy ad ks g u0)) (va_A ([(o1, eL cy fo)] ++ WC cy ad ks g u0) sz)) (vx_X (fun (_ : Unit) => False) (fun _ _ _ => True) (va_A ([(o1, eL cy fo)] ++ WC cy ad ks g u0) sz)) 1 6 (va_A ([(o1, eL cy fo)] ++ WC cy ad ks g u0) sz) := by
  refine vx_ofWH (cc := cL_lot) (maxL := 5) (ret := (some .int)) (hh := [(0, 10, 13, 22), (0, 10, 17, 13)]) pn_L rfl ?_
  intro p e s m args below meth c s₁ B hml hv
  obtain ⟨rfl, hsz, hP, hK, hD0, hE⟩ := hv
  have hx := B.exec
  have hb := B.bytes
  have hr := B.returns
  have hts0 := atoms_spec (ws := (wsgH yL_lot cL_lot 5 (some .int) [(0, 10, 13, 22), (0, 10, 17, 13)])) B.pre
  have hts : ∀ w ∈ wsL_law, w.before _ s = true := fun w h => hts0 w (List.mem_cons_of_mem _ h)
  have hown : s.vm.findClass RL = some m.cls := by have h9 := findClass_of_methodNamed B.named; exact h9
  have hlocks := B.notSynchronized
  subst hsz
  have hD := hD0.self (sz := s.heap.size)
  generalize hAe : va_A ([(o1, eL cy fo)] ++ WC cy ad ks g u0) s.heap.size = A at hD hE ⊢
  have hA : ∀ q : Nat, s.heap.size ≤ q → A q := fun q h => by rw [← hAe]; exact Or.inr h
  have hS : va_S A s.heap s.heap [] := va_S.rf
  have hl := lv_entry ([.ref (ad .cl), .int a1, .int a2, .ref o1]) (n := 5) (Nat.le_of_ble_eq_true rfl)
  rw [lg_entry_eq]
  generalize (lg_sl ([.ref (ad .cl), .int a1, .int a2, .ref o1]) ++ List.replicate (5 - (lg_sl ([.ref (ad .cl), .int a1, .int a2, .ref o1])).length) Slot.unset).toArray = ls at hl ⊢
  have hl : lv_has ls 5 [(0, .ref (ad .cl)), (1, .int a1), (2, .int a2), (3, .ref o1)] := hl
  generalize hHe : s.heap = H at hP hS ⊢
  have hS : va_S A s.heap H [] := by rw [hHe]; exact hS
  have htab := vx_table (x := yL_lot) B (hts0 (.codeWith yL_lot cL_lot 5 (some .int) [(0, 10, 13, 22), (0, 10, 17, 13)]) List.mem_cons_self)
  refine lv_aload_n hx hb dL_lot_0 rfl (lv_at hl 3 rfl) ?_
  refine lv_iconst (v := 0) hx hb dL_lot_1 (by decide) ?_
  refine lv_aload_n hx hb dL_lot_2 rfl (lv_at hl 0 rfl) ?_
  refine lv_iload_n hx hb dL_lot_3 rfl (lv_at hl 1 rfl) ?_
  refine lv_iload_n hx hb dL_lot_4 rfl (lv_at hl 2 rfl) ?_
  have hPc : va_P (dC, dI) vwCl (WC cy ad ks g u0) H := hP.part (X := [(o1, eL cy fo)]) (cx := []) [] rfl
  have hDc : va_D A (WC cy ad ks g u0) := hD.part (X := [(o1, eL cy fo)]) (cx := []) [] (by decide) rfl
  have hFc : ∀ q, va_A (WC cy ad ks g u0) H.size q → A q := va_freeP (X := [(o1, eL cy fo)]) (cx := []) hD hS hA [] rfl
  obtain ⟨q8, h8⟩ := wc_at (cy := cy) (ad := ad) (ks := ks) (g := g) (u := u0) (κ := .cl) hk.1 True.intro
  refine vx_calli (vx_runV (As := [.int a1, .int a2]) (rest := [.int 0, .ref o1]) ⟨hx, hb, hml, hown, hts⟩ (c_X7_lot_y l hst dC dI cy nb ad ks g hk u0 a1 a2 xc H.size hF) (cwV 2 hts (gV mw_693 mw_694 mw_695 mw_2 mw_696) rfl rfl rfl (by decide +kernel) ⟨Nat.le_of_ble_eq_true rfl, Nat.le_of_ble_eq_true rfl⟩) (my_preV hPc hK hDc hE hS hFc (va_recv (q := (RX7, TX7, 12)) hK hPc (ci := 7) (q0 := q8) rfl h8)) rfl rfl hl.1 rfl (lv_room (Nat.le_of_ble_eq_true rfl)) dL_lot_5 ⟨Nat.le_of_ble_eq_true rfl, Nat.le_of_ble_eq_true rfl⟩) hS (fun q _ h => hFc q h) hFc (fun q _ h => hFc q h) (fun E9 ce9 q9 u9 t9 H1 locs1 ht9 hvm9 hp9 hB9 hz9 hk9 hS9 hc9 hv9 hcl9 => ?_) (fun r9 u9 t9 H1 locs1 ht9 hvm9 hp9 _ _ _ _ => hp9.elim)
  clear h8
  obtain ⟨hB8, hP1⟩ := hB9
  rw [ht9] at hP1
  obtain ⟨hP, hD⟩ := va_joinP (X := [(o1, eL cy fo)]) (cx := []) (wr := [(o1, eL cy fo)]) (rx := []) (pl := WC cy ad ks g u0) (pl1 := WC cy ad ks g u0) hP hD [] [0] rfl rfl (by decide) (by decide) hk9 hFc hP1 hDc.self
  have hP : va_P (dC, dI) vwCl ([(o1, eL cy fo)] ++ WC cy ad ks g u0) H1 := hP
  have hD : va_D A ([(o1, eL cy fo)] ++ WC cy ad ks g u0) := hD
  by_cases hxc : xc = 1
  · obtain rfl : E9 = xI := hB8.trans (if_pos hxc)
    refine vx_catch (own := RL) (name := xI) hown (tableOf []) _ (tableOf [(0, 10, 17, 13)]) (htab.trans rfl) (fun z hz => nomatch hz) (by decide) (by decide) (hts _ mw_612) (va_Nw.use rfl hE.cI) hc9 hv9 hcl9 ?_
    generalize H1 = H at hP hS9 ⊢
    refine W.widen (k := 1) (n := 6) (by omega) (by omega) ?_
    refine lv_astore (lv' := [(4, .ref q9), (0, .ref (ad .cl)), (1, .int a1), (2, .int a2), (3, .ref o1)]) hx hb dL_lot_13 hl (by decide) rfl (fun ls hl => ?_)
    refine lv_iconst (v := 1) hx hb dL_lot_15 (by decide) ?_
    refine vx_ret ?_
    exact W.iret (v := 1) hx hb hr (fun t ht hW => ⟨⟨1, (), rfl, (if_pos hxc).symm, by rw [ht]; exact hP, hD⟩, hS9.F ht⟩) hS9.2.2 dL_lot_16
  · obtain rfl : E9 = xA := hB8.trans (if_neg hxc)
    refine vx_catch (own := RL) (name := xA) hown (tableOf [(0, 10, 13, 22)]) _ (tableOf []) (htab.trans rfl) (fun z hz => by obtain rfl := List.mem_singleton.mp hz; exact Or.inr ⟨by decide, xI, hts _ mw_612, hE.nc⟩) (by decide) (by decide) (hts _ mw_564) (va_Nw.use rfl hE.cA) hc9 hv9 hcl9 ?_
    generalize H1 = H at hP hS9 ⊢
    refine W.widen (k := 1) (n := 6) (by omega) (by omega) ?_
    refine lv_astore (lv' := [(4, .ref q9), (0, .ref (ad .cl)), (1, .int a1), (2, .int a2), (3, .ref o1)]) hx hb dL_lot_17 hl (by decide) rfl (fun ls hl => ?_)
    refine lv_iconst (v := 2) hx hb dL_lot_19 (by decide) ?_
    refine vx_ret ?_
    exact W.iret (v := 2) hx hb hr (fun t ht hW => ⟨⟨2, (), rfl, (if_neg hxc).symm, by rw [ht]; exact hP, hD⟩, hS9.F ht⟩) hS9.2.2 dL_lot_20
end
section
set_option maxHeartbeats 4000000 in
set_option maxRecDepth 100000 in
theorem cn_cardOf (l : Launch) (hst : l.stackTraces = false) (dC : Nat → ClassId) (dI : Nat → Nat → Nat) (cy : Nat → ClassId) (nb : Nat → Nat) (ad : CK → Nat) (ks : List CK) (g : CG) (hk : GA nb ad g ks) (u0 : RS) (a1 : Int32) (a2 : Int32) (o1 : Nat) (fo : Nat → Int64) (ro : Int32) (sz : Nat) (hF : C7_cardOf g u0 a1 a2 = some (.inr ro)) : vx_Met l yL_cardOf (wsgH yL_cardOf cL_cardOf 5 (some .int) [(0, 10, 13, 22)]) ({ frames := 9, cells := 0, slots := 0, locals := 400 }) (va_Pc [.ref (ad .cl), .int a1, .int a2, .ref o1] (fun U => U.heap.size = sz ∧ va_P (dC, dI) vwCl ([(o1, eL cy fo)] ++ WC cy ad ks g u0) U.heap ∧ va_K (dC, dI) vwCl (tyL cy) U ∧ va_D (fun _ => True) ([(o1, eL cy fo)] ++ WC cy ad ks g u0) ∧ GE nb (va_A ([(o1, eL cy fo)] ++ WC cy ad ks g u0) sz) U)) (va_Qi (fun (r : Int32) (_ : Unit) => r = 0) (fun _ t => va_P (dC, dI) vwCl ([(o1, eL cy (vp_updL fo ((0 : Int32).toNatClampNeg) (ro.toInt64)))] ++ WC cy ad ks g u0) t.heap ∧ va_D (va_A ([(o1, eL cy fo)] ++ WC cy ad ks g u0) sz) ([(o1, eL cy (vp_updL fo ((0 : Int32).toNatClampNeg) (ro.toInt64)))] ++ WC cy ad ks g u0)) (va_A ([(o1, eL cy fo)] ++ WC cy ad ks g u0) sz)) (vx_X (fun (_ : Unit) => False) (fun _ _ _ => True) (va_A ([(o1, eL cy fo)] ++ WC cy ad ks g u0) sz)) 0 0 (va_A ([(o1, eL cy fo)] ++ WC cy ad ks g u0) sz) := by
  refine vx_ofWH (cc := cL_cardOf) (maxL := 5) (ret := (some .int)) (hh := [(0, 10, 13, 22)]) pn_L rfl ?_
  intro p e s m args below meth c s₁ B hml hv
  obtain ⟨rfl, hsz, hP, hK, hD0, hE⟩ := hv
  have hx := B.exec
  have hb := B.bytes
  have hr := B.returns
  have hts0 := atoms_spec (ws := (wsgH yL_cardOf cL_cardOf 5 (some .int) [(0, 10, 13, 22)])) B.pre
  have hts : ∀ w ∈ wsL_law, w.before _ s = true := fun w h => hts0 w (List.mem_cons_of_mem _ h)
  have hown : s.vm.findClass RL = some m.cls := by have h9 := findClass_of_methodNamed B.named; exact h9
  have hlocks := B.notSynchronized
  subst hsz
  have hD := hD0.self (sz := s.heap.size)
  generalize hAe : va_A ([(o1, eL cy fo)] ++ WC cy ad ks g u0) s.heap.size = A at hD hE ⊢
  have hA : ∀ q : Nat, s.heap.size ≤ q → A q := fun q h => by rw [← hAe]; exact Or.inr h
  have hS : va_S A s.heap s.heap [] := va_S.rf
  have hl := lv_entry ([.ref (ad .cl), .int a1, .int a2, .ref o1]) (n := 5) (Nat.le_of_ble_eq_true rfl)
  rw [lg_entry_eq]
  generalize (lg_sl ([.ref (ad .cl), .int a1, .int a2, .ref o1]) ++ List.replicate (5 - (lg_sl ([.ref (ad .cl), .int a1, .int a2, .ref o1])).length) Slot.unset).toArray = ls at hl ⊢
  have hl : lv_has ls 5 [(0, .ref (ad .cl)), (1, .int a1), (2, .int a2), (3, .ref o1)] := hl
  generalize hHe : s.heap = H at hP hS ⊢
  have hS : va_S A s.heap H [] := by rw [hHe]; exact hS
  have htab := vx_table (x := yL_cardOf) B (hts0 (.codeWith yL_cardOf cL_cardOf 5 (some .int) [(0, 10, 13, 22)]) List.mem_cons_self)
  refine lv_aload_n hx hb dL_cardOf_0 rfl (lv_at hl 3 rfl) ?_
  refine lv_iconst (v := 0) hx hb dL_cardOf_1 (by decide) ?_
  refine lv_aload_n hx hb dL_cardOf_2 rfl (lv_at hl 0 rfl) ?_
  refine lv_iload_n hx hb dL_cardOf_3 rfl (lv_at hl 1 rfl) ?_
  refine lv_iload_n hx hb dL_cardOf_4 rfl (lv_at hl 2 rfl) ?_
  have hPc : va_P (dC, dI) vwCl (WC cy ad ks g u0) H := hP.part (X := [(o1, eL cy fo)]) (cx := []) [] rfl
  have hDc : va_D A (WC cy ad ks g u0) := hD.part (X := [(o1, eL cy fo)]) (cx := []) [] (by decide) rfl
  have hFc : ∀ q, va_A (WC cy ad ks g u0) H.size q → A q := va_freeP (X := [(o1, eL cy fo)]) (cx := []) hD hS hA [] rfl
  obtain ⟨q8, h8⟩ := wc_at (cy := cy) (ad := ad) (ks := ks) (g := g) (u := u0) (κ := .cl) hk.1 True.intro
  refine va_calli (va_runV (As := [.int a1, .int a2]) (rest := [.int 0, .ref o1]) ⟨hx, hb, hml, hown, hts⟩ (c_X7_cardOf l dC dI cy nb ad ks g hk u0 a1 a2 ro H.size hF) (cwV 2 hts (gV mw_744 mw_745 mw_746 mw_2 mw_747) rfl rfl rfl (by decide +kernel) ⟨Nat.le_of_ble_eq_true rfl, Nat.le_of_ble_eq_true rfl⟩) (my_preV hPc hK hDc hE hS hFc (va_recv (q := (RX7, TX7, 12)) hK hPc (ci := 7) (q0 := q8) rfl h8)) rfl rfl hl.1 rfl (lv_room (Nat.le_of_ble_eq_true rfl)) dL_cardOf_5 ⟨Nat.le_of_ble_eq_true rfl, Nat.le_of_ble_eq_true rfl⟩) hS (fun q _ h => hFc q h) hFc (fun r u t H1 locs ht hvm hw hB hz1 hk1 hS => ?_)
  clear h8
  obtain ⟨hP1, hD1⟩ := hB
  rw [ht] at hP1
  obtain ⟨hP, hD⟩ := va_joinP (X := [(o1, eL cy fo)]) (cx := []) (wr := [(o1, eL cy fo)]) (rx := []) (pl := WC cy ad ks g u0) (pl1 := WC cy ad ks g u0) hP hD [] [0] rfl rfl (by decide) (by decide) hk1 hFc hP1 hD1
  generalize H1 = H at hP hS ⊢
  have hP : va_P (dC, dI) vwCl ([(o1, eL cy fo)] ++ WC cy ad ks g u0) H := hP
  have hD : va_D A ([(o1, eL cy fo)] ++ WC cy ad ks g u0) := hD
  refine my_topi hw ?_
  refine W.widen (k := 0) (n := 0) (by omega) (by omega) ?_
  refine lv_i2l (v := ro.toInt64) hx hb dL_cardOf_8 rfl ?_
  refine va_last hx hb hK hP hD hS 0 3 rfl rfl (vp_in_nI (n := 0) (by decide) (by decide)) dL_cardOf_9 (fun H locs hP hD hS => ?_)
  have hP : va_P (dC, dI) vwCl ([(o1, eL cy (vp_updL fo ((0 : Int32).toNatClampNeg) (ro.toInt64)))] ++ WC cy ad ks g u0) H := hP
  have hD : va_D A ([(o1, eL cy (vp_updL fo ((0 : Int32).toNatClampNeg) (ro.toInt64)))] ++ WC cy ad ks g u0) := hD
  refine lv_goto (tgt := 17) hx hb dL_cardOf_10 (by decide) ?_
  refine lv_iconst (v := 0) hx hb dL_cardOf_17 (by decide) ?_
  refine vx_ret ?_
  exact W.iret (v := 0) hx hb hr (fun t ht hW => ⟨⟨0, (), rfl, rfl, by rw [ht]; exact hP, hD⟩, hS.F ht⟩) hS.2.2 dL_cardOf_18
set_option maxHeartbeats 4000000 in
set_option maxRecDepth 100000 in
theorem ct_cardOf (l : Launch) (hst : l.stackTraces = false) (dC : Nat → ClassId) (dI : Nat → Nat → Nat) (cy : Nat → ClassId) (nb : Nat → Nat) (ad : CK → Nat) (ks : List CK) (g : CG) (hk : GA nb ad g ks) (u0 : RS) (a1 : Int32) (a2 : Int32) (o1 : Nat) (fo : Nat → Int64) (xc : Int32) (sz : Nat) (hxc : xc = 1) (hF : C7_cardOf g u0 a1 a2 = some (.inl xc)) : vx_Met l yL_cardOf (wsgH yL_cardOf cL_cardOf 5 (some .int) [(0, 10, 13, 22)]) ({ frames := 9, cells := 1, slots := 6, locals := 400 }) (va_Pc [.ref (ad .cl), .int a1, .int a2, .ref o1] (fun U => U.heap.size = sz ∧ va_P (dC, dI) vwCl ([(o1, eL cy fo)] ++ WC cy ad ks g u0) U.heap ∧ va_K (dC, dI) vwCl (tyL cy) U ∧ va_D (fun _ => True) ([(o1, eL cy fo)] ++ WC cy ad ks g u0) ∧ GE nb (va_A ([(o1, eL cy fo)] ++ WC cy ad ks g u0) sz) U)) (va_Qi (fun (r : Int32) (_ : Unit) => r = 1) (fun _ t => va_P (dC, dI) vwCl ([(o1, eL cy fo)] ++ WC cy ad ks g u0) t.heap ∧ va_D (va_A ([(o1, eL cy fo)] ++ WC cy ad ks g u0) sz) ([(o1, eL cy fo)] ++ WC cy ad ks g u0)) (va_A ([(o1, eL cy fo)] ++ WC cy ad ks g u0) sz)) (vx_X (fun (_ : Unit) => False) (fun _ _ _ => True) (va_A ([(o1, eL cy fo)] ++ WC cy ad ks g u0) sz)) 1 6 (va_A ([(o1, eL cy fo)] ++ WC cy ad ks g u0) sz) := by
  refine vx_ofWH (cc := cL_cardOf) (maxL := 5) (ret := (some .int)) (hh := [(0, 10, 13, 22)]) pn_L rfl ?_
  intro p e s m args below meth c s₁ B hml hv
  obtain ⟨rfl, hsz, hP, hK, hD0, hE⟩ := hv
  have hx := B.exec
  have hb := B.bytes
  have hr := B.returns
  have hts0 := atoms_spec (ws := (wsgH yL_cardOf cL_cardOf 5 (some .int) [(0, 10, 13, 22)])) B.pre
  have hts : ∀ w ∈ wsL_law, w.before _ s = true := fun w h => hts0 w (List.mem_cons_of_mem _ h)
  have hown : s.vm.findClass RL = some m.cls := by have h9 := findClass_of_methodNamed B.named; exact h9
  have hlocks := B.notSynchronized
  subst hsz
  have hD := hD0.self (sz := s.heap.size)
  generalize hAe : va_A ([(o1, eL cy fo)] ++ WC cy ad ks g u0) s.heap.size = A at hD hE ⊢
  have hA : ∀ q : Nat, s.heap.size ≤ q → A q := fun q h => by rw [← hAe]; exact Or.inr h
  have hS : va_S A s.heap s.heap [] := va_S.rf
  have hl := lv_entry ([.ref (ad .cl), .int a1, .int a2, .ref o1]) (n := 5) (Nat.le_of_ble_eq_true rfl)
  rw [lg_entry_eq]
  generalize (lg_sl ([.ref (ad .cl), .int a1, .int a2, .ref o1]) ++ List.replicate (5 - (lg_sl ([.ref (ad .cl), .int a1, .int a2, .ref o1])).length) Slot.unset).toArray = ls at hl ⊢
  have hl : lv_has ls 5 [(0, .ref (ad .cl)), (1, .int a1), (2, .int a2), (3, .ref o1)] := hl
  generalize hHe : s.heap = H at hP hS ⊢
  have hS : va_S A s.heap H [] := by rw [hHe]; exact hS
  have htab := vx_table (x := yL_cardOf) B (hts0 (.codeWith yL_cardOf cL_cardOf 5 (some .int) [(0, 10, 13, 22)]) List.mem_cons_self)
  refine lv_aload_n hx hb dL_cardOf_0 rfl (lv_at hl 3 rfl) ?_
  refine lv_iconst (v := 0) hx hb dL_cardOf_1 (by decide) ?_
  refine lv_aload_n hx hb dL_cardOf_2 rfl (lv_at hl 0 rfl) ?_
  refine lv_iload_n hx hb dL_cardOf_3 rfl (lv_at hl 1 rfl) ?_
  refine lv_iload_n hx hb dL_cardOf_4 rfl (lv_at hl 2 rfl) ?_
  have hPc : va_P (dC, dI) vwCl (WC cy ad ks g u0) H := hP.part (X := [(o1, eL cy fo)]) (cx := []) [] rfl
  have hDc : va_D A (WC cy ad ks g u0) := hD.part (X := [(o1, eL cy fo)]) (cx := []) [] (by decide) rfl
  have hFc : ∀ q, va_A (WC cy ad ks g u0) H.size q → A q := va_freeP (X := [(o1, eL cy fo)]) (cx := []) hD hS hA [] rfl
  obtain ⟨q8, h8⟩ := wc_at (cy := cy) (ad := ad) (ks := ks) (g := g) (u := u0) (κ := .cl) hk.1 True.intro
  refine vx_calli (vx_runV (As := [.int a1, .int a2]) (rest := [.int 0, .ref o1]) ⟨hx, hb, hml, hown, hts⟩ (c_X7_cardOf_y l hst dC dI cy nb ad ks g hk u0 a1 a2 xc H.size hF) (cwV 2 hts (gV mw_744 mw_745 mw_746 mw_2 mw_747) rfl rfl rfl (by decide +kernel) ⟨Nat.le_of_ble_eq_true rfl, Nat.le_of_ble_eq_true rfl⟩) (my_preV hPc hK hDc hE hS hFc (va_recv (q := (RX7, TX7, 12)) hK hPc (ci := 7) (q0 := q8) rfl h8)) rfl rfl hl.1 rfl (lv_room (Nat.le_of_ble_eq_true rfl)) dL_cardOf_5 ⟨Nat.le_of_ble_eq_true rfl, Nat.le_of_ble_eq_true rfl⟩) hS (fun q _ h => hFc q h) hFc (fun q _ h => hFc q h) (fun E9 ce9 q9 u9 t9 H1 locs1 ht9 hvm9 hp9 hB9 hz9 hk9 hS9 hc9 hv9 hcl9 => ?_) (fun r9 u9 t9 H1 locs1 ht9 hvm9 hp9 _ _ _ _ => hp9.elim)
  clear h8
  obtain ⟨hB8, hP1⟩ := hB9
  rw [ht9] at hP1
  obtain ⟨hP, hD⟩ := va_joinP (X := [(o1, eL cy fo)]) (cx := []) (wr := [(o1, eL cy fo)]) (rx := []) (pl := WC cy ad ks g u0) (pl1 := WC cy ad ks g u0) hP hD [] [0] rfl rfl (by decide) (by decide) hk9 hFc hP1 hDc.self
  have hP : va_P (dC, dI) vwCl ([(o1, eL cy fo)] ++ WC cy ad ks g u0) H1 := hP
  have hD : va_D A ([(o1, eL cy fo)] ++ WC cy ad ks g u0) := hD
  obtain rfl : E9 = xI := hB8.trans (if_pos hxc)
  refine vx_catch (own := RL) (name := xI) hown (tableOf []) _ (tableOf []) (htab.trans rfl) (fun z hz => nomatch hz) (by decide) (by decide) (hts _ mw_612) (va_Nw.use rfl hE.cI) hc9 hv9 hcl9 ?_
  generalize H1 = H at hP hS9 ⊢
  refine W.widen (k := 1) (n := 6) (by omega) (by omega) ?_
  refine lv_astore (lv' := [(4, .ref q9), (0, .ref (ad .cl)), (1, .int a1), (2, .int a2), (3, .ref o1)]) hx hb dL_cardOf_13 hl (by decide) rfl (fun ls hl => ?_)
  refine lv_iconst (v := 1) hx hb dL_cardOf_15 (by decide) ?_
  refine vx_ret ?_
  exact W.iret (v := 1) hx hb hr (fun t ht hW => ⟨⟨1, (), rfl, rfl, by rw [ht]; exact hP, hD⟩, hS9.F ht⟩) hS9.2.2 dL_cardOf_16
set_option maxHeartbeats 4000000 in
set_option maxRecDepth 100000 in
theorem cn_steps (l : Launch) (hst : l.stackTraces = false) (dC : Nat → ClassId) (dI : Nat → Nat → Nat) (cy : Nat → ClassId) (nb : Nat → Nat) (ad : CK → Nat) (ks : List CK) (g : CG) (hk : GA nb ad g ks) (u0 : RS) (a1 : Int32) (a2 : Int32) (o1 : Nat) (fo : Nat → Int64) (ro : Int32) (sz : Nat) (hF : C7_steps g u0 a1 a2 = some (.inr ro)) : vx_Met l yL_steps (wsgH yL_steps cL_steps 5 (some .int) [(0, 10, 13, 22), (0, 10, 17, 13)]) ({ frames := 9, cells := 0, slots := 0, locals := 400 }) (va_Pc [.ref (ad .cl), .int a1, .int a2, .ref o1] (fun U => U.heap.size = sz ∧ va_P (dC, dI) vwCl ([(o1, eL cy fo)] ++ WC cy ad ks g u0) U.heap ∧ va_K (dC, dI) vwCl (tyL cy) U ∧ va_D (fun _ => True) ([(o1, eL cy fo)] ++ WC cy ad ks g u0) ∧ GE nb (va_A ([(o1, eL cy fo)] ++ WC cy ad ks g u0) sz) U)) (va_Qi (fun (r : Int32) (_ : Unit) => r = 0) (fun _ t => va_P (dC, dI) vwCl ([(o1, eL cy (vp_updL fo ((0 : Int32).toNatClampNeg) (ro.toInt64)))] ++ WC cy ad ks g u0) t.heap ∧ va_D (va_A ([(o1, eL cy fo)] ++ WC cy ad ks g u0) sz) ([(o1, eL cy (vp_updL fo ((0 : Int32).toNatClampNeg) (ro.toInt64)))] ++ WC cy ad ks g u0)) (va_A ([(o1, eL cy fo)] ++ WC cy ad ks g u0) sz)) (vx_X (fun (_ : Unit) => False) (fun _ _ _ => True) (va_A ([(o1, eL cy fo)] ++ WC cy ad ks g u0) sz)) 0 0 (va_A ([(o1, eL cy fo)] ++ WC cy ad ks g u0) sz) := by
  refine vx_ofWH (cc := cL_steps) (maxL := 5) (ret := (some .int)) (hh := [(0, 10, 13, 22), (0, 10, 17, 13)]) pn_L rfl ?_
  intro p e s m args below meth c s₁ B hml hv
  obtain ⟨rfl, hsz, hP, hK, hD0, hE⟩ := hv
  have hx := B.exec
  have hb := B.bytes
  have hr := B.returns
  have hts0 := atoms_spec (ws := (wsgH yL_steps cL_steps 5 (some .int) [(0, 10, 13, 22), (0, 10, 17, 13)])) B.pre
  have hts : ∀ w ∈ wsL_law, w.before _ s = true := fun w h => hts0 w (List.mem_cons_of_mem _ h)
  have hown : s.vm.findClass RL = some m.cls := by have h9 := findClass_of_methodNamed B.named; exact h9
  have hlocks := B.notSynchronized
  subst hsz
  have hD := hD0.self (sz := s.heap.size)
  generalize hAe : va_A ([(o1, eL cy fo)] ++ WC cy ad ks g u0) s.heap.size = A at hD hE ⊢
  have hA : ∀ q : Nat, s.heap.size ≤ q → A q := fun q h => by rw [← hAe]; exact Or.inr h
  have hS : va_S A s.heap s.heap [] := va_S.rf
  have hl := lv_entry ([.ref (ad .cl), .int a1, .int a2, .ref o1]) (n := 5) (Nat.le_of_ble_eq_true rfl)
  rw [lg_entry_eq]
  generalize (lg_sl ([.ref (ad .cl), .int a1, .int a2, .ref o1]) ++ List.replicate (5 - (lg_sl ([.ref (ad .cl), .int a1, .int a2, .ref o1])).length) Slot.unset).toArray = ls at hl ⊢
  have hl : lv_has ls 5 [(0, .ref (ad .cl)), (1, .int a1), (2, .int a2), (3, .ref o1)] := hl
  generalize hHe : s.heap = H at hP hS ⊢
  have hS : va_S A s.heap H [] := by rw [hHe]; exact hS
  have htab := vx_table (x := yL_steps) B (hts0 (.codeWith yL_steps cL_steps 5 (some .int) [(0, 10, 13, 22), (0, 10, 17, 13)]) List.mem_cons_self)
  refine lv_aload_n hx hb dL_steps_0 rfl (lv_at hl 3 rfl) ?_
  refine lv_iconst (v := 0) hx hb dL_steps_1 (by decide) ?_
  refine lv_aload_n hx hb dL_steps_2 rfl (lv_at hl 0 rfl) ?_
  refine lv_iload_n hx hb dL_steps_3 rfl (lv_at hl 1 rfl) ?_
  refine lv_iload_n hx hb dL_steps_4 rfl (lv_at hl 2 rfl) ?_
  have hPc : va_P (dC, dI) vwCl (WC cy ad ks g u0) H := hP.part (X := [(o1, eL cy fo)]) (cx := []) [] rfl
  have hDc : va_D A (WC cy ad ks g u0) := hD.part (X := [(o1, eL cy fo)]) (cx := []) [] (by decide) rfl
  have hFc : ∀ q, va_A (WC cy ad ks g u0) H.size q → A q := va_freeP (X := [(o1, eL cy fo)]) (cx := []) hD hS hA [] rfl
  obtain ⟨q8, h8⟩ := wc_at (cy := cy) (ad := ad) (ks := ks) (g := g) (u := u0) (κ := .cl) hk.1 True.intro
  refine va_calli (va_runV (As := [.int a1, .int a2]) (rest := [.int 0, .ref o1]) ⟨hx, hb, hml, hown, hts⟩ (c_X7_steps l dC dI cy nb ad ks g hk u0 a1 a2 ro H.size hF) (cwV 2 hts (gV mw_811 mw_812 mw_813 mw_2 mw_814) rfl rfl rfl (by decide +kernel) ⟨Nat.le_of_ble_eq_true rfl, Nat.le_of_ble_eq_true rfl⟩) (my_preV hPc hK hDc hE hS hFc (va_recv (q := (RX7, TX7, 12)) hK hPc (ci := 7) (q0 := q8) rfl h8)) rfl rfl hl.1 rfl (lv_room (Nat.le_of_ble_eq_true rfl)) dL_steps_5 ⟨Nat.le_of_ble_eq_true rfl, Nat.le_of_ble_eq_true rfl⟩) hS (fun q _ h => hFc q h) hFc (fun r u t H1 locs ht hvm hw hB hz1 hk1 hS => ?_)
  clear h8
  obtain ⟨hP1, hD1⟩ := hB
  rw [ht] at hP1
  obtain ⟨hP, hD⟩ := va_joinP (X := [(o1, eL cy fo)]) (cx := []) (wr := [(o1, eL cy fo)]) (rx := []) (pl := WC cy ad ks g u0) (pl1 := WC cy ad ks g u0) hP hD [] [0] rfl rfl (by decide) (by decide) hk1 hFc hP1 hD1
  generalize H1 = H at hP hS ⊢
  have hP : va_P (dC, dI) vwCl ([(o1, eL cy fo)] ++ WC cy ad ks g u0) H := hP
  have hD : va_D A ([(o1, eL cy fo)] ++ WC cy ad ks g u0) := hD
  refine my_topi hw ?_
  refine W.widen (k := 0) (n := 0) (by omega) (by omega) ?_
  refine lv_i2l (v := ro.toInt64) hx hb dL_steps_8 rfl ?_
  refine va_last hx hb hK hP hD hS 0 3 rfl rfl (vp_in_nI (n := 0) (by decide) (by decide)) dL_steps_9 (fun H locs hP hD hS => ?_)
  have hP : va_P (dC, dI) vwCl ([(o1, eL cy (vp_updL fo ((0 : Int32).toNatClampNeg) (ro.toInt64)))] ++ WC cy ad ks g u0) H := hP
  have hD : va_D A ([(o1, eL cy (vp_updL fo ((0 : Int32).toNatClampNeg) (ro.toInt64)))] ++ WC cy ad ks g u0) := hD
  refine lv_goto (tgt := 21) hx hb dL_steps_10 (by decide) ?_
  refine lv_iconst (v := 0) hx hb dL_steps_21 (by decide) ?_
  refine vx_ret ?_
  exact W.iret (v := 0) hx hb hr (fun t ht hW => ⟨⟨0, (), rfl, rfl, by rw [ht]; exact hP, hD⟩, hS.F ht⟩) hS.2.2 dL_steps_22
set_option maxHeartbeats 4000000 in
set_option maxRecDepth 100000 in
theorem ct_steps (l : Launch) (hst : l.stackTraces = false) (dC : Nat → ClassId) (dI : Nat → Nat → Nat) (cy : Nat → ClassId) (nb : Nat → Nat) (ad : CK → Nat) (ks : List CK) (g : CG) (hk : GA nb ad g ks) (u0 : RS) (a1 : Int32) (a2 : Int32) (o1 : Nat) (fo : Nat → Int64) (xc : Int32) (sz : Nat) (hF : C7_steps g u0 a1 a2 = some (.inl xc)) : vx_Met l yL_steps (wsgH yL_steps cL_steps 5 (some .int) [(0, 10, 13, 22), (0, 10, 17, 13)]) ({ frames := 9, cells := 1, slots := 6, locals := 400 }) (va_Pc [.ref (ad .cl), .int a1, .int a2, .ref o1] (fun U => U.heap.size = sz ∧ va_P (dC, dI) vwCl ([(o1, eL cy fo)] ++ WC cy ad ks g u0) U.heap ∧ va_K (dC, dI) vwCl (tyL cy) U ∧ va_D (fun _ => True) ([(o1, eL cy fo)] ++ WC cy ad ks g u0) ∧ GE nb (va_A ([(o1, eL cy fo)] ++ WC cy ad ks g u0) sz) U)) (va_Qi (fun (r : Int32) (_ : Unit) => r = if xc = 1 then 1 else 2) (fun _ t => va_P (dC, dI) vwCl ([(o1, eL cy fo)] ++ WC cy ad ks g u0) t.heap ∧ va_D (va_A ([(o1, eL cy fo)] ++ WC cy ad ks g u0) sz) ([(o1, eL cy fo)] ++ WC cy ad ks g u0)) (va_A ([(o1, eL cy fo)] ++ WC cy ad ks g u0) sz)) (vx_X (fun (_ : Unit) => False) (fun _ _ _ => True) (va_A ([(o1, eL cy fo)] ++ WC cy ad ks g u0) sz)) 1 6 (va_A ([(o1, eL cy fo)] ++ WC cy ad ks g u0) sz) := by
  refine vx_ofWH (cc := cL_steps) (maxL := 5) (ret := (some .int)) (hh := [(0, 10, 13, 22), (0, 10, 17, 13)]) pn_L rfl ?_
  intro p e s m args below meth c s₁ B hml hv
  obtain ⟨rfl, hsz, hP, hK, hD0, hE⟩ := hv
  have hx := B.exec
  have hb := B.bytes
  have hr := B.returns
  have hts0 := atoms_spec (ws := (wsgH yL_steps cL_steps 5 (some .int) [(0, 10, 13, 22), (0, 10, 17, 13)])) B.pre
  have hts : ∀ w ∈ wsL_law, w.before _ s = true := fun w h => hts0 w (List.mem_cons_of_mem _ h)
  have hown : s.vm.findClass RL = some m.cls := by have h9 := findClass_of_methodNamed B.named; exact h9
  have hlocks := B.notSynchronized
  subst hsz
  have hD := hD0.self (sz := s.heap.size)
  generalize hAe : va_A ([(o1, eL cy fo)] ++ WC cy ad ks g u0) s.heap.size = A at hD hE ⊢
  have hA : ∀ q : Nat, s.heap.size ≤ q → A q := fun q h => by rw [← hAe]; exact Or.inr h
  have hS : va_S A s.heap s.heap [] := va_S.rf
  have hl := lv_entry ([.ref (ad .cl), .int a1, .int a2, .ref o1]) (n := 5) (Nat.le_of_ble_eq_true rfl)
  rw [lg_entry_eq]
  generalize (lg_sl ([.ref (ad .cl), .int a1, .int a2, .ref o1]) ++ List.replicate (5 - (lg_sl ([.ref (ad .cl), .int a1, .int a2, .ref o1])).length) Slot.unset).toArray = ls at hl ⊢
  have hl : lv_has ls 5 [(0, .ref (ad .cl)), (1, .int a1), (2, .int a2), (3, .ref o1)] := hl
  generalize hHe : s.heap = H at hP hS ⊢
  have hS : va_S A s.heap H [] := by rw [hHe]; exact hS
  have htab := vx_table (x := yL_steps) B (hts0 (.codeWith yL_steps cL_steps 5 (some .int) [(0, 10, 13, 22), (0, 10, 17, 13)]) List.mem_cons_self)
  refine lv_aload_n hx hb dL_steps_0 rfl (lv_at hl 3 rfl) ?_
  refine lv_iconst (v := 0) hx hb dL_steps_1 (by decide) ?_
  refine lv_aload_n hx hb dL_steps_2 rfl (lv_at hl 0 rfl) ?_
  refine lv_iload_n hx hb dL_steps_3 rfl (lv_at hl 1 rfl) ?_
  refine lv_iload_n hx hb dL_steps_4 rfl (lv_at hl 2 rfl) ?_
  have hPc : va_P (dC, dI) vwCl (WC cy ad ks g u0) H := hP.part (X := [(o1, eL cy fo)]) (cx := []) [] rfl
  have hDc : va_D A (WC cy ad ks g u0) := hD.part (X := [(o1, eL cy fo)]) (cx := []) [] (by decide) rfl
  have hFc : ∀ q, va_A (WC cy ad ks g u0) H.size q → A q := va_freeP (X := [(o1, eL cy fo)]) (cx := []) hD hS hA [] rfl
  obtain ⟨q8, h8⟩ := wc_at (cy := cy) (ad := ad) (ks := ks) (g := g) (u := u0) (κ := .cl) hk.1 True.intro
  refine vx_calli (vx_runV (As := [.int a1, .int a2]) (rest := [.int 0, .ref o1]) ⟨hx, hb, hml, hown, hts⟩ (c_X7_steps_y l hst dC dI cy nb ad ks g hk u0 a1 a2 xc H.size hF) (cwV 2 hts (gV mw_811 mw_812 mw_813 mw_2 mw_814) rfl rfl rfl (by decide +kernel) ⟨Nat.le_of_ble_eq_true rfl, Nat.le_of_ble_eq_true rfl⟩) (my_preV hPc hK hDc hE hS hFc (va_recv (q := (RX7, TX7, 12)) hK hPc (ci := 7) (q0 := q8) rfl h8)) rfl rfl hl.1 rfl (lv_room (Nat.le_of_ble_eq_true rfl)) dL_steps_5 ⟨Nat.le_of_ble_eq_true rfl, Nat.le_of_ble_eq_true rfl⟩) hS (fun q _ h => hFc q h) hFc (fun q _ h => hFc q h) (fun E9 ce9 q9 u9 t9 H1 locs1 ht9 hvm9 hp9 hB9 hz9 hk9 hS9 hc9 hv9 hcl9 => ?_) (fun r9 u9 t9 H1 locs1 ht9 hvm9 hp9 _ _ _ _ => hp9.elim)
  clear h8
  obtain ⟨hB8, hP1⟩ := hB9
  rw [ht9] at hP1
  obtain ⟨hP, hD⟩ := va_joinP (X := [(o1, eL cy fo)]) (cx := []) (wr := [(o1, eL cy fo)]) (rx := []) (pl := WC cy ad ks g u0) (pl1 := WC cy ad ks g u0) hP hD [] [0] rfl rfl (by decide) (by decide) hk9 hFc hP1 hDc.self
  have hP : va_P (dC, dI) vwCl ([(o1, eL cy fo)] ++ WC cy ad ks g u0) H1 := hP
  have hD : va_D A ([(o1, eL cy fo)] ++ WC cy ad ks g u0) := hD
  by_cases hxc : xc = 1
  · obtain rfl : E9 = xI := hB8.trans (if_pos hxc)
    refine vx_catch (own := RL) (name := xI) hown (tableOf []) _ (tableOf [(0, 10, 17, 13)]) (htab.trans rfl) (fun z hz => nomatch hz) (by decide) (by decide) (hts _ mw_612) (va_Nw.use rfl hE.cI) hc9 hv9 hcl9 ?_
    generalize H1 = H at hP hS9 ⊢
    refine W.widen (k := 1) (n := 6) (by omega) (by omega) ?_
    refine lv_astore (lv' := [(4, .ref q9), (0, .ref (ad .cl)), (1, .int a1), (2, .int a2), (3, .ref o1)]) hx hb dL_steps_13 hl (by decide) rfl (fun ls hl => ?_)
    refine lv_iconst (v := 1) hx hb dL_steps_15 (by decide) ?_
    refine vx_ret ?_
    exact W.iret (v := 1) hx hb hr (fun t ht hW => ⟨⟨1, (), rfl, (if_pos hxc).symm, by rw [ht]; exact hP, hD⟩, hS9.F ht⟩) hS9.2.2 dL_steps_16
  · obtain rfl : E9 = xA := hB8.trans (if_neg hxc)
    refine vx_catch (own := RL) (name := xA) hown (tableOf [(0, 10, 13, 22)]) _ (tableOf []) (htab.trans rfl) (fun z hz => by obtain rfl := List.mem_singleton.mp hz; exact Or.inr ⟨by decide, xI, hts _ mw_612, hE.nc⟩) (by decide) (by decide) (hts _ mw_564) (va_Nw.use rfl hE.cA) hc9 hv9 hcl9 ?_
    generalize H1 = H at hP hS9 ⊢
    refine W.widen (k := 1) (n := 6) (by omega) (by omega) ?_
    refine lv_astore (lv' := [(4, .ref q9), (0, .ref (ad .cl)), (1, .int a1), (2, .int a2), (3, .ref o1)]) hx hb dL_steps_17 hl (by decide) rfl (fun ls hl => ?_)
    refine lv_iconst (v := 2) hx hb dL_steps_19 (by decide) ?_
    refine vx_ret ?_
    exact W.iret (v := 2) hx hb hr (fun t ht hW => ⟨⟨2, (), rfl, (if_neg hxc).symm, by rw [ht]; exact hP, hD⟩, hS9.F ht⟩) hS9.2.2 dL_steps_20
set_option maxHeartbeats 4000000 in
set_option maxRecDepth 100000 in
theorem cn_ticksFor (l : Launch) (hst : l.stackTraces = false) (dC : Nat → ClassId) (dI : Nat → Nat → Nat) (cy : Nat → ClassId) (nb : Nat → Nat) (ad : CK → Nat) (ks : List CK) (g : CG) (hk : GA nb ad g ks) (u0 : RS) (a1 : Int32) (a2 : Int32) (o1 : Nat) (fo : Nat → Int64) (ro : Int32) (sz : Nat) (hF : C7_ticksFor g u0 a1 a2 = some (.inr ro)) : vx_Met l yL_ticksFor (wsgH yL_ticksFor cL_ticksFor 5 (some .int) [(0, 10, 13, 22)]) ({ frames := 11, cells := 0, slots := 0, locals := 600 }) (va_Pc [.ref (ad .cl), .int a1, .int a2, .ref o1] (fun U => U.heap.size = sz ∧ va_P (dC, dI) vwCl ([(o1, eL cy fo)] ++ WC cy ad ks g u0) U.heap ∧ va_K (dC, dI) vwCl (tyL cy) U ∧ va_D (fun _ => True) ([(o1, eL cy fo)] ++ WC cy ad ks g u0) ∧ GE nb (va_A ([(o1, eL cy fo)] ++ WC cy ad ks g u0) sz) U)) (va_Qi (fun (r : Int32) (_ : Unit) => r = 0) (fun _ t => va_P (dC, dI) vwCl ([(o1, eL cy (vp_updL fo ((0 : Int32).toNatClampNeg) (ro.toInt64)))] ++ WC cy ad ks g u0) t.heap ∧ va_D (va_A ([(o1, eL cy fo)] ++ WC cy ad ks g u0) sz) ([(o1, eL cy (vp_updL fo ((0 : Int32).toNatClampNeg) (ro.toInt64)))] ++ WC cy ad ks g u0)) (va_A ([(o1, eL cy fo)] ++ WC cy ad ks g u0) sz)) (vx_X (fun (_ : Unit) => False) (fun _ _ _ => True) (va_A ([(o1, eL cy fo)] ++ WC cy ad ks g u0) sz)) 0 0 (va_A ([(o1, eL cy fo)] ++ WC cy ad ks g u0) sz) := by
  refine vx_ofWH (cc := cL_ticksFor) (maxL := 5) (ret := (some .int)) (hh := [(0, 10, 13, 22)]) pn_L rfl ?_
  intro p e s m args below meth c s₁ B hml hv
  obtain ⟨rfl, hsz, hP, hK, hD0, hE⟩ := hv
  have hx := B.exec
  have hb := B.bytes
  have hr := B.returns
  have hts0 := atoms_spec (ws := (wsgH yL_ticksFor cL_ticksFor 5 (some .int) [(0, 10, 13, 22)])) B.pre
  have hts : ∀ w ∈ wsL_law, w.before _ s = true := fun w h => hts0 w (List.mem_cons_of_mem _ h)
  have hown : s.vm.findClass RL = some m.cls := by have h9 := findClass_of_methodNamed B.named; exact h9
  have hlocks := B.notSynchronized
  subst hsz
  have hD := hD0.self (sz := s.heap.size)
  generalize hAe : va_A ([(o1, eL cy fo)] ++ WC cy ad ks g u0) s.heap.size = A at hD hE ⊢
  have hA : ∀ q : Nat, s.heap.size ≤ q → A q := fun q h => by rw [← hAe]; exact Or.inr h
  have hS : va_S A s.heap s.heap [] := va_S.rf
  have hl := lv_entry ([.ref (ad .cl), .int a1, .int a2, .ref o1]) (n := 5) (Nat.le_of_ble_eq_true rfl)
  rw [lg_entry_eq]
  generalize (lg_sl ([.ref (ad .cl), .int a1, .int a2, .ref o1]) ++ List.replicate (5 - (lg_sl ([.ref (ad .cl), .int a1, .int a2, .ref o1])).length) Slot.unset).toArray = ls at hl ⊢
  have hl : lv_has ls 5 [(0, .ref (ad .cl)), (1, .int a1), (2, .int a2), (3, .ref o1)] := hl
  generalize hHe : s.heap = H at hP hS ⊢
  have hS : va_S A s.heap H [] := by rw [hHe]; exact hS
  have htab := vx_table (x := yL_ticksFor) B (hts0 (.codeWith yL_ticksFor cL_ticksFor 5 (some .int) [(0, 10, 13, 22)]) List.mem_cons_self)
  refine lv_aload_n hx hb dL_ticksFor_0 rfl (lv_at hl 3 rfl) ?_
  refine lv_iconst (v := 0) hx hb dL_ticksFor_1 (by decide) ?_
  refine lv_aload_n hx hb dL_ticksFor_2 rfl (lv_at hl 0 rfl) ?_
  refine lv_iload_n hx hb dL_ticksFor_3 rfl (lv_at hl 1 rfl) ?_
  refine lv_iload_n hx hb dL_ticksFor_4 rfl (lv_at hl 2 rfl) ?_
  have hPc : va_P (dC, dI) vwCl (WC cy ad ks g u0) H := hP.part (X := [(o1, eL cy fo)]) (cx := []) [] rfl
  have hDc : va_D A (WC cy ad ks g u0) := hD.part (X := [(o1, eL cy fo)]) (cx := []) [] (by decide) rfl
  have hFc : ∀ q, va_A (WC cy ad ks g u0) H.size q → A q := va_freeP (X := [(o1, eL cy fo)]) (cx := []) hD hS hA [] rfl
  obtain ⟨q8, h8⟩ := wc_at (cy := cy) (ad := ad) (ks := ks) (g := g) (u := u0) (κ := .cl) hk.1 True.intro
  refine va_calli (va_runV (As := [.int a1, .int a2]) (rest := [.int 0, .ref o1]) ⟨hx, hb, hml, hown, hts⟩ (c_X7_ticksFor l dC dI cy nb ad ks g hk u0 a1 a2 ro H.size hF) (cwV 2 hts (gV mw_839 mw_840 mw_841 mw_2 mw_842) rfl rfl rfl (by decide +kernel) ⟨Nat.le_of_ble_eq_true rfl, Nat.le_of_ble_eq_true rfl⟩) (my_preV hPc hK hDc hE hS hFc (va_recv (q := (RX7, TX7, 12)) hK hPc (ci := 7) (q0 := q8) rfl h8)) rfl rfl hl.1 rfl (lv_room (Nat.le_of_ble_eq_true rfl)) dL_ticksFor_5 ⟨Nat.le_of_ble_eq_true rfl, Nat.le_of_ble_eq_true rfl⟩) hS (fun q _ h => hFc q h) hFc (fun r u t H1 locs ht hvm hw hB hz1 hk1 hS => ?_)
  clear h8
  obtain ⟨hP1, hD1⟩ := hB
  rw [ht] at hP1
  obtain ⟨hP, hD⟩ := va_joinP (X := [(o1, eL cy fo)]) (cx := []) (wr := [(o1, eL cy fo)]) (rx := []) (pl := WC cy ad ks g u0) (pl1 := WC cy ad ks g u0) hP hD [] [0] rfl rfl (by decide) (by decide) hk1 hFc hP1 hD1
  generalize H1 = H at hP hS ⊢
  have hP : va_P (dC, dI) vwCl ([(o1, eL cy fo)] ++ WC cy ad ks g u0) H := hP
  have hD : va_D A ([(o1, eL cy fo)] ++ WC cy ad ks g u0) := hD
  refine my_topi hw ?_
  refine W.widen (k := 0) (n := 0) (by omega) (by omega) ?_
  refine lv_i2l (v := ro.toInt64) hx hb dL_ticksFor_8 rfl ?_
  refine va_last hx hb hK hP hD hS 0 3 rfl rfl (vp_in_nI (n := 0) (by decide) (by decide)) dL_ticksFor_9 (fun H locs hP hD hS => ?_)
  have hP : va_P (dC, dI) vwCl ([(o1, eL cy (vp_updL fo ((0 : Int32).toNatClampNeg) (ro.toInt64)))] ++ WC cy ad ks g u0) H := hP
  have hD : va_D A ([(o1, eL cy (vp_updL fo ((0 : Int32).toNatClampNeg) (ro.toInt64)))] ++ WC cy ad ks g u0) := hD
  refine lv_goto (tgt := 17) hx hb dL_ticksFor_10 (by decide) ?_
  refine lv_iconst (v := 0) hx hb dL_ticksFor_17 (by decide) ?_
  refine vx_ret ?_
  exact W.iret (v := 0) hx hb hr (fun t ht hW => ⟨⟨0, (), rfl, rfl, by rw [ht]; exact hP, hD⟩, hS.F ht⟩) hS.2.2 dL_ticksFor_18
set_option maxHeartbeats 4000000 in
set_option maxRecDepth 100000 in
theorem ct_ticksFor (l : Launch) (hst : l.stackTraces = false) (dC : Nat → ClassId) (dI : Nat → Nat → Nat) (cy : Nat → ClassId) (nb : Nat → Nat) (ad : CK → Nat) (ks : List CK) (g : CG) (hk : GA nb ad g ks) (u0 : RS) (a1 : Int32) (a2 : Int32) (o1 : Nat) (fo : Nat → Int64) (xc : Int32) (sz : Nat) (hxc : xc = 1) (hF : C7_ticksFor g u0 a1 a2 = some (.inl xc)) : vx_Met l yL_ticksFor (wsgH yL_ticksFor cL_ticksFor 5 (some .int) [(0, 10, 13, 22)]) ({ frames := 11, cells := 1, slots := 6, locals := 600 }) (va_Pc [.ref (ad .cl), .int a1, .int a2, .ref o1] (fun U => U.heap.size = sz ∧ va_P (dC, dI) vwCl ([(o1, eL cy fo)] ++ WC cy ad ks g u0) U.heap ∧ va_K (dC, dI) vwCl (tyL cy) U ∧ va_D (fun _ => True) ([(o1, eL cy fo)] ++ WC cy ad ks g u0) ∧ GE nb (va_A ([(o1, eL cy fo)] ++ WC cy ad ks g u0) sz) U)) (va_Qi (fun (r : Int32) (_ : Unit) => r = 1) (fun _ t => va_P (dC, dI) vwCl ([(o1, eL cy fo)] ++ WC cy ad ks g u0) t.heap ∧ va_D (va_A ([(o1, eL cy fo)] ++ WC cy ad ks g u0) sz) ([(o1, eL cy fo)] ++ WC cy ad ks g u0)) (va_A ([(o1, eL cy fo)] ++ WC cy ad ks g u0) sz)) (vx_X (fun (_ : Unit) => False) (fun _ _ _ => True) (va_A ([(o1, eL cy fo)] ++ WC cy ad ks g u0) sz)) 1 6 (va_A ([(o1, eL cy fo)] ++ WC cy ad ks g u0) sz) := by
  refine vx_ofWH (cc := cL_ticksFor) (maxL := 5) (ret := (some .int)) (hh := [(0, 10, 13, 22)]) pn_L rfl ?_
  intro p e s m args below meth c s₁ B hml hv
  obtain ⟨rfl, hsz, hP, hK, hD0, hE⟩ := hv
  have hx := B.exec
  have hb := B.bytes
  have hr := B.returns
  have hts0 := atoms_spec (ws := (wsgH yL_ticksFor cL_ticksFor 5 (some .int) [(0, 10, 13, 22)])) B.pre
  have hts : ∀ w ∈ wsL_law, w.before _ s = true := fun w h => hts0 w (List.mem_cons_of_mem _ h)
  have hown : s.vm.findClass RL = some m.cls := by have h9 := findClass_of_methodNamed B.named; exact h9
  have hlocks := B.notSynchronized
  subst hsz
  have hD := hD0.self (sz := s.heap.size)
  generalize hAe : va_A ([(o1, eL cy fo)] ++ WC cy ad ks g u0) s.heap.size = A at hD hE ⊢
  have hA : ∀ q : Nat, s.heap.size ≤ q → A q := fun q h => by rw [← hAe]; exact Or.inr h
  have hS : va_S A s.heap s.heap [] := va_S.rf
  have hl := lv_entry ([.ref (ad .cl), .int a1, .int a2, .ref o1]) (n := 5) (Nat.le_of_ble_eq_true rfl)
  rw [lg_entry_eq]
  generalize (lg_sl ([.ref (ad .cl), .int a1, .int a2, .ref o1]) ++ List.replicate (5 - (lg_sl ([.ref (ad .cl), .int a1, .int a2, .ref o1])).length) Slot.unset).toArray = ls at hl ⊢
  have hl : lv_has ls 5 [(0, .ref (ad .cl)), (1, .int a1), (2, .int a2), (3, .ref o1)] := hl
  generalize hHe : s.heap = H at hP hS ⊢
  have hS : va_S A s.heap H [] := by rw [hHe]; exact hS
  have htab := vx_table (x := yL_ticksFor) B (hts0 (.codeWith yL_ticksFor cL_ticksFor 5 (some .int) [(0, 10, 13, 22)]) List.mem_cons_self)
  refine lv_aload_n hx hb dL_ticksFor_0 rfl (lv_at hl 3 rfl) ?_
  refine lv_iconst (v := 0) hx hb dL_ticksFor_1 (by decide) ?_
  refine lv_aload_n hx hb dL_ticksFor_2 rfl (lv_at hl 0 rfl) ?_
  refine lv_iload_n hx hb dL_ticksFor_3 rfl (lv_at hl 1 rfl) ?_
  refine lv_iload_n hx hb dL_ticksFor_4 rfl (lv_at hl 2 rfl) ?_
  have hPc : va_P (dC, dI) vwCl (WC cy ad ks g u0) H := hP.part (X := [(o1, eL cy fo)]) (cx := []) [] rfl
  have hDc : va_D A (WC cy ad ks g u0) := hD.part (X := [(o1, eL cy fo)]) (cx := []) [] (by decide) rfl
  have hFc : ∀ q, va_A (WC cy ad ks g u0) H.size q → A q := va_freeP (X := [(o1, eL cy fo)]) (cx := []) hD hS hA [] rfl
  obtain ⟨q8, h8⟩ := wc_at (cy := cy) (ad := ad) (ks := ks) (g := g) (u := u0) (κ := .cl) hk.1 True.intro
  refine vx_calli (vx_runV (As := [.int a1, .int a2]) (rest := [.int 0, .ref o1]) ⟨hx, hb, hml, hown, hts⟩ (c_X7_ticksFor_y l hst dC dI cy nb ad ks g hk u0 a1 a2 xc H.size hF) (cwV 2 hts (gV mw_839 mw_840 mw_841 mw_2 mw_842) rfl rfl rfl (by decide +kernel) ⟨Nat.le_of_ble_eq_true rfl, Nat.le_of_ble_eq_true rfl⟩) (my_preV hPc hK hDc hE hS hFc (va_recv (q := (RX7, TX7, 12)) hK hPc (ci := 7) (q0 := q8) rfl h8)) rfl rfl hl.1 rfl (lv_room (Nat.le_of_ble_eq_true rfl)) dL_ticksFor_5 ⟨Nat.le_of_ble_eq_true rfl, Nat.le_of_ble_eq_true rfl⟩) hS (fun q _ h => hFc q h) hFc (fun q _ h => hFc q h) (fun E9 ce9 q9 u9 t9 H1 locs1 ht9 hvm9 hp9 hB9 hz9 hk9 hS9 hc9 hv9 hcl9 => ?_) (fun r9 u9 t9 H1 locs1 ht9 hvm9 hp9 _ _ _ _ => hp9.elim)
  clear h8
  obtain ⟨hB8, hP1⟩ := hB9
  rw [ht9] at hP1
  obtain ⟨hP, hD⟩ := va_joinP (X := [(o1, eL cy fo)]) (cx := []) (wr := [(o1, eL cy fo)]) (rx := []) (pl := WC cy ad ks g u0) (pl1 := WC cy ad ks g u0) hP hD [] [0] rfl rfl (by decide) (by decide) hk9 hFc hP1 hDc.self
  have hP : va_P (dC, dI) vwCl ([(o1, eL cy fo)] ++ WC cy ad ks g u0) H1 := hP
  have hD : va_D A ([(o1, eL cy fo)] ++ WC cy ad ks g u0) := hD
  obtain rfl : E9 = xI := hB8.trans (if_pos hxc)
  refine vx_catch (own := RL) (name := xI) hown (tableOf []) _ (tableOf []) (htab.trans rfl) (fun z hz => nomatch hz) (by decide) (by decide) (hts _ mw_612) (va_Nw.use rfl hE.cI) hc9 hv9 hcl9 ?_
  generalize H1 = H at hP hS9 ⊢
  refine W.widen (k := 1) (n := 6) (by omega) (by omega) ?_
  refine lv_astore (lv' := [(4, .ref q9), (0, .ref (ad .cl)), (1, .int a1), (2, .int a2), (3, .ref o1)]) hx hb dL_ticksFor_13 hl (by decide) rfl (fun ls hl => ?_)
  refine lv_iconst (v := 1) hx hb dL_ticksFor_15 (by decide) ?_
  refine vx_ret ?_
  exact W.iret (v := 1) hx hb hr (fun t ht hW => ⟨⟨1, (), rfl, rfl, by rw [ht]; exact hP, hD⟩, hS9.F ht⟩) hS9.2.2 dL_ticksFor_16
set_option maxHeartbeats 4000000 in
set_option maxRecDepth 100000 in
theorem cn_day (l : Launch) (hst : l.stackTraces = false) (dC : Nat → ClassId) (dI : Nat → Nat → Nat) (cy : Nat → ClassId) (nb : Nat → Nat) (ad : CK → Nat) (ks : List CK) (g : CG) (hk : GA nb ad g ks) (u0 : RS) (a1 : Int32) (a2 : Int32) (a3 : Int32) (o1 : Nat) (fo : Nat → Int64) (ro : Int32) (sz : Nat) (hF : C7_day g u0 a1 a2 a3 = some (.inr ro)) : vx_Met l yL_day (wsgH yL_day cL_day 6 (some .int) [(0, 12, 15, 22), (0, 12, 19, 13)]) ({ frames := 9, cells := 0, slots := 0, locals := 400 }) (va_Pc [.ref (ad .cl), .int a1, .int a2, .int a3, .ref o1] (fun U => U.heap.size = sz ∧ va_P (dC, dI) vwCl ([(o1, eL cy fo)] ++ WC cy ad ks g u0) U.heap ∧ va_K (dC, dI) vwCl (tyL cy) U ∧ va_D (fun _ => True) ([(o1, eL cy fo)] ++ WC cy ad ks g u0) ∧ GE nb (va_A ([(o1, eL cy fo)] ++ WC cy ad ks g u0) sz) U)) (va_Qi (fun (r : Int32) (_ : Unit) => r = 0) (fun _ t => va_P (dC, dI) vwCl ([(o1, eL cy (vp_updL fo ((0 : Int32).toNatClampNeg) (ro.toInt64)))] ++ WC cy ad ks g u0) t.heap ∧ va_D (va_A ([(o1, eL cy fo)] ++ WC cy ad ks g u0) sz) ([(o1, eL cy (vp_updL fo ((0 : Int32).toNatClampNeg) (ro.toInt64)))] ++ WC cy ad ks g u0)) (va_A ([(o1, eL cy fo)] ++ WC cy ad ks g u0) sz)) (vx_X (fun (_ : Unit) => False) (fun _ _ _ => True) (va_A ([(o1, eL cy fo)] ++ WC cy ad ks g u0) sz)) 0 0 (va_A ([(o1, eL cy fo)] ++ WC cy ad ks g u0) sz) := by
  refine vx_ofWH (cc := cL_day) (maxL := 6) (ret := (some .int)) (hh := [(0, 12, 15, 22), (0, 12, 19, 13)]) pn_L rfl ?_
  intro p e s m args below meth c s₁ B hml hv
  obtain ⟨rfl, hsz, hP, hK, hD0, hE⟩ := hv
  have hx := B.exec
  have hb := B.bytes
  have hr := B.returns
  have hts0 := atoms_spec (ws := (wsgH yL_day cL_day 6 (some .int) [(0, 12, 15, 22), (0, 12, 19, 13)])) B.pre
  have hts : ∀ w ∈ wsL_law, w.before _ s = true := fun w h => hts0 w (List.mem_cons_of_mem _ h)
  have hown : s.vm.findClass RL = some m.cls := by have h9 := findClass_of_methodNamed B.named; exact h9
  have hlocks := B.notSynchronized
  subst hsz
  have hD := hD0.self (sz := s.heap.size)
  generalize hAe : va_A ([(o1, eL cy fo)] ++ WC cy ad ks g u0) s.heap.size = A at hD hE ⊢
  have hA : ∀ q : Nat, s.heap.size ≤ q → A q := fun q h => by rw [← hAe]; exact Or.inr h
  have hS : va_S A s.heap s.heap [] := va_S.rf
  have hl := lv_entry ([.ref (ad .cl), .int a1, .int a2, .int a3, .ref o1]) (n := 6) (Nat.le_of_ble_eq_true rfl)
  rw [lg_entry_eq]
  generalize (lg_sl ([.ref (ad .cl), .int a1, .int a2, .int a3, .ref o1]) ++ List.replicate (6 - (lg_sl ([.ref (ad .cl), .int a1, .int a2, .int a3, .ref o1])).length) Slot.unset).toArray = ls at hl ⊢
  have hl : lv_has ls 6 [(0, .ref (ad .cl)), (1, .int a1), (2, .int a2), (3, .int a3), (4, .ref o1)] := hl
  generalize hHe : s.heap = H at hP hS ⊢
  have hS : va_S A s.heap H [] := by rw [hHe]; exact hS
  have htab := vx_table (x := yL_day) B (hts0 (.codeWith yL_day cL_day 6 (some .int) [(0, 12, 15, 22), (0, 12, 19, 13)]) List.mem_cons_self)
  refine lv_aload hx hb dL_day_0 (lv_at hl 4 rfl) ?_
  refine lv_iconst (v := 0) hx hb dL_day_2 (by decide) ?_
  refine lv_aload_n hx hb dL_day_3 rfl (lv_at hl 0 rfl) ?_
  refine lv_iload_n hx hb dL_day_4 rfl (lv_at hl 1 rfl) ?_
  refine lv_iload_n hx hb dL_day_5 rfl (lv_at hl 2 rfl) ?_
  refine lv_iload_n hx hb dL_day_6 rfl (lv_at hl 3 rfl) ?_
  have hPc : va_P (dC, dI) vwCl (WC cy ad ks g u0) H := hP.part (X := [(o1, eL cy fo)]) (cx := []) [] rfl
  have hDc : va_D A (WC cy ad ks g u0) := hD.part (X := [(o1, eL cy fo)]) (cx := []) [] (by decide) rfl
  have hFc : ∀ q, va_A (WC cy ad ks g u0) H.size q → A q := va_freeP (X := [(o1, eL cy fo)]) (cx := []) hD hS hA [] rfl
  obtain ⟨q8, h8⟩ := wc_at (cy := cy) (ad := ad) (ks := ks) (g := g) (u := u0) (κ := .cl) hk.1 True.intro
  refine va_calli (va_runV (As := [.int a1, .int a2, .int a3]) (rest := [.int 0, .ref o1]) ⟨hx, hb, hml, hown, hts⟩ (c_X7_day l dC dI cy nb ad ks g hk u0 a1 a2 a3 ro H.size hF) (cwV 3 hts (gV mw_875 mw_876 mw_877 mw_2 mw_878) rfl rfl rfl (by decide +kernel) ⟨Nat.le_of_ble_eq_true rfl, Nat.le_of_ble_eq_true rfl⟩) (my_preV hPc hK hDc hE hS hFc (va_recv (q := (RX7, TX7, 12)) hK hPc (ci := 7) (q0 := q8) rfl h8)) rfl rfl hl.1 rfl (lv_room (Nat.le_of_ble_eq_true rfl)) dL_day_7 ⟨Nat.le_of_ble_eq_true rfl, Nat.le_of_ble_eq_true rfl⟩) hS (fun q _ h => hFc q h) hFc (fun r u t H1 locs ht hvm hw hB hz1 hk1 hS => ?_)
  clear h8
  obtain ⟨hP1, hD1⟩ := hB
  rw [ht] at hP1
  obtain ⟨hP, hD⟩ := va_joinP (X := [(o1, eL cy fo)]) (cx := []) (wr := [(o1, eL cy fo)]) (rx := []) (pl := WC cy ad ks g u0) (pl1 := WC cy ad ks g u0) hP hD [] [0] rfl rfl (by decide) (by decide) hk1 hFc hP1 hD1
  generalize H1 = H at hP hS ⊢
  have hP : va_P (dC, dI) vwCl ([(o1, eL cy fo)] ++ WC cy ad ks g u0) H := hP
  have hD : va_D A ([(o1, eL cy fo)] ++ WC cy ad ks g u0) := hD
  refine my_topi hw ?_
  refine W.widen (k := 0) (n := 0) (by omega) (by omega) ?_
  refine lv_i2l (v := ro.toInt64) hx hb dL_day_10 rfl ?_
  refine va_last hx hb hK hP hD hS 0 3 rfl rfl (vp_in_nI (n := 0) (by decide) (by decide)) dL_day_11 (fun H locs hP hD hS => ?_)
  have hP : va_P (dC, dI) vwCl ([(o1, eL cy (vp_updL fo ((0 : Int32).toNatClampNeg) (ro.toInt64)))] ++ WC cy ad ks g u0) H := hP
  have hD : va_D A ([(o1, eL cy (vp_updL fo ((0 : Int32).toNatClampNeg) (ro.toInt64)))] ++ WC cy ad ks g u0) := hD
  refine lv_goto (tgt := 23) hx hb dL_day_12 (by decide) ?_
  refine lv_iconst (v := 0) hx hb dL_day_23 (by decide) ?_
  refine vx_ret ?_
  exact W.iret (v := 0) hx hb hr (fun t ht hW => ⟨⟨0, (), rfl, rfl, by rw [ht]; exact hP, hD⟩, hS.F ht⟩) hS.2.2 dL_day_24
set_option maxHeartbeats 4000000 in
set_option maxRecDepth 100000 in
theorem ct_day (l : Launch) (hst : l.stackTraces = false) (dC : Nat → ClassId) (dI : Nat → Nat → Nat) (cy : Nat → ClassId) (nb : Nat → Nat) (ad : CK → Nat) (ks : List CK) (g : CG) (hk : GA nb ad g ks) (u0 : RS) (a1 : Int32) (a2 : Int32) (a3 : Int32) (o1 : Nat) (fo : Nat → Int64) (xc : Int32) (sz : Nat) (hF : C7_day g u0 a1 a2 a3 = some (.inl xc)) : vx_Met l yL_day (wsgH yL_day cL_day 6 (some .int) [(0, 12, 15, 22), (0, 12, 19, 13)]) ({ frames := 9, cells := 1, slots := 6, locals := 400 }) (va_Pc [.ref (ad .cl), .int a1, .int a2, .int a3, .ref o1] (fun U => U.heap.size = sz ∧ va_P (dC, dI) vwCl ([(o1, eL cy fo)] ++ WC cy ad ks g u0) U.heap ∧ va_K (dC, dI) vwCl (tyL cy) U ∧ va_D (fun _ => True) ([(o1, eL cy fo)] ++ WC cy ad ks g u0) ∧ GE nb (va_A ([(o1, eL cy fo)] ++ WC cy ad ks g u0) sz) U)) (va_Qi (fun (r : Int32) (_ : Unit) => r = if xc = 1 then 1 else 2) (fun _ t => va_P (dC, dI) vwCl ([(o1, eL cy fo)] ++ WC cy ad ks g u0) t.heap ∧ va_D (va_A ([(o1, eL cy fo)] ++ WC cy ad ks g u0) sz) ([(o1, eL cy fo)] ++ WC cy ad ks g u0)) (va_A ([(o1, eL cy fo)] ++ WC cy ad ks g u0) sz)) (vx_X (fun (_ : Unit) => False) (fun _ _ _ => True) (va_A ([(o1, eL cy fo)] ++ WC cy ad ks g u0) sz)) 1 6 (va_A ([(o1, eL cy fo)] ++ WC cy ad ks g u0) sz) := by
  refine vx_ofWH (cc := cL_day) (maxL := 6) (ret := (some .int)) (hh := [(0, 12, 15, 22), (0, 12, 19, 13)]) pn_L rfl ?_
  intro p e s m args below meth c s₁ B hml hv
  obtain ⟨rfl, hsz, hP, hK, hD0, hE⟩ := hv
  have hx := B.exec
  have hb := B.bytes
  have hr := B.returns
  have hts0 := atoms_spec (ws := (wsgH yL_day cL_day 6 (some .int) [(0, 12, 15, 22), (0, 12, 19, 13)])) B.pre
  have hts : ∀ w ∈ wsL_law, w.before _ s = true := fun w h => hts0 w (List.mem_cons_of_mem _ h)
  have hown : s.vm.findClass RL = some m.cls := by have h9 := findClass_of_methodNamed B.named; exact h9
  have hlocks := B.notSynchronized
  subst hsz
  have hD := hD0.self (sz := s.heap.size)
  generalize hAe : va_A ([(o1, eL cy fo)] ++ WC cy ad ks g u0) s.heap.size = A at hD hE ⊢
  have hA : ∀ q : Nat, s.heap.size ≤ q → A q := fun q h => by rw [← hAe]; exact Or.inr h
  have hS : va_S A s.heap s.heap [] := va_S.rf
  have hl := lv_entry ([.ref (ad .cl), .int a1, .int a2, .int a3, .ref o1]) (n := 6) (Nat.le_of_ble_eq_true rfl)
  rw [lg_entry_eq]
  generalize (lg_sl ([.ref (ad .cl), .int a1, .int a2, .int a3, .ref o1]) ++ List.replicate (6 - (lg_sl ([.ref (ad .cl), .int a1, .int a2, .int a3, .ref o1])).length) Slot.unset).toArray = ls at hl ⊢
  have hl : lv_has ls 6 [(0, .ref (ad .cl)), (1, .int a1), (2, .int a2), (3, .int a3), (4, .ref o1)] := hl
  generalize hHe : s.heap = H at hP hS ⊢
  have hS : va_S A s.heap H [] := by rw [hHe]; exact hS
  have htab := vx_table (x := yL_day) B (hts0 (.codeWith yL_day cL_day 6 (some .int) [(0, 12, 15, 22), (0, 12, 19, 13)]) List.mem_cons_self)
  refine lv_aload hx hb dL_day_0 (lv_at hl 4 rfl) ?_
  refine lv_iconst (v := 0) hx hb dL_day_2 (by decide) ?_
  refine lv_aload_n hx hb dL_day_3 rfl (lv_at hl 0 rfl) ?_
  refine lv_iload_n hx hb dL_day_4 rfl (lv_at hl 1 rfl) ?_
  refine lv_iload_n hx hb dL_day_5 rfl (lv_at hl 2 rfl) ?_
  refine lv_iload_n hx hb dL_day_6 rfl (lv_at hl 3 rfl) ?_
  have hPc : va_P (dC, dI) vwCl (WC cy ad ks g u0) H := hP.part (X := [(o1, eL cy fo)]) (cx := []) [] rfl
  have hDc : va_D A (WC cy ad ks g u0) := hD.part (X := [(o1, eL cy fo)]) (cx := []) [] (by decide) rfl
  have hFc : ∀ q, va_A (WC cy ad ks g u0) H.size q → A q := va_freeP (X := [(o1, eL cy fo)]) (cx := []) hD hS hA [] rfl
  obtain ⟨q8, h8⟩ := wc_at (cy := cy) (ad := ad) (ks := ks) (g := g) (u := u0) (κ := .cl) hk.1 True.intro
  refine vx_calli (vx_runV (As := [.int a1, .int a2, .int a3]) (rest := [.int 0, .ref o1]) ⟨hx, hb, hml, hown, hts⟩ (c_X7_day_y l hst dC dI cy nb ad ks g hk u0 a1 a2 a3 xc H.size hF) (cwV 3 hts (gV mw_875 mw_876 mw_877 mw_2 mw_878) rfl rfl rfl (by decide +kernel) ⟨Nat.le_of_ble_eq_true rfl, Nat.le_of_ble_eq_true rfl⟩) (my_preV hPc hK hDc hE hS hFc (va_recv (q := (RX7, TX7, 12)) hK hPc (ci := 7) (q0 := q8) rfl h8)) rfl rfl hl.1 rfl (lv_room (Nat.le_of_ble_eq_true rfl)) dL_day_7 ⟨Nat.le_of_ble_eq_true rfl, Nat.le_of_ble_eq_true rfl⟩) hS (fun q _ h => hFc q h) hFc (fun q _ h => hFc q h) (fun E9 ce9 q9 u9 t9 H1 locs1 ht9 hvm9 hp9 hB9 hz9 hk9 hS9 hc9 hv9 hcl9 => ?_) (fun r9 u9 t9 H1 locs1 ht9 hvm9 hp9 _ _ _ _ => hp9.elim)
  clear h8
  obtain ⟨hB8, hP1⟩ := hB9
  rw [ht9] at hP1
  obtain ⟨hP, hD⟩ := va_joinP (X := [(o1, eL cy fo)]) (cx := []) (wr := [(o1, eL cy fo)]) (rx := []) (pl := WC cy ad ks g u0) (pl1 := WC cy ad ks g u0) hP hD [] [0] rfl rfl (by decide) (by decide) hk9 hFc hP1 hDc.self
  have hP : va_P (dC, dI) vwCl ([(o1, eL cy fo)] ++ WC cy ad ks g u0) H1 := hP
  have hD : va_D A ([(o1, eL cy fo)] ++ WC cy ad ks g u0) := hD
  by_cases hxc : xc = 1
  · obtain rfl : E9 = xI := hB8.trans (if_pos hxc)
    refine vx_catch (own := RL) (name := xI) hown (tableOf []) _ (tableOf [(0, 12, 19, 13)]) (htab.trans rfl) (fun z hz => nomatch hz) (by decide) (by decide) (hts _ mw_612) (va_Nw.use rfl hE.cI) hc9 hv9 hcl9 ?_
    generalize H1 = H at hP hS9 ⊢
    refine W.widen (k := 1) (n := 6) (by omega) (by omega) ?_
    refine lv_astore (lv' := [(5, .ref q9), (0, .ref (ad .cl)), (1, .int a1), (2, .int a2), (3, .int a3), (4, .ref o1)]) hx hb dL_day_15 hl (by decide) rfl (fun ls hl => ?_)
    refine lv_iconst (v := 1) hx hb dL_day_17 (by decide) ?_
    refine vx_ret ?_
    exact W.iret (v := 1) hx hb hr (fun t ht hW => ⟨⟨1, (), rfl, (if_pos hxc).symm, by rw [ht]; exact hP, hD⟩, hS9.F ht⟩) hS9.2.2 dL_day_18
  · obtain rfl : E9 = xA := hB8.trans (if_neg hxc)
    refine vx_catch (own := RL) (name := xA) hown (tableOf [(0, 12, 15, 22)]) _ (tableOf []) (htab.trans rfl) (fun z hz => by obtain rfl := List.mem_singleton.mp hz; exact Or.inr ⟨by decide, xI, hts _ mw_612, hE.nc⟩) (by decide) (by decide) (hts _ mw_564) (va_Nw.use rfl hE.cA) hc9 hv9 hcl9 ?_
    generalize H1 = H at hP hS9 ⊢
    refine W.widen (k := 1) (n := 6) (by omega) (by omega) ?_
    refine lv_astore (lv' := [(5, .ref q9), (0, .ref (ad .cl)), (1, .int a1), (2, .int a2), (3, .int a3), (4, .ref o1)]) hx hb dL_day_19 hl (by decide) rfl (fun ls hl => ?_)
    refine lv_iconst (v := 2) hx hb dL_day_21 (by decide) ?_
    refine vx_ret ?_
    exact W.iret (v := 2) hx hb hr (fun t ht hW => ⟨⟨2, (), rfl, (if_neg hxc).symm, by rw [ht]; exact hP, hD⟩, hS9.F ht⟩) hS9.2.2 dL_day_22
set_option maxHeartbeats 4000000 in
set_option maxRecDepth 100000 in
theorem cn_today (l : Launch) (hst : l.stackTraces = false) (dC : Nat → ClassId) (dI : Nat → Nat → Nat) (cy : Nat → ClassId) (nb : Nat → Nat) (ad : CK → Nat) (ks : List CK) (g : CG) (hk : GA nb ad g ks) (u0 : RS) (a1 : Int32) (a2 : Int32) (o1 : Nat) (fo : Nat → Int64) (ro : Int32) (sz : Nat) (hF : C7_today g u0 a1 a2 = some (.inr ro)) : vx_Met l yL_today (wsgH yL_today cL_today 5 (some .int) [(0, 10, 13, 22), (0, 10, 17, 13)]) ({ frames := 9, cells := 0, slots := 0, locals := 400 }) (va_Pc [.ref (ad .cl), .int a1, .int a2, .ref o1] (fun U => U.heap.size = sz ∧ va_P (dC, dI) vwCl ([(o1, eL cy fo)] ++ WC cy ad ks g u0) U.heap ∧ va_K (dC, dI) vwCl (tyL cy) U ∧ va_D (fun _ => True) ([(o1, eL cy fo)] ++ WC cy ad ks g u0) ∧ GE nb (va_A ([(o1, eL cy fo)] ++ WC cy ad ks g u0) sz) U)) (va_Qi (fun (r : Int32) (_ : Unit) => r = 0) (fun _ t => va_P (dC, dI) vwCl ([(o1, eL cy (vp_updL fo ((0 : Int32).toNatClampNeg) (ro.toInt64)))] ++ WC cy ad ks g u0) t.heap ∧ va_D (va_A ([(o1, eL cy fo)] ++ WC cy ad ks g u0) sz) ([(o1, eL cy (vp_updL fo ((0 : Int32).toNatClampNeg) (ro.toInt64)))] ++ WC cy ad ks g u0)) (va_A ([(o1, eL cy fo)] ++ WC cy ad ks g u0) sz)) (vx_X (fun (_ : Unit) => False) (fun _ _ _ => True) (va_A ([(o1, eL cy fo)] ++ WC cy ad ks g u0) sz)) 0 0 (va_A ([(o1, eL cy fo)] ++ WC cy ad ks g u0) sz) := by
  refine vx_ofWH (cc := cL_today) (maxL := 5) (ret := (some .int)) (hh := [(0, 10, 13, 22), (0, 10, 17, 13)]) pn_L rfl ?_
  intro p e s m args below meth c s₁ B hml hv
  obtain ⟨rfl, hsz, hP, hK, hD0, hE⟩ := hv
  have hx := B.exec
  have hb := B.bytes
  have hr := B.returns
  have hts0 := atoms_spec (ws := (wsgH yL_today cL_today 5 (some .int) [(0, 10, 13, 22), (0, 10, 17, 13)])) B.pre
  have hts : ∀ w ∈ wsL_law, w.before _ s = true := fun w h => hts0 w (List.mem_cons_of_mem _ h)
  have hown : s.vm.findClass RL = some m.cls := by have h9 := findClass_of_methodNamed B.named; exact h9
  have hlocks := B.notSynchronized
  subst hsz
  have hD := hD0.self (sz := s.heap.size)
  generalize hAe : va_A ([(o1, eL cy fo)] ++ WC cy ad ks g u0) s.heap.size = A at hD hE ⊢
  have hA : ∀ q : Nat, s.heap.size ≤ q → A q := fun q h => by rw [← hAe]; exact Or.inr h
  have hS : va_S A s.heap s.heap [] := va_S.rf
  have hl := lv_entry ([.ref (ad .cl), .int a1, .int a2, .ref o1]) (n := 5) (Nat.le_of_ble_eq_true rfl)
  rw [lg_entry_eq]
  generalize (lg_sl ([.ref (ad .cl), .int a1, .int a2, .ref o1]) ++ List.replicate (5 - (lg_sl ([.ref (ad .cl), .int a1, .int a2, .ref o1])).length) Slot.unset).toArray = ls at hl ⊢
  have hl : lv_has ls 5 [(0, .ref (ad .cl)), (1, .int a1), (2, .int a2), (3, .ref o1)] := hl
  generalize hHe : s.heap = H at hP hS ⊢
  have hS : va_S A s.heap H [] := by rw [hHe]; exact hS
  have htab := vx_table (x := yL_today) B (hts0 (.codeWith yL_today cL_today 5 (some .int) [(0, 10, 13, 22), (0, 10, 17, 13)]) List.mem_cons_self)
  refine lv_aload_n hx hb dL_today_0 rfl (lv_at hl 3 rfl) ?_
  refine lv_iconst (v := 0) hx hb dL_today_1 (by decide) ?_
  refine lv_aload_n hx hb dL_today_2 rfl (lv_at hl 0 rfl) ?_
  refine lv_iload_n hx hb dL_today_3 rfl (lv_at hl 1 rfl) ?_
  refine lv_iload_n hx hb dL_today_4 rfl (lv_at hl 2 rfl) ?_
  have hPc : va_P (dC, dI) vwCl (WC cy ad ks g u0) H := hP.part (X := [(o1, eL cy fo)]) (cx := []) [] rfl
  have hDc : va_D A (WC cy ad ks g u0) := hD.part (X := [(o1, eL cy fo)]) (cx := []) [] (by decide) rfl
  have hFc : ∀ q, va_A (WC cy ad ks g u0) H.size q → A q := va_freeP (X := [(o1, eL cy fo)]) (cx := []) hD hS hA [] rfl
  obtain ⟨q8, h8⟩ := wc_at (cy := cy) (ad := ad) (ks := ks) (g := g) (u := u0) (κ := .cl) hk.1 True.intro
  refine va_calli (va_runV (As := [.int a1, .int a2]) (rest := [.int 0, .ref o1]) ⟨hx, hb, hml, hown, hts⟩ (c_X7_today l dC dI cy nb ad ks g hk u0 a1 a2 ro H.size hF) (cwV 2 hts (gV mw_892 mw_893 mw_894 mw_2 mw_895) rfl rfl rfl (by decide +kernel) ⟨Nat.le_of_ble_eq_true rfl, Nat.le_of_ble_eq_true rfl⟩) (my_preV hPc hK hDc hE hS hFc (va_recv (q := (RX7, TX7, 12)) hK hPc (ci := 7) (q0 := q8) rfl h8)) rfl rfl hl.1 rfl (lv_room (Nat.le_of_ble_eq_true rfl)) dL_today_5 ⟨Nat.le_of_ble_eq_true rfl, Nat.le_of_ble_eq_true rfl⟩) hS (fun q _ h => hFc q h) hFc (fun r u t H1 locs ht hvm hw hB hz1 hk1 hS => ?_)
  clear h8
  obtain ⟨hP1, hD1⟩ := hB
  rw [ht] at hP1
  obtain ⟨hP, hD⟩ := va_joinP (X := [(o1, eL cy fo)]) (cx := []) (wr := [(o1, eL cy fo)]) (rx := []) (pl := WC cy ad ks g u0) (pl1 := WC cy ad ks g u0) hP hD [] [0] rfl rfl (by decide) (by decide) hk1 hFc hP1 hD1
  generalize H1 = H at hP hS ⊢
  have hP : va_P (dC, dI) vwCl ([(o1, eL cy fo)] ++ WC cy ad ks g u0) H := hP
  have hD : va_D A ([(o1, eL cy fo)] ++ WC cy ad ks g u0) := hD
  refine my_topi hw ?_
  refine W.widen (k := 0) (n := 0) (by omega) (by omega) ?_
  refine lv_i2l (v := ro.toInt64) hx hb dL_today_8 rfl ?_
  refine va_last hx hb hK hP hD hS 0 3 rfl rfl (vp_in_nI (n := 0) (by decide) (by decide)) dL_today_9 (fun H locs hP hD hS => ?_)
  have hP : va_P (dC, dI) vwCl ([(o1, eL cy (vp_updL fo ((0 : Int32).toNatClampNeg) (ro.toInt64)))] ++ WC cy ad ks g u0) H := hP
  have hD : va_D A ([(o1, eL cy (vp_updL fo ((0 : Int32).toNatClampNeg) (ro.toInt64)))] ++ WC cy ad ks g u0) := hD
  refine lv_goto (tgt := 21) hx hb dL_today_10 (by decide) ?_
  refine lv_iconst (v := 0) hx hb dL_today_21 (by decide) ?_
  refine vx_ret ?_
  exact W.iret (v := 0) hx hb hr (fun t ht hW => ⟨⟨0, (), rfl, rfl, by rw [ht]; exact hP, hD⟩, hS.F ht⟩) hS.2.2 dL_today_22
set_option maxHeartbeats 4000000 in
set_option maxRecDepth 100000 in
theorem ct_today (l : Launch) (hst : l.stackTraces = false) (dC : Nat → ClassId) (dI : Nat → Nat → Nat) (cy : Nat → ClassId) (nb : Nat → Nat) (ad : CK → Nat) (ks : List CK) (g : CG) (hk : GA nb ad g ks) (u0 : RS) (a1 : Int32) (a2 : Int32) (o1 : Nat) (fo : Nat → Int64) (xc : Int32) (sz : Nat) (hF : C7_today g u0 a1 a2 = some (.inl xc)) : vx_Met l yL_today (wsgH yL_today cL_today 5 (some .int) [(0, 10, 13, 22), (0, 10, 17, 13)]) ({ frames := 9, cells := 1, slots := 6, locals := 400 }) (va_Pc [.ref (ad .cl), .int a1, .int a2, .ref o1] (fun U => U.heap.size = sz ∧ va_P (dC, dI) vwCl ([(o1, eL cy fo)] ++ WC cy ad ks g u0) U.heap ∧ va_K (dC, dI) vwCl (tyL cy) U ∧ va_D (fun _ => True) ([(o1, eL cy fo)] ++ WC cy ad ks g u0) ∧ GE nb (va_A ([(o1, eL cy fo)] ++ WC cy ad ks g u0) sz) U)) (va_Qi (fun (r : Int32) (_ : Unit) => r = if xc = 1 then 1 else 2) (fun _ t => va_P (dC, dI) vwCl ([(o1, eL cy fo)] ++ WC cy ad ks g u0) t.heap ∧ va_D (va_A ([(o1, eL cy fo)] ++ WC cy ad ks g u0) sz) ([(o1, eL cy fo)] ++ WC cy ad ks g u0)) (va_A ([(o1, eL cy fo)] ++ WC cy ad ks g u0) sz)) (vx_X (fun (_ : Unit) => False) (fun _ _ _ => True) (va_A ([(o1, eL cy fo)] ++ WC cy ad ks g u0) sz)) 1 6 (va_A ([(o1, eL cy fo)] ++ WC cy ad ks g u0) sz) := by
  refine vx_ofWH (cc := cL_today) (maxL := 5) (ret := (some .int)) (hh := [(0, 10, 13, 22), (0, 10, 17, 13)]) pn_L rfl ?_
  intro p e s m args below meth c s₁ B hml hv
  obtain ⟨rfl, hsz, hP, hK, hD0, hE⟩ := hv
  have hx := B.exec
  have hb := B.bytes
  have hr := B.returns
  have hts0 := atoms_spec (ws := (wsgH yL_today cL_today 5 (some .int) [(0, 10, 13, 22), (0, 10, 17, 13)])) B.pre
  have hts : ∀ w ∈ wsL_law, w.before _ s = true := fun w h => hts0 w (List.mem_cons_of_mem _ h)
  have hown : s.vm.findClass RL = some m.cls := by have h9 := findClass_of_methodNamed B.named; exact h9
  have hlocks := B.notSynchronized
  subst hsz
  have hD := hD0.self (sz := s.heap.size)
  generalize hAe : va_A ([(o1, eL cy fo)] ++ WC cy ad ks g u0) s.heap.size = A at hD hE ⊢
  have hA : ∀ q : Nat, s.heap.size ≤ q → A q := fun q h => by rw [← hAe]; exact Or.inr h
  have hS : va_S A s.heap s.heap [] := va_S.rf
  have hl := lv_entry ([.ref (ad .cl), .int a1, .int a2, .ref o1]) (n := 5) (Nat.le_of_ble_eq_true rfl)
  rw [lg_entry_eq]
  generalize (lg_sl ([.ref (ad .cl), .int a1, .int a2, .ref o1]) ++ List.replicate (5 - (lg_sl ([.ref (ad .cl), .int a1, .int a2, .ref o1])).length) Slot.unset).toArray = ls at hl ⊢
  have hl : lv_has ls 5 [(0, .ref (ad .cl)), (1, .int a1), (2, .int a2), (3, .ref o1)] := hl
  generalize hHe : s.heap = H at hP hS ⊢
  have hS : va_S A s.heap H [] := by rw [hHe]; exact hS
  have htab := vx_table (x := yL_today) B (hts0 (.codeWith yL_today cL_today 5 (some .int) [(0, 10, 13, 22), (0, 10, 17, 13)]) List.mem_cons_self)
  refine lv_aload_n hx hb dL_today_0 rfl (lv_at hl 3 rfl) ?_
  refine lv_iconst (v := 0) hx hb dL_today_1 (by decide) ?_
  refine lv_aload_n hx hb dL_today_2 rfl (lv_at hl 0 rfl) ?_
  refine lv_iload_n hx hb dL_today_3 rfl (lv_at hl 1 rfl) ?_
  refine lv_iload_n hx hb dL_today_4 rfl (lv_at hl 2 rfl) ?_
  have hPc : va_P (dC, dI) vwCl (WC cy ad ks g u0) H := hP.part (X := [(o1, eL cy fo)]) (cx := []) [] rfl
  have hDc : va_D A (WC cy ad ks g u0) := hD.part (X := [(o1, eL cy fo)]) (cx := []) [] (by decide) rfl
  have hFc : ∀ q, va_A (WC cy ad ks g u0) H.size q → A q := va_freeP (X := [(o1, eL cy fo)]) (cx := []) hD hS hA [] rfl
  obtain ⟨q8, h8⟩ := wc_at (cy := cy) (ad := ad) (ks := ks) (g := g) (u := u0) (κ := .cl) hk.1 True.intro
  refine vx_calli (vx_runV (As := [.int a1, .int a2]) (rest := [.int 0, .ref o1]) ⟨hx, hb, hml, hown, hts⟩ (c_X7_today_y l hst dC dI cy nb ad ks g hk u0 a1 a2 xc H.size hF) (cwV 2 hts (gV mw_892 mw_893 mw_894 mw_2 mw_895) rfl rfl rfl (by decide +kernel) ⟨Nat.le_of_ble_eq_true rfl, Nat.le_of_ble_eq_true rfl⟩) (my_preV hPc hK hDc hE hS hFc (va_recv (q := (RX7, TX7, 12)) hK hPc (ci := 7) (q0 := q8) rfl h8)) rfl rfl hl.1 rfl (lv_room (Nat.le_of_ble_eq_true rfl)) dL_today_5 ⟨Nat.le_of_ble_eq_true rfl, Nat.le_of_ble_eq_true rfl⟩) hS (fun q _ h => hFc q h) hFc (fun q _ h => hFc q h) (fun E9 ce9 q9 u9 t9 H1 locs1 ht9 hvm9 hp9 hB9 hz9 hk9 hS9 hc9 hv9 hcl9 => ?_) (fun r9 u9 t9 H1 locs1 ht9 hvm9 hp9 _ _ _ _ => hp9.elim)
  clear h8
  obtain ⟨hB8, hP1⟩ := hB9
  rw [ht9] at hP1
  obtain ⟨hP, hD⟩ := va_joinP (X := [(o1, eL cy fo)]) (cx := []) (wr := [(o1, eL cy fo)]) (rx := []) (pl := WC cy ad ks g u0) (pl1 := WC cy ad ks g u0) hP hD [] [0] rfl rfl (by decide) (by decide) hk9 hFc hP1 hDc.self
  have hP : va_P (dC, dI) vwCl ([(o1, eL cy fo)] ++ WC cy ad ks g u0) H1 := hP
  have hD : va_D A ([(o1, eL cy fo)] ++ WC cy ad ks g u0) := hD
  by_cases hxc : xc = 1
  · obtain rfl : E9 = xI := hB8.trans (if_pos hxc)
    refine vx_catch (own := RL) (name := xI) hown (tableOf []) _ (tableOf [(0, 10, 17, 13)]) (htab.trans rfl) (fun z hz => nomatch hz) (by decide) (by decide) (hts _ mw_612) (va_Nw.use rfl hE.cI) hc9 hv9 hcl9 ?_
    generalize H1 = H at hP hS9 ⊢
    refine W.widen (k := 1) (n := 6) (by omega) (by omega) ?_
    refine lv_astore (lv' := [(4, .ref q9), (0, .ref (ad .cl)), (1, .int a1), (2, .int a2), (3, .ref o1)]) hx hb dL_today_13 hl (by decide) rfl (fun ls hl => ?_)
    refine lv_iconst (v := 1) hx hb dL_today_15 (by decide) ?_
    refine vx_ret ?_
    exact W.iret (v := 1) hx hb hr (fun t ht hW => ⟨⟨1, (), rfl, (if_pos hxc).symm, by rw [ht]; exact hP, hD⟩, hS9.F ht⟩) hS9.2.2 dL_today_16
  · obtain rfl : E9 = xA := hB8.trans (if_neg hxc)
    refine vx_catch (own := RL) (name := xA) hown (tableOf [(0, 10, 13, 22)]) _ (tableOf []) (htab.trans rfl) (fun z hz => by obtain rfl := List.mem_singleton.mp hz; exact Or.inr ⟨by decide, xI, hts _ mw_612, hE.nc⟩) (by decide) (by decide) (hts _ mw_564) (va_Nw.use rfl hE.cA) hc9 hv9 hcl9 ?_
    generalize H1 = H at hP hS9 ⊢
    refine W.widen (k := 1) (n := 6) (by omega) (by omega) ?_
    refine lv_astore (lv' := [(4, .ref q9), (0, .ref (ad .cl)), (1, .int a1), (2, .int a2), (3, .ref o1)]) hx hb dL_today_17 hl (by decide) rfl (fun ls hl => ?_)
    refine lv_iconst (v := 2) hx hb dL_today_19 (by decide) ?_
    refine vx_ret ?_
    exact W.iret (v := 2) hx hb hr (fun t ht hW => ⟨⟨2, (), rfl, (if_neg hxc).symm, by rw [ht]; exact hP, hD⟩, hS9.F ht⟩) hS9.2.2 dL_today_20
set_option maxHeartbeats 4000000 in
set_option maxRecDepth 100000 in
theorem cn_total (l : Launch) (hst : l.stackTraces = false) (dC : Nat → ClassId) (dI : Nat → Nat → Nat) (cy : Nat → ClassId) (nb : Nat → Nat) (ad : CK → Nat) (ks : List CK) (g : CG) (hk : GA nb ad g ks) (u0 : RS) (a1 : Int32) (o1 : Nat) (fo : Nat → Int64) (ro : Int32) (sz : Nat) (hF : C7_total g u0 a1 = some (.inr ro)) : vx_Met l yL_total (wsgH yL_total cL_total 4 (some .int) [(0, 9, 12, 13)]) ({ frames := 9, cells := 0, slots := 0, locals := 400 }) (va_Pc [.ref (ad .cl), .int a1, .ref o1] (fun U => U.heap.size = sz ∧ va_P (dC, dI) vwCl ([(o1, eL cy fo)] ++ WC cy ad ks g u0) U.heap ∧ va_K (dC, dI) vwCl (tyL cy) U ∧ va_D (fun _ => True) ([(o1, eL cy fo)] ++ WC cy ad ks g u0) ∧ GE nb (va_A ([(o1, eL cy fo)] ++ WC cy ad ks g u0) sz) U)) (va_Qi (fun (r : Int32) (_ : Unit) => r = 0) (fun _ t => va_P (dC, dI) vwCl ([(o1, eL cy (vp_updL fo ((0 : Int32).toNatClampNeg) (ro.toInt64)))] ++ WC cy ad ks g u0) t.heap ∧ va_D (va_A ([(o1, eL cy fo)] ++ WC cy ad ks g u0) sz) ([(o1, eL cy (vp_updL fo ((0 : Int32).toNatClampNeg) (ro.toInt64)))] ++ WC cy ad ks g u0)) (va_A ([(o1, eL cy fo)] ++ WC cy ad ks g u0) sz)) (vx_X (fun (_ : Unit) => False) (fun _ _ _ => True) (va_A ([(o1, eL cy fo)] ++ WC cy ad ks g u0) sz)) 0 0 (va_A ([(o1, eL cy fo)] ++ WC cy ad ks g u0) sz) := by
  refine vx_ofWH (cc := cL_total) (maxL := 4) (ret := (some .int)) (hh := [(0, 9, 12, 13)]) pn_L rfl ?_
  intro p e s m args below meth c s₁ B hml hv
  obtain ⟨rfl, hsz, hP, hK, hD0, hE⟩ := hv
  have hx := B.exec
  have hb := B.bytes
  have hr := B.returns
  have hts0 := atoms_spec (ws := (wsgH yL_total cL_total 4 (some .int) [(0, 9, 12, 13)])) B.pre
  have hts : ∀ w ∈ wsL_law, w.before _ s = true := fun w h => hts0 w (List.mem_cons_of_mem _ h)
  have hown : s.vm.findClass RL = some m.cls := by have h9 := findClass_of_methodNamed B.named; exact h9
  have hlocks := B.notSynchronized
  subst hsz
  have hD := hD0.self (sz := s.heap.size)
  generalize hAe : va_A ([(o1, eL cy fo)] ++ WC cy ad ks g u0) s.heap.size = A at hD hE ⊢
  have hA : ∀ q : Nat, s.heap.size ≤ q → A q := fun q h => by rw [← hAe]; exact Or.inr h
  have hS : va_S A s.heap s.heap [] := va_S.rf
  have hl := lv_entry ([.ref (ad .cl), .int a1, .ref o1]) (n := 4) (Nat.le_of_ble_eq_true rfl)
  rw [lg_entry_eq]
  generalize (lg_sl ([.ref (ad .cl), .int a1, .ref o1]) ++ List.replicate (4 - (lg_sl ([.ref (ad .cl), .int a1, .ref o1])).length) Slot.unset).toArray = ls at hl ⊢
  have hl : lv_has ls 4 [(0, .ref (ad .cl)), (1, .int a1), (2, .ref o1)] := hl
  generalize hHe : s.heap = H at hP hS ⊢
  have hS : va_S A s.heap H [] := by rw [hHe]; exact hS
  have htab := vx_table (x := yL_total) B (hts0 (.codeWith yL_total cL_total 4 (some .int) [(0, 9, 12, 13)]) List.mem_cons_self)
  refine lv_aload_n hx hb dL_total_0 rfl (lv_at hl 2 rfl) ?_
  refine lv_iconst (v := 0) hx hb dL_total_1 (by decide) ?_
  refine lv_aload_n hx hb dL_total_2 rfl (lv_at hl 0 rfl) ?_
  refine lv_iload_n hx hb dL_total_3 rfl (lv_at hl 1 rfl) ?_
  have hPc : va_P (dC, dI) vwCl (WC cy ad ks g u0) H := hP.part (X := [(o1, eL cy fo)]) (cx := []) [] rfl
  have hDc : va_D A (WC cy ad ks g u0) := hD.part (X := [(o1, eL cy fo)]) (cx := []) [] (by decide) rfl
  have hFc : ∀ q, va_A (WC cy ad ks g u0) H.size q → A q := va_freeP (X := [(o1, eL cy fo)]) (cx := []) hD hS hA [] rfl
  obtain ⟨q8, h8⟩ := wc_at (cy := cy) (ad := ad) (ks := ks) (g := g) (u := u0) (κ := .cl) hk.1 True.intro
  refine va_calli (va_runV (As := [.int a1]) (rest := [.int 0, .ref o1]) ⟨hx, hb, hml, hown, hts⟩ (c_X7_total l dC dI cy nb ad ks g hk u0 a1 ro H.size hF) (cwV 1 hts (gV mw_905 mw_906 mw_907 mw_2 mw_908) rfl rfl rfl (by decide +kernel) ⟨Nat.le_of_ble_eq_true rfl, Nat.le_of_ble_eq_true rfl⟩) (my_preV hPc hK hDc hE hS hFc (va_recv (q := (RX7, TX7, 12)) hK hPc (ci := 7) (q0 := q8) rfl h8)) rfl rfl hl.1 rfl (lv_room (Nat.le_of_ble_eq_true rfl)) dL_total_4 ⟨Nat.le_of_ble_eq_true rfl, Nat.le_of_ble_eq_true rfl⟩) hS (fun q _ h => hFc q h) hFc (fun r u t H1 locs ht hvm hw hB hz1 hk1 hS => ?_)
  clear h8
  obtain ⟨hP1, hD1⟩ := hB
  rw [ht] at hP1
  obtain ⟨hP, hD⟩ := va_joinP (X := [(o1, eL cy fo)]) (cx := []) (wr := [(o1, eL cy fo)]) (rx := []) (pl := WC cy ad ks g u0) (pl1 := WC cy ad ks g u0) hP hD [] [0] rfl rfl (by decide) (by decide) hk1 hFc hP1 hD1
  generalize H1 = H at hP hS ⊢
  have hP : va_P (dC, dI) vwCl ([(o1, eL cy fo)] ++ WC cy ad ks g u0) H := hP
  have hD : va_D A ([(o1, eL cy fo)] ++ WC cy ad ks g u0) := hD
  refine my_topi hw ?_
  refine W.widen (k := 0) (n := 0) (by omega) (by omega) ?_
  refine lv_i2l (v := ro.toInt64) hx hb dL_total_7 rfl ?_
  refine va_last hx hb hK hP hD hS 0 3 rfl rfl (vp_in_nI (n := 0) (by decide) (by decide)) dL_total_8 (fun H locs hP hD hS => ?_)
  have hP : va_P (dC, dI) vwCl ([(o1, eL cy (vp_updL fo ((0 : Int32).toNatClampNeg) (ro.toInt64)))] ++ WC cy ad ks g u0) H := hP
  have hD : va_D A ([(o1, eL cy (vp_updL fo ((0 : Int32).toNatClampNeg) (ro.toInt64)))] ++ WC cy ad ks g u0) := hD
  refine lv_goto (tgt := 15) hx hb dL_total_9 (by decide) ?_
  refine lv_iconst (v := 0) hx hb dL_total_15 (by decide) ?_
  refine vx_ret ?_
  exact W.iret (v := 0) hx hb hr (fun t ht hW => ⟨⟨0, (), rfl, rfl, by rw [ht]; exact hP, hD⟩, hS.F ht⟩) hS.2.2 dL_total_16
set_option maxHeartbeats 4000000 in
set_option maxRecDepth 100000 in
theorem ct_total (l : Launch) (hst : l.stackTraces = false) (dC : Nat → ClassId) (dI : Nat → Nat → Nat) (cy : Nat → ClassId) (nb : Nat → Nat) (ad : CK → Nat) (ks : List CK) (g : CG) (hk : GA nb ad g ks) (u0 : RS) (a1 : Int32) (o1 : Nat) (fo : Nat → Int64) (xc : Int32) (sz : Nat) (hxc : ¬ xc = 1) (hF : C7_total g u0 a1 = some (.inl xc)) : vx_Met l yL_total (wsgH yL_total cL_total 4 (some .int) [(0, 9, 12, 13)]) ({ frames := 9, cells := 1, slots := 6, locals := 400 }) (va_Pc [.ref (ad .cl), .int a1, .ref o1] (fun U => U.heap.size = sz ∧ va_P (dC, dI) vwCl ([(o1, eL cy fo)] ++ WC cy ad ks g u0) U.heap ∧ va_K (dC, dI) vwCl (tyL cy) U ∧ va_D (fun _ => True) ([(o1, eL cy fo)] ++ WC cy ad ks g u0) ∧ GE nb (va_A ([(o1, eL cy fo)] ++ WC cy ad ks g u0) sz) U)) (va_Qi (fun (r : Int32) (_ : Unit) => r = 1) (fun _ t => va_P (dC, dI) vwCl ([(o1, eL cy fo)] ++ WC cy ad ks g u0) t.heap ∧ va_D (va_A ([(o1, eL cy fo)] ++ WC cy ad ks g u0) sz) ([(o1, eL cy fo)] ++ WC cy ad ks g u0)) (va_A ([(o1, eL cy fo)] ++ WC cy ad ks g u0) sz)) (vx_X (fun (_ : Unit) => False) (fun _ _ _ => True) (va_A ([(o1, eL cy fo)] ++ WC cy ad ks g u0) sz)) 1 6 (va_A ([(o1, eL cy fo)] ++ WC cy ad ks g u0) sz) := by
  refine vx_ofWH (cc := cL_total) (maxL := 4) (ret := (some .int)) (hh := [(0, 9, 12, 13)]) pn_L rfl ?_
  intro p e s m args below meth c s₁ B hml hv
  obtain ⟨rfl, hsz, hP, hK, hD0, hE⟩ := hv
  have hx := B.exec
  have hb := B.bytes
  have hr := B.returns
  have hts0 := atoms_spec (ws := (wsgH yL_total cL_total 4 (some .int) [(0, 9, 12, 13)])) B.pre
  have hts : ∀ w ∈ wsL_law, w.before _ s = true := fun w h => hts0 w (List.mem_cons_of_mem _ h)
  have hown : s.vm.findClass RL = some m.cls := by have h9 := findClass_of_methodNamed B.named; exact h9
  have hlocks := B.notSynchronized
  subst hsz
  have hD := hD0.self (sz := s.heap.size)
  generalize hAe : va_A ([(o1, eL cy fo)] ++ WC cy ad ks g u0) s.heap.size = A at hD hE ⊢
  have hA : ∀ q : Nat, s.heap.size ≤ q → A q := fun q h => by rw [← hAe]; exact Or.inr h
  have hS : va_S A s.heap s.heap [] := va_S.rf
  have hl := lv_entry ([.ref (ad .cl), .int a1, .ref o1]) (n := 4) (Nat.le_of_ble_eq_true rfl)
  rw [lg_entry_eq]
  generalize (lg_sl ([.ref (ad .cl), .int a1, .ref o1]) ++ List.replicate (4 - (lg_sl ([.ref (ad .cl), .int a1, .ref o1])).length) Slot.unset).toArray = ls at hl ⊢
  have hl : lv_has ls 4 [(0, .ref (ad .cl)), (1, .int a1), (2, .ref o1)] := hl
  generalize hHe : s.heap = H at hP hS ⊢
  have hS : va_S A s.heap H [] := by rw [hHe]; exact hS
  have htab := vx_table (x := yL_total) B (hts0 (.codeWith yL_total cL_total 4 (some .int) [(0, 9, 12, 13)]) List.mem_cons_self)
  refine lv_aload_n hx hb dL_total_0 rfl (lv_at hl 2 rfl) ?_
  refine lv_iconst (v := 0) hx hb dL_total_1 (by decide) ?_
  refine lv_aload_n hx hb dL_total_2 rfl (lv_at hl 0 rfl) ?_
  refine lv_iload_n hx hb dL_total_3 rfl (lv_at hl 1 rfl) ?_
  have hPc : va_P (dC, dI) vwCl (WC cy ad ks g u0) H := hP.part (X := [(o1, eL cy fo)]) (cx := []) [] rfl
  have hDc : va_D A (WC cy ad ks g u0) := hD.part (X := [(o1, eL cy fo)]) (cx := []) [] (by decide) rfl
  have hFc : ∀ q, va_A (WC cy ad ks g u0) H.size q → A q := va_freeP (X := [(o1, eL cy fo)]) (cx := []) hD hS hA [] rfl
  obtain ⟨q8, h8⟩ := wc_at (cy := cy) (ad := ad) (ks := ks) (g := g) (u := u0) (κ := .cl) hk.1 True.intro
  refine vx_calli (vx_runV (As := [.int a1]) (rest := [.int 0, .ref o1]) ⟨hx, hb, hml, hown, hts⟩ (c_X7_total_y l hst dC dI cy nb ad ks g hk u0 a1 xc H.size hF) (cwV 1 hts (gV mw_905 mw_906 mw_907 mw_2 mw_908) rfl rfl rfl (by decide +kernel) ⟨Nat.le_of_ble_eq_true rfl, Nat.le_of_ble_eq_true rfl⟩) (my_preV hPc hK hDc hE hS hFc (va_recv (q := (RX7, TX7, 12)) hK hPc (ci := 7) (q0 := q8) rfl h8)) rfl rfl hl.1 rfl (lv_room (Nat.le_of_ble_eq_true rfl)) dL_total_4 ⟨Nat.le_of_ble_eq_true rfl, Nat.le_of_ble_eq_true rfl⟩) hS (fun q _ h => hFc q h) hFc (fun q _ h => hFc q h) (fun E9 ce9 q9 u9 t9 H1 locs1 ht9 hvm9 hp9 hB9 hz9 hk9 hS9 hc9 hv9 hcl9 => ?_) (fun r9 u9 t9 H1 locs1 ht9 hvm9 hp9 _ _ _ _ => hp9.elim)
  clear h8
  obtain ⟨hB8, hP1⟩ := hB9
  rw [ht9] at hP1
  obtain ⟨hP, hD⟩ := va_joinP (X := [(o1, eL cy fo)]) (cx := []) (wr := [(o1, eL cy fo)]) (rx := []) (pl := WC cy ad ks g u0) (pl1 := WC cy ad ks g u0) hP hD [] [0] rfl rfl (by decide) (by decide) hk9 hFc hP1 hDc.self
  have hP : va_P (dC, dI) vwCl ([(o1, eL cy fo)] ++ WC cy ad ks g u0) H1 := hP
  have hD : va_D A ([(o1, eL cy fo)] ++ WC cy ad ks g u0) := hD
  obtain rfl : E9 = xA := hB8.trans (if_neg hxc)
  refine vx_catch (own := RL) (name := xA) hown (tableOf []) _ (tableOf []) (htab.trans rfl) (fun z hz => nomatch hz) (by decide) (by decide) (hts _ mw_564) (va_Nw.use rfl hE.cA) hc9 hv9 hcl9 ?_
  generalize H1 = H at hP hS9 ⊢
  refine W.widen (k := 1) (n := 6) (by omega) (by omega) ?_
  refine lv_astore_n (lv' := [(3, .ref q9), (0, .ref (ad .cl)), (1, .int a1), (2, .ref o1)]) hx hb dL_total_12 rfl hl (by decide) rfl (fun ls hl => ?_)
  refine lv_iconst (v := 1) hx hb dL_total_13 (by decide) ?_
  refine vx_ret ?_
  exact W.iret (v := 1) hx hb hr (fun t ht hW => ⟨⟨1, (), rfl, rfl, by rw [ht]; exact hP, hD⟩, hS9.F ht⟩) hS9.2.2 dL_total_14
end
section
set_option maxHeartbeats 4000000 in
set_option maxRecDepth 100000 in
theorem cn_busyPart (l : Launch) (hst : l.stackTraces = false) (dC : Nat → ClassId) (dI : Nat → Nat → Nat) (cy : Nat → ClassId) (nb : Nat → Nat) (ad : CK → Nat) (ks : List CK) (g : CG) (hk : GA nb ad g ks) (u0 : RS) (a1 : Int32) (o1 : Nat) (fo : Nat → UInt64) (ro : UInt32) (sz : Nat) (hne : vf_n64 (FP.f2d ro)) (hF : C7_busyPart g u0 a1 = some (.inr ro)) : vx_Met l yL_busyPart (wsgH yL_busyPart cL_busyPart 4 (some .int) [(0, 9, 12, 22)]) ({ frames := 9, cells := 0, slots := 0, locals := 400 }) (va_Pc [.ref (ad .cl), .int a1, .ref o1] (fun U => U.heap.size = sz ∧ va_P (dC, dI) vwCl ([(o1, eD cy fo)] ++ WC cy ad ks g u0) U.heap ∧ va_K (dC, dI) vwCl (tyL cy) U ∧ va_D (fun _ => True) ([(o1, eD cy fo)] ++ WC cy ad ks g u0) ∧ GE nb (va_A ([(o1, eD cy fo)] ++ WC cy ad ks g u0) sz) U)) (va_Qi (fun (r : Int32) (_ : Unit) => r = 0) (fun _ t => va_P (dC, dI) vwCl ([(o1, eD cy (vf_upd fo ((0 : Int32).toNatClampNeg) (FP.f2d ro)))] ++ WC cy ad ks g u0) t.heap ∧ va_D (va_A ([(o1, eD cy fo)] ++ WC cy ad ks g u0) sz) ([(o1, eD cy (vf_upd fo ((0 : Int32).toNatClampNeg) (FP.f2d ro)))] ++ WC cy ad ks g u0)) (va_A ([(o1, eD cy fo)] ++ WC cy ad ks g u0) sz)) (vx_X (fun (_ : Unit) => False) (fun _ _ _ => True) (va_A ([(o1, eD cy fo)] ++ WC cy ad ks g u0) sz)) 0 0 (va_A ([(o1, eD cy fo)] ++ WC cy ad ks g u0) sz) := by
  refine vx_ofWH (cc := cL_busyPart) (maxL := 4) (ret := (some .int)) (hh := [(0, 9, 12, 22)]) pn_L rfl ?_
  intro p e s m args below meth c s₁ B hml hv
  obtain ⟨rfl, hsz, hP, hK, hD0, hE⟩ := hv
  have hx := B.exec
  have hb := B.bytes
  have hr := B.returns
  have hts0 := atoms_spec (ws := (wsgH yL_busyPart cL_busyPart 4 (some .int) [(0, 9, 12, 22)])) B.pre
  have hts : ∀ w ∈ wsL_law, w.before _ s = true := fun w h => hts0 w (List.mem_cons_of_mem _ h)
  have hown : s.vm.findClass RL = some m.cls := by have h9 := findClass_of_methodNamed B.named; exact h9
  have hlocks := B.notSynchronized
  subst hsz
  have hD := hD0.self (sz := s.heap.size)
  generalize hAe : va_A ([(o1, eD cy fo)] ++ WC cy ad ks g u0) s.heap.size = A at hD hE ⊢
  have hA : ∀ q : Nat, s.heap.size ≤ q → A q := fun q h => by rw [← hAe]; exact Or.inr h
  have hS : va_S A s.heap s.heap [] := va_S.rf
  have hl := lv_entry ([.ref (ad .cl), .int a1, .ref o1]) (n := 4) (Nat.le_of_ble_eq_true rfl)
  rw [lg_entry_eq]
  generalize (lg_sl ([.ref (ad .cl), .int a1, .ref o1]) ++ List.replicate (4 - (lg_sl ([.ref (ad .cl), .int a1, .ref o1])).length) Slot.unset).toArray = ls at hl ⊢
  have hl : lv_has ls 4 [(0, .ref (ad .cl)), (1, .int a1), (2, .ref o1)] := hl
  generalize hHe : s.heap = H at hP hS ⊢
  have hS : va_S A s.heap H [] := by rw [hHe]; exact hS
  have htab := vx_table (x := yL_busyPart) B (hts0 (.codeWith yL_busyPart cL_busyPart 4 (some .int) [(0, 9, 12, 22)]) List.mem_cons_self)
  refine lv_aload_n hx hb dL_busyPart_0 rfl (lv_at hl 2 rfl) ?_
  refine lv_iconst (v := 0) hx hb dL_busyPart_1 (by decide) ?_
  refine lv_aload_n hx hb dL_busyPart_2 rfl (lv_at hl 0 rfl) ?_
  refine lv_iload_n hx hb dL_busyPart_3 rfl (lv_at hl 1 rfl) ?_
  have hPc : va_P (dC, dI) vwCl (WC cy ad ks g u0) H := hP.part (X := [(o1, eD cy fo)]) (cx := []) [] rfl
  have hDc : va_D A (WC cy ad ks g u0) := hD.part (X := [(o1, eD cy fo)]) (cx := []) [] (by decide) rfl
  have hFc : ∀ q, va_A (WC cy ad ks g u0) H.size q → A q := va_freeP (X := [(o1, eD cy fo)]) (cx := []) hD hS hA [] rfl
  obtain ⟨q8, h8⟩ := wc_at (cy := cy) (ad := ad) (ks := ks) (g := g) (u := u0) (κ := .cl) hk.1 True.intro
  refine va_callf (va_runV (As := [.int a1]) (rest := [.int 0, .ref o1]) ⟨hx, hb, hml, hown, hts⟩ (c_X7_busyPart l dC dI cy nb ad ks g hk u0 a1 ro H.size hF) (cwV 1 hts (gV mw_933 mw_934 mw_935 mw_2 mw_936) rfl rfl rfl (by decide +kernel) ⟨Nat.le_of_ble_eq_true rfl, Nat.le_of_ble_eq_true rfl⟩) (my_preV hPc hK hDc hE hS hFc (va_recv (q := (RX7, TX7, 12)) hK hPc (ci := 7) (q0 := q8) rfl h8)) rfl rfl hl.1 rfl (lv_room (Nat.le_of_ble_eq_true rfl)) dL_busyPart_4 ⟨Nat.le_of_ble_eq_true rfl, Nat.le_of_ble_eq_true rfl⟩) hS (fun q _ h => hFc q h) hFc (fun r u t H1 locs ht hvm hw hB hz1 hk1 hS => ?_)
  clear h8
  obtain ⟨hP1, hD1⟩ := hB
  rw [ht] at hP1
  obtain ⟨hP, hD⟩ := va_joinP (X := [(o1, eD cy fo)]) (cx := []) (wr := [(o1, eD cy fo)]) (rx := []) (pl := WC cy ad ks g u0) (pl1 := WC cy ad ks g u0) hP hD [] [0] rfl rfl (by decide) (by decide) hk1 hFc hP1 hD1
  generalize H1 = H at hP hS ⊢
  have hP : va_P (dC, dI) vwCl ([(o1, eD cy fo)] ++ WC cy ad ks g u0) H := hP
  have hD : va_D A ([(o1, eD cy fo)] ++ WC cy ad ks g u0) := hD
  refine my_topf hw ?_
  refine W.widen (k := 0) (n := 0) (by omega) (by omega) ?_
  refine lv_f2d hx hb dL_busyPart_7 hne ?_
  refine va_dast hx hb hK hP hD hS 0 4 rfl rfl (vp_in_nI (n := 0) (by decide) (by decide)) dL_busyPart_8 (fun H locs hP hD hS => ?_)
  have hP : va_P (dC, dI) vwCl ([(o1, eD cy (vf_upd fo ((0 : Int32).toNatClampNeg) (FP.f2d ro)))] ++ WC cy ad ks g u0) H := hP
  have hD : va_D A ([(o1, eD cy (vf_upd fo ((0 : Int32).toNatClampNeg) (FP.f2d ro)))] ++ WC cy ad ks g u0) := hD
  refine lv_goto (tgt := 15) hx hb dL_busyPart_9 (by decide) ?_
  refine lv_iconst (v := 0) hx hb dL_busyPart_15 (by decide) ?_
  refine vx_ret ?_
  exact W.iret (v := 0) hx hb hr (fun t ht hW => ⟨⟨0, (), rfl, rfl, by rw [ht]; exact hP, hD⟩, hS.F ht⟩) hS.2.2 dL_busyPart_16
set_option maxHeartbeats 4000000 in
set_option maxRecDepth 100000 in
theorem ct_busyPart (l : Launch) (hst : l.stackTraces = false) (dC : Nat → ClassId) (dI : Nat → Nat → Nat) (cy : Nat → ClassId) (nb : Nat → Nat) (ad : CK → Nat) (ks : List CK) (g : CG) (hk : GA nb ad g ks) (u0 : RS) (a1 : Int32) (o1 : Nat) (fo : Nat → UInt64) (xc : Int32) (sz : Nat) (hxc : xc = 1) (hF : C7_busyPart g u0 a1 = some (.inl xc)) : vx_Met l yL_busyPart (wsgH yL_busyPart cL_busyPart 4 (some .int) [(0, 9, 12, 22)]) ({ frames := 9, cells := 1, slots := 6, locals := 400 }) (va_Pc [.ref (ad .cl), .int a1, .ref o1] (fun U => U.heap.size = sz ∧ va_P (dC, dI) vwCl ([(o1, eD cy fo)] ++ WC cy ad ks g u0) U.heap ∧ va_K (dC, dI) vwCl (tyL cy) U ∧ va_D (fun _ => True) ([(o1, eD cy fo)] ++ WC cy ad ks g u0) ∧ GE nb (va_A ([(o1, eD cy fo)] ++ WC cy ad ks g u0) sz) U)) (va_Qi (fun (r : Int32) (_ : Unit) => r = 1) (fun _ t => va_P (dC, dI) vwCl ([(o1, eD cy fo)] ++ WC cy ad ks g u0) t.heap ∧ va_D (va_A ([(o1, eD cy fo)] ++ WC cy ad ks g u0) sz) ([(o1, eD cy fo)] ++ WC cy ad ks g u0)) (va_A ([(o1, eD cy fo)] ++ WC cy ad ks g u0) sz)) (vx_X (fun (_ : Unit) => False) (fun _ _ _ => True) (va_A ([(o1, eD cy fo)] ++ WC cy ad ks g u0) sz)) 1 6 (va_A ([(o1, eD cy fo)] ++ WC cy ad ks g u0) sz) := by
  refine vx_ofWH (cc := cL_busyPart) (maxL := 4) (ret := (some .int)) (hh := [(0, 9, 12, 22)]) pn_L rfl ?_
  intro p e s m args below meth c s₁ B hml hv
  obtain ⟨rfl, hsz, hP, hK, hD0, hE⟩ := hv
  have hx := B.exec
  have hb := B.bytes
  have hr := B.returns
  have hts0 := atoms_spec (ws := (wsgH yL_busyPart cL_busyPart 4 (some .int) [(0, 9, 12, 22)])) B.pre
  have hts : ∀ w ∈ wsL_law, w.before _ s = true := fun w h => hts0 w (List.mem_cons_of_mem _ h)
  have hown : s.vm.findClass RL = some m.cls := by have h9 := findClass_of_methodNamed B.named; exact h9
  have hlocks := B.notSynchronized
  subst hsz
  have hD := hD0.self (sz := s.heap.size)
  generalize hAe : va_A ([(o1, eD cy fo)] ++ WC cy ad ks g u0) s.heap.size = A at hD hE ⊢
  have hA : ∀ q : Nat, s.heap.size ≤ q → A q := fun q h => by rw [← hAe]; exact Or.inr h
  have hS : va_S A s.heap s.heap [] := va_S.rf
  have hl := lv_entry ([.ref (ad .cl), .int a1, .ref o1]) (n := 4) (Nat.le_of_ble_eq_true rfl)
  rw [lg_entry_eq]
  generalize (lg_sl ([.ref (ad .cl), .int a1, .ref o1]) ++ List.replicate (4 - (lg_sl ([.ref (ad .cl), .int a1, .ref o1])).length) Slot.unset).toArray = ls at hl ⊢
  have hl : lv_has ls 4 [(0, .ref (ad .cl)), (1, .int a1), (2, .ref o1)] := hl
  generalize hHe : s.heap = H at hP hS ⊢
  have hS : va_S A s.heap H [] := by rw [hHe]; exact hS
  have htab := vx_table (x := yL_busyPart) B (hts0 (.codeWith yL_busyPart cL_busyPart 4 (some .int) [(0, 9, 12, 22)]) List.mem_cons_self)
  refine lv_aload_n hx hb dL_busyPart_0 rfl (lv_at hl 2 rfl) ?_
  refine lv_iconst (v := 0) hx hb dL_busyPart_1 (by decide) ?_
  refine lv_aload_n hx hb dL_busyPart_2 rfl (lv_at hl 0 rfl) ?_
  refine lv_iload_n hx hb dL_busyPart_3 rfl (lv_at hl 1 rfl) ?_
  have hPc : va_P (dC, dI) vwCl (WC cy ad ks g u0) H := hP.part (X := [(o1, eD cy fo)]) (cx := []) [] rfl
  have hDc : va_D A (WC cy ad ks g u0) := hD.part (X := [(o1, eD cy fo)]) (cx := []) [] (by decide) rfl
  have hFc : ∀ q, va_A (WC cy ad ks g u0) H.size q → A q := va_freeP (X := [(o1, eD cy fo)]) (cx := []) hD hS hA [] rfl
  obtain ⟨q8, h8⟩ := wc_at (cy := cy) (ad := ad) (ks := ks) (g := g) (u := u0) (κ := .cl) hk.1 True.intro
  refine vx_callf (vx_runV (As := [.int a1]) (rest := [.int 0, .ref o1]) ⟨hx, hb, hml, hown, hts⟩ (c_X7_busyPart_y l hst dC dI cy nb ad ks g hk u0 a1 xc H.size hF) (cwV 1 hts (gV mw_933 mw_934 mw_935 mw_2 mw_936) rfl rfl rfl (by decide +kernel) ⟨Nat.le_of_ble_eq_true rfl, Nat.le_of_ble_eq_true rfl⟩) (my_preV hPc hK hDc hE hS hFc (va_recv (q := (RX7, TX7, 12)) hK hPc (ci := 7) (q0 := q8) rfl h8)) rfl rfl hl.1 rfl (lv_room (Nat.le_of_ble_eq_true rfl)) dL_busyPart_4 ⟨Nat.le_of_ble_eq_true rfl, Nat.le_of_ble_eq_true rfl⟩) hS (fun q _ h => hFc q h) hFc (fun q _ h => hFc q h) (fun E9 ce9 q9 u9 t9 H1 locs1 ht9 hvm9 hp9 hB9 hz9 hk9 hS9 hc9 hv9 hcl9 => ?_) (fun r9 u9 t9 H1 locs1 ht9 hvm9 hp9 _ _ _ _ => hp9.elim)
  clear h8
  obtain ⟨hB8, hP1⟩ := hB9
  rw [ht9] at hP1
  obtain ⟨hP, hD⟩ := va_joinP (X := [(o1, eD cy fo)]) (cx := []) (wr := [(o1, eD cy fo)]) (rx := []) (pl := WC cy ad ks g u0) (pl1 := WC cy ad ks g u0) hP hD [] [0] rfl rfl (by decide) (by decide) hk9 hFc hP1 hDc.self
  have hP : va_P (dC, dI) vwCl ([(o1, eD cy fo)] ++ WC cy ad ks g u0) H1 := hP
  have hD : va_D A ([(o1, eD cy fo)] ++ WC cy ad ks g u0) := hD
  obtain rfl : E9 = xI := hB8.trans (if_pos hxc)
  refine vx_catch (own := RL) (name := xI) hown (tableOf []) _ (tableOf []) (htab.trans rfl) (fun z hz => nomatch hz) (by decide) (by decide) (hts _ mw_612) (va_Nw.use rfl hE.cI) hc9 hv9 hcl9 ?_
  generalize H1 = H at hP hS9 ⊢
  refine W.widen (k := 1) (n := 6) (by omega) (by omega) ?_
  refine lv_astore_n (lv' := [(3, .ref q9), (0, .ref (ad .cl)), (1, .int a1), (2, .ref o1)]) hx hb dL_busyPart_12 rfl hl (by decide) rfl (fun ls hl => ?_)
  refine lv_iconst (v := 1) hx hb dL_busyPart_13 (by decide) ?_
  refine vx_ret ?_
  exact W.iret (v := 1) hx hb hr (fun t ht hW => ⟨⟨1, (), rfl, rfl, by rw [ht]; exact hP, hD⟩, hS9.F ht⟩) hS9.2.2 dL_busyPart_14
set_option maxHeartbeats 4000000 in
set_option maxRecDepth 100000 in
theorem cn_order (l : Launch) (hst : l.stackTraces = false) (dC : Nat → ClassId) (dI : Nat → Nat → Nat) (cy : Nat → ClassId) (nb : Nat → Nat) (ad : CK → Nat) (ks : List CK) (g : CG) (hk : GA nb ad g ks) (u0 : RS) (a1 : Int32) (o1 : Nat) (fo : Nat → Int64) (ro : Int32) (gz : CG) (uz : RS) (sz : Nat) (hF : C7_order g u0 a1 = some (.inr (ro, gz, uz))) : vx_Met l yL_order (wsgH yL_order cL_order 4 (some .int) [(0, 9, 12, 22)]) ({ frames := 12, cells := 68, slots := 847, locals := 700 }) (va_Pc [.ref (ad .cl), .int a1, .ref o1] (fun U => U.heap.size = sz ∧ va_P (dC, dI) vwCl ([(o1, eL cy fo)] ++ WC cy ad ks g u0) U.heap ∧ va_K (dC, dI) vwCl (tyL cy) U ∧ va_D (fun _ => True) ([(o1, eL cy fo)] ++ WC cy ad ks g u0) ∧ GE nb (va_A ([(o1, eL cy fo)] ++ WC cy ad ks g u0) sz) U)) (va_Qi (fun (r : Int32) (_ : Unit) => r = 0) (fun _ t => ∃ (ad' : CK → Nat) (ks' : List CK), GA nb ad' gz ks' ∧ AX g ad gz ad' ∧ va_P (dC, dI) vwCl ([(o1, eL cy (vp_updL fo ((0 : Int32).toNatClampNeg) (ro.toInt64)))] ++ WC cy ad' ks' gz uz) t.heap ∧ va_D (va_A ([(o1, eL cy fo)] ++ WC cy ad ks g u0) sz) ([(o1, eL cy (vp_updL fo ((0 : Int32).toNatClampNeg) (ro.toInt64)))] ++ WC cy ad' ks' gz uz)) (va_A ([(o1, eL cy fo)] ++ WC cy ad ks g u0) sz)) (vx_X (fun (_ : Unit) => False) (fun _ _ _ => True) (va_A ([(o1, eL cy fo)] ++ WC cy ad ks g u0) sz)) 68 847 (va_A ([(o1, eL cy fo)] ++ WC cy ad ks g u0) sz) := by
  refine vx_ofWH (cc := cL_order) (maxL := 4) (ret := (some .int)) (hh := [(0, 9, 12, 22)]) pn_L rfl ?_
  intro p e s m args below meth c s₁ B hml hv
  obtain ⟨rfl, hsz, hP, hK, hD0, hE⟩ := hv
  have hx := B.exec
  have hb := B.bytes
  have hr := B.returns
  have hts0 := atoms_spec (ws := (wsgH yL_order cL_order 4 (some .int) [(0, 9, 12, 22)])) B.pre
  have hts : ∀ w ∈ wsL_law, w.before _ s = true := fun w h => hts0 w (List.mem_cons_of_mem _ h)
  have hown : s.vm.findClass RL = some m.cls := by have h9 := findClass_of_methodNamed B.named; exact h9
  have hlocks := B.notSynchronized
  subst hsz
  have hD := hD0.self (sz := s.heap.size)
  generalize hAe : va_A ([(o1, eL cy fo)] ++ WC cy ad ks g u0) s.heap.size = A at hD hE ⊢
  have hA : ∀ q : Nat, s.heap.size ≤ q → A q := fun q h => by rw [← hAe]; exact Or.inr h
  have hS : va_S A s.heap s.heap [] := va_S.rf
  have hl := lv_entry ([.ref (ad .cl), .int a1, .ref o1]) (n := 4) (Nat.le_of_ble_eq_true rfl)
  rw [lg_entry_eq]
  generalize (lg_sl ([.ref (ad .cl), .int a1, .ref o1]) ++ List.replicate (4 - (lg_sl ([.ref (ad .cl), .int a1, .ref o1])).length) Slot.unset).toArray = ls at hl ⊢
  have hl : lv_has ls 4 [(0, .ref (ad .cl)), (1, .int a1), (2, .ref o1)] := hl
  generalize hHe : s.heap = H at hP hS ⊢
  have hS : va_S A s.heap H [] := by rw [hHe]; exact hS
  have htab := vx_table (x := yL_order) B (hts0 (.codeWith yL_order cL_order 4 (some .int) [(0, 9, 12, 22)]) List.mem_cons_self)
  refine lv_aload_n hx hb dL_order_0 rfl (lv_at hl 2 rfl) ?_
  refine lv_iconst (v := 0) hx hb dL_order_1 (by decide) ?_
  refine lv_aload_n hx hb dL_order_2 rfl (lv_at hl 0 rfl) ?_
  refine lv_iload_n hx hb dL_order_3 rfl (lv_at hl 1 rfl) ?_
  have hPc : va_P (dC, dI) vwCl (WC cy ad ks g u0) H := hP.part (X := [(o1, eL cy fo)]) (cx := []) [] rfl
  have hDc : va_D A (WC cy ad ks g u0) := hD.part (X := [(o1, eL cy fo)]) (cx := []) [] (by decide) rfl
  have hFc : ∀ q, va_A (WC cy ad ks g u0) H.size q → A q := va_freeP (X := [(o1, eL cy fo)]) (cx := []) hD hS hA [] rfl
  obtain ⟨q8, h8⟩ := wc_at (cy := cy) (ad := ad) (ks := ks) (g := g) (u := u0) (κ := .cl) hk.1 True.intro
  refine va_calli (va_runV (As := [.int a1]) (rest := [.int 0, .ref o1]) ⟨hx, hb, hml, hown, hts⟩ (c_X7_order l dC dI cy nb ad ks g hk u0 a1 ro gz uz H.size hF) (cwV 1 hts (gV mw_965 mw_966 mw_967 mw_2 mw_968) rfl rfl rfl (by decide +kernel) ⟨Nat.le_of_ble_eq_true rfl, Nat.le_of_ble_eq_true rfl⟩) (my_preV hPc hK hDc hE hS hFc (va_recv (q := (RX7, TX7, 12)) hK hPc (ci := 7) (q0 := q8) rfl h8)) rfl rfl hl.1 rfl (lv_room (Nat.le_of_ble_eq_true rfl)) dL_order_4 ⟨Nat.le_of_ble_eq_true rfl, Nat.le_of_ble_eq_true rfl⟩) hS (fun q _ h => hFc q h) hFc (fun r u t H1 locs ht hvm hw hB hz1 hk1 hS => ?_)
  clear h8
  obtain ⟨ad', ks', hkz, axz, hP1, hD1⟩ := hB
  rw [ht] at hP1
  obtain ⟨hP, hD⟩ := va_joinP (X := [(o1, eL cy fo)]) (cx := []) (wr := [(o1, eL cy fo)]) (rx := []) (pl := WC cy ad ks g u0) (pl1 := WC cy ad' ks' gz uz) hP hD [] [0] rfl rfl (by decide) (by decide) hk1 hFc hP1 hD1
  generalize H1 = H at hP hS ⊢
  have hP : va_P (dC, dI) vwCl ([(o1, eL cy fo)] ++ WC cy ad' ks' gz uz) H := hP
  have hD : va_D A ([(o1, eL cy fo)] ++ WC cy ad' ks' gz uz) := hD
  refine my_topi hw ?_
  refine W.widen (k := 68) (n := 847) (by omega) (by omega) ?_
  refine lv_i2l (v := ro.toInt64) hx hb dL_order_7 rfl ?_
  refine va_last hx hb hK hP hD hS 0 3 rfl rfl (vp_in_nI (n := 0) (by decide) (by decide)) dL_order_8 (fun H locs hP hD hS => ?_)
  have hP : va_P (dC, dI) vwCl ([(o1, eL cy (vp_updL fo ((0 : Int32).toNatClampNeg) (ro.toInt64)))] ++ WC cy ad' ks' gz uz) H := hP
  have hD : va_D A ([(o1, eL cy (vp_updL fo ((0 : Int32).toNatClampNeg) (ro.toInt64)))] ++ WC cy ad' ks' gz uz) := hD
  refine lv_goto (tgt := 15) hx hb dL_order_9 (by decide) ?_
  refine lv_iconst (v := 0) hx hb dL_order_15 (by decide) ?_
  refine vx_ret ?_
  exact W.iret (v := 0) hx hb hr (fun t ht hW => ⟨⟨0, (), rfl, rfl, ad', ks', hkz, axz, by rw [ht]; exact hP, hD⟩, hS.F ht⟩) hS.2.2 dL_order_16
set_option maxHeartbeats 4000000 in
set_option maxRecDepth 100000 in
theorem ct_order (l : Launch) (hst : l.stackTraces = false) (dC : Nat → ClassId) (dI : Nat → Nat → Nat) (cy : Nat → ClassId) (nb : Nat → Nat) (ad : CK → Nat) (ks : List CK) (g : CG) (hk : GA nb ad g ks) (u0 : RS) (a1 : Int32) (o1 : Nat) (fo : Nat → Int64) (xc : Int32) (sz : Nat) (hxc : xc = 1) (hF : C7_order g u0 a1 = some (.inl xc)) : vx_Met l yL_order (wsgH yL_order cL_order 4 (some .int) [(0, 9, 12, 22)]) ({ frames := 12, cells := 68, slots := 847, locals := 700 }) (va_Pc [.ref (ad .cl), .int a1, .ref o1] (fun U => U.heap.size = sz ∧ va_P (dC, dI) vwCl ([(o1, eL cy fo)] ++ WC cy ad ks g u0) U.heap ∧ va_K (dC, dI) vwCl (tyL cy) U ∧ va_D (fun _ => True) ([(o1, eL cy fo)] ++ WC cy ad ks g u0) ∧ GE nb (va_A ([(o1, eL cy fo)] ++ WC cy ad ks g u0) sz) U)) (va_Qi (fun (r : Int32) (_ : Unit) => r = 1) (fun _ t => va_P (dC, dI) vwCl ([(o1, eL cy fo)] ++ WC cy ad ks g u0) t.heap ∧ va_D (va_A ([(o1, eL cy fo)] ++ WC cy ad ks g u0) sz) ([(o1, eL cy fo)] ++ WC cy ad ks g u0)) (va_A ([(o1, eL cy fo)] ++ WC cy ad ks g u0) sz)) (vx_X (fun (_ : Unit) => False) (fun _ _ _ => True) (va_A ([(o1, eL cy fo)] ++ WC cy ad ks g u0) sz)) 68 847 (va_A ([(o1, eL cy fo)] ++ WC cy ad ks g u0) sz) := by
  refine vx_ofWH (cc := cL_order) (maxL := 4) (ret := (some .int)) (hh := [(0, 9, 12, 22)]) pn_L rfl ?_
  intro p e s m args below meth c s₁ B hml hv
  obtain ⟨rfl, hsz, hP, hK, hD0, hE⟩ := hv
  have hx := B.exec
  have hb := B.bytes
  have hr := B.returns
  have hts0 := atoms_spec (ws := (wsgH yL_order cL_order 4 (some .int) [(0, 9, 12, 22)])) B.pre
  have hts : ∀ w ∈ wsL_law, w.before _ s = true := fun w h => hts0 w (List.mem_cons_of_mem _ h)
  have hown : s.vm.findClass RL = some m.cls := by have h9 := findClass_of_methodNamed B.named; exact h9
  have hlocks := B.notSynchronized
  subst hsz
  have hD := hD0.self (sz := s.heap.size)
  generalize hAe : va_A ([(o1, eL cy fo)] ++ WC cy ad ks g u0) s.heap.size = A at hD hE ⊢
  have hA : ∀ q : Nat, s.heap.size ≤ q → A q := fun q h => by rw [← hAe]; exact Or.inr h
  have hS : va_S A s.heap s.heap [] := va_S.rf
  have hl := lv_entry ([.ref (ad .cl), .int a1, .ref o1]) (n := 4) (Nat.le_of_ble_eq_true rfl)
  rw [lg_entry_eq]
  generalize (lg_sl ([.ref (ad .cl), .int a1, .ref o1]) ++ List.replicate (4 - (lg_sl ([.ref (ad .cl), .int a1, .ref o1])).length) Slot.unset).toArray = ls at hl ⊢
  have hl : lv_has ls 4 [(0, .ref (ad .cl)), (1, .int a1), (2, .ref o1)] := hl
  generalize hHe : s.heap = H at hP hS ⊢
  have hS : va_S A s.heap H [] := by rw [hHe]; exact hS
  have htab := vx_table (x := yL_order) B (hts0 (.codeWith yL_order cL_order 4 (some .int) [(0, 9, 12, 22)]) List.mem_cons_self)
  refine lv_aload_n hx hb dL_order_0 rfl (lv_at hl 2 rfl) ?_
  refine lv_iconst (v := 0) hx hb dL_order_1 (by decide) ?_
  refine lv_aload_n hx hb dL_order_2 rfl (lv_at hl 0 rfl) ?_
  refine lv_iload_n hx hb dL_order_3 rfl (lv_at hl 1 rfl) ?_
  have hPc : va_P (dC, dI) vwCl (WC cy ad ks g u0) H := hP.part (X := [(o1, eL cy fo)]) (cx := []) [] rfl
  have hDc : va_D A (WC cy ad ks g u0) := hD.part (X := [(o1, eL cy fo)]) (cx := []) [] (by decide) rfl
  have hFc : ∀ q, va_A (WC cy ad ks g u0) H.size q → A q := va_freeP (X := [(o1, eL cy fo)]) (cx := []) hD hS hA [] rfl
  obtain ⟨q8, h8⟩ := wc_at (cy := cy) (ad := ad) (ks := ks) (g := g) (u := u0) (κ := .cl) hk.1 True.intro
  refine vx_calli (vx_runV (As := [.int a1]) (rest := [.int 0, .ref o1]) ⟨hx, hb, hml, hown, hts⟩ (c_X7_order_y l hst dC dI cy nb ad ks g hk u0 a1 xc H.size hF) (cwV 1 hts (gV mw_965 mw_966 mw_967 mw_2 mw_968) rfl rfl rfl (by decide +kernel) ⟨Nat.le_of_ble_eq_true rfl, Nat.le_of_ble_eq_true rfl⟩) (my_preV hPc hK hDc hE hS hFc (va_recv (q := (RX7, TX7, 12)) hK hPc (ci := 7) (q0 := q8) rfl h8)) rfl rfl hl.1 rfl (lv_room (Nat.le_of_ble_eq_true rfl)) dL_order_4 ⟨Nat.le_of_ble_eq_true rfl, Nat.le_of_ble_eq_true rfl⟩) hS (fun q _ h => hFc q h) hFc (fun q _ h => hFc q h) (fun E9 ce9 q9 u9 t9 H1 locs1 ht9 hvm9 hp9 hB9 hz9 hk9 hS9 hc9 hv9 hcl9 => ?_) (fun r9 u9 t9 H1 locs1 ht9 hvm9 hp9 _ _ _ _ => hp9.elim)
  clear h8
  obtain ⟨hB8, hP1⟩ := hB9
  rw [ht9] at hP1
  obtain ⟨hP, hD⟩ := va_joinP (X := [(o1, eL cy fo)]) (cx := []) (wr := [(o1, eL cy fo)]) (rx := []) (pl := WC cy ad ks g u0) (pl1 := WC cy ad ks g u0) hP hD [] [0] rfl rfl (by decide) (by decide) hk9 hFc hP1 hDc.self
  have hP : va_P (dC, dI) vwCl ([(o1, eL cy fo)] ++ WC cy ad ks g u0) H1 := hP
  have hD : va_D A ([(o1, eL cy fo)] ++ WC cy ad ks g u0) := hD
  obtain rfl : E9 = xI := hB8.trans (if_pos hxc)
  refine vx_catch (own := RL) (name := xI) hown (tableOf []) _ (tableOf []) (htab.trans rfl) (fun z hz => nomatch hz) (by decide) (by decide) (hts _ mw_612) (va_Nw.use rfl hE.cI) hc9 hv9 hcl9 ?_
  generalize H1 = H at hP hS9 ⊢
  refine W.widen (k := 68) (n := 847) (by omega) (by omega) ?_
  refine lv_astore_n (lv' := [(3, .ref q9), (0, .ref (ad .cl)), (1, .int a1), (2, .ref o1)]) hx hb dL_order_12 rfl hl (by decide) rfl (fun ls hl => ?_)
  refine lv_iconst (v := 1) hx hb dL_order_13 (by decide) ?_
  refine vx_ret ?_
  exact W.iret (v := 1) hx hb hr (fun t ht hW => ⟨⟨1, (), rfl, rfl, by rw [ht]; exact hP, hD⟩, hS9.F ht⟩) hS9.2.2 dL_order_14
set_option maxHeartbeats 4000000 in
set_option maxRecDepth 100000 in
theorem cn_giveUp (l : Launch) (hst : l.stackTraces = false) (dC : Nat → ClassId) (dI : Nat → Nat → Nat) (cy : Nat → ClassId) (nb : Nat → Nat) (ad : CK → Nat) (ks : List CK) (g : CG) (hk : GA nb ad g ks) (u0 : RS) (a1 : Int32) (o1 : Nat) (fo : Nat → Int64) (ro : Int32) (gz : CG) (uz : RS) (sz : Nat) (hF : C7_giveUp g u0 a1 = some (.inr (ro, gz, uz))) : vx_Met l yL_giveUp (wsgH yL_giveUp cL_giveUp 4 (some .int) [(0, 9, 12, 22)]) ({ frames := 12, cells := 67, slots := 831, locals := 700 }) (va_Pc [.ref (ad .cl), .int a1, .ref o1] (fun U => U.heap.size = sz ∧ va_P (dC, dI) vwCl ([(o1, eL cy fo)] ++ WC cy ad ks g u0) U.heap ∧ va_K (dC, dI) vwCl (tyL cy) U ∧ va_D (fun _ => True) ([(o1, eL cy fo)] ++ WC cy ad ks g u0) ∧ GE nb (va_A ([(o1, eL cy fo)] ++ WC cy ad ks g u0) sz) U)) (va_Qi (fun (r : Int32) (_ : Unit) => r = 0) (fun _ t => ∃ (ad' : CK → Nat) (ks' : List CK), GA nb ad' gz ks' ∧ AX g ad gz ad' ∧ va_P (dC, dI) vwCl ([(o1, eL cy (vp_updL fo ((0 : Int32).toNatClampNeg) (ro.toInt64)))] ++ WC cy ad' ks' gz uz) t.heap ∧ va_D (va_A ([(o1, eL cy fo)] ++ WC cy ad ks g u0) sz) ([(o1, eL cy (vp_updL fo ((0 : Int32).toNatClampNeg) (ro.toInt64)))] ++ WC cy ad' ks' gz uz)) (va_A ([(o1, eL cy fo)] ++ WC cy ad ks g u0) sz)) (vx_X (fun (_ : Unit) => False) (fun _ _ _ => True) (va_A ([(o1, eL cy fo)] ++ WC cy ad ks g u0) sz)) 67 831 (va_A ([(o1, eL cy fo)] ++ WC cy ad ks g u0) sz) := by
  refine vx_ofWH (cc := cL_giveUp) (maxL := 4) (ret := (some .int)) (hh := [(0, 9, 12, 22)]) pn_L rfl ?_
  intro p e s m args below meth c s₁ B hml hv
  obtain ⟨rfl, hsz, hP, hK, hD0, hE⟩ := hv
  have hx := B.exec
  have hb := B.bytes
  have hr := B.returns
  have hts0 := atoms_spec (ws := (wsgH yL_giveUp cL_giveUp 4 (some .int) [(0, 9, 12, 22)])) B.pre
  have hts : ∀ w ∈ wsL_law, w.before _ s = true := fun w h => hts0 w (List.mem_cons_of_mem _ h)
  have hown : s.vm.findClass RL = some m.cls := by have h9 := findClass_of_methodNamed B.named; exact h9
  have hlocks := B.notSynchronized
  subst hsz
  have hD := hD0.self (sz := s.heap.size)
  generalize hAe : va_A ([(o1, eL cy fo)] ++ WC cy ad ks g u0) s.heap.size = A at hD hE ⊢
  have hA : ∀ q : Nat, s.heap.size ≤ q → A q := fun q h => by rw [← hAe]; exact Or.inr h
  have hS : va_S A s.heap s.heap [] := va_S.rf
  have hl := lv_entry ([.ref (ad .cl), .int a1, .ref o1]) (n := 4) (Nat.le_of_ble_eq_true rfl)
  rw [lg_entry_eq]
  generalize (lg_sl ([.ref (ad .cl), .int a1, .ref o1]) ++ List.replicate (4 - (lg_sl ([.ref (ad .cl), .int a1, .ref o1])).length) Slot.unset).toArray = ls at hl ⊢
  have hl : lv_has ls 4 [(0, .ref (ad .cl)), (1, .int a1), (2, .ref o1)] := hl
  generalize hHe : s.heap = H at hP hS ⊢
  have hS : va_S A s.heap H [] := by rw [hHe]; exact hS
  have htab := vx_table (x := yL_giveUp) B (hts0 (.codeWith yL_giveUp cL_giveUp 4 (some .int) [(0, 9, 12, 22)]) List.mem_cons_self)
  refine lv_aload_n hx hb dL_giveUp_0 rfl (lv_at hl 2 rfl) ?_
  refine lv_iconst (v := 0) hx hb dL_giveUp_1 (by decide) ?_
  refine lv_aload_n hx hb dL_giveUp_2 rfl (lv_at hl 0 rfl) ?_
  refine lv_iload_n hx hb dL_giveUp_3 rfl (lv_at hl 1 rfl) ?_
  have hPc : va_P (dC, dI) vwCl (WC cy ad ks g u0) H := hP.part (X := [(o1, eL cy fo)]) (cx := []) [] rfl
  have hDc : va_D A (WC cy ad ks g u0) := hD.part (X := [(o1, eL cy fo)]) (cx := []) [] (by decide) rfl
  have hFc : ∀ q, va_A (WC cy ad ks g u0) H.size q → A q := va_freeP (X := [(o1, eL cy fo)]) (cx := []) hD hS hA [] rfl
  obtain ⟨q8, h8⟩ := wc_at (cy := cy) (ad := ad) (ks := ks) (g := g) (u := u0) (κ := .cl) hk.1 True.intro
  refine va_calli (va_runV (As := [.int a1]) (rest := [.int 0, .ref o1]) ⟨hx, hb, hml, hown, hts⟩ (c_X7_giveUp l dC dI cy nb ad ks g hk u0 a1 ro gz uz H.size hF) (cwV 1 hts (gV mw_990 mw_991 mw_992 mw_2 mw_993) rfl rfl rfl (by decide +kernel) ⟨Nat.le_of_ble_eq_true rfl, Nat.le_of_ble_eq_true rfl⟩) (my_preV hPc hK hDc hE hS hFc (va_recv (q := (RX7, TX7, 12)) hK hPc (ci := 7) (q0 := q8) rfl h8)) rfl rfl hl.1 rfl (lv_room (Nat.le_of_ble_eq_true rfl)) dL_giveUp_4 ⟨Nat.le_of_ble_eq_true rfl, Nat.le_of_ble_eq_true rfl⟩) hS (fun q _ h => hFc q h) hFc (fun r u t H1 locs ht hvm hw hB hz1 hk1 hS => ?_)
  clear h8
  obtain ⟨ad', ks', hkz, axz, hP1, hD1⟩ := hB
  rw [ht] at hP1
  obtain ⟨hP, hD⟩ := va_joinP (X := [(o1, eL cy fo)]) (cx := []) (wr := [(o1, eL cy fo)]) (rx := []) (pl := WC cy ad ks g u0) (pl1 := WC cy ad' ks' gz uz) hP hD [] [0] rfl rfl (by decide) (by decide) hk1 hFc hP1 hD1
  generalize H1 = H at hP hS ⊢
  have hP : va_P (dC, dI) vwCl ([(o1, eL cy fo)] ++ WC cy ad' ks' gz uz) H := hP
  have hD : va_D A ([(o1, eL cy fo)] ++ WC cy ad' ks' gz uz) := hD
  refine my_topi hw ?_
  refine W.widen (k := 67) (n := 831) (by omega) (by omega) ?_
  refine lv_i2l (v := ro.toInt64) hx hb dL_giveUp_7 rfl ?_
  refine va_last hx hb hK hP hD hS 0 3 rfl rfl (vp_in_nI (n := 0) (by decide) (by decide)) dL_giveUp_8 (fun H locs hP hD hS => ?_)
  have hP : va_P (dC, dI) vwCl ([(o1, eL cy (vp_updL fo ((0 : Int32).toNatClampNeg) (ro.toInt64)))] ++ WC cy ad' ks' gz uz) H := hP
  have hD : va_D A ([(o1, eL cy (vp_updL fo ((0 : Int32).toNatClampNeg) (ro.toInt64)))] ++ WC cy ad' ks' gz uz) := hD
  refine lv_goto (tgt := 15) hx hb dL_giveUp_9 (by decide) ?_
  refine lv_iconst (v := 0) hx hb dL_giveUp_15 (by decide) ?_
  refine vx_ret ?_
  exact W.iret (v := 0) hx hb hr (fun t ht hW => ⟨⟨0, (), rfl, rfl, ad', ks', hkz, axz, by rw [ht]; exact hP, hD⟩, hS.F ht⟩) hS.2.2 dL_giveUp_16
set_option maxHeartbeats 4000000 in
set_option maxRecDepth 100000 in
theorem ct_giveUp (l : Launch) (hst : l.stackTraces = false) (dC : Nat → ClassId) (dI : Nat → Nat → Nat) (cy : Nat → ClassId) (nb : Nat → Nat) (ad : CK → Nat) (ks : List CK) (g : CG) (hk : GA nb ad g ks) (u0 : RS) (a1 : Int32) (o1 : Nat) (fo : Nat → Int64) (xc : Int32) (sz : Nat) (hxc : xc = 1) (hF : C7_giveUp g u0 a1 = some (.inl xc)) : vx_Met l yL_giveUp (wsgH yL_giveUp cL_giveUp 4 (some .int) [(0, 9, 12, 22)]) ({ frames := 12, cells := 67, slots := 831, locals := 700 }) (va_Pc [.ref (ad .cl), .int a1, .ref o1] (fun U => U.heap.size = sz ∧ va_P (dC, dI) vwCl ([(o1, eL cy fo)] ++ WC cy ad ks g u0) U.heap ∧ va_K (dC, dI) vwCl (tyL cy) U ∧ va_D (fun _ => True) ([(o1, eL cy fo)] ++ WC cy ad ks g u0) ∧ GE nb (va_A ([(o1, eL cy fo)] ++ WC cy ad ks g u0) sz) U)) (va_Qi (fun (r : Int32) (_ : Unit) => r = 1) (fun _ t => va_P (dC, dI) vwCl ([(o1, eL cy fo)] ++ WC cy ad ks g u0) t.heap ∧ va_D (va_A ([(o1, eL cy fo)] ++ WC cy ad ks g u0) sz) ([(o1, eL cy fo)] ++ WC cy ad ks g u0)) (va_A ([(o1, eL cy fo)] ++ WC cy ad ks g u0) sz)) (vx_X (fun (_ : Unit) => False) (fun _ _ _ => True) (va_A ([(o1, eL cy fo)] ++ WC cy ad ks g u0) sz)) 67 831 (va_A ([(o1, eL cy fo)] ++ WC cy ad ks g u0) sz) := by
  refine vx_ofWH (cc := cL_giveUp) (maxL := 4) (ret := (some .int)) (hh := [(0, 9, 12, 22)]) pn_L rfl ?_
  intro p e s m args below meth c s₁ B hml hv
  obtain ⟨rfl, hsz, hP, hK, hD0, hE⟩ := hv
  have hx := B.exec
  have hb := B.bytes
  have hr := B.returns
  have hts0 := atoms_spec (ws := (wsgH yL_giveUp cL_giveUp 4 (some .int) [(0, 9, 12, 22)])) B.pre
  have hts : ∀ w ∈ wsL_law, w.before _ s = true := fun w h => hts0 w (List.mem_cons_of_mem _ h)
  have hown : s.vm.findClass RL = some m.cls := by have h9 := findClass_of_methodNamed B.named; exact h9
  have hlocks := B.notSynchronized
  subst hsz
  have hD := hD0.self (sz := s.heap.size)
  generalize hAe : va_A ([(o1, eL cy fo)] ++ WC cy ad ks g u0) s.heap.size = A at hD hE ⊢
  have hA : ∀ q : Nat, s.heap.size ≤ q → A q := fun q h => by rw [← hAe]; exact Or.inr h
  have hS : va_S A s.heap s.heap [] := va_S.rf
  have hl := lv_entry ([.ref (ad .cl), .int a1, .ref o1]) (n := 4) (Nat.le_of_ble_eq_true rfl)
  rw [lg_entry_eq]
  generalize (lg_sl ([.ref (ad .cl), .int a1, .ref o1]) ++ List.replicate (4 - (lg_sl ([.ref (ad .cl), .int a1, .ref o1])).length) Slot.unset).toArray = ls at hl ⊢
  have hl : lv_has ls 4 [(0, .ref (ad .cl)), (1, .int a1), (2, .ref o1)] := hl
  generalize hHe : s.heap = H at hP hS ⊢
  have hS : va_S A s.heap H [] := by rw [hHe]; exact hS
  have htab := vx_table (x := yL_giveUp) B (hts0 (.codeWith yL_giveUp cL_giveUp 4 (some .int) [(0, 9, 12, 22)]) List.mem_cons_self)
  refine lv_aload_n hx hb dL_giveUp_0 rfl (lv_at hl 2 rfl) ?_
  refine lv_iconst (v := 0) hx hb dL_giveUp_1 (by decide) ?_
  refine lv_aload_n hx hb dL_giveUp_2 rfl (lv_at hl 0 rfl) ?_
  refine lv_iload_n hx hb dL_giveUp_3 rfl (lv_at hl 1 rfl) ?_
  have hPc : va_P (dC, dI) vwCl (WC cy ad ks g u0) H := hP.part (X := [(o1, eL cy fo)]) (cx := []) [] rfl
  have hDc : va_D A (WC cy ad ks g u0) := hD.part (X := [(o1, eL cy fo)]) (cx := []) [] (by decide) rfl
  have hFc : ∀ q, va_A (WC cy ad ks g u0) H.size q → A q := va_freeP (X := [(o1, eL cy fo)]) (cx := []) hD hS hA [] rfl
  obtain ⟨q8, h8⟩ := wc_at (cy := cy) (ad := ad) (ks := ks) (g := g) (u := u0) (κ := .cl) hk.1 True.intro
  refine vx_calli (vx_runV (As := [.int a1]) (rest := [.int 0, .ref o1]) ⟨hx, hb, hml, hown, hts⟩ (c_X7_giveUp_y l hst dC dI cy nb ad ks g hk u0 a1 xc H.size hF) (cwV 1 hts (gV mw_990 mw_991 mw_992 mw_2 mw_993) rfl rfl rfl (by decide +kernel) ⟨Nat.le_of_ble_eq_true rfl, Nat.le_of_ble_eq_true rfl⟩) (my_preV hPc hK hDc hE hS hFc (va_recv (q := (RX7, TX7, 12)) hK hPc (ci := 7) (q0 := q8) rfl h8)) rfl rfl hl.1 rfl (lv_room (Nat.le_of_ble_eq_true rfl)) dL_giveUp_4 ⟨Nat.le_of_ble_eq_true rfl, Nat.le_of_ble_eq_true rfl⟩) hS (fun q _ h => hFc q h) hFc (fun q _ h => hFc q h) (fun E9 ce9 q9 u9 t9 H1 locs1 ht9 hvm9 hp9 hB9 hz9 hk9 hS9 hc9 hv9 hcl9 => ?_) (fun r9 u9 t9 H1 locs1 ht9 hvm9 hp9 _ _ _ _ => hp9.elim)
  clear h8
  obtain ⟨hB8, hP1⟩ := hB9
  rw [ht9] at hP1
  obtain ⟨hP, hD⟩ := va_joinP (X := [(o1, eL cy fo)]) (cx := []) (wr := [(o1, eL cy fo)]) (rx := []) (pl := WC cy ad ks g u0) (pl1 := WC cy ad ks g u0) hP hD [] [0] rfl rfl (by decide) (by decide) hk9 hFc hP1 hDc.self
  have hP : va_P (dC, dI) vwCl ([(o1, eL cy fo)] ++ WC cy ad ks g u0) H1 := hP
  have hD : va_D A ([(o1, eL cy fo)] ++ WC cy ad ks g u0) := hD
  obtain rfl : E9 = xI := hB8.trans (if_pos hxc)
  refine vx_catch (own := RL) (name := xI) hown (tableOf []) _ (tableOf []) (htab.trans rfl) (fun z hz => nomatch hz) (by decide) (by decide) (hts _ mw_612) (va_Nw.use rfl hE.cI) hc9 hv9 hcl9 ?_
  generalize H1 = H at hP hS9 ⊢
  refine W.widen (k := 67) (n := 831) (by omega) (by omega) ?_
  refine lv_astore_n (lv' := [(3, .ref q9), (0, .ref (ad .cl)), (1, .int a1), (2, .ref o1)]) hx hb dL_giveUp_12 rfl hl (by decide) rfl (fun ls hl => ?_)
  refine lv_iconst (v := 1) hx hb dL_giveUp_13 (by decide) ?_
  refine vx_ret ?_
  exact W.iret (v := 1) hx hb hr (fun t ht hW => ⟨⟨1, (), rfl, rfl, by rw [ht]; exact hP, hD⟩, hS9.F ht⟩) hS9.2.2 dL_giveUp_14
set_option maxHeartbeats 4000000 in
set_option maxRecDepth 100000 in
theorem cn_setRank (l : Launch) (hst : l.stackTraces = false) (dC : Nat → ClassId) (dI : Nat → Nat → Nat) (cy : Nat → ClassId) (nb : Nat → Nat) (ad : CK → Nat) (ks : List CK) (g : CG) (hk : GA nb ad g ks) (u0 : RS) (a1 : Int32) (a2 : Int32) (o1 : Nat) (fo : Nat → Int64) (ro : Int32) (gz : CG) (uz : RS) (sz : Nat) (hF : C7_setRank g u0 a1 a2 = some (.inr (ro, gz, uz))) : vx_Met l yL_setRank (wsgH yL_setRank cL_setRank 5 (some .int) [(0, 10, 13, 22), (0, 10, 17, 13)]) ({ frames := 12, cells := 67, slots := 831, locals := 700 }) (va_Pc [.ref (ad .cl), .int a1, .int a2, .ref o1] (fun U => U.heap.size = sz ∧ va_P (dC, dI) vwCl ([(o1, eL cy fo)] ++ WC cy ad ks g u0) U.heap ∧ va_K (dC, dI) vwCl (tyL cy) U ∧ va_D (fun _ => True) ([(o1, eL cy fo)] ++ WC cy ad ks g u0) ∧ GE nb (va_A ([(o1, eL cy fo)] ++ WC cy ad ks g u0) sz) U)) (va_Qi (fun (r : Int32) (_ : Unit) => r = 0) (fun _ t => ∃ (ad' : CK → Nat) (ks' : List CK), GA nb ad' gz ks' ∧ AX g ad gz ad' ∧ va_P (dC, dI) vwCl ([(o1, eL cy (vp_updL fo ((0 : Int32).toNatClampNeg) (ro.toInt64)))] ++ WC cy ad' ks' gz uz) t.heap ∧ va_D (va_A ([(o1, eL cy fo)] ++ WC cy ad ks g u0) sz) ([(o1, eL cy (vp_updL fo ((0 : Int32).toNatClampNeg) (ro.toInt64)))] ++ WC cy ad' ks' gz uz)) (va_A ([(o1, eL cy fo)] ++ WC cy ad ks g u0) sz)) (vx_X (fun (_ : Unit) => False) (fun _ _ _ => True) (va_A ([(o1, eL cy fo)] ++ WC cy ad ks g u0) sz)) 67 831 (va_A ([(o1, eL cy fo)] ++ WC cy ad ks g u0) sz) := by
  refine vx_ofWH (cc := cL_setRank) (maxL := 5) (ret := (some .int)) (hh := [(0, 10, 13, 22), (0, 10, 17, 13)]) pn_L rfl ?_
  intro p e s m args below meth c s₁ B hml hv
  obtain ⟨rfl, hsz, hP, hK, hD0, hE⟩ := hv
  have hx := B.exec
  have hb := B.bytes
  have hr := B.returns
  have hts0 := atoms_spec (ws := (wsgH yL_setRank cL_setRank 5 (some .int) [(0, 10, 13, 22), (0, 10, 17, 13)])) B.pre
  have hts : ∀ w ∈ wsL_law, w.before _ s = true := fun w h => hts0 w (List.mem_cons_of_mem _ h)
  have hown : s.vm.findClass RL = some m.cls := by have h9 := findClass_of_methodNamed B.named; exact h9
  have hlocks := B.notSynchronized
  subst hsz
  have hD := hD0.self (sz := s.heap.size)
  generalize hAe : va_A ([(o1, eL cy fo)] ++ WC cy ad ks g u0) s.heap.size = A at hD hE ⊢
  have hA : ∀ q : Nat, s.heap.size ≤ q → A q := fun q h => by rw [← hAe]; exact Or.inr h
  have hS : va_S A s.heap s.heap [] := va_S.rf
  have hl := lv_entry ([.ref (ad .cl), .int a1, .int a2, .ref o1]) (n := 5) (Nat.le_of_ble_eq_true rfl)
  rw [lg_entry_eq]
  generalize (lg_sl ([.ref (ad .cl), .int a1, .int a2, .ref o1]) ++ List.replicate (5 - (lg_sl ([.ref (ad .cl), .int a1, .int a2, .ref o1])).length) Slot.unset).toArray = ls at hl ⊢
  have hl : lv_has ls 5 [(0, .ref (ad .cl)), (1, .int a1), (2, .int a2), (3, .ref o1)] := hl
  generalize hHe : s.heap = H at hP hS ⊢
  have hS : va_S A s.heap H [] := by rw [hHe]; exact hS
  have htab := vx_table (x := yL_setRank) B (hts0 (.codeWith yL_setRank cL_setRank 5 (some .int) [(0, 10, 13, 22), (0, 10, 17, 13)]) List.mem_cons_self)
  refine lv_aload_n hx hb dL_setRank_0 rfl (lv_at hl 3 rfl) ?_
  refine lv_iconst (v := 0) hx hb dL_setRank_1 (by decide) ?_
  refine lv_aload_n hx hb dL_setRank_2 rfl (lv_at hl 0 rfl) ?_
  refine lv_iload_n hx hb dL_setRank_3 rfl (lv_at hl 1 rfl) ?_
  refine lv_iload_n hx hb dL_setRank_4 rfl (lv_at hl 2 rfl) ?_
  have hPc : va_P (dC, dI) vwCl (WC cy ad ks g u0) H := hP.part (X := [(o1, eL cy fo)]) (cx := []) [] rfl
  have hDc : va_D A (WC cy ad ks g u0) := hD.part (X := [(o1, eL cy fo)]) (cx := []) [] (by decide) rfl
  have hFc : ∀ q, va_A (WC cy ad ks g u0) H.size q → A q := va_freeP (X := [(o1, eL cy fo)]) (cx := []) hD hS hA [] rfl
  obtain ⟨q8, h8⟩ := wc_at (cy := cy) (ad := ad) (ks := ks) (g := g) (u := u0) (κ := .cl) hk.1 True.intro
  refine va_calli (va_runV (As := [.int a1, .int a2]) (rest := [.int 0, .ref o1]) ⟨hx, hb, hml, hown, hts⟩ (c_X7_setRank l dC dI cy nb ad ks g hk u0 a1 a2 ro gz uz H.size hF) (cwV 2 hts (gV mw_1020 mw_1021 mw_1022 mw_2 mw_1023) rfl rfl rfl (by decide +kernel) ⟨Nat.le_of_ble_eq_true rfl, Nat.le_of_ble_eq_true rfl⟩) (my_preV hPc hK hDc hE hS hFc (va_recv (q := (RX7, TX7, 12)) hK hPc (ci := 7) (q0 := q8) rfl h8)) rfl rfl hl.1 rfl (lv_room (Nat.le_of_ble_eq_true rfl)) dL_setRank_5 ⟨Nat.le_of_ble_eq_true rfl, Nat.le_of_ble_eq_true rfl⟩) hS (fun q _ h => hFc q h) hFc (fun r u t H1 locs ht hvm hw hB hz1 hk1 hS => ?_)
  clear h8
  obtain ⟨ad', ks', hkz, axz, hP1, hD1⟩ := hB
  rw [ht] at hP1
  obtain ⟨hP, hD⟩ := va_joinP (X := [(o1, eL cy fo)]) (cx := []) (wr := [(o1, eL cy fo)]) (rx := []) (pl := WC cy ad ks g u0) (pl1 := WC cy ad' ks' gz uz) hP hD [] [0] rfl rfl (by decide) (by decide) hk1 hFc hP1 hD1
  generalize H1 = H at hP hS ⊢
  have hP : va_P (dC, dI) vwCl ([(o1, eL cy fo)] ++ WC cy ad' ks' gz uz) H := hP
  have hD : va_D A ([(o1, eL cy fo)] ++ WC cy ad' ks' gz uz) := hD
  refine my_topi hw ?_
  refine W.widen (k := 67) (n := 831) (by omega) (by omega) ?_
  refine lv_i2l (v := ro.toInt64) hx hb dL_setRank_8 rfl ?_
  refine va_last hx hb hK hP hD hS 0 3 rfl rfl (vp_in_nI (n := 0) (by decide) (by decide)) dL_setRank_9 (fun H locs hP hD hS => ?_)
  have hP : va_P (dC, dI) vwCl ([(o1, eL cy (vp_updL fo ((0 : Int32).toNatClampNeg) (ro.toInt64)))] ++ WC cy ad' ks' gz uz) H := hP
  have hD : va_D A ([(o1, eL cy (vp_updL fo ((0 : Int32).toNatClampNeg) (ro.toInt64)))] ++ WC cy ad' ks' gz uz) := hD
  refine lv_goto (tgt := 21) hx hb dL_setRank_10 (by decide) ?_
  refine lv_iconst (v := 0) hx hb dL_setRank_21 (by decide) ?_
  refine vx_ret ?_
  exact W.iret (v := 0) hx hb hr (fun t ht hW => ⟨⟨0, (), rfl, rfl, ad', ks', hkz, axz, by rw [ht]; exact hP, hD⟩, hS.F ht⟩) hS.2.2 dL_setRank_22
set_option maxHeartbeats 4000000 in
set_option maxRecDepth 100000 in
theorem ct_setRank (l : Launch) (hst : l.stackTraces = false) (dC : Nat → ClassId) (dI : Nat → Nat → Nat) (cy : Nat → ClassId) (nb : Nat → Nat) (ad : CK → Nat) (ks : List CK) (g : CG) (hk : GA nb ad g ks) (u0 : RS) (a1 : Int32) (a2 : Int32) (o1 : Nat) (fo : Nat → Int64) (xc : Int32) (sz : Nat) (hF : C7_setRank g u0 a1 a2 = some (.inl xc)) : vx_Met l yL_setRank (wsgH yL_setRank cL_setRank 5 (some .int) [(0, 10, 13, 22), (0, 10, 17, 13)]) ({ frames := 12, cells := 67, slots := 831, locals := 700 }) (va_Pc [.ref (ad .cl), .int a1, .int a2, .ref o1] (fun U => U.heap.size = sz ∧ va_P (dC, dI) vwCl ([(o1, eL cy fo)] ++ WC cy ad ks g u0) U.heap ∧ va_K (dC, dI) vwCl (tyL cy) U ∧ va_D (fun _ => True) ([(o1, eL cy fo)] ++ WC cy ad ks g u0) ∧ GE nb (va_A ([(o1, eL cy fo)] ++ WC cy ad ks g u0) sz) U)) (va_Qi (fun (r : Int32) (_ : Unit) => r = if xc = 1 then 1 else 2) (fun _ t => va_P (dC, dI) vwCl ([(o1, eL cy fo)] ++ WC cy ad ks g u0) t.heap ∧ va_D (va_A ([(o1, eL cy fo)] ++ WC cy ad ks g u0) sz) ([(o1, eL cy fo)] ++ WC cy ad ks g u0)) (va_A ([(o1, eL cy fo)] ++ WC cy ad ks g u0) sz)) (vx_X (fun (_ : Unit) => False) (fun _ _ _ => True) (va_A ([(o1, eL cy fo)] ++ WC cy ad ks g u0) sz)) 67 831 (va_A ([(o1, eL cy fo)] ++ WC cy ad ks g u0) sz) := by
  refine vx_ofWH (cc := cL_setRank) (maxL := 5) (ret := (some .int)) (hh := [(0, 10, 13, 22), (0, 10, 17, 13)]) pn_L rfl ?_
  intro p e s m args below meth c s₁ B hml hv
  obtain ⟨rfl, hsz, hP, hK, hD0, hE⟩ := hv
  have hx := B.exec
  have hb := B.bytes
  have hr := B.returns
  have hts0 := atoms_spec (ws := (wsgH yL_setRank cL_setRank 5 (some .int) [(0, 10, 13, 22), (0, 10, 17, 13)])) B.pre
  have hts : ∀ w ∈ wsL_law, w.before _ s = true := fun w h => hts0 w (List.mem_cons_of_mem _ h)
  have hown : s.vm.findClass RL = some m.cls := by have h9 := findClass_of_methodNamed B.named; exact h9
  have hlocks := B.notSynchronized
  subst hsz
  have hD := hD0.self (sz := s.heap.size)
  generalize hAe : va_A ([(o1, eL cy fo)] ++ WC cy ad ks g u0) s.heap.size = A at hD hE ⊢
  have hA : ∀ q : Nat, s.heap.size ≤ q → A q := fun q h => by rw [← hAe]; exact Or.inr h
  have hS : va_S A s.heap s.heap [] := va_S.rf
  have hl := lv_entry ([.ref (ad .cl), .int a1, .int a2, .ref o1]) (n := 5) (Nat.le_of_ble_eq_true rfl)
  rw [lg_entry_eq]
  generalize (lg_sl ([.ref (ad .cl), .int a1, .int a2, .ref o1]) ++ List.replicate (5 - (lg_sl ([.ref (ad .cl), .int a1, .int a2, .ref o1])).length) Slot.unset).toArray = ls at hl ⊢
  have hl : lv_has ls 5 [(0, .ref (ad .cl)), (1, .int a1), (2, .int a2), (3, .ref o1)] := hl
  generalize hHe : s.heap = H at hP hS ⊢
  have hS : va_S A s.heap H [] := by rw [hHe]; exact hS
  have htab := vx_table (x := yL_setRank) B (hts0 (.codeWith yL_setRank cL_setRank 5 (some .int) [(0, 10, 13, 22), (0, 10, 17, 13)]) List.mem_cons_self)
  refine lv_aload_n hx hb dL_setRank_0 rfl (lv_at hl 3 rfl) ?_
  refine lv_iconst (v := 0) hx hb dL_setRank_1 (by decide) ?_
  refine lv_aload_n hx hb dL_setRank_2 rfl (lv_at hl 0 rfl) ?_
  refine lv_iload_n hx hb dL_setRank_3 rfl (lv_at hl 1 rfl) ?_
  refine lv_iload_n hx hb dL_setRank_4 rfl (lv_at hl 2 rfl) ?_
  have hPc : va_P (dC, dI) vwCl (WC cy ad ks g u0) H := hP.part (X := [(o1, eL cy fo)]) (cx := []) [] rfl
  have hDc : va_D A (WC cy ad ks g u0) := hD.part (X := [(o1, eL cy fo)]) (cx := []) [] (by decide) rfl
  have hFc : ∀ q, va_A (WC cy ad ks g u0) H.size q → A q := va_freeP (X := [(o1, eL cy fo)]) (cx := []) hD hS hA [] rfl
  obtain ⟨q8, h8⟩ := wc_at (cy := cy) (ad := ad) (ks := ks) (g := g) (u := u0) (κ := .cl) hk.1 True.intro
  refine vx_calli (vx_runV (As := [.int a1, .int a2]) (rest := [.int 0, .ref o1]) ⟨hx, hb, hml, hown, hts⟩ (c_X7_setRank_y l hst dC dI cy nb ad ks g hk u0 a1 a2 xc H.size hF) (cwV 2 hts (gV mw_1020 mw_1021 mw_1022 mw_2 mw_1023) rfl rfl rfl (by decide +kernel) ⟨Nat.le_of_ble_eq_true rfl, Nat.le_of_ble_eq_true rfl⟩) (my_preV hPc hK hDc hE hS hFc (va_recv (q := (RX7, TX7, 12)) hK hPc (ci := 7) (q0 := q8) rfl h8)) rfl rfl hl.1 rfl (lv_room (Nat.le_of_ble_eq_true rfl)) dL_setRank_5 ⟨Nat.le_of_ble_eq_true rfl, Nat.le_of_ble_eq_true rfl⟩) hS (fun q _ h => hFc q h) hFc (fun q _ h => hFc q h) (fun E9 ce9 q9 u9 t9 H1 locs1 ht9 hvm9 hp9 hB9 hz9 hk9 hS9 hc9 hv9 hcl9 => ?_) (fun r9 u9 t9 H1 locs1 ht9 hvm9 hp9 _ _ _ _ => hp9.elim)
  clear h8
  obtain ⟨hB8, hP1⟩ := hB9
  rw [ht9] at hP1
  obtain ⟨hP, hD⟩ := va_joinP (X := [(o1, eL cy fo)]) (cx := []) (wr := [(o1, eL cy fo)]) (rx := []) (pl := WC cy ad ks g u0) (pl1 := WC cy ad ks g u0) hP hD [] [0] rfl rfl (by decide) (by decide) hk9 hFc hP1 hDc.self
  have hP : va_P (dC, dI) vwCl ([(o1, eL cy fo)] ++ WC cy ad ks g u0) H1 := hP
  have hD : va_D A ([(o1, eL cy fo)] ++ WC cy ad ks g u0) := hD
  by_cases hxc : xc = 1
  · obtain rfl : E9 = xI := hB8.trans (if_pos hxc)
    refine vx_catch (own := RL) (name := xI) hown (tableOf []) _ (tableOf [(0, 10, 17, 13)]) (htab.trans rfl) (fun z hz => nomatch hz) (by decide) (by decide) (hts _ mw_612) (va_Nw.use rfl hE.cI) hc9 hv9 hcl9 ?_
    generalize H1 = H at hP hS9 ⊢
    refine W.widen (k := 67) (n := 831) (by omega) (by omega) ?_
    refine lv_astore (lv' := [(4, .ref q9), (0, .ref (ad .cl)), (1, .int a1), (2, .int a2), (3, .ref o1)]) hx hb dL_setRank_13 hl (by decide) rfl (fun ls hl => ?_)
    refine lv_iconst (v := 1) hx hb dL_setRank_15 (by decide) ?_
    refine vx_ret ?_
    exact W.iret (v := 1) hx hb hr (fun t ht hW => ⟨⟨1, (), rfl, (if_pos hxc).symm, by rw [ht]; exact hP, hD⟩, hS9.F ht⟩) hS9.2.2 dL_setRank_16
  · obtain rfl : E9 = xA := hB8.trans (if_neg hxc)
    refine vx_catch (own := RL) (name := xA) hown (tableOf [(0, 10, 13, 22)]) _ (tableOf []) (htab.trans rfl) (fun z hz => by obtain rfl := List.mem_singleton.mp hz; exact Or.inr ⟨by decide, xI, hts _ mw_612, hE.nc⟩) (by decide) (by decide) (hts _ mw_564) (va_Nw.use rfl hE.cA) hc9 hv9 hcl9 ?_
    generalize H1 = H at hP hS9 ⊢
    refine W.widen (k := 67) (n := 831) (by omega) (by omega) ?_
    refine lv_astore (lv' := [(4, .ref q9), (0, .ref (ad .cl)), (1, .int a1), (2, .int a2), (3, .ref o1)]) hx hb dL_setRank_17 hl (by decide) rfl (fun ls hl => ?_)
    refine lv_iconst (v := 2) hx hb dL_setRank_19 (by decide) ?_
    refine vx_ret ?_
    exact W.iret (v := 2) hx hb hr (fun t ht hW => ⟨⟨2, (), rfl, (if_neg hxc).symm, by rw [ht]; exact hP, hD⟩, hS9.F ht⟩) hS9.2.2 dL_setRank_20
set_option maxHeartbeats 4000000 in
set_option maxRecDepth 100000 in
theorem cn_refill (l : Launch) (hst : l.stackTraces = false) (dC : Nat → ClassId) (dI : Nat → Nat → Nat) (cy : Nat → ClassId) (nb : Nat → Nat) (ad : CK → Nat) (ks : List CK) (g : CG) (hk : GA nb ad g ks) (u0 : RS) (a1 : Int32) (o1 : Nat) (fo : Nat → Int64) (ro : Int32) (gz : CG) (uz : RS) (sz : Nat) (hF : C7_refill g u0 a1 = some (.inr (ro, gz, uz))) : vx_Met l yL_refill (wsgH yL_refill cL_refill 4 (some .int) [(0, 9, 12, 13)]) ({ frames := 12, cells := 67, slots := 831, locals := 700 }) (va_Pc [.ref (ad .cl), .int a1, .ref o1] (fun U => U.heap.size = sz ∧ va_P (dC, dI) vwCl ([(o1, eL cy fo)] ++ WC cy ad ks g u0) U.heap ∧ va_K (dC, dI) vwCl (tyL cy) U ∧ va_D (fun _ => True) ([(o1, eL cy fo)] ++ WC cy ad ks g u0) ∧ GE nb (va_A ([(o1, eL cy fo)] ++ WC cy ad ks g u0) sz) U)) (va_Qi (fun (r : Int32) (_ : Unit) => r = 0) (fun _ t => ∃ (ad' : CK → Nat) (ks' : List CK), GA nb ad' gz ks' ∧ AX g ad gz ad' ∧ va_P (dC, dI) vwCl ([(o1, eL cy (vp_updL fo ((0 : Int32).toNatClampNeg) (ro.toInt64)))] ++ WC cy ad' ks' gz uz) t.heap ∧ va_D (va_A ([(o1, eL cy fo)] ++ WC cy ad ks g u0) sz) ([(o1, eL cy (vp_updL fo ((0 : Int32).toNatClampNeg) (ro.toInt64)))] ++ WC cy ad' ks' gz uz)) (va_A ([(o1, eL cy fo)] ++ WC cy ad ks g u0) sz)) (vx_X (fun (_ : Unit) => False) (fun _ _ _ => True) (va_A ([(o1, eL cy fo)] ++ WC cy ad ks g u0) sz)) 67 831 (va_A ([(o1, eL cy fo)] ++ WC cy ad ks g u0) sz) := by
  refine vx_ofWH (cc := cL_refill) (maxL := 4) (ret := (some .int)) (hh := [(0, 9, 12, 13)]) pn_L rfl ?_
  intro p e s m args below meth c s₁ B hml hv
  obtain ⟨rfl, hsz, hP, hK, hD0, hE⟩ := hv
  have hx := B.exec
  have hb := B.bytes
  have hr := B.returns
  have hts0 := atoms_spec (ws := (wsgH yL_refill cL_refill 4 (some .int) [(0, 9, 12, 13)])) B.pre
  have hts : ∀ w ∈ wsL_law, w.before _ s = true := fun w h => hts0 w (List.mem_cons_of_mem _ h)
  have hown : s.vm.findClass RL = some m.cls := by have h9 := findClass_of_methodNamed B.named; exact h9
  have hlocks := B.notSynchronized
  subst hsz
  have hD := hD0.self (sz := s.heap.size)
  generalize hAe : va_A ([(o1, eL cy fo)] ++ WC cy ad ks g u0) s.heap.size = A at hD hE ⊢
  have hA : ∀ q : Nat, s.heap.size ≤ q → A q := fun q h => by rw [← hAe]; exact Or.inr h
  have hS : va_S A s.heap s.heap [] := va_S.rf
  have hl := lv_entry ([.ref (ad .cl), .int a1, .ref o1]) (n := 4) (Nat.le_of_ble_eq_true rfl)
  rw [lg_entry_eq]
  generalize (lg_sl ([.ref (ad .cl), .int a1, .ref o1]) ++ List.replicate (4 - (lg_sl ([.ref (ad .cl), .int a1, .ref o1])).length) Slot.unset).toArray = ls at hl ⊢
  have hl : lv_has ls 4 [(0, .ref (ad .cl)), (1, .int a1), (2, .ref o1)] := hl
  generalize hHe : s.heap = H at hP hS ⊢
  have hS : va_S A s.heap H [] := by rw [hHe]; exact hS
  have htab := vx_table (x := yL_refill) B (hts0 (.codeWith yL_refill cL_refill 4 (some .int) [(0, 9, 12, 13)]) List.mem_cons_self)
  refine lv_aload_n hx hb dL_refill_0 rfl (lv_at hl 2 rfl) ?_
  refine lv_iconst (v := 0) hx hb dL_refill_1 (by decide) ?_
  refine lv_aload_n hx hb dL_refill_2 rfl (lv_at hl 0 rfl) ?_
  refine lv_iload_n hx hb dL_refill_3 rfl (lv_at hl 1 rfl) ?_
  have hPc : va_P (dC, dI) vwCl (WC cy ad ks g u0) H := hP.part (X := [(o1, eL cy fo)]) (cx := []) [] rfl
  have hDc : va_D A (WC cy ad ks g u0) := hD.part (X := [(o1, eL cy fo)]) (cx := []) [] (by decide) rfl
  have hFc : ∀ q, va_A (WC cy ad ks g u0) H.size q → A q := va_freeP (X := [(o1, eL cy fo)]) (cx := []) hD hS hA [] rfl
  obtain ⟨q8, h8⟩ := wc_at (cy := cy) (ad := ad) (ks := ks) (g := g) (u := u0) (κ := .cl) hk.1 True.intro
  refine va_calli (va_runV (As := [.int a1]) (rest := [.int 0, .ref o1]) ⟨hx, hb, hml, hown, hts⟩ (c_X7_refill l dC dI cy nb ad ks g hk u0 a1 ro gz uz H.size hF) (cwV 1 hts (gV mw_1035 mw_1036 mw_1037 mw_2 mw_1038) rfl rfl rfl (by decide +kernel) ⟨Nat.le_of_ble_eq_true rfl, Nat.le_of_ble_eq_true rfl⟩) (my_preV hPc hK hDc hE hS hFc (va_recv (q := (RX7, TX7, 12)) hK hPc (ci := 7) (q0 := q8) rfl h8)) rfl rfl hl.1 rfl (lv_room (Nat.le_of_ble_eq_true rfl)) dL_refill_4 ⟨Nat.le_of_ble_eq_true rfl, Nat.le_of_ble_eq_true rfl⟩) hS (fun q _ h => hFc q h) hFc (fun r u t H1 locs ht hvm hw hB hz1 hk1 hS => ?_)
  clear h8
  obtain ⟨ad', ks', hkz, axz, hP1, hD1⟩ := hB
  rw [ht] at hP1
  obtain ⟨hP, hD⟩ := va_joinP (X := [(o1, eL cy fo)]) (cx := []) (wr := [(o1, eL cy fo)]) (rx := []) (pl := WC cy ad ks g u0) (pl1 := WC cy ad' ks' gz uz) hP hD [] [0] rfl rfl (by decide) (by decide) hk1 hFc hP1 hD1
  generalize H1 = H at hP hS ⊢
  have hP : va_P (dC, dI) vwCl ([(o1, eL cy fo)] ++ WC cy ad' ks' gz uz) H := hP
  have hD : va_D A ([(o1, eL cy fo)] ++ WC cy ad' ks' gz uz) := hD
  refine my_topi hw ?_
  refine W.widen (k := 67) (n := 831) (by omega) (by omega) ?_
  refine lv_i2l (v := ro.toInt64) hx hb dL_refill_7 rfl ?_
  refine va_last hx hb hK hP hD hS 0 3 rfl rfl (vp_in_nI (n := 0) (by decide) (by decide)) dL_refill_8 (fun H locs hP hD hS => ?_)
  have hP : va_P (dC, dI) vwCl ([(o1, eL cy (vp_updL fo ((0 : Int32).toNatClampNeg) (ro.toInt64)))] ++ WC cy ad' ks' gz uz) H := hP
  have hD : va_D A ([(o1, eL cy (vp_updL fo ((0 : Int32).toNatClampNeg) (ro.toInt64)))] ++ WC cy ad' ks' gz uz) := hD
  refine lv_goto (tgt := 15) hx hb dL_refill_9 (by decide) ?_
  refine lv_iconst (v := 0) hx hb dL_refill_15 (by decide) ?_
  refine vx_ret ?_
  exact W.iret (v := 0) hx hb hr (fun t ht hW => ⟨⟨0, (), rfl, rfl, ad', ks', hkz, axz, by rw [ht]; exact hP, hD⟩, hS.F ht⟩) hS.2.2 dL_refill_16
set_option maxHeartbeats 4000000 in
set_option maxRecDepth 100000 in
theorem ct_refill (l : Launch) (hst : l.stackTraces = false) (dC : Nat → ClassId) (dI : Nat → Nat → Nat) (cy : Nat → ClassId) (nb : Nat → Nat) (ad : CK → Nat) (ks : List CK) (g : CG) (hk : GA nb ad g ks) (u0 : RS) (a1 : Int32) (o1 : Nat) (fo : Nat → Int64) (xc : Int32) (sz : Nat) (hxc : ¬ xc = 1) (hF : C7_refill g u0 a1 = some (.inl xc)) : vx_Met l yL_refill (wsgH yL_refill cL_refill 4 (some .int) [(0, 9, 12, 13)]) ({ frames := 12, cells := 67, slots := 831, locals := 700 }) (va_Pc [.ref (ad .cl), .int a1, .ref o1] (fun U => U.heap.size = sz ∧ va_P (dC, dI) vwCl ([(o1, eL cy fo)] ++ WC cy ad ks g u0) U.heap ∧ va_K (dC, dI) vwCl (tyL cy) U ∧ va_D (fun _ => True) ([(o1, eL cy fo)] ++ WC cy ad ks g u0) ∧ GE nb (va_A ([(o1, eL cy fo)] ++ WC cy ad ks g u0) sz) U)) (va_Qi (fun (r : Int32) (_ : Unit) => r = 1) (fun _ t => va_P (dC, dI) vwCl ([(o1, eL cy fo)] ++ WC cy ad ks g u0) t.heap ∧ va_D (va_A ([(o1, eL cy fo)] ++ WC cy ad ks g u0) sz) ([(o1, eL cy fo)] ++ WC cy ad ks g u0)) (va_A ([(o1, eL cy fo)] ++ WC cy ad ks g u0) sz)) (vx_X (fun (_ : Unit) => False) (fun _ _ _ => True) (va_A ([(o1, eL cy fo)] ++ WC cy ad ks g u0) sz)) 67 831 (va_A ([(o1, eL cy fo)] ++ WC cy ad ks g u0) sz) := by
  refine vx_ofWH (cc := cL_refill) (maxL := 4) (ret := (some .int)) (hh := [(0, 9, 12, 13)]) pn_L rfl ?_
  intro p e s m args below meth c s₁ B hml hv
  obtain ⟨rfl, hsz, hP, hK, hD0, hE⟩ := hv
  have hx := B.exec
  have hb := B.bytes
  have hr := B.returns
  have hts0 := atoms_spec (ws := (wsgH yL_refill cL_refill 4 (some .int) [(0, 9, 12, 13)])) B.pre
  have hts : ∀ w ∈ wsL_law, w.before _ s = true := fun w h => hts0 w (List.mem_cons_of_mem _ h)
  have hown : s.vm.findClass RL = some m.cls := by have h9 := findClass_of_methodNamed B.named; exact h9
  have hlocks := B.notSynchronized
  subst hsz
  have hD := hD0.self (sz := s.heap.size)
  generalize hAe : va_A ([(o1, eL cy fo)] ++ WC cy ad ks g u0) s.heap.size = A at hD hE ⊢
  have hA : ∀ q : Nat, s.heap.size ≤ q → A q := fun q h => by rw [← hAe]; exact Or.inr h
  have hS : va_S A s.heap s.heap [] := va_S.rf
  have hl := lv_entry ([.ref (ad .cl), .int a1, .ref o1]) (n := 4) (Nat.le_of_ble_eq_true rfl)
  rw [lg_entry_eq]
  generalize (lg_sl ([.ref (ad .cl), .int a1, .ref o1]) ++ List.replicate (4 - (lg_sl ([.ref (ad .cl), .int a1, .ref o1])).length) Slot.unset).toArray = ls at hl ⊢
  have hl : lv_has ls 4 [(0, .ref (ad .cl)), (1, .int a1), (2, .ref o1)] := hl
  generalize hHe : s.heap = H at hP hS ⊢
  have hS : va_S A s.heap H [] := by rw [hHe]; exact hS
  have htab := vx_table (x := yL_refill) B (hts0 (.codeWith yL_refill cL_refill 4 (some .int) [(0, 9, 12, 13)]) List.mem_cons_self)
  refine lv_aload_n hx hb dL_refill_0 rfl (lv_at hl 2 rfl) ?_
  refine lv_iconst (v := 0) hx hb dL_refill_1 (by decide) ?_
  refine lv_aload_n hx hb dL_refill_2 rfl (lv_at hl 0 rfl) ?_
  refine lv_iload_n hx hb dL_refill_3 rfl (lv_at hl 1 rfl) ?_
  have hPc : va_P (dC, dI) vwCl (WC cy ad ks g u0) H := hP.part (X := [(o1, eL cy fo)]) (cx := []) [] rfl
  have hDc : va_D A (WC cy ad ks g u0) := hD.part (X := [(o1, eL cy fo)]) (cx := []) [] (by decide) rfl
  have hFc : ∀ q, va_A (WC cy ad ks g u0) H.size q → A q := va_freeP (X := [(o1, eL cy fo)]) (cx := []) hD hS hA [] rfl
  obtain ⟨q8, h8⟩ := wc_at (cy := cy) (ad := ad) (ks := ks) (g := g) (u := u0) (κ := .cl) hk.1 True.intro
  refine vx_calli (vx_runV (As := [.int a1]) (rest := [.int 0, .ref o1]) ⟨hx, hb, hml, hown, hts⟩ (c_X7_refill_y l hst dC dI cy nb ad ks g hk u0 a1 xc H.size hF) (cwV 1 hts (gV mw_1035 mw_1036 mw_1037 mw_2 mw_1038) rfl rfl rfl (by decide +kernel) ⟨Nat.le_of_ble_eq_true rfl, Nat.le_of_ble_eq_true rfl⟩) (my_preV hPc hK hDc hE hS hFc (va_recv (q := (RX7, TX7, 12)) hK hPc (ci := 7) (q0 := q8) rfl h8)) rfl rfl hl.1 rfl (lv_room (Nat.le_of_ble_eq_true rfl)) dL_refill_4 ⟨Nat.le_of_ble_eq_true rfl, Nat.le_of_ble_eq_true rfl⟩) hS (fun q _ h => hFc q h) hFc (fun q _ h => hFc q h) (fun E9 ce9 q9 u9 t9 H1 locs1 ht9 hvm9 hp9 hB9 hz9 hk9 hS9 hc9 hv9 hcl9 => ?_) (fun r9 u9 t9 H1 locs1 ht9 hvm9 hp9 _ _ _ _ => hp9.elim)
  clear h8
  obtain ⟨hB8, hP1⟩ := hB9
  rw [ht9] at hP1
  obtain ⟨hP, hD⟩ := va_joinP (X := [(o1, eL cy fo)]) (cx := []) (wr := [(o1, eL cy fo)]) (rx := []) (pl := WC cy ad ks g u0) (pl1 := WC cy ad ks g u0) hP hD [] [0] rfl rfl (by decide) (by decide) hk9 hFc hP1 hDc.self
  have hP : va_P (dC, dI) vwCl ([(o1, eL cy fo)] ++ WC cy ad ks g u0) H1 := hP
  have hD : va_D A ([(o1, eL cy fo)] ++ WC cy ad ks g u0) := hD
  obtain rfl : E9 = xA := hB8.trans (if_neg hxc)
  refine vx_catch (own := RL) (name := xA) hown (tableOf []) _ (tableOf []) (htab.trans rfl) (fun z hz => nomatch hz) (by decide) (by decide) (hts _ mw_564) (va_Nw.use rfl hE.cA) hc9 hv9 hcl9 ?_
  generalize H1 = H at hP hS9 ⊢
  refine W.widen (k := 67) (n := 831) (by omega) (by omega) ?_
  refine lv_astore_n (lv' := [(3, .ref q9), (0, .ref (ad .cl)), (1, .int a1), (2, .ref o1)]) hx hb dL_refill_12 rfl hl (by decide) rfl (fun ls hl => ?_)
  refine lv_iconst (v := 1) hx hb dL_refill_13 (by decide) ?_
  refine vx_ret ?_
  exact W.iret (v := 1) hx hb hr (fun t ht hW => ⟨⟨1, (), rfl, rfl, by rw [ht]; exact hP, hD⟩, hS9.F ht⟩) hS9.2.2 dL_refill_14
set_option maxHeartbeats 4000000 in
set_option maxRecDepth 100000 in
theorem cn_setPace (l : Launch) (hst : l.stackTraces = false) (dC : Nat → ClassId) (dI : Nat → Nat → Nat) (cy : Nat → ClassId) (nb : Nat → Nat) (ad : CK → Nat) (ks : List CK) (g : CG) (hk : GA nb ad g ks) (u0 : RS) (a1 : Int32) (a2 : Int32) (o1 : Nat) (fo : Nat → Int64) (ro : Int32) (gz : CG) (uz : RS) (sz : Nat) (hF : C7_setPace g u0 a1 a2 = some (.inr (ro, gz, uz))) : vx_Met l yL_setPace (wsgH yL_setPace cL_setPace 5 (some .int) [(0, 10, 13, 22), (0, 10, 17, 13)]) ({ frames := 12, cells := 67, slots := 831, locals := 700 }) (va_Pc [.ref (ad .cl), .int a1, .int a2, .ref o1] (fun U => U.heap.size = sz ∧ va_P (dC, dI) vwCl ([(o1, eL cy fo)] ++ WC cy ad ks g u0) U.heap ∧ va_K (dC, dI) vwCl (tyL cy) U ∧ va_D (fun _ => True) ([(o1, eL cy fo)] ++ WC cy ad ks g u0) ∧ GE nb (va_A ([(o1, eL cy fo)] ++ WC cy ad ks g u0) sz) U)) (va_Qi (fun (r : Int32) (_ : Unit) => r = 0) (fun _ t => ∃ (ad' : CK → Nat) (ks' : List CK), GA nb ad' gz ks' ∧ AX g ad gz ad' ∧ va_P (dC, dI) vwCl ([(o1, eL cy (vp_updL fo ((0 : Int32).toNatClampNeg) (ro.toInt64)))] ++ WC cy ad' ks' gz uz) t.heap ∧ va_D (va_A ([(o1, eL cy fo)] ++ WC cy ad ks g u0) sz) ([(o1, eL cy (vp_updL fo ((0 : Int32).toNatClampNeg) (ro.toInt64)))] ++ WC cy ad' ks' gz uz)) (va_A ([(o1, eL cy fo)] ++ WC cy ad ks g u0) sz)) (vx_X (fun (_ : Unit) => False) (fun _ _ _ => True) (va_A ([(o1, eL cy fo)] ++ WC cy ad ks g u0) sz)) 67 831 (va_A ([(o1, eL cy fo)] ++ WC cy ad ks g u0) sz) := by
  refine vx_ofWH (cc := cL_setPace) (maxL := 5) (ret := (some .int)) (hh := [(0, 10, 13, 22), (0, 10, 17, 13)]) pn_L rfl ?_
  intro p e s m args below meth c s₁ B hml hv
  obtain ⟨rfl, hsz, hP, hK, hD0, hE⟩ := hv
  have hx := B.exec
  have hb := B.bytes
  have hr := B.returns
  have hts0 := atoms_spec (ws := (wsgH yL_setPace cL_setPace 5 (some .int) [(0, 10, 13, 22), (0, 10, 17, 13)])) B.pre
  have hts : ∀ w ∈ wsL_law, w.before _ s = true := fun w h => hts0 w (List.mem_cons_of_mem _ h)
  have hown : s.vm.findClass RL = some m.cls := by have h9 := findClass_of_methodNamed B.named; exact h9
  have hlocks := B.notSynchronized
  subst hsz
  have hD := hD0.self (sz := s.heap.size)
  generalize hAe : va_A ([(o1, eL cy fo)] ++ WC cy ad ks g u0) s.heap.size = A at hD hE ⊢
  have hA : ∀ q : Nat, s.heap.size ≤ q → A q := fun q h => by rw [← hAe]; exact Or.inr h
  have hS : va_S A s.heap s.heap [] := va_S.rf
  have hl := lv_entry ([.ref (ad .cl), .int a1, .int a2, .ref o1]) (n := 5) (Nat.le_of_ble_eq_true rfl)
  rw [lg_entry_eq]
  generalize (lg_sl ([.ref (ad .cl), .int a1, .int a2, .ref o1]) ++ List.replicate (5 - (lg_sl ([.ref (ad .cl), .int a1, .int a2, .ref o1])).length) Slot.unset).toArray = ls at hl ⊢
  have hl : lv_has ls 5 [(0, .ref (ad .cl)), (1, .int a1), (2, .int a2), (3, .ref o1)] := hl
  generalize hHe : s.heap = H at hP hS ⊢
  have hS : va_S A s.heap H [] := by rw [hHe]; exact hS
  have htab := vx_table (x := yL_setPace) B (hts0 (.codeWith yL_setPace cL_setPace 5 (some .int) [(0, 10, 13, 22), (0, 10, 17, 13)]) List.mem_cons_self)
  refine lv_aload_n hx hb dL_setPace_0 rfl (lv_at hl 3 rfl) ?_
  refine lv_iconst (v := 0) hx hb dL_setPace_1 (by decide) ?_
  refine lv_aload_n hx hb dL_setPace_2 rfl (lv_at hl 0 rfl) ?_
  refine lv_iload_n hx hb dL_setPace_3 rfl (lv_at hl 1 rfl) ?_
  refine lv_iload_n hx hb dL_setPace_4 rfl (lv_at hl 2 rfl) ?_
  have hPc : va_P (dC, dI) vwCl (WC cy ad ks g u0) H := hP.part (X := [(o1, eL cy fo)]) (cx := []) [] rfl
  have hDc : va_D A (WC cy ad ks g u0) := hD.part (X := [(o1, eL cy fo)]) (cx := []) [] (by decide) rfl
  have hFc : ∀ q, va_A (WC cy ad ks g u0) H.size q → A q := va_freeP (X := [(o1, eL cy fo)]) (cx := []) hD hS hA [] rfl
  obtain ⟨q8, h8⟩ := wc_at (cy := cy) (ad := ad) (ks := ks) (g := g) (u := u0) (κ := .cl) hk.1 True.intro
  refine va_calli (va_runV (As := [.int a1, .int a2]) (rest := [.int 0, .ref o1]) ⟨hx, hb, hml, hown, hts⟩ (c_X7_setPace l dC dI cy nb ad ks g hk u0 a1 a2 ro gz uz H.size hF) (cwV 2 hts (gV mw_1047 mw_1048 mw_1049 mw_2 mw_1050) rfl rfl rfl (by decide +kernel) ⟨Nat.le_of_ble_eq_true rfl, Nat.le_of_ble_eq_true rfl⟩) (my_preV hPc hK hDc hE hS hFc (va_recv (q := (RX7, TX7, 12)) hK hPc (ci := 7) (q0 := q8) rfl h8)) rfl rfl hl.1 rfl (lv_room (Nat.le_of_ble_eq_true rfl)) dL_setPace_5 ⟨Nat.le_of_ble_eq_true rfl, Nat.le_of_ble_eq_true rfl⟩) hS (fun q _ h => hFc q h) hFc (fun r u t H1 locs ht hvm hw hB hz1 hk1 hS => ?_)
  clear h8
  obtain ⟨ad', ks', hkz, axz, hP1, hD1⟩ := hB
  rw [ht] at hP1
  obtain ⟨hP, hD⟩ := va_joinP (X := [(o1, eL cy fo)]) (cx := []) (wr := [(o1, eL cy fo)]) (rx := []) (pl := WC cy ad ks g u0) (pl1 := WC cy ad' ks' gz uz) hP hD [] [0] rfl rfl (by decide) (by decide) hk1 hFc hP1 hD1
  generalize H1 = H at hP hS ⊢
  have hP : va_P (dC, dI) vwCl ([(o1, eL cy fo)] ++ WC cy ad' ks' gz uz) H := hP
  have hD : va_D A ([(o1, eL cy fo)] ++ WC cy ad' ks' gz uz) := hD
  refine my_topi hw ?_
  refine W.widen (k := 67) (n := 831) (by omega) (by omega) ?_
  refine lv_i2l (v := ro.toInt64) hx hb dL_setPace_8 rfl ?_
  refine va_last hx hb hK hP hD hS 0 3 rfl rfl (vp_in_nI (n := 0) (by decide) (by decide)) dL_setPace_9 (fun H locs hP hD hS => ?_)
  have hP : va_P (dC, dI) vwCl ([(o1, eL cy (vp_updL fo ((0 : Int32).toNatClampNeg) (ro.toInt64)))] ++ WC cy ad' ks' gz uz) H := hP
  have hD : va_D A ([(o1, eL cy (vp_updL fo ((0 : Int32).toNatClampNeg) (ro.toInt64)))] ++ WC cy ad' ks' gz uz) := hD
  refine lv_goto (tgt := 21) hx hb dL_setPace_10 (by decide) ?_
  refine lv_iconst (v := 0) hx hb dL_setPace_21 (by decide) ?_
  refine vx_ret ?_
  exact W.iret (v := 0) hx hb hr (fun t ht hW => ⟨⟨0, (), rfl, rfl, ad', ks', hkz, axz, by rw [ht]; exact hP, hD⟩, hS.F ht⟩) hS.2.2 dL_setPace_22
set_option maxHeartbeats 4000000 in
set_option maxRecDepth 100000 in
theorem ct_setPace (l : Launch) (hst : l.stackTraces = false) (dC : Nat → ClassId) (dI : Nat → Nat → Nat) (cy : Nat → ClassId) (nb : Nat → Nat) (ad : CK → Nat) (ks : List CK) (g : CG) (hk : GA nb ad g ks) (u0 : RS) (a1 : Int32) (a2 : Int32) (o1 : Nat) (fo : Nat → Int64) (xc : Int32) (sz : Nat) (hF : C7_setPace g u0 a1 a2 = some (.inl xc)) : vx_Met l yL_setPace (wsgH yL_setPace cL_setPace 5 (some .int) [(0, 10, 13, 22), (0, 10, 17, 13)]) ({ frames := 12, cells := 67, slots := 831, locals := 700 }) (va_Pc [.ref (ad .cl), .int a1, .int a2, .ref o1] (fun U => U.heap.size = sz ∧ va_P (dC, dI) vwCl ([(o1, eL cy fo)] ++ WC cy ad ks g u0) U.heap ∧ va_K (dC, dI) vwCl (tyL cy) U ∧ va_D (fun _ => True) ([(o1, eL cy fo)] ++ WC cy ad ks g u0) ∧ GE nb (va_A ([(o1, eL cy fo)] ++ WC cy ad ks g u0) sz) U)) (va_Qi (fun (r : Int32) (_ : Unit) => r = if xc = 1 then 1 else 2) (fun _ t => va_P (dC, dI) vwCl ([(o1, eL cy fo)] ++ WC cy ad ks g u0) t.heap ∧ va_D (va_A ([(o1, eL cy fo)] ++ WC cy ad ks g u0) sz) ([(o1, eL cy fo)] ++ WC cy ad ks g u0)) (va_A ([(o1, eL cy fo)] ++ WC cy ad ks g u0) sz)) (vx_X (fun (_ : Unit) => False) (fun _ _ _ => True) (va_A ([(o1, eL cy fo)] ++ WC cy ad ks g u0) sz)) 67 831 (va_A ([(o1, eL cy fo)] ++ WC cy ad ks g u0) sz) := by
  refine vx_ofWH (cc := cL_setPace) (maxL := 5) (ret := (some .int)) (hh := [(0, 10, 13, 22), (0, 10, 17, 13)]) pn_L rfl ?_
  intro p e s m args below meth c s₁ B hml hv
  obtain ⟨rfl, hsz, hP, hK, hD0, hE⟩ := hv
  have hx := B.exec
  have hb := B.bytes
  have hr := B.returns
  have hts0 := atoms_spec (ws := (wsgH yL_setPace cL_setPace 5 (some .int) [(0, 10, 13, 22), (0, 10, 17, 13)])) B.pre
  have hts : ∀ w ∈ wsL_law, w.before _ s = true := fun w h => hts0 w (List.mem_cons_of_mem _ h)
  have hown : s.vm.findClass RL = some m.cls := by have h9 := findClass_of_methodNamed B.named; exact h9
  have hlocks := B.notSynchronized
  subst hsz
  have hD := hD0.self (sz := s.heap.size)
  generalize hAe : va_A ([(o1, eL cy fo)] ++ WC cy ad ks g u0) s.heap.size = A at hD hE ⊢
  have hA : ∀ q : Nat, s.heap.size ≤ q → A q := fun q h => by rw [← hAe]; exact Or.inr h
  have hS : va_S A s.heap s.heap [] := va_S.rf
  have hl := lv_entry ([.ref (ad .cl), .int a1, .int a2, .ref o1]) (n := 5) (Nat.le_of_ble_eq_true rfl)
  rw [lg_entry_eq]
  generalize (lg_sl ([.ref (ad .cl), .int a1, .int a2, .ref o1]) ++ List.replicate (5 - (lg_sl ([.ref (ad .cl), .int a1, .int a2, .ref o1])).length) Slot.unset).toArray = ls at hl ⊢
  have hl : lv_has ls 5 [(0, .ref (ad .cl)), (1, .int a1), (2, .int a2), (3, .ref o1)] := hl
  generalize hHe : s.heap = H at hP hS ⊢
  have hS : va_S A s.heap H [] := by rw [hHe]; exact hS
  have htab := vx_table (x := yL_setPace) B (hts0 (.codeWith yL_setPace cL_setPace 5 (some .int) [(0, 10, 13, 22), (0, 10, 17, 13)]) List.mem_cons_self)
  refine lv_aload_n hx hb dL_setPace_0 rfl (lv_at hl 3 rfl) ?_
  refine lv_iconst (v := 0) hx hb dL_setPace_1 (by decide) ?_
  refine lv_aload_n hx hb dL_setPace_2 rfl (lv_at hl 0 rfl) ?_
  refine lv_iload_n hx hb dL_setPace_3 rfl (lv_at hl 1 rfl) ?_
  refine lv_iload_n hx hb dL_setPace_4 rfl (lv_at hl 2 rfl) ?_
  have hPc : va_P (dC, dI) vwCl (WC cy ad ks g u0) H := hP.part (X := [(o1, eL cy fo)]) (cx := []) [] rfl
  have hDc : va_D A (WC cy ad ks g u0) := hD.part (X := [(o1, eL cy fo)]) (cx := []) [] (by decide) rfl
  have hFc : ∀ q, va_A (WC cy ad ks g u0) H.size q → A q := va_freeP (X := [(o1, eL cy fo)]) (cx := []) hD hS hA [] rfl
  obtain ⟨q8, h8⟩ := wc_at (cy := cy) (ad := ad) (ks := ks) (g := g) (u := u0) (κ := .cl) hk.1 True.intro
  refine vx_calli (vx_runV (As := [.int a1, .int a2]) (rest := [.int 0, .ref o1]) ⟨hx, hb, hml, hown, hts⟩ (c_X7_setPace_y l hst dC dI cy nb ad ks g hk u0 a1 a2 xc H.size hF) (cwV 2 hts (gV mw_1047 mw_1048 mw_1049 mw_2 mw_1050) rfl rfl rfl (by decide +kernel) ⟨Nat.le_of_ble_eq_true rfl, Nat.le_of_ble_eq_true rfl⟩) (my_preV hPc hK hDc hE hS hFc (va_recv (q := (RX7, TX7, 12)) hK hPc (ci := 7) (q0 := q8) rfl h8)) rfl rfl hl.1 rfl (lv_room (Nat.le_of_ble_eq_true rfl)) dL_setPace_5 ⟨Nat.le_of_ble_eq_true rfl, Nat.le_of_ble_eq_true rfl⟩) hS (fun q _ h => hFc q h) hFc (fun q _ h => hFc q h) (fun E9 ce9 q9 u9 t9 H1 locs1 ht9 hvm9 hp9 hB9 hz9 hk9 hS9 hc9 hv9 hcl9 => ?_) (fun r9 u9 t9 H1 locs1 ht9 hvm9 hp9 _ _ _ _ => hp9.elim)
  clear h8
  obtain ⟨hB8, hP1⟩ := hB9
  rw [ht9] at hP1
  obtain ⟨hP, hD⟩ := va_joinP (X := [(o1, eL cy fo)]) (cx := []) (wr := [(o1, eL cy fo)]) (rx := []) (pl := WC cy ad ks g u0) (pl1 := WC cy ad ks g u0) hP hD [] [0] rfl rfl (by decide) (by decide) hk9 hFc hP1 hDc.self
  have hP : va_P (dC, dI) vwCl ([(o1, eL cy fo)] ++ WC cy ad ks g u0) H1 := hP
  have hD : va_D A ([(o1, eL cy fo)] ++ WC cy ad ks g u0) := hD
  by_cases hxc : xc = 1
  · obtain rfl : E9 = xI := hB8.trans (if_pos hxc)
    refine vx_catch (own := RL) (name := xI) hown (tableOf []) _ (tableOf [(0, 10, 17, 13)]) (htab.trans rfl) (fun z hz => nomatch hz) (by decide) (by decide) (hts _ mw_612) (va_Nw.use rfl hE.cI) hc9 hv9 hcl9 ?_
    generalize H1 = H at hP hS9 ⊢
    refine W.widen (k := 67) (n := 831) (by omega) (by omega) ?_
    refine lv_astore (lv' := [(4, .ref q9), (0, .ref (ad .cl)), (1, .int a1), (2, .int a2), (3, .ref o1)]) hx hb dL_setPace_13 hl (by decide) rfl (fun ls hl => ?_)
    refine lv_iconst (v := 1) hx hb dL_setPace_15 (by decide) ?_
    refine vx_ret ?_
    exact W.iret (v := 1) hx hb hr (fun t ht hW => ⟨⟨1, (), rfl, (if_pos hxc).symm, by rw [ht]; exact hP, hD⟩, hS9.F ht⟩) hS9.2.2 dL_setPace_16
  · obtain rfl : E9 = xA := hB8.trans (if_neg hxc)
    refine vx_catch (own := RL) (name := xA) hown (tableOf [(0, 10, 13, 22)]) _ (tableOf []) (htab.trans rfl) (fun z hz => by obtain rfl := List.mem_singleton.mp hz; exact Or.inr ⟨by decide, xI, hts _ mw_612, hE.nc⟩) (by decide) (by decide) (hts _ mw_564) (va_Nw.use rfl hE.cA) hc9 hv9 hcl9 ?_
    generalize H1 = H at hP hS9 ⊢
    refine W.widen (k := 67) (n := 831) (by omega) (by omega) ?_
    refine lv_astore (lv' := [(4, .ref q9), (0, .ref (ad .cl)), (1, .int a1), (2, .int a2), (3, .ref o1)]) hx hb dL_setPace_17 hl (by decide) rfl (fun ls hl => ?_)
    refine lv_iconst (v := 2) hx hb dL_setPace_19 (by decide) ?_
    refine vx_ret ?_
    exact W.iret (v := 2) hx hb hr (fun t ht hW => ⟨⟨2, (), rfl, (if_neg hxc).symm, by rw [ht]; exact hP, hD⟩, hS9.F ht⟩) hS9.2.2 dL_setPace_20
end
