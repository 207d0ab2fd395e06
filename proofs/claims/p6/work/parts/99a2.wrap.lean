set_option maxHeartbeats 4000000 in
set_option maxRecDepth 100000 in
theorem cn_cardOf (l : Launch) (hst : l.stackTraces = false) (dC : Nat → ClassId) (dI : Nat → Nat → Nat) (cy : Nat → ClassId) (nb : Nat → Nat) (ad : CK → Nat) (ks : List CK) (g : CG) (hk : GA nb ad g ks) (u0 : RS) (a1 : Int32) (a2 : Int32) (o1 : Nat) (fo : Nat → Int64) (ro : Int32) (sz : Nat) (hF : C7_cardOf g u0 a1 a2 = some (.inr ro)) : vx_Met l yL_cardOf (wsgH yL_cardOf cL_cardOf 5 (some .int) [(0, 10, 13, 22)]) ({ frames := 9, cells := 0, slots := 0, locals := 400 }) (va_Pc [.ref (ad .cl), .int a1, .int a2, .ref o1] (fun U => U.heap.size = sz ∧ va_P (dC, dI) vwCl ([(o1, eL cy fo)] ++ WC cy ad ks g u0) U.heap ∧ va_K (dC, dI) vwCl (tyL cy) U ∧ va_D (fun _ => True) ([(o1, eL cy fo)] ++ WC cy ad ks g u0) ∧ GE nb (va_A ([(o1, eL cy fo)] ++ WC cy ad ks g u0) sz) U)) (va_Qi (fun (r : Int32) (_ : Unit) => r = 0) (fun _ t => va_P (dC, dI) vwCl ([(o1, eL cy (vp_updL fo ((0 : Int32).toNatClampNeg) (ro.toInt64)))] ++ WC cy ad ks g u0) t.heap ∧ va_D (va_A ([(o1, eL cy fo)] ++ WC cy ad ks g u0) sz) ([(o1, eL cy (vp_updL fo ((0 : Int32).toNatClampNeg) (ro.toInt64)))] ++ WC cy ad ks g u0)) (va_A ([(o1, eL cy fo)] ++ WC cy ad ks g u0) sz)) (vx_X (fun (_ : Unit) => False) (fun _ _ _ => True) (va_A ([(o1, eL cy fo)] ++ WC cy ad ks g u0) sz)) 0 0 (va_A ([(o1, eL cy fo)] ++ WC cy ad ks g u0) sz) := by
  refine vx_ofWH (cc := cL_cardOf) (maxL := 5) (ret := (some .int)) (hh := [(0, 10, 13, 22)]) pn_L rfl ?_
  intro p e s m args below meth c s₁ B hml hv
  obtain ⟨rfl, hsz, hP, hK, hD0, hE⟩ := hv
  have hx := B.exec
  have hb := B.bytes
  have hr := B.returns
  have hts0 := atoms_spec (ws := (wsgH yL_cardOf cL_cardOf 5 (some .int) [(0, 10, 13, 22)])) B.pre
  have hts : ∀ w ∈ wsL_law, w.before _ s = true := fun w h => hts0 w (List.mem_cons_of_mem _ h)
  have hown : s.vm.findClass RL = some m.cls := by have h9 := findClass_of_methodNamed B.named; exact h9
  have hlocks := B.notSynchronized
  subst hsz
  have hD := hD0.self (sz := s.heap.size)
  generalize hAe : va_A ([(o1, eL cy fo)] ++ WC cy ad ks g u0) s.heap.size = A at hD hE ⊢
  have hA : ∀ q : Nat, s.heap.size ≤ q → A q := fun q h => by rw [← hAe]; exact Or.inr h
  have hS : va_S A s.heap s.heap [] := va_S.rf
  have hl := lv_entry ([.ref (ad .cl), .int a1, .int a2, .ref o1]) (n := 5) (Nat.le_of_ble_eq_true rfl)
  rw [lg_entry_eq]
  generalize (lg_sl ([.ref (ad .cl), .int a1, .int a2, .ref o1]) ++ List.replicate (5 - (lg_sl ([.ref (ad .cl), .int a1, .int a2, .ref o1])).length) Slot.unset).toArray = ls at hl ⊢
  have hl : lv_has ls 5 [(0, .ref (ad .cl)), (1, .int a1), (2, .int a2), (3, .ref o1)] := hl
  generalize hHe : s.heap = H at hP hS ⊢
  have hS : va_S A s.heap H [] := by rw [hHe]; exact hS
  have htab := vx_table (x := yL_cardOf) B (hts0 (.codeWith yL_cardOf cL_cardOf 5 (some .int) [(0, 10, 13, 22)]) List.mem_cons_self)
  refine lv_aload_n hx hb dL_cardOf_0 rfl (lv_at hl 3 rfl) ?_
  refine lv_iconst (v := 0) hx hb dL_cardOf_1 (by decide) ?_
  refine lv_aload_n hx hb dL_cardOf_2 rfl (lv_at hl 0 rfl) ?_
  refine lv_iload_n hx hb dL_cardOf_3 rfl (lv_at hl 1 rfl) ?_
  refine lv_iload_n hx hb dL_cardOf_4 rfl (lv_at hl 2 rfl) ?_
  have hPc : va_P (dC, dI) vwCl (WC cy ad ks g u0) H := hP.part (X := [(o1, eL cy fo)]) (cx := []) [] rfl
  have hDc : va_D A (WC cy ad ks g u0) := hD.part (X := [(o1, eL cy fo)]) (cx := []) [] (by decide) rfl
  have hFc : ∀ q, va_A (WC cy ad ks g u0) H.size q → A q := va_freeP (X := [(o1, eL cy fo)]) (cx := []) hD hS hA [] rfl
  obtain ⟨q8, h8⟩ := wc_at (cy := cy) (ad := ad) (ks := ks) (g := g) (u := u0) (κ := .cl) hk.1 True.intro
  refine va_calli (va_runV (As := [.int a1, .int a2]) (rest := [.int 0, .ref o1]) ⟨hx, hb, hml, hown, hts⟩ (c_X7_cardOf l dC dI cy nb ad ks g hk u0 a1 a2 ro H.size hF) (cwV 2 hts (gV mw_748 mw_749 mw_750 mw_2 mw_751) rfl rfl rfl (by decide +kernel) ⟨Nat.le_of_ble_eq_true rfl, Nat.le_of_ble_eq_true rfl⟩) (my_preV hPc hK hDc hE hS hFc (va_recv (q := (RX7, TX7, 12)) hK hPc (ci := 7) (q0 := q8) rfl h8)) rfl rfl hl.1 rfl (lv_room (Nat.le_of_ble_eq_true rfl)) dL_cardOf_5 ⟨Nat.le_of_ble_eq_true rfl, Nat.le_of_ble_eq_true rfl⟩) hS (fun q _ h => hFc q h) hFc (fun r u t H1 locs ht hvm hw hB hz1 hk1 hS => ?_)
  clear h8
  obtain ⟨hP1, hD1⟩ := hB
  rw [ht] at hP1
  obtain ⟨hP, hD⟩ := va_joinP (X := [(o1, eL cy fo)]) (cx := []) (wr := [(o1, eL cy fo)]) (rx := []) (pl := WC cy ad ks g u0) (pl1 := WC cy ad ks g u0) hP hD [] [0] rfl rfl (by decide) (by decide) hk1 hFc hP1 hD1
  generalize H1 = H at hP hS ⊢
  have hP : va_P (dC, dI) vwCl ([(o1, eL cy fo)] ++ WC cy ad ks g u0) H := hP
  have hD : va_D A ([(o1, eL cy fo)] ++ WC cy ad ks g u0) := hD
  refine my_topi hw ?_
  refine W.widen (k := 0) (n := 0) (by omega) (by omega) ?_
  refine lv_i2l (v := ro.toInt64) hx hb dL_cardOf_8 rfl ?_
  refine va_last hx hb hK hP hD hS 0 3 rfl rfl (vp_in_nI (n := 0) (by decide) (by decide)) dL_cardOf_9 (fun H locs hP hD hS => ?_)
  have hP : va_P (dC, dI) vwCl ([(o1, eL cy (vp_updL fo ((0 : Int32).toNatClampNeg) (ro.toInt64)))] ++ WC cy ad ks g u0) H := hP
  have hD : va_D A ([(o1, eL cy (vp_updL fo ((0 : Int32).toNatClampNeg) (ro.toInt64)))] ++ WC cy ad ks g u0) := hD
  refine lv_goto (tgt := 17) hx hb dL_cardOf_10 (by decide) ?_
  refine lv_iconst (v := 0) hx hb dL_cardOf_17 (by decide) ?_
  refine vx_ret ?_
  exact W.iret (v := 0) hx hb hr (fun t ht hW => ⟨⟨0, (), rfl, rfl, by rw [ht]; exact hP, hD⟩, hS.F ht⟩) hS.2.2 dL_cardOf_18
set_option maxHeartbeats 4000000 in
set_option maxRecDepth 100000 in
theorem ct_cardOf (l : Launch) (hst : l.stackTraces = false) (dC : Nat → ClassId) (dI : Nat → Nat → Nat) (cy : Nat → ClassId) (nb : Nat → Nat) (ad : CK → Nat) (ks : List CK) (g : CG) (hk : GA nb ad g ks) (u0 : RS) (a1 : Int32) (a2 : Int32) (o1 : Nat) (fo : Nat → Int64) (xc : Int32) (sz : Nat) (hxc : xc = 1) (hF : C7_cardOf g u0 a1 a2 = some (.inl xc)) : vx_Met l yL_cardOf (wsgH yL_cardOf cL_cardOf 5 (some .int) [(0, 10, 13, 22)]) ({ frames := 9, cells := 1, slots := 6, locals := 400 }) (va_Pc [.ref (ad .cl), .int a1, .int a2, .ref o1] (fun U => U.heap.size = sz ∧ va_P (dC, dI) vwCl ([(o1, eL cy fo)] ++ WC cy ad ks g u0) U.heap ∧ va_K (dC, dI) vwCl (tyL cy) U ∧ va_D (fun _ => True) ([(o1, eL cy fo)] ++ WC cy ad ks g u0) ∧ GE nb (va_A ([(o1, eL cy fo)] ++ WC cy ad ks g u0) sz) U)) (va_Qi (fun (r : Int32) (_ : Unit) => r = 1) (fun _ t => va_P (dC, dI) vwCl ([(o1, eL cy fo)] ++ WC cy ad ks g u0) t.heap ∧ va_D (va_A ([(o1, eL cy fo)] ++ WC cy ad ks g u0) sz) ([(o1, eL cy fo)] ++ WC cy ad ks g u0)) (va_A ([(o1, eL cy fo)] ++ WC cy ad ks g u0) sz)) (vx_X (fun (_ : Unit) => False) (fun _ _ _ => True) (va_A ([(o1, eL cy fo)] ++ WC cy ad ks g u0) sz)) 1 6 (va_A ([(o1, eL cy fo)] ++ WC cy ad ks g u0) sz) := by
  refine vx_ofWH (cc := cL_cardOf) (maxL := 5) (ret := (some .int)) (hh := [(0, 10, 13, 22)]) pn_L rfl ?_
  intro p e s m args below meth c s₁ B hml hv
  obtain ⟨rfl, hsz, hP, hK, hD0, hE⟩ := hv
  have hx := B.exec
  have hb := B.bytes
  have hr := B.returns
  have hts0 := atoms_spec (ws := (wsgH yL_cardOf cL_cardOf 5 (some .int) [(0, 10, 13, 22)])) B.pre
  have hts : ∀ w ∈ wsL_law, w.before _ s = true := fun w h => hts0 w (List.mem_cons_of_mem _ h)
  have hown : s.vm.findClass RL = some m.cls := by have h9 := findClass_of_methodNamed B.named; exact h9
  have hlocks := B.notSynchronized
  subst hsz
  have hD := hD0.self (sz := s.heap.size)
  generalize hAe : va_A ([(o1, eL cy fo)] ++ WC cy ad ks g u0) s.heap.size = A at hD hE ⊢
  have hA : ∀ q : Nat, s.heap.size ≤ q → A q := fun q h => by rw [← hAe]; exact Or.inr h
  have hS : va_S A s.heap s.heap [] := va_S.rf
  have hl := lv_entry ([.ref (ad .cl), .int a1, .int a2, .ref o1]) (n := 5) (Nat.le_of_ble_eq_true rfl)
  rw [lg_entry_eq]
  generalize (lg_sl ([.ref (ad .cl), .int a1, .int a2, .ref o1]) ++ List.replicate (5 - (lg_sl ([.ref (ad .cl), .int a1, .int a2, .ref o1])).length) Slot.unset).toArray = ls at hl ⊢
  have hl : lv_has ls 5 [(0, .ref (ad .cl)), (1, .int a1), (2, .int a2), (3, .ref o1)] := hl
  generalize hHe : s.heap = H at hP hS ⊢
  have hS : va_S A s.heap H [] := by rw [hHe]; exact hS
  have htab := vx_table (x := yL_cardOf) B (hts0 (.codeWith yL_cardOf cL_cardOf 5 (some .int) [(0, 10, 13, 22)]) List.mem_cons_self)
  refine lv_aload_n hx hb dL_cardOf_0 rfl (lv_at hl 3 rfl) ?_
  refine lv_iconst (v := 0) hx hb dL_cardOf_1 (by decide) ?_
  refine lv_aload_n hx hb dL_cardOf_2 rfl (lv_at hl 0 rfl) ?_
  refine lv_iload_n hx hb dL_cardOf_3 rfl (lv_at hl 1 rfl) ?_
  refine lv_iload_n hx hb dL_cardOf_4 rfl (lv_at hl 2 rfl) ?_
  have hPc : va_P (dC, dI) vwCl (WC cy ad ks g u0) H := hP.part (X := [(o1, eL cy fo)]) (cx := []) [] rfl
  have hDc : va_D A (WC cy ad ks g u0) := hD.part (X := [(o1, eL cy fo)]) (cx := []) [] (by decide) rfl
  have hFc : ∀ q, va_A (WC cy ad ks g u0) H.size q → A q := va_freeP (X := [(o1, eL cy fo)]) (cx := []) hD hS hA [] rfl
  obtain ⟨q8, h8⟩ := wc_at (cy := cy) (ad := ad) (ks := ks) (g := g) (u := u0) (κ := .cl) hk.1 True.intro
  refine vx_calli (vx_runV (As := [.int a1, .int a2]) (rest := [.int 0, .ref o1]) ⟨hx, hb, hml, hown, hts⟩ (c_X7_cardOf_y l hst dC dI cy nb ad ks g hk u0 a1 a2 xc H.size hF) (cwV 2 hts (gV mw_748 mw_749 mw_750 mw_2 mw_751) rfl rfl rfl (by decide +kernel) ⟨Nat.le_of_ble_eq_true rfl, Nat.le_of_ble_eq_true rfl⟩) (my_preV hPc hK hDc hE hS hFc (va_recv (q := (RX7, TX7, 12)) hK hPc (ci := 7) (q0 := q8) rfl h8)) rfl rfl hl.1 rfl (lv_room (Nat.le_of_ble_eq_true rfl)) dL_cardOf_5 ⟨Nat.le_of_ble_eq_true rfl, Nat.le_of_ble_eq_true rfl⟩) hS (fun q _ h => hFc q h) hFc (fun q _ h => hFc q h) (fun E9 ce9 q9 u9 t9 H1 locs1 ht9 hvm9 hp9 hB9 hz9 hk9 hS9 hc9 hv9 hcl9 => ?_) (fun r9 u9 t9 H1 locs1 ht9 hvm9 hp9 _ _ _ _ => hp9.elim)
  clear h8
  obtain ⟨hB8, hP1⟩ := hB9
  rw [ht9] at hP1
  obtain ⟨hP, hD⟩ := va_joinP (X := [(o1, eL cy fo)]) (cx := []) (wr := [(o1, eL cy fo)]) (rx := []) (pl := WC cy ad ks g u0) (pl1 := WC cy ad ks g u0) hP hD [] [0] rfl rfl (by decide) (by decide) hk9 hFc hP1 hDc.self
  have hP : va_P (dC, dI) vwCl ([(o1, eL cy fo)] ++ WC cy ad ks g u0) H1 := hP
  have hD : va_D A ([(o1, eL cy fo)] ++ WC cy ad ks g u0) := hD
  obtain rfl : E9 = xI := hB8.trans (if_pos hxc)
  refine vx_catch (own := RL) (name := xI) hown (tableOf []) _ (tableOf []) (htab.trans rfl) (fun z hz => nomatch hz) (by decide) (by decide) (hts _ mw_616) (va_Nw.use rfl hE.cI) hc9 hv9 hcl9 ?_
  generalize H1 = H at hP hS9 ⊢
  refine W.widen (k := 1) (n := 6) (by omega) (by omega) ?_
  refine lv_astore (lv' := [(4, .ref q9), (0, .ref (ad .cl)), (1, .int a1), (2, .int a2), (3, .ref o1)]) hx hb dL_cardOf_13 hl (by decide) rfl (fun ls hl => ?_)
  refine lv_iconst (v := 1) hx hb dL_cardOf_15 (by decide) ?_
  refine vx_ret ?_
  exact W.iret (v := 1) hx hb hr (fun t ht hW => ⟨⟨1, (), rfl, rfl, by rw [ht]; exact hP, hD⟩, hS9.F ht⟩) hS9.2.2 dL_cardOf_16
set_option maxHeartbeats 4000000 in
set_option maxRecDepth 100000 in
theorem cn_steps (l : Launch) (hst : l.stackTraces = false) (dC : Nat → ClassId) (dI : Nat → Nat → Nat) (cy : Nat → ClassId) (nb : Nat → Nat) (ad : CK → Nat) (ks : List CK) (g : CG) (hk : GA nb ad g ks) (u0 : RS) (a1 : Int32) (a2 : Int32) (o1 : Nat) (fo : Nat → Int64) (ro : Int32) (sz : Nat) (hF : C7_steps g u0 a1 a2 = some (.inr ro)) : vx_Met l yL_steps (wsgH yL_steps cL_steps 5 (some .int) [(0, 10, 13, 22), (0, 10, 17, 13)]) ({ frames := 9, cells := 0, slots := 0, locals := 400 }) (va_Pc [.ref (ad .cl), .int a1, .int a2, .ref o1] (fun U => U.heap.size = sz ∧ va_P (dC, dI) vwCl ([(o1, eL cy fo)] ++ WC cy ad ks g u0) U.heap ∧ va_K (dC, dI) vwCl (tyL cy) U ∧ va_D (fun _ => True) ([(o1, eL cy fo)] ++ WC cy ad ks g u0) ∧ GE nb (va_A ([(o1, eL cy fo)] ++ WC cy ad ks g u0) sz) U)) (va_Qi (fun (r : Int32) (_ : Unit) => r = 0) (fun _ t => va_P (dC, dI) vwCl ([(o1, eL cy (vp_updL fo ((0 : Int32).toNatClampNeg) (ro.toInt64)))] ++ WC cy ad ks g u0) t.heap ∧ va_D (va_A ([(o1, eL cy fo)] ++ WC cy ad ks g u0) sz) ([(o1, eL cy (vp_updL fo ((0 : Int32).toNatClampNeg) (ro.toInt64)))] ++ WC cy ad ks g u0)) (va_A ([(o1, eL cy fo)] ++ WC cy ad ks g u0) sz)) (vx_X (fun (_ : Unit) => False) (fun _ _ _ => True) (va_A ([(o1, eL cy fo)] ++ WC cy ad ks g u0) sz)) 0 0 (va_A ([(o1, eL cy fo)] ++ WC cy ad ks g u0) sz) := by
  refine vx_ofWH (cc := cL_steps) (maxL := 5) (ret := (some .int)) (hh := [(0, 10, 13, 22), (0, 10, 17, 13)]) pn_L rfl ?_
  intro p e s m args below meth c s₁ B hml hv
  obtain ⟨rfl, hsz, hP, hK, hD0, hE⟩ := hv
  have hx := B.exec
  have hb := B.bytes
  have hr := B.returns
  have hts0 := atoms_spec (ws := (wsgH yL_steps cL_steps 5 (some .int) [(0, 10, 13, 22), (0, 10, 17, 13)])) B.pre
  have hts : ∀ w ∈ wsL_law, w.before _ s = true := fun w h => hts0 w (List.mem_cons_of_mem _ h)
  have hown : s.vm.findClass RL = some m.cls := by have h9 := findClass_of_methodNamed B.named; exact h9
  have hlocks := B.notSynchronized
  subst hsz
  have hD := hD0.self (sz := s.heap.size)
  generalize hAe : va_A ([(o1, eL cy fo)] ++ WC cy ad ks g u0) s.heap.size = A at hD hE ⊢
  have hA : ∀ q : Nat, s.heap.size ≤ q → A q := fun q h => by rw [← hAe]; exact Or.inr h
  have hS : va_S A s.heap s.heap [] := va_S.rf
  have hl := lv_entry ([.ref (ad .cl), .int a1, .int a2, .ref o1]) (n := 5) (Nat.le_of_ble_eq_true rfl)
  rw [lg_entry_eq]
  generalize (lg_sl ([.ref (ad .cl), .int a1, .int a2, .ref o1]) ++ List.replicate (5 - (lg_sl ([.ref (ad .cl), .int a1, .int a2, .ref o1])).length) Slot.unset).toArray = ls at hl ⊢
  have hl : lv_has ls 5 [(0, .ref (ad .cl)), (1, .int a1), (2, .int a2), (3, .ref o1)] := hl
  generalize hHe : s.heap = H at hP hS ⊢
  have hS : va_S A s.heap H [] := by rw [hHe]; exact hS
  have htab := vx_table (x := yL_steps) B (hts0 (.codeWith yL_steps cL_steps 5 (some .int) [(0, 10, 13, 22), (0, 10, 17, 13)]) List.mem_cons_self)
  refine lv_aload_n hx hb dL_steps_0 rfl (lv_at hl 3 rfl) ?_
  refine lv_iconst (v := 0) hx hb dL_steps_1 (by decide) ?_
  refine lv_aload_n hx hb dL_steps_2 rfl (lv_at hl 0 rfl) ?_
  refine lv_iload_n hx hb dL_steps_3 rfl (lv_at hl 1 rfl) ?_
  refine lv_iload_n hx hb dL_steps_4 rfl (lv_at hl 2 rfl) ?_
  have hPc : va_P (dC, dI) vwCl (WC cy ad ks g u0) H := hP.part (X := [(o1, eL cy fo)]) (cx := []) [] rfl
  have hDc : va_D A (WC cy ad ks g u0) := hD.part (X := [(o1, eL cy fo)]) (cx := []) [] (by decide) rfl
  have hFc : ∀ q, va_A (WC cy ad ks g u0) H.size q → A q := va_freeP (X := [(o1, eL cy fo)]) (cx := []) hD hS hA [] rfl
  obtain ⟨q8, h8⟩ := wc_at (cy := cy) (ad := ad) (ks := ks) (g := g) (u := u0) (κ := .cl) hk.1 True.intro
  refine va_calli (va_runV (As := [.int a1, .int a2]) (rest := [.int 0, .ref o1]) ⟨hx, hb, hml, hown, hts⟩ (c_X7_steps l dC dI cy nb ad ks g hk u0 a1 a2 ro H.size hF) (cwV 2 hts (gV mw_815 mw_816 mw_817 mw_2 mw_818) rfl rfl rfl (by decide +kernel) ⟨Nat.le_of_ble_eq_true rfl, Nat.le_of_ble_eq_true rfl⟩) (my_preV hPc hK hDc hE hS hFc (va_recv (q := (RX7, TX7, 12)) hK hPc (ci := 7) (q0 := q8) rfl h8)) rfl rfl hl.1 rfl (lv_room (Nat.le_of_ble_eq_true rfl)) dL_steps_5 ⟨Nat.le_of_ble_eq_true rfl, Nat.le_of_ble_eq_true rfl⟩) hS (fun q _ h => hFc q h) hFc (fun r u t H1 locs ht hvm hw hB hz1 hk1 hS => ?_)
  clear h8
  obtain ⟨hP1, hD1⟩ := hB
  rw [ht] at hP1
  obtain ⟨hP, hD⟩ := va_joinP (X := [(o1, eL cy fo)]) (cx := []) (wr := [(o1, eL cy fo)]) (rx := []) (pl := WC cy ad ks g u0) (pl1 := WC cy ad ks g u0) hP hD [] [0] rfl rfl (by decide) (by decide) hk1 hFc hP1 hD1
  generalize H1 = H at hP hS ⊢
  have hP : va_P (dC, dI) vwCl ([(o1, eL cy fo)] ++ WC cy ad ks g u0) H := hP
  have hD : va_D A ([(o1, eL cy fo)] ++ WC cy ad ks g u0) := hD
  refine my_topi hw ?_
  refine W.widen (k := 0) (n := 0) (by omega) (by omega) ?_
  refine lv_i2l (v := ro.toInt64) hx hb dL_steps_8 rfl ?_
  refine va_last hx hb hK hP hD hS 0 3 rfl rfl (vp_in_nI (n := 0) (by decide) (by decide)) dL_steps_9 (fun H locs hP hD hS => ?_)
  have hP : va_P (dC, dI) vwCl ([(o1, eL cy (vp_updL fo ((0 : Int32).toNatClampNeg) (ro.toInt64)))] ++ WC cy ad ks g u0) H := hP
  have hD : va_D A ([(o1, eL cy (vp_updL fo ((0 : Int32).toNatClampNeg) (ro.toInt64)))] ++ WC cy ad ks g u0) := hD
  refine lv_goto (tgt := 21) hx hb dL_steps_10 (by decide) ?_
  refine lv_iconst (v := 0) hx hb dL_steps_21 (by decide) ?_
  refine vx_ret ?_
  exact W.iret (v := 0) hx hb hr (fun t ht hW => ⟨⟨0, (), rfl, rfl, by rw [ht]; exact hP, hD⟩, hS.F ht⟩) hS.2.2 dL_steps_22
set_option maxHeartbeats 4000000 in
set_option maxRecDepth 100000 in
theorem ct_steps (l : Launch) (hst : l.stackTraces = false) (dC : Nat → ClassId) (dI : Nat → Nat → Nat) (cy : Nat → ClassId) (nb : Nat → Nat) (ad : CK → Nat) (ks : List CK) (g : CG) (hk : GA nb ad g ks) (u0 : RS) (a1 : Int32) (a2 : Int32) (o1 : Nat) (fo : Nat → Int64) (xc : Int32) (sz : Nat) (hF : C7_steps g u0 a1 a2 = some (.inl xc)) : vx_Met l yL_steps (wsgH yL_steps cL_steps 5 (some .int) [(0, 10, 13, 22), (0, 10, 17, 13)]) ({ frames := 9, cells := 1, slots := 6, locals := 400 }) (va_Pc [.ref (ad .cl), .int a1, .int a2, .ref o1] (fun U => U.heap.size = sz ∧ va_P (dC, dI) vwCl ([(o1, eL cy fo)] ++ WC cy ad ks g u0) U.heap ∧ va_K (dC, dI) vwCl (tyL cy) U ∧ va_D (fun _ => True) ([(o1, eL cy fo)] ++ WC cy ad ks g u0) ∧ GE nb (va_A ([(o1, eL cy fo)] ++ WC cy ad ks g u0) sz) U)) (va_Qi (fun (r : Int32) (_ : Unit) => r = if xc = 1 then 1 else 2) (fun _ t => va_P (dC, dI) vwCl ([(o1, eL cy fo)] ++ WC cy ad ks g u0) t.heap ∧ va_D (va_A ([(o1, eL cy fo)] ++ WC cy ad ks g u0) sz) ([(o1, eL cy fo)] ++ WC cy ad ks g u0)) (va_A ([(o1, eL cy fo)] ++ WC cy ad ks g u0) sz)) (vx_X (fun (_ : Unit) => False) (fun _ _ _ => True) (va_A ([(o1, eL cy fo)] ++ WC cy ad ks g u0) sz)) 1 6 (va_A ([(o1, eL cy fo)] ++ WC cy ad ks g u0) sz) := by
  refine vx_ofWH (cc := cL_steps) (maxL := 5) (ret := (some .int)) (hh := [(0, 10, 13, 22), (0, 10, 17, 13)]) pn_L rfl ?_
  intro p e s m args below meth c s₁ B hml hv
  obtain ⟨rfl, hsz, hP, hK, hD0, hE⟩ := hv
  have hx := B.exec
  have hb := B.bytes
  have hr := B.returns
  have hts0 := atoms_spec (ws := (wsgH yL_steps cL_steps 5 (some .int) [(0, 10, 13, 22), (0, 10, 17, 13)])) B.pre
  have hts : ∀ w ∈ wsL_law, w.before _ s = true := fun w h => hts0 w (List.mem_cons_of_mem _ h)
  have hown : s.vm.findClass RL = some m.cls := by have h9 := findClass_of_methodNamed B.named; exact h9
  have hlocks := B.notSynchronized
  subst hsz
  have hD := hD0.self (sz := s.heap.size)
  generalize hAe : va_A ([(o1, eL cy fo)] ++ WC cy ad ks g u0) s.heap.size = A at hD hE ⊢
  have hA : ∀ q : Nat, s.heap.size ≤ q → A q := fun q h => by rw [← hAe]; exact Or.inr h
  have hS : va_S A s.heap s.heap [] := va_S.rf
  have hl := lv_entry ([.ref (ad .cl), .int a1, .int a2, .ref o1]) (n := 5) (Nat.le_of_ble_eq_true rfl)
  rw [lg_entry_eq]
  generalize (lg_sl ([.ref (ad .cl), .int a1, .int a2, .ref o1]) ++ List.replicate (5 - (lg_sl ([.ref (ad .cl), .int a1, .int a2, .ref o1])).length) Slot.unset).toArray = ls at hl ⊢
  have hl : lv_has ls 5 [(0, .ref (ad .cl)), (1, .int a1), (2, .int a2), (3, .ref o1)] := hl
  generalize hHe : s.heap = H at hP hS ⊢
  have hS : va_S A s.heap H [] := by rw [hHe]; exact hS
  have htab := vx_table (x := yL_steps) B (hts0 (.codeWith yL_steps cL_steps 5 (some .int) [(0, 10, 13, 22), (0, 10, 17, 13)]) List.mem_cons_self)
  refine lv_aload_n hx hb dL_steps_0 rfl (lv_at hl 3 rfl) ?_
  refine lv_iconst (v := 0) hx hb dL_steps_1 (by decide) ?_
  refine lv_aload_n hx hb dL_steps_2 rfl (lv_at hl 0 rfl) ?_
  refine lv_iload_n hx hb dL_steps_3 rfl (lv_at hl 1 rfl) ?_
  refine lv_iload_n hx hb dL_steps_4 rfl (lv_at hl 2 rfl) ?_
  have hPc : va_P (dC, dI) vwCl (WC cy ad ks g u0) H := hP.part (X := [(o1, eL cy fo)]) (cx := []) [] rfl
  have hDc : va_D A (WC cy ad ks g u0) := hD.part (X := [(o1, eL cy fo)]) (cx := []) [] (by decide) rfl
  have hFc : ∀ q, va_A (WC cy ad ks g u0) H.size q → A q := va_freeP (X := [(o1, eL cy fo)]) (cx := []) hD hS hA [] rfl
  obtain ⟨q8, h8⟩ := wc_at (cy := cy) (ad := ad) (ks := ks) (g := g) (u := u0) (κ := .cl) hk.1 True.intro
  refine vx_calli (vx_runV (As := [.int a1, .int a2]) (rest := [.int 0, .ref o1]) ⟨hx, hb, hml, hown, hts⟩ (c_X7_steps_y l hst dC dI cy nb ad ks g hk u0 a1 a2 xc H.size hF) (cwV 2 hts (gV mw_815 mw_816 mw_817 mw_2 mw_818) rfl rfl rfl (by decide +kernel) ⟨Nat.le_of_ble_eq_true rfl, Nat.le_of_ble_eq_true rfl⟩) (my_preV hPc hK hDc hE hS hFc (va_recv (q := (RX7, TX7, 12)) hK hPc (ci := 7) (q0 := q8) rfl h8)) rfl rfl hl.1 rfl (lv_room (Nat.le_of_ble_eq_true rfl)) dL_steps_5 ⟨Nat.le_of_ble_eq_true rfl, Nat.le_of_ble_eq_true rfl⟩) hS (fun q _ h => hFc q h) hFc (fun q _ h => hFc q h) (fun E9 ce9 q9 u9 t9 H1 locs1 ht9 hvm9 hp9 hB9 hz9 hk9 hS9 hc9 hv9 hcl9 => ?_) (fun r9 u9 t9 H1 locs1 ht9 hvm9 hp9 _ _ _ _ => hp9.elim)
  clear h8
  obtain ⟨hB8, hP1⟩ := hB9
  rw [ht9] at hP1
  obtain ⟨hP, hD⟩ := va_joinP (X := [(o1, eL cy fo)]) (cx := []) (wr := [(o1, eL cy fo)]) (rx := []) (pl := WC cy ad ks g u0) (pl1 := WC cy ad ks g u0) hP hD [] [0] rfl rfl (by decide) (by decide) hk9 hFc hP1 hDc.self
  have hP : va_P (dC, dI) vwCl ([(o1, eL cy fo)] ++ WC cy ad ks g u0) H1 := hP
  have hD : va_D A ([(o1, eL cy fo)] ++ WC cy ad ks g u0) := hD
  by_cases hxc : xc = 1
  · obtain rfl : E9 = xI := hB8.trans (if_pos hxc)
    refine vx_catch (own := RL) (name := xI) hown (tableOf []) _ (tableOf [(0, 10, 17, 13)]) (htab.trans rfl) (fun z hz => nomatch hz) (by decide) (by decide) (hts _ mw_616) (va_Nw.use rfl hE.cI) hc9 hv9 hcl9 ?_
    generalize H1 = H at hP hS9 ⊢
    refine W.widen (k := 1) (n := 6) (by omega) (by omega) ?_
    refine lv_astore (lv' := [(4, .ref q9), (0, .ref (ad .cl)), (1, .int a1), (2, .int a2), (3, .ref o1)]) hx hb dL_steps_13 hl (by decide) rfl (fun ls hl => ?_)
    refine lv_iconst (v := 1) hx hb dL_steps_15 (by decide) ?_
    refine vx_ret ?_
    exact W.iret (v := 1) hx hb hr (fun t ht hW => ⟨⟨1, (), rfl, (if_pos hxc).symm, by rw [ht]; exact hP, hD⟩, hS9.F ht⟩) hS9.2.2 dL_steps_16
  · obtain rfl : E9 = xA := hB8.trans (if_neg hxc)
    refine vx_catch (own := RL) (name := xA) hown (tableOf [(0, 10, 13, 22)]) _ (tableOf []) (htab.trans rfl) (fun z hz => by obtain rfl := List.mem_singleton.mp hz; exact Or.inr ⟨by decide, xI, hts _ mw_616, hE.nc⟩) (by decide) (by decide) (hts _ mw_564) (va_Nw.use rfl hE.cA) hc9 hv9 hcl9 ?_
    generalize H1 = H at hP hS9 ⊢
    refine W.widen (k := 1) (n := 6) (by omega) (by omega) ?_
    refine lv_astore (lv' := [(4, .ref q9), (0, .ref (ad .cl)), (1, .int a1), (2, .int a2), (3, .ref o1)]) hx hb dL_steps_17 hl (by decide) rfl (fun ls hl => ?_)
    refine lv_iconst (v := 2) hx hb dL_steps_19 (by decide) ?_
    refine vx_ret ?_
    exact W.iret (v := 2) hx hb hr (fun t ht hW => ⟨⟨2, (), rfl, (if_neg hxc).symm, by rw [ht]; exact hP, hD⟩, hS9.F ht⟩) hS9.2.2 dL_steps_20
set_option maxHeartbeats 4000000 in
set_option maxRecDepth 100000 in
theorem cn_ticksFor (l : Launch) (hst : l.stackTraces = false) (dC : Nat → ClassId) (dI : Nat → Nat → Nat) (cy : Nat → ClassId) (nb : Nat → Nat) (ad : CK → Nat) (ks : List CK) (g : CG) (hk : GA nb ad g ks) (u0 : RS) (a1 : Int32) (a2 : Int32) (o1 : Nat) (fo : Nat → Int64) (ro : Int32) (sz : Nat) (hF : C7_ticksFor g u0 a1 a2 = some (.inr ro)) : vx_Met l yL_ticksFor (wsgH yL_ticksFor cL_ticksFor 5 (some .int) [(0, 10, 13, 22)]) ({ frames := 11, cells := 0, slots := 0, locals := 600 }) (va_Pc [.ref (ad .cl), .int a1, .int a2, .ref o1] (fun U => U.heap.size = sz ∧ va_P (dC, dI) vwCl ([(o1, eL cy fo)] ++ WC cy ad ks g u0) U.heap ∧ va_K (dC, dI) vwCl (tyL cy) U ∧ va_D (fun _ => True) ([(o1, eL cy fo)] ++ WC cy ad ks g u0) ∧ GE nb (va_A ([(o1, eL cy fo)] ++ WC cy ad ks g u0) sz) U)) (va_Qi (fun (r : Int32) (_ : Unit) => r = 0) (fun _ t => va_P (dC, dI) vwCl ([(o1, eL cy (vp_updL fo ((0 : Int32).toNatClampNeg) (ro.toInt64)))] ++ WC cy ad ks g u0) t.heap ∧ va_D (va_A ([(o1, eL cy fo)] ++ WC cy ad ks g u0) sz) ([(o1, eL cy (vp_updL fo ((0 : Int32).toNatClampNeg) (ro.toInt64)))] ++ WC cy ad ks g u0)) (va_A ([(o1, eL cy fo)] ++ WC cy ad ks g u0) sz)) (vx_X (fun (_ : Unit) => False) (fun _ _ _ => True) (va_A ([(o1, eL cy fo)] ++ WC cy ad ks g u0) sz)) 0 0 (va_A ([(o1, eL cy fo)] ++ WC cy ad ks g u0) sz) := by
  refine vx_ofWH (cc := cL_ticksFor) (maxL := 5) (ret := (some .int)) (hh := [(0, 10, 13, 22)]) pn_L rfl ?_
  intro p e s m args below meth c s₁ B hml hv
  obtain ⟨rfl, hsz, hP, hK, hD0, hE⟩ := hv
  have hx := B.exec
  have hb := B.bytes
  have hr := B.returns
  have hts0 := atoms_spec (ws := (wsgH yL_ticksFor cL_ticksFor 5 (some .int) [(0, 10, 13, 22)])) B.pre
  have hts : ∀ w ∈ wsL_law, w.before _ s = true := fun w h => hts0 w (List.mem_cons_of_mem _ h)
  have hown : s.vm.findClass RL = some m.cls := by have h9 := findClass_of_methodNamed B.named; exact h9
  have hlocks := B.notSynchronized
  subst hsz
  have hD := hD0.self (sz := s.heap.size)
  generalize hAe : va_A ([(o1, eL cy fo)] ++ WC cy ad ks g u0) s.heap.size = A at hD hE ⊢
  have hA : ∀ q : Nat, s.heap.size ≤ q → A q := fun q h => by rw [← hAe]; exact Or.inr h
  have hS : va_S A s.heap s.heap [] := va_S.rf
  have hl := lv_entry ([.ref (ad .cl), .int a1, .int a2, .ref o1]) (n := 5) (Nat.le_of_ble_eq_true rfl)
  rw [lg_entry_eq]
  generalize (lg_sl ([.ref (ad .cl), .int a1, .int a2, .ref o1]) ++ List.replicate (5 - (lg_sl ([.ref (ad .cl), .int a1, .int a2, .ref o1])).length) Slot.unset).toArray = ls at hl ⊢
  have hl : lv_has ls 5 [(0, .ref (ad .cl)), (1, .int a1), (2, .int a2), (3, .ref o1)] := hl
  generalize hHe : s.heap = H at hP hS ⊢
  have hS : va_S A s.heap H [] := by rw [hHe]; exact hS
  have htab := vx_table (x := yL_ticksFor) B (hts0 (.codeWith yL_ticksFor cL_ticksFor 5 (some .int) [(0, 10, 13, 22)]) List.mem_cons_self)
  refine lv_aload_n hx hb dL_ticksFor_0 rfl (lv_at hl 3 rfl) ?_
  refine lv_iconst (v := 0) hx hb dL_ticksFor_1 (by decide) ?_
  refine lv_aload_n hx hb dL_ticksFor_2 rfl (lv_at hl 0 rfl) ?_
  refine lv_iload_n hx hb dL_ticksFor_3 rfl (lv_at hl 1 rfl) ?_
  refine lv_iload_n hx hb dL_ticksFor_4 rfl (lv_at hl 2 rfl) ?_
  have hPc : va_P (dC, dI) vwCl (WC cy ad ks g u0) H := hP.part (X := [(o1, eL cy fo)]) (cx := []) [] rfl
  have hDc : va_D A (WC cy ad ks g u0) := hD.part (X := [(o1, eL cy fo)]) (cx := []) [] (by decide) rfl
  have hFc : ∀ q, va_A (WC cy ad ks g u0) H.size q → A q := va_freeP (X := [(o1, eL cy fo)]) (cx := []) hD hS hA [] rfl
  obtain ⟨q8, h8⟩ := wc_at (cy := cy) (ad := ad) (ks := ks) (g := g) (u := u0) (κ := .cl) hk.1 True.intro
  refine va_calli (va_runV (As := [.int a1, .int a2]) (rest := [.int 0, .ref o1]) ⟨hx, hb, hml, hown, hts⟩ (c_X7_ticksFor l dC dI cy nb ad ks g hk u0 a1 a2 ro H.size hF) (cwV 2 hts (gV mw_843 mw_844 mw_845 mw_2 mw_846) rfl rfl rfl (by decide +kernel) ⟨Nat.le_of_ble_eq_true rfl, Nat.le_of_ble_eq_true rfl⟩) (my_preV hPc hK hDc hE hS hFc (va_recv (q := (RX7, TX7, 12)) hK hPc (ci := 7) (q0 := q8) rfl h8)) rfl rfl hl.1 rfl (lv_room (Nat.le_of_ble_eq_true rfl)) dL_ticksFor_5 ⟨Nat.le_of_ble_eq_true rfl, Nat.le_of_ble_eq_true rfl⟩) hS (fun q _ h => hFc q h) hFc (fun r u t H1 locs ht hvm hw hB hz1 hk1 hS => ?_)
  clear h8
  obtain ⟨hP1, hD1⟩ := hB
  rw [ht] at hP1
  obtain ⟨hP, hD⟩ := va_joinP (X := [(o1, eL cy fo)]) (cx := []) (wr := [(o1, eL cy fo)]) (rx := []) (pl := WC cy ad ks g u0) (pl1 := WC cy ad ks g u0) hP hD [] [0] rfl rfl (by decide) (by decide) hk1 hFc hP1 hD1
  generalize H1 = H at hP hS ⊢
  have hP : va_P (dC, dI) vwCl ([(o1, eL cy fo)] ++ WC cy ad ks g u0) H := hP
  have hD : va_D A ([(o1, eL cy fo)] ++ WC cy ad ks g u0) := hD
  refine my_topi hw ?_
  refine W.widen (k := 0) (n := 0) (by omega) (by omega) ?_
  refine lv_i2l (v := ro.toInt64) hx hb dL_ticksFor_8 rfl ?_
  refine va_last hx hb hK hP hD hS 0 3 rfl rfl (vp_in_nI (n := 0) (by decide) (by decide)) dL_ticksFor_9 (fun H locs hP hD hS => ?_)
  have hP : va_P (dC, dI) vwCl ([(o1, eL cy (vp_updL fo ((0 : Int32).toNatClampNeg) (ro.toInt64)))] ++ WC cy ad ks g u0) H := hP
  have hD : va_D A ([(o1, eL cy (vp_updL fo ((0 : Int32).toNatClampNeg) (ro.toInt64)))] ++ WC cy ad ks g u0) := hD
  refine lv_goto (tgt := 17) hx hb dL_ticksFor_10 (by decide) ?_
  refine lv_iconst (v := 0) hx hb dL_ticksFor_17 (by decide) ?_
  refine vx_ret ?_
  exact W.iret (v := 0) hx hb hr (fun t ht hW => ⟨⟨0, (), rfl, rfl, by rw [ht]; exact hP, hD⟩, hS.F ht⟩) hS.2.2 dL_ticksFor_18
set_option maxHeartbeats 4000000 in
set_option maxRecDepth 100000 in
theorem ct_ticksFor (l : Launch) (hst : l.stackTraces = false) (dC : Nat → ClassId) (dI : Nat → Nat → Nat) (cy : Nat → ClassId) (nb : Nat → Nat) (ad : CK → Nat) (ks : List CK) (g : CG) (hk : GA nb ad g ks) (u0 : RS) (a1 : Int32) (a2 : Int32) (o1 : Nat) (fo : Nat → Int64) (xc : Int32) (sz : Nat) (hxc : xc = 1) (hF : C7_ticksFor g u0 a1 a2 = some (.inl xc)) : vx_Met l yL_ticksFor (wsgH yL_ticksFor cL_ticksFor 5 (some .int) [(0, 10, 13, 22)]) ({ frames := 11, cells := 1, slots := 6, locals := 600 }) (va_Pc [.ref (ad .cl), .int a1, .int a2, .ref o1] (fun U => U.heap.size = sz ∧ va_P (dC, dI) vwCl ([(o1, eL cy fo)] ++ WC cy ad ks g u0) U.heap ∧ va_K (dC, dI) vwCl (tyL cy) U ∧ va_D (fun _ => True) ([(o1, eL cy fo)] ++ WC cy ad ks g u0) ∧ GE nb (va_A ([(o1, eL cy fo)] ++ WC cy ad ks g u0) sz) U)) (va_Qi (fun (r : Int32) (_ : Unit) => r = 1) (fun _ t => va_P (dC, dI) vwCl ([(o1, eL cy fo)] ++ WC cy ad ks g u0) t.heap ∧ va_D (va_A ([(o1, eL cy fo)] ++ WC cy ad ks g u0) sz) ([(o1, eL cy fo)] ++ WC cy ad ks g u0)) (va_A ([(o1, eL cy fo)] ++ WC cy ad ks g u0) sz)) (vx_X (fun (_ : Unit) => False) (fun _ _ _ => True) (va_A ([(o1, eL cy fo)] ++ WC cy ad ks g u0) sz)) 1 6 (va_A ([(o1, eL cy fo)] ++ WC cy ad ks g u0) sz) := by
  refine vx_ofWH (cc := cL_ticksFor) (maxL := 5) (ret := (some .int)) (hh := [(0, 10, 13, 22)]) pn_L rfl ?_
  intro p e s m args below meth c s₁ B hml hv
  obtain ⟨rfl, hsz, hP, hK, hD0, hE⟩ := hv
  have hx := B.exec
  have hb := B.bytes
  have hr := B.returns
  have hts0 := atoms_spec (ws := (wsgH yL_ticksFor cL_ticksFor 5 (some .int) [(0, 10, 13, 22)])) B.pre
  have hts : ∀ w ∈ wsL_law, w.before _ s = true := fun w h => hts0 w (List.mem_cons_of_mem _ h)
  have hown : s.vm.findClass RL = some m.cls := by have h9 := findClass_of_methodNamed B.named; exact h9
  have hlocks := B.notSynchronized
  subst hsz
  have hD := hD0.self (sz := s.heap.size)
  generalize hAe : va_A ([(o1, eL cy fo)] ++ WC cy ad ks g u0) s.heap.size = A at hD hE ⊢
  have hA : ∀ q : Nat, s.heap.size ≤ q → A q := fun q h => by rw [← hAe]; exact Or.inr h
  have hS : va_S A s.heap s.heap [] := va_S.rf
  have hl := lv_entry ([.ref (ad .cl), .int a1, .int a2, .ref o1]) (n := 5) (Nat.le_of_ble_eq_true rfl)
  rw [lg_entry_eq]
  generalize (lg_sl ([.ref (ad .cl), .int a1, .int a2, .ref o1]) ++ List.replicate (5 - (lg_sl ([.ref (ad .cl), .int a1, .int a2, .ref o1])).length) Slot.unset).toArray = ls at hl ⊢
  have hl : lv_has ls 5 [(0, .ref (ad .cl)), (1, .int a1), (2, .int a2), (3, .ref o1)] := hl
  generalize hHe : s.heap = H at hP hS ⊢
  have hS : va_S A s.heap H [] := by rw [hHe]; exact hS
  have htab := vx_table (x := yL_ticksFor) B (hts0 (.codeWith yL_ticksFor cL_ticksFor 5 (some .int) [(0, 10, 13, 22)]) List.mem_cons_self)
  refine lv_aload_n hx hb dL_ticksFor_0 rfl (lv_at hl 3 rfl) ?_
  refine lv_iconst (v := 0) hx hb dL_ticksFor_1 (by decide) ?_
  refine lv_aload_n hx hb dL_ticksFor_2 rfl (lv_at hl 0 rfl) ?_
  refine lv_iload_n hx hb dL_ticksFor_3 rfl (lv_at hl 1 rfl) ?_
  refine lv_iload_n hx hb dL_ticksFor_4 rfl (lv_at hl 2 rfl) ?_
  have hPc : va_P (dC, dI) vwCl (WC cy ad ks g u0) H := hP.part (X := [(o1, eL cy fo)]) (cx := []) [] rfl
  have hDc : va_D A (WC cy ad ks g u0) := hD.part (X := [(o1, eL cy fo)]) (cx := []) [] (by decide) rfl
  have hFc : ∀ q, va_A (WC cy ad ks g u0) H.size q → A q := va_freeP (X := [(o1, eL cy fo)]) (cx := []) hD hS hA [] rfl
  obtain ⟨q8, h8⟩ := wc_at (cy := cy) (ad := ad) (ks := ks) (g := g) (u := u0) (κ := .cl) hk.1 True.intro
  refine vx_calli (vx_runV (As := [.int a1, .int a2]) (rest := [.int 0, .ref o1]) ⟨hx, hb, hml, hown, hts⟩ (c_X7_ticksFor_y l hst dC dI cy nb ad ks g hk u0 a1 a2 xc H.size hF) (cwV 2 hts (gV mw_843 mw_844 mw_845 mw_2 mw_846) rfl rfl rfl (by decide +kernel) ⟨Nat.le_of_ble_eq_true rfl, Nat.le_of_ble_eq_true rfl⟩) (my_preV hPc hK hDc hE hS hFc (va_recv (q := (RX7, TX7, 12)) hK hPc (ci := 7) (q0 := q8) rfl h8)) rfl rfl hl.1 rfl (lv_room (Nat.le_of_ble_eq_true rfl)) dL_ticksFor_5 ⟨Nat.le_of_ble_eq_true rfl, Nat.le_of_ble_eq_true rfl⟩) hS (fun q _ h => hFc q h) hFc (fun q _ h => hFc q h) (fun E9 ce9 q9 u9 t9 H1 locs1 ht9 hvm9 hp9 hB9 hz9 hk9 hS9 hc9 hv9 hcl9 => ?_) (fun r9 u9 t9 H1 locs1 ht9 hvm9 hp9 _ _ _ _ => hp9.elim)
  clear h8
  obtain ⟨hB8, hP1⟩ := hB9
  rw [ht9] at hP1
  obtain ⟨hP, hD⟩ := va_joinP (X := [(o1, eL cy fo)]) (cx := []) (wr := [(o1, eL cy fo)]) (rx := []) (pl := WC cy ad ks g u0) (pl1 := WC cy ad ks g u0) hP hD [] [0] rfl rfl (by decide) (by decide) hk9 hFc hP1 hDc.self
  have hP : va_P (dC, dI) vwCl ([(o1, eL cy fo)] ++ WC cy ad ks g u0) H1 := hP
  have hD : va_D A ([(o1, eL cy fo)] ++ WC cy ad ks g u0) := hD
  obtain rfl : E9 = xI := hB8.trans (if_pos hxc)
  refine vx_catch (own := RL) (name := xI) hown (tableOf []) _ (tableOf []) (htab.trans rfl) (fun z hz => nomatch hz) (by decide) (by decide) (hts _ mw_616) (va_Nw.use rfl hE.cI) hc9 hv9 hcl9 ?_
  generalize H1 = H at hP hS9 ⊢
  refine W.widen (k := 1) (n := 6) (by omega) (by omega) ?_
  refine lv_astore (lv' := [(4, .ref q9), (0, .ref (ad .cl)), (1, .int a1), (2, .int a2), (3, .ref o1)]) hx hb dL_ticksFor_13 hl (by decide) rfl (fun ls hl => ?_)
  refine lv_iconst (v := 1) hx hb dL_ticksFor_15 (by decide) ?_
  refine vx_ret ?_
  exact W.iret (v := 1) hx hb hr (fun t ht hW => ⟨⟨1, (), rfl, rfl, by rw [ht]; exact hP, hD⟩, hS9.F ht⟩) hS9.2.2 dL_ticksFor_16
set_option maxHeartbeats 4000000 in
set_option maxRecDepth 100000 in
theorem cn_day (l : Launch) (hst : l.stackTraces = false) (dC : Nat → ClassId) (dI : Nat → Nat → Nat) (cy : Nat → ClassId) (nb : Nat → Nat) (ad : CK → Nat) (ks : List CK) (g : CG) (hk : GA nb ad g ks) (u0 : RS) (a1 : Int32) (a2 : Int32) (a3 : Int32) (o1 : Nat) (fo : Nat → Int64) (ro : Int32) (sz : Nat) (hF : C7_day g u0 a1 a2 a3 = some (.inr ro)) : vx_Met l yL_day (wsgH yL_day cL_day 6 (some .int) [(0, 12, 15, 22), (0, 12, 19, 13)]) ({ frames := 9, cells := 0, slots := 0, locals := 400 }) (va_Pc [.ref (ad .cl), .int a1, .int a2, .int a3, .ref o1] (fun U => U.heap.size = sz ∧ va_P (dC, dI) vwCl ([(o1, eL cy fo)] ++ WC cy ad ks g u0) U.heap ∧ va_K (dC, dI) vwCl (tyL cy) U ∧ va_D (fun _ => True) ([(o1, eL cy fo)] ++ WC cy ad ks g u0) ∧ GE nb (va_A ([(o1, eL cy fo)] ++ WC cy ad ks g u0) sz) U)) (va_Qi (fun (r : Int32) (_ : Unit) => r = 0) (fun _ t => va_P (dC, dI) vwCl ([(o1, eL cy (vp_updL fo ((0 : Int32).toNatClampNeg) (ro.toInt64)))] ++ WC cy ad ks g u0) t.heap ∧ va_D (va_A ([(o1, eL cy fo)] ++ WC cy ad ks g u0) sz) ([(o1, eL cy (vp_updL fo ((0 : Int32).toNatClampNeg) (ro.toInt64)))] ++ WC cy ad ks g u0)) (va_A ([(o1, eL cy fo)] ++ WC cy ad ks g u0) sz)) (vx_X (fun (_ : Unit) => False) (fun _ _ _ => True) (va_A ([(o1, eL cy fo)] ++ WC cy ad ks g u0) sz)) 0 0 (va_A ([(o1, eL cy fo)] ++ WC cy ad ks g u0) sz) := by
  refine vx_ofWH (cc := cL_day) (maxL := 6) (ret := (some .int)) (hh := [(0, 12, 15, 22), (0, 12, 19, 13)]) pn_L rfl ?_
  intro p e s m args below meth c s₁ B hml hv
  obtain ⟨rfl, hsz, hP, hK, hD0, hE⟩ := hv
  have hx := B.exec
  have hb := B.bytes
  have hr := B.returns
  have hts0 := atoms_spec (ws := (wsgH yL_day cL_day 6 (some .int) [(0, 12, 15, 22), (0, 12, 19, 13)])) B.pre
  have hts : ∀ w ∈ wsL_law, w.before _ s = true := fun w h => hts0 w (List.mem_cons_of_mem _ h)
  have hown : s.vm.findClass RL = some m.cls := by have h9 := findClass_of_methodNamed B.named; exact h9
  have hlocks := B.notSynchronized
  subst hsz
  have hD := hD0.self (sz := s.heap.size)
  generalize hAe : va_A ([(o1, eL cy fo)] ++ WC cy ad ks g u0) s.heap.size = A at hD hE ⊢
  have hA : ∀ q : Nat, s.heap.size ≤ q → A q := fun q h => by rw [← hAe]; exact Or.inr h
  have hS : va_S A s.heap s.heap [] := va_S.rf
  have hl := lv_entry ([.ref (ad .cl), .int a1, .int a2, .int a3, .ref o1]) (n := 6) (Nat.le_of_ble_eq_true rfl)
  rw [lg_entry_eq]
  generalize (lg_sl ([.ref (ad .cl), .int a1, .int a2, .int a3, .ref o1]) ++ List.replicate (6 - (lg_sl ([.ref (ad .cl), .int a1, .int a2, .int a3, .ref o1])).length) Slot.unset).toArray = ls at hl ⊢
  have hl : lv_has ls 6 [(0, .ref (ad .cl)), (1, .int a1), (2, .int a2), (3, .int a3), (4, .ref o1)] := hl
  generalize hHe : s.heap = H at hP hS ⊢
  have hS : va_S A s.heap H [] := by rw [hHe]; exact hS
  have htab := vx_table (x := yL_day) B (hts0 (.codeWith yL_day cL_day 6 (some .int) [(0, 12, 15, 22), (0, 12, 19, 13)]) List.mem_cons_self)
  refine lv_aload hx hb dL_day_0 (lv_at hl 4 rfl) ?_
  refine lv_iconst (v := 0) hx hb dL_day_2 (by decide) ?_
  refine lv_aload_n hx hb dL_day_3 rfl (lv_at hl 0 rfl) ?_
  refine lv_iload_n hx hb dL_day_4 rfl (lv_at hl 1 rfl) ?_
  refine lv_iload_n hx hb dL_day_5 rfl (lv_at hl 2 rfl) ?_
  refine lv_iload_n hx hb dL_day_6 rfl (lv_at hl 3 rfl) ?_
  have hPc : va_P (dC, dI) vwCl (WC cy ad ks g u0) H := hP.part (X := [(o1, eL cy fo)]) (cx := []) [] rfl
  have hDc : va_D A (WC cy ad ks g u0) := hD.part (X := [(o1, eL cy fo)]) (cx := []) [] (by decide) rfl
  have hFc : ∀ q, va_A (WC cy ad ks g u0) H.size q → A q := va_freeP (X := [(o1, eL cy fo)]) (cx := []) hD hS hA [] rfl
  obtain ⟨q8, h8⟩ := wc_at (cy := cy) (ad := ad) (ks := ks) (g := g) (u := u0) (κ := .cl) hk.1 True.intro
  refine va_calli (va_runV (As := [.int a1, .int a2, .int a3]) (rest := [.int 0, .ref o1]) ⟨hx, hb, hml, hown, hts⟩ (c_X7_day l dC dI cy nb ad ks g hk u0 a1 a2 a3 ro H.size hF) (cwV 3 hts (gV mw_879 mw_880 mw_881 mw_2 mw_882) rfl rfl rfl (by decide +kernel) ⟨Nat.le_of_ble_eq_true rfl, Nat.le_of_ble_eq_true rfl⟩) (my_preV hPc hK hDc hE hS hFc (va_recv (q := (RX7, TX7, 12)) hK hPc (ci := 7) (q0 := q8) rfl h8)) rfl rfl hl.1 rfl (lv_room (Nat.le_of_ble_eq_true rfl)) dL_day_7 ⟨Nat.le_of_ble_eq_true rfl, Nat.le_of_ble_eq_true rfl⟩) hS (fun q _ h => hFc q h) hFc (fun r u t H1 locs ht hvm hw hB hz1 hk1 hS => ?_)
  clear h8
  obtain ⟨hP1, hD1⟩ := hB
  rw [ht] at hP1
  obtain ⟨hP, hD⟩ := va_joinP (X := [(o1, eL cy fo)]) (cx := []) (wr := [(o1, eL cy fo)]) (rx := []) (pl := WC cy ad ks g u0) (pl1 := WC cy ad ks g u0) hP hD [] [0] rfl rfl (by decide) (by decide) hk1 hFc hP1 hD1
  generalize H1 = H at hP hS ⊢
  have hP : va_P (dC, dI) vwCl ([(o1, eL cy fo)] ++ WC cy ad ks g u0) H := hP
  have hD : va_D A ([(o1, eL cy fo)] ++ WC cy ad ks g u0) := hD
  refine my_topi hw ?_
  refine W.widen (k := 0) (n := 0) (by omega) (by omega) ?_
  refine lv_i2l (v := ro.toInt64) hx hb dL_day_10 rfl ?_
  refine va_last hx hb hK hP hD hS 0 3 rfl rfl (vp_in_nI (n := 0) (by decide) (by decide)) dL_day_11 (fun H locs hP hD hS => ?_)
  have hP : va_P (dC, dI) vwCl ([(o1, eL cy (vp_updL fo ((0 : Int32).toNatClampNeg) (ro.toInt64)))] ++ WC cy ad ks g u0) H := hP
  have hD : va_D A ([(o1, eL cy (vp_updL fo ((0 : Int32).toNatClampNeg) (ro.toInt64)))] ++ WC cy ad ks g u0) := hD
  refine lv_goto (tgt := 23) hx hb dL_day_12 (by decide) ?_
  refine lv_iconst (v := 0) hx hb dL_day_23 (by decide) ?_
  refine vx_ret ?_
  exact W.iret (v := 0) hx hb hr (fun t ht hW => ⟨⟨0, (), rfl, rfl, by rw [ht]; exact hP, hD⟩, hS.F ht⟩) hS.2.2 dL_day_24
set_option maxHeartbeats 4000000 in
set_option maxRecDepth 100000 in
theorem ct_day (l : Launch) (hst : l.stackTraces = false) (dC : Nat → ClassId) (dI : Nat → Nat → Nat) (cy : Nat → ClassId) (nb : Nat → Nat) (ad : CK → Nat) (ks : List CK) (g : CG) (hk : GA nb ad g ks) (u0 : RS) (a1 : Int32) (a2 : Int32) (a3 : Int32) (o1 : Nat) (fo : Nat → Int64) (xc : Int32) (sz : Nat) (hF : C7_day g u0 a1 a2 a3 = some (.inl xc)) : vx_Met l yL_day (wsgH yL_day cL_day 6 (some .int) [(0, 12, 15, 22), (0, 12, 19, 13)]) ({ frames := 9, cells := 1, slots := 6, locals := 400 }) (va_Pc [.ref (ad .cl), .int a1, .int a2, .int a3, .ref o1] (fun U => U.heap.size = sz ∧ va_P (dC, dI) vwCl ([(o1, eL cy fo)] ++ WC cy ad ks g u0) U.heap ∧ va_K (dC, dI) vwCl (tyL cy) U ∧ va_D (fun _ => True) ([(o1, eL cy fo)] ++ WC cy ad ks g u0) ∧ GE nb (va_A ([(o1, eL cy fo)] ++ WC cy ad ks g u0) sz) U)) (va_Qi (fun (r : Int32) (_ : Unit) => r = if xc = 1 then 1 else 2) (fun _ t => va_P (dC, dI) vwCl ([(o1, eL cy fo)] ++ WC cy ad ks g u0) t.heap ∧ va_D (va_A ([(o1, eL cy fo)] ++ WC cy ad ks g u0) sz) ([(o1, eL cy fo)] ++ WC cy ad ks g u0)) (va_A ([(o1, eL cy fo)] ++ WC cy ad ks g u0) sz)) (vx_X (fun (_ : Unit) => False) (fun _ _ _ => True) (va_A ([(o1, eL cy fo)] ++ WC cy ad ks g u0) sz)) 1 6 (va_A ([(o1, eL cy fo)] ++ WC cy ad ks g u0) sz) := by
  refine vx_ofWH (cc := cL_day) (maxL := 6) (ret := (some .int)) (hh := [(0, 12, 15, 22), (0, 12, 19, 13)]) pn_L rfl ?_
  intro p e s m args below meth c s₁ B hml hv
  obtain ⟨rfl, hsz, hP, hK, hD0, hE⟩ := hv
  have hx := B.exec
  have hb := B.bytes
  have hr := B.returns
  have hts0 := atoms_spec (ws := (wsgH yL_day cL_day 6 (some .int) [(0, 12, 15, 22), (0, 12, 19, 13)])) B.pre
  have hts : ∀ w ∈ wsL_law, w.before _ s = true := fun w h => hts0 w (List.mem_cons_of_mem _ h)
  have hown : s.vm.findClass RL = some m.cls := by have h9 := findClass_of_methodNamed B.named; exact h9
  have hlocks := B.notSynchronized
  subst hsz
  have hD := hD0.self (sz := s.heap.size)
  generalize hAe : va_A ([(o1, eL cy fo)] ++ WC cy ad ks g u0) s.heap.size = A at hD hE ⊢
  have hA : ∀ q : Nat, s.heap.size ≤ q → A q := fun q h => by rw [← hAe]; exact Or.inr h
  have hS : va_S A s.heap s.heap [] := va_S.rf
  have hl := lv_entry ([.ref (ad .cl), .int a1, .int a2, .int a3, .ref o1]) (n := 6) (Nat.le_of_ble_eq_true rfl)
  rw [lg_entry_eq]
  generalize (lg_sl ([.ref (ad .cl), .int a1, .int a2, .int a3, .ref o1]) ++ List.replicate (6 - (lg_sl ([.ref (ad .cl), .int a1, .int a2, .int a3, .ref o1])).length) Slot.unset).toArray = ls at hl ⊢
  have hl : lv_has ls 6 [(0, .ref (ad .cl)), (1, .int a1), (2, .int a2), (3, .int a3), (4, .ref o1)] := hl
  generalize hHe : s.heap = H at hP hS ⊢
  have hS : va_S A s.heap H [] := by rw [hHe]; exact hS
  have htab := vx_table (x := yL_day) B (hts0 (.codeWith yL_day cL_day 6 (some .int) [(0, 12, 15, 22), (0, 12, 19, 13)]) List.mem_cons_self)
  refine lv_aload hx hb dL_day_0 (lv_at hl 4 rfl) ?_
  refine lv_iconst (v := 0) hx hb dL_day_2 (by decide) ?_
  refine lv_aload_n hx hb dL_day_3 rfl (lv_at hl 0 rfl) ?_
  refine lv_iload_n hx hb dL_day_4 rfl (lv_at hl 1 rfl) ?_
  refine lv_iload_n hx hb dL_day_5 rfl (lv_at hl 2 rfl) ?_
  refine lv_iload_n hx hb dL_day_6 rfl (lv_at hl 3 rfl) ?_
  have hPc : va_P (dC, dI) vwCl (WC cy ad ks g u0) H := hP.part (X := [(o1, eL cy fo)]) (cx := []) [] rfl
  have hDc : va_D A (WC cy ad ks g u0) := hD.part (X := [(o1, eL cy fo)]) (cx := []) [] (by decide) rfl
  have hFc : ∀ q, va_A (WC cy ad ks g u0) H.size q → A q := va_freeP (X := [(o1, eL cy fo)]) (cx := []) hD hS hA [] rfl
  obtain ⟨q8, h8⟩ := wc_at (cy := cy) (ad := ad) (ks := ks) (g := g) (u := u0) (κ := .cl) hk.1 True.intro
  refine vx_calli (vx_runV (As := [.int a1, .int a2, .int a3]) (rest := [.int 0, .ref o1]) ⟨hx, hb, hml, hown, hts⟩ (c_X7_day_y l hst dC dI cy nb ad ks g hk u0 a1 a2 a3 xc H.size hF) (cwV 3 hts (gV mw_879 mw_880 mw_881 mw_2 mw_882) rfl rfl rfl (by decide +kernel) ⟨Nat.le_of_ble_eq_true rfl, Nat.le_of_ble_eq_true rfl⟩) (my_preV hPc hK hDc hE hS hFc (va_recv (q := (RX7, TX7, 12)) hK hPc (ci := 7) (q0 := q8) rfl h8)) rfl rfl hl.1 rfl (lv_room (Nat.le_of_ble_eq_true rfl)) dL_day_7 ⟨Nat.le_of_ble_eq_true rfl, Nat.le_of_ble_eq_true rfl⟩) hS (fun q _ h => hFc q h) hFc (fun q _ h => hFc q h) (fun E9 ce9 q9 u9 t9 H1 locs1 ht9 hvm9 hp9 hB9 hz9 hk9 hS9 hc9 hv9 hcl9 => ?_) (fun r9 u9 t9 H1 locs1 ht9 hvm9 hp9 _ _ _ _ => hp9.elim)
  clear h8
  obtain ⟨hB8, hP1⟩ := hB9
  rw [ht9] at hP1
  obtain ⟨hP, hD⟩ := va_joinP (X := [(o1, eL cy fo)]) (cx := []) (wr := [(o1, eL cy fo)]) (rx := []) (pl := WC cy ad ks g u0) (pl1 := WC cy ad ks g u0) hP hD [] [0] rfl rfl (by decide) (by decide) hk9 hFc hP1 hDc.self
  have hP : va_P (dC, dI) vwCl ([(o1, eL cy fo)] ++ WC cy ad ks g u0) H1 := hP
  have hD : va_D A ([(o1, eL cy fo)] ++ WC cy ad ks g u0) := hD
  by_cases hxc : xc = 1
  · obtain rfl : E9 = xI := hB8.trans (if_pos hxc)
    refine vx_catch (own := RL) (name := xI) hown (tableOf []) _ (tableOf [(0, 12, 19, 13)]) (htab.trans rfl) (fun z hz => nomatch hz) (by decide) (by decide) (hts _ mw_616) (va_Nw.use rfl hE.cI) hc9 hv9 hcl9 ?_
    generalize H1 = H at hP hS9 ⊢
    refine W.widen (k := 1) (n := 6) (by omega) (by omega) ?_
    refine lv_astore (lv' := [(5, .ref q9), (0, .ref (ad .cl)), (1, .int a1), (2, .int a2), (3, .int a3), (4, .ref o1)]) hx hb dL_day_15 hl (by decide) rfl (fun ls hl => ?_)
    refine lv_iconst (v := 1) hx hb dL_day_17 (by decide) ?_
    refine vx_ret ?_
    exact W.iret (v := 1) hx hb hr (fun t ht hW => ⟨⟨1, (), rfl, (if_pos hxc).symm, by rw [ht]; exact hP, hD⟩, hS9.F ht⟩) hS9.2.2 dL_day_18
  · obtain rfl : E9 = xA := hB8.trans (if_neg hxc)
    refine vx_catch (own := RL) (name := xA) hown (tableOf [(0, 12, 15, 22)]) _ (tableOf []) (htab.trans rfl) (fun z hz => by obtain rfl := List.mem_singleton.mp hz; exact Or.inr ⟨by decide, xI, hts _ mw_616, hE.nc⟩) (by decide) (by decide) (hts _ mw_564) (va_Nw.use rfl hE.cA) hc9 hv9 hcl9 ?_
    generalize H1 = H at hP hS9 ⊢
    refine W.widen (k := 1) (n := 6) (by omega) (by omega) ?_
    refine lv_astore (lv' := [(5, .ref q9), (0, .ref (ad .cl)), (1, .int a1), (2, .int a2), (3, .int a3), (4, .ref o1)]) hx hb dL_day_19 hl (by decide) rfl (fun ls hl => ?_)
    refine lv_iconst (v := 2) hx hb dL_day_21 (by decide) ?_
    refine vx_ret ?_
    exact W.iret (v := 2) hx hb hr (fun t ht hW => ⟨⟨2, (), rfl, (if_neg hxc).symm, by rw [ht]; exact hP, hD⟩, hS9.F ht⟩) hS9.2.2 dL_day_22
set_option maxHeartbeats 4000000 in
set_option maxRecDepth 100000 in
theorem cn_today (l : Launch) (hst : l.stackTraces = false) (dC : Nat → ClassId) (dI : Nat → Nat → Nat) (cy : Nat → ClassId) (nb : Nat → Nat) (ad : CK → Nat) (ks : List CK) (g : CG) (hk : GA nb ad g ks) (u0 : RS) (a1 : Int32) (a2 : Int32) (o1 : Nat) (fo : Nat → Int64) (ro : Int32) (sz : Nat) (hF : C7_today g u0 a1 a2 = some (.inr ro)) : vx_Met l yL_today (wsgH yL_today cL_today 5 (some .int) [(0, 10, 13, 22), (0, 10, 17, 13)]) ({ frames := 9, cells := 0, slots := 0, locals := 400 }) (va_Pc [.ref (ad .cl), .int a1, .int a2, .ref o1] (fun U => U.heap.size = sz ∧ va_P (dC, dI) vwCl ([(o1, eL cy fo)] ++ WC cy ad ks g u0) U.heap ∧ va_K (dC, dI) vwCl (tyL cy) U ∧ va_D (fun _ => True) ([(o1, eL cy fo)] ++ WC cy ad ks g u0) ∧ GE nb (va_A ([(o1, eL cy fo)] ++ WC cy ad ks g u0) sz) U)) (va_Qi (fun (r : Int32) (_ : Unit) => r = 0) (fun _ t => va_P (dC, dI) vwCl ([(o1, eL cy (vp_updL fo ((0 : Int32).toNatClampNeg) (ro.toInt64)))] ++ WC cy ad ks g u0) t.heap ∧ va_D (va_A ([(o1, eL cy fo)] ++ WC cy ad ks g u0) sz) ([(o1, eL cy (vp_updL fo ((0 : Int32).toNatClampNeg) (ro.toInt64)))] ++ WC cy ad ks g u0)) (va_A ([(o1, eL cy fo)] ++ WC cy ad ks g u0) sz)) (vx_X (fun (_ : Unit) => False) (fun _ _ _ => True) (va_A ([(o1, eL cy fo)] ++ WC cy ad ks g u0) sz)) 0 0 (va_A ([(o1, eL cy fo)] ++ WC cy ad ks g u0) sz) := by
  refine vx_ofWH (cc := cL_today) (maxL := 5) (ret := (some .int)) (hh := [(0, 10, 13, 22), (0, 10, 17, 13)]) pn_L rfl ?_
  intro p e s m args below meth c s₁ B hml hv
  obtain ⟨rfl, hsz, hP, hK, hD0, hE⟩ := hv
  have hx := B.exec
  have hb := B.bytes
  have hr := B.returns
  have hts0 := atoms_spec (ws := (wsgH yL_today cL_today 5 (some .int) [(0, 10, 13, 22), (0, 10, 17, 13)])) B.pre
  have hts : ∀ w ∈ wsL_law, w.before _ s = true := fun w h => hts0 w (List.mem_cons_of_mem _ h)
  have hown : s.vm.findClass RL = some m.cls := by have h9 := findClass_of_methodNamed B.named; exact h9
  have hlocks := B.notSynchronized
  subst hsz
  have hD := hD0.self (sz := s.heap.size)
  generalize hAe : va_A ([(o1, eL cy fo)] ++ WC cy ad ks g u0) s.heap.size = A at hD hE ⊢
  have hA : ∀ q : Nat, s.heap.size ≤ q → A q := fun q h => by rw [← hAe]; exact Or.inr h
  have hS : va_S A s.heap s.heap [] := va_S.rf
  have hl := lv_entry ([.ref (ad .cl), .int a1, .int a2, .ref o1]) (n := 5) (Nat.le_of_ble_eq_true rfl)
  rw [lg_entry_eq]
  generalize (lg_sl ([.ref (ad .cl), .int a1, .int a2, .ref o1]) ++ List.replicate (5 - (lg_sl ([.ref (ad .cl), .int a1, .int a2, .ref o1])).length) Slot.unset).toArray = ls at hl ⊢
  have hl : lv_has ls 5 [(0, .ref (ad .cl)), (1, .int a1), (2, .int a2), (3, .ref o1)] := hl
  generalize hHe : s.heap = H at hP hS ⊢
  have hS : va_S A s.heap H [] := by rw [hHe]; exact hS
  have htab := vx_table (x := yL_today) B (hts0 (.codeWith yL_today cL_today 5 (some .int) [(0, 10, 13, 22), (0, 10, 17, 13)]) List.mem_cons_self)
  refine lv_aload_n hx hb dL_today_0 rfl (lv_at hl 3 rfl) ?_
  refine lv_iconst (v := 0) hx hb dL_today_1 (by decide) ?_
  refine lv_aload_n hx hb dL_today_2 rfl (lv_at hl 0 rfl) ?_
  refine lv_iload_n hx hb dL_today_3 rfl (lv_at hl 1 rfl) ?_
  refine lv_iload_n hx hb dL_today_4 rfl (lv_at hl 2 rfl) ?_
  have hPc : va_P (dC, dI) vwCl (WC cy ad ks g u0) H := hP.part (X := [(o1, eL cy fo)]) (cx := []) [] rfl
  have hDc : va_D A (WC cy ad ks g u0) := hD.part (X := [(o1, eL cy fo)]) (cx := []) [] (by decide) rfl
  have hFc : ∀ q, va_A (WC cy ad ks g u0) H.size q → A q := va_freeP (X := [(o1, eL cy fo)]) (cx := []) hD hS hA [] rfl
  obtain ⟨q8, h8⟩ := wc_at (cy := cy) (ad := ad) (ks := ks) (g := g) (u := u0) (κ := .cl) hk.1 True.intro
  refine va_calli (va_runV (As := [.int a1, .int a2]) (rest := [.int 0, .ref o1]) ⟨hx, hb, hml, hown, hts⟩ (c_X7_today l dC dI cy nb ad ks g hk u0 a1 a2 ro H.size hF) (cwV 2 hts (gV mw_896 mw_897 mw_898 mw_2 mw_899) rfl rfl rfl (by decide +kernel) ⟨Nat.le_of_ble_eq_true rfl, Nat.le_of_ble_eq_true rfl⟩) (my_preV hPc hK hDc hE hS hFc (va_recv (q := (RX7, TX7, 12)) hK hPc (ci := 7) (q0 := q8) rfl h8)) rfl rfl hl.1 rfl (lv_room (Nat.le_of_ble_eq_true rfl)) dL_today_5 ⟨Nat.le_of_ble_eq_true rfl, Nat.le_of_ble_eq_true rfl⟩) hS (fun q _ h => hFc q h) hFc (fun r u t H1 locs ht hvm hw hB hz1 hk1 hS => ?_)
  clear h8
  obtain ⟨hP1, hD1⟩ := hB
  rw [ht] at hP1
  obtain ⟨hP, hD⟩ := va_joinP (X := [(o1, eL cy fo)]) (cx := []) (wr := [(o1, eL cy fo)]) (rx := []) (pl := WC cy ad ks g u0) (pl1 := WC cy ad ks g u0) hP hD [] [0] rfl rfl (by decide) (by decide) hk1 hFc hP1 hD1
  generalize H1 = H at hP hS ⊢
  have hP : va_P (dC, dI) vwCl ([(o1, eL cy fo)] ++ WC cy ad ks g u0) H := hP
  have hD : va_D A ([(o1, eL cy fo)] ++ WC cy ad ks g u0) := hD
  refine my_topi hw ?_
  refine W.widen (k := 0) (n := 0) (by omega) (by omega) ?_
  refine lv_i2l (v := ro.toInt64) hx hb dL_today_8 rfl ?_
  refine va_last hx hb hK hP hD hS 0 3 rfl rfl (vp_in_nI (n := 0) (by decide) (by decide)) dL_today_9 (fun H locs hP hD hS => ?_)
  have hP : va_P (dC, dI) vwCl ([(o1, eL cy (vp_updL fo ((0 : Int32).toNatClampNeg) (ro.toInt64)))] ++ WC cy ad ks g u0) H := hP
  have hD : va_D A ([(o1, eL cy (vp_updL fo ((0 : Int32).toNatClampNeg) (ro.toInt64)))] ++ WC cy ad ks g u0) := hD
  refine lv_goto (tgt := 21) hx hb dL_today_10 (by decide) ?_
  refine lv_iconst (v := 0) hx hb dL_today_21 (by decide) ?_
  refine vx_ret ?_
  exact W.iret (v := 0) hx hb hr (fun t ht hW => ⟨⟨0, (), rfl, rfl, by rw [ht]; exact hP, hD⟩, hS.F ht⟩) hS.2.2 dL_today_22
set_option maxHeartbeats 4000000 in
set_option maxRecDepth 100000 in
theorem ct_today (l : Launch) (hst : l.stackTraces = false) (dC : Nat → ClassId) (dI : Nat → Nat → Nat) (cy : Nat → ClassId) (nb : Nat → Nat) (ad : CK → Nat) (ks : List CK) (g : CG) (hk : GA nb ad g ks) (u0 : RS) (a1 : Int32) (a2 : Int32) (o1 : Nat) (fo : Nat → Int64) (xc : Int32) (sz : Nat) (hF : C7_today g u0 a1 a2 = some (.inl xc)) : vx_Met l yL_today (wsgH yL_today cL_today 5 (some .int) [(0, 10, 13, 22), (0, 10, 17, 13)]) ({ frames := 9, cells := 1, slots := 6, locals := 400 }) (va_Pc [.ref (ad .cl), .int a1, .int a2, .ref o1] (fun U => U.heap.size = sz ∧ va_P (dC, dI) vwCl ([(o1, eL cy fo)] ++ WC cy ad ks g u0) U.heap ∧ va_K (dC, dI) vwCl (tyL cy) U ∧ va_D (fun _ => True) ([(o1, eL cy fo)] ++ WC cy ad ks g u0) ∧ GE nb (va_A ([(o1, eL cy fo)] ++ WC cy ad ks g u0) sz) U)) (va_Qi (fun (r : Int32) (_ : Unit) => r = if xc = 1 then 1 else 2) (fun _ t => va_P (dC, dI) vwCl ([(o1, eL cy fo)] ++ WC cy ad ks g u0) t.heap ∧ va_D (va_A ([(o1, eL cy fo)] ++ WC cy ad ks g u0) sz) ([(o1, eL cy fo)] ++ WC cy ad ks g u0)) (va_A ([(o1, eL cy fo)] ++ WC cy ad ks g u0) sz)) (vx_X (fun (_ : Unit) => False) (fun _ _ _ => True) (va_A ([(o1, eL cy fo)] ++ WC cy ad ks g u0) sz)) 1 6 (va_A ([(o1, eL cy fo)] ++ WC cy ad ks g u0) sz) := by
  refine vx_ofWH (cc := cL_today) (maxL := 5) (ret := (some .int)) (hh := [(0, 10, 13, 22), (0, 10, 17, 13)]) pn_L rfl ?_
  intro p e s m args below meth c s₁ B hml hv
  obtain ⟨rfl, hsz, hP, hK, hD0, hE⟩ := hv
  have hx := B.exec
  have hb := B.bytes
  have hr := B.returns
  have hts0 := atoms_spec (ws := (wsgH yL_today cL_today 5 (some .int) [(0, 10, 13, 22), (0, 10, 17, 13)])) B.pre
  have hts : ∀ w ∈ wsL_law, w.before _ s = true := fun w h => hts0 w (List.mem_cons_of_mem _ h)
  have hown : s.vm.findClass RL = some m.cls := by have h9 := findClass_of_methodNamed B.named; exact h9
  have hlocks := B.notSynchronized
  subst hsz
  have hD := hD0.self (sz := s.heap.size)
  generalize hAe : va_A ([(o1, eL cy fo)] ++ WC cy ad ks g u0) s.heap.size = A at hD hE ⊢
  have hA : ∀ q : Nat, s.heap.size ≤ q → A q := fun q h => by rw [← hAe]; exact Or.inr h
  have hS : va_S A s.heap s.heap [] := va_S.rf
  have hl := lv_entry ([.ref (ad .cl), .int a1, .int a2, .ref o1]) (n := 5) (Nat.le_of_ble_eq_true rfl)
  rw [lg_entry_eq]
  generalize (lg_sl ([.ref (ad .cl), .int a1, .int a2, .ref o1]) ++ List.replicate (5 - (lg_sl ([.ref (ad .cl), .int a1, .int a2, .ref o1])).length) Slot.unset).toArray = ls at hl ⊢
  have hl : lv_has ls 5 [(0, .ref (ad .cl)), (1, .int a1), (2, .int a2), (3, .ref o1)] := hl
  generalize hHe : s.heap = H at hP hS ⊢
  have hS : va_S A s.heap H [] := by rw [hHe]; exact hS
  have htab := vx_table (x := yL_today) B (hts0 (.codeWith yL_today cL_today 5 (some .int) [(0, 10, 13, 22), (0, 10, 17, 13)]) List.mem_cons_self)
  refine lv_aload_n hx hb dL_today_0 rfl (lv_at hl 3 rfl) ?_
  refine lv_iconst (v := 0) hx hb dL_today_1 (by decide) ?_
  refine lv_aload_n hx hb dL_today_2 rfl (lv_at hl 0 rfl) ?_
  refine lv_iload_n hx hb dL_today_3 rfl (lv_at hl 1 rfl) ?_
  refine lv_iload_n hx hb dL_today_4 rfl (lv_at hl 2 rfl) ?_
  have hPc : va_P (dC, dI) vwCl (WC cy ad ks g u0) H := hP.part (X := [(o1, eL cy fo)]) (cx := []) [] rfl
  have hDc : va_D A (WC cy ad ks g u0) := hD.part (X := [(o1, eL cy fo)]) (cx := []) [] (by decide) rfl
  have hFc : ∀ q, va_A (WC cy ad ks g u0) H.size q → A q := va_freeP (X := [(o1, eL cy fo)]) (cx := []) hD hS hA [] rfl
  obtain ⟨q8, h8⟩ := wc_at (cy := cy) (ad := ad) (ks := ks) (g := g) (u := u0) (κ := .cl) hk.1 True.intro
  refine vx_calli (vx_runV (As := [.int a1, .int a2]) (rest := [.int 0, .ref o1]) ⟨hx, hb, hml, hown, hts⟩ (c_X7_today_y l hst dC dI cy nb ad ks g hk u0 a1 a2 xc H.size hF) (cwV 2 hts (gV mw_896 mw_897 mw_898 mw_2 mw_899) rfl rfl rfl (by decide +kernel) ⟨Nat.le_of_ble_eq_true rfl, Nat.le_of_ble_eq_true rfl⟩) (my_preV hPc hK hDc hE hS hFc (va_recv (q := (RX7, TX7, 12)) hK hPc (ci := 7) (q0 := q8) rfl h8)) rfl rfl hl.1 rfl (lv_room (Nat.le_of_ble_eq_true rfl)) dL_today_5 ⟨Nat.le_of_ble_eq_true rfl, Nat.le_of_ble_eq_true rfl⟩) hS (fun q _ h => hFc q h) hFc (fun q _ h => hFc q h) (fun E9 ce9 q9 u9 t9 H1 locs1 ht9 hvm9 hp9 hB9 hz9 hk9 hS9 hc9 hv9 hcl9 => ?_) (fun r9 u9 t9 H1 locs1 ht9 hvm9 hp9 _ _ _ _ => hp9.elim)
  clear h8
  obtain ⟨hB8, hP1⟩ := hB9
  rw [ht9] at hP1
  obtain ⟨hP, hD⟩ := va_joinP (X := [(o1, eL cy fo)]) (cx := []) (wr := [(o1, eL cy fo)]) (rx := []) (pl := WC cy ad ks g u0) (pl1 := WC cy ad ks g u0) hP hD [] [0] rfl rfl (by decide) (by decide) hk9 hFc hP1 hDc.self
  have hP : va_P (dC, dI) vwCl ([(o1, eL cy fo)] ++ WC cy ad ks g u0) H1 := hP
  have hD : va_D A ([(o1, eL cy fo)] ++ WC cy ad ks g u0) := hD
  by_cases hxc : xc = 1
  · obtain rfl : E9 = xI := hB8.trans (if_pos hxc)
    refine vx_catch (own := RL) (name := xI) hown (tableOf []) _ (tableOf [(0, 10, 17, 13)]) (htab.trans rfl) (fun z hz => nomatch hz) (by decide) (by decide) (hts _ mw_616) (va_Nw.use rfl hE.cI) hc9 hv9 hcl9 ?_
    generalize H1 = H at hP hS9 ⊢
    refine W.widen (k := 1) (n := 6) (by omega) (by omega) ?_
    refine lv_astore (lv' := [(4, .ref q9), (0, .ref (ad .cl)), (1, .int a1), (2, .int a2), (3, .ref o1)]) hx hb dL_today_13 hl (by decide) rfl (fun ls hl => ?_)
    refine lv_iconst (v := 1) hx hb dL_today_15 (by decide) ?_
    refine vx_ret ?_
    exact W.iret (v := 1) hx hb hr (fun t ht hW => ⟨⟨1, (), rfl, (if_pos hxc).symm, by rw [ht]; exact hP, hD⟩, hS9.F ht⟩) hS9.2.2 dL_today_16
  · obtain rfl : E9 = xA := hB8.trans (if_neg hxc)
    refine vx_catch (own := RL) (name := xA) hown (tableOf [(0, 10, 13, 22)]) _ (tableOf []) (htab.trans rfl) (fun z hz => by obtain rfl := List.mem_singleton.mp hz; exact Or.inr ⟨by decide, xI, hts _ mw_616, hE.nc⟩) (by decide) (by decide) (hts _ mw_564) (va_Nw.use rfl hE.cA) hc9 hv9 hcl9 ?_
    generalize H1 = H at hP hS9 ⊢
    refine W.widen (k := 1) (n := 6) (by omega) (by omega) ?_
    refine lv_astore (lv' := [(4, .ref q9), (0, .ref (ad .cl)), (1, .int a1), (2, .int a2), (3, .ref o1)]) hx hb dL_today_17 hl (by decide) rfl (fun ls hl => ?_)
    refine lv_iconst (v := 2) hx hb dL_today_19 (by decide) ?_
    refine vx_ret ?_
    exact W.iret (v := 2) hx hb hr (fun t ht hW => ⟨⟨2, (), rfl, (if_neg hxc).symm, by rw [ht]; exact hP, hD⟩, hS9.F ht⟩) hS9.2.2 dL_today_20
set_option maxHeartbeats 4000000 in
set_option maxRecDepth 100000 in
theorem cn_total (l : Launch) (hst : l.stackTraces = false) (dC : Nat → ClassId) (dI : Nat → Nat → Nat) (cy : Nat → ClassId) (nb : Nat → Nat) (ad : CK → Nat) (ks : List CK) (g : CG) (hk : GA nb ad g ks) (u0 : RS) (a1 : Int32) (o1 : Nat) (fo : Nat → Int64) (ro : Int32) (sz : Nat) (hF : C7_total g u0 a1 = some (.inr ro)) : vx_Met l yL_total (wsgH yL_total cL_total 4 (some .int) [(0, 9, 12, 13)]) ({ frames := 9, cells := 0, slots := 0, locals := 400 }) (va_Pc [.ref (ad .cl), .int a1, .ref o1] (fun U => U.heap.size = sz ∧ va_P (dC, dI) vwCl ([(o1, eL cy fo)] ++ WC cy ad ks g u0) U.heap ∧ va_K (dC, dI) vwCl (tyL cy) U ∧ va_D (fun _ => True) ([(o1, eL cy fo)] ++ WC cy ad ks g u0) ∧ GE nb (va_A ([(o1, eL cy fo)] ++ WC cy ad ks g u0) sz) U)) (va_Qi (fun (r : Int32) (_ : Unit) => r = 0) (fun _ t => va_P (dC, dI) vwCl ([(o1, eL cy (vp_updL fo ((0 : Int32).toNatClampNeg) (ro.toInt64)))] ++ WC cy ad ks g u0) t.heap ∧ va_D (va_A ([(o1, eL cy fo)] ++ WC cy ad ks g u0) sz) ([(o1, eL cy (vp_updL fo ((0 : Int32).toNatClampNeg) (ro.toInt64)))] ++ WC cy ad ks g u0)) (va_A ([(o1, eL cy fo)] ++ WC cy ad ks g u0) sz)) (vx_X (fun (_ : Unit) => False) (fun _ _ _ => True) (va_A ([(o1, eL cy fo)] ++ WC cy ad ks g u0) sz)) 0 0 (va_A ([(o1, eL cy fo)] ++ WC cy ad ks g u0) sz) := by
  refine vx_ofWH (cc := cL_total) (maxL := 4) (ret := (some .int)) (hh := [(0, 9, 12, 13)]) pn_L rfl ?_
  intro p e s m args below meth c s₁ B hml hv
  obtain ⟨rfl, hsz, hP, hK, hD0, hE⟩ := hv
  have hx := B.exec
  have hb := B.bytes
  have hr := B.returns
  have hts0 := atoms_spec (ws := (wsgH yL_total cL_total 4 (some .int) [(0, 9, 12, 13)])) B.pre
  have hts : ∀ w ∈ wsL_law, w.before _ s = true := fun w h => hts0 w (List.mem_cons_of_mem _ h)
  have hown : s.vm.findClass RL = some m.cls := by have h9 := findClass_of_methodNamed B.named; exact h9
  have hlocks := B.notSynchronized
  subst hsz
  have hD := hD0.self (sz := s.heap.size)
  generalize hAe : va_A ([(o1, eL cy fo)] ++ WC cy ad ks g u0) s.heap.size = A at hD hE ⊢
  have hA : ∀ q : Nat, s.heap.size ≤ q → A q := fun q h => by rw [← hAe]; exact Or.inr h
  have hS : va_S A s.heap s.heap [] := va_S.rf
  have hl := lv_entry ([.ref (ad .cl), .int a1, .ref o1]) (n := 4) (Nat.le_of_ble_eq_true rfl)
  rw [lg_entry_eq]
  generalize (lg_sl ([.ref (ad .cl), .int a1, .ref o1]) ++ List.replicate (4 - (lg_sl ([.ref (ad .cl), .int a1, .ref o1])).length) Slot.unset).toArray = ls at hl ⊢
  have hl : lv_has ls 4 [(0, .ref (ad .cl)), (1, .int a1), (2, .ref o1)] := hl
  generalize hHe : s.heap = H at hP hS ⊢
  have hS : va_S A s.heap H [] := by rw [hHe]; exact hS
  have htab := vx_table (x := yL_total) B (hts0 (.codeWith yL_total cL_total 4 (some .int) [(0, 9, 12, 13)]) List.mem_cons_self)
  refine lv_aload_n hx hb dL_total_0 rfl (lv_at hl 2 rfl) ?_
  refine lv_iconst (v := 0) hx hb dL_total_1 (by decide) ?_
  refine lv_aload_n hx hb dL_total_2 rfl (lv_at hl 0 rfl) ?_
  refine lv_iload_n hx hb dL_total_3 rfl (lv_at hl 1 rfl) ?_
  have hPc : va_P (dC, dI) vwCl (WC cy ad ks g u0) H := hP.part (X := [(o1, eL cy fo)]) (cx := []) [] rfl
  have hDc : va_D A (WC cy ad ks g u0) := hD.part (X := [(o1, eL cy fo)]) (cx := []) [] (by decide) rfl
  have hFc : ∀ q, va_A (WC cy ad ks g u0) H.size q → A q := va_freeP (X := [(o1, eL cy fo)]) (cx := []) hD hS hA [] rfl
  obtain ⟨q8, h8⟩ := wc_at (cy := cy) (ad := ad) (ks := ks) (g := g) (u := u0) (κ := .cl) hk.1 True.intro
  refine va_calli (va_runV (As := [.int a1]) (rest := [.int 0, .ref o1]) ⟨hx, hb, hml, hown, hts⟩ (c_X7_total l dC dI cy nb ad ks g hk u0 a1 ro H.size hF) (cwV 1 hts (gV mw_909 mw_910 mw_911 mw_2 mw_912) rfl rfl rfl (by decide +kernel) ⟨Nat.le_of_ble_eq_true rfl, Nat.le_of_ble_eq_true rfl⟩) (my_preV hPc hK hDc hE hS hFc (va_recv (q := (RX7, TX7, 12)) hK hPc (ci := 7) (q0 := q8) rfl h8)) rfl rfl hl.1 rfl (lv_room (Nat.le_of_ble_eq_true rfl)) dL_total_4 ⟨Nat.le_of_ble_eq_true rfl, Nat.le_of_ble_eq_true rfl⟩) hS (fun q _ h => hFc q h) hFc (fun r u t H1 locs ht hvm hw hB hz1 hk1 hS => ?_)
  clear h8
  obtain ⟨hP1, hD1⟩ := hB
  rw [ht] at hP1
  obtain ⟨hP, hD⟩ := va_joinP (X := [(o1, eL cy fo)]) (cx := []) (wr := [(o1, eL cy fo)]) (rx := []) (pl := WC cy ad ks g u0) (pl1 := WC cy ad ks g u0) hP hD [] [0] rfl rfl (by decide) (by decide) hk1 hFc hP1 hD1
  generalize H1 = H at hP hS ⊢
  have hP : va_P (dC, dI) vwCl ([(o1, eL cy fo)] ++ WC cy ad ks g u0) H := hP
  have hD : va_D A ([(o1, eL cy fo)] ++ WC cy ad ks g u0) := hD
  refine my_topi hw ?_
  refine W.widen (k := 0) (n := 0) (by omega) (by omega) ?_
  refine lv_i2l (v := ro.toInt64) hx hb dL_total_7 rfl ?_
  refine va_last hx hb hK hP hD hS 0 3 rfl rfl (vp_in_nI (n := 0) (by decide) (by decide)) dL_total_8 (fun H locs hP hD hS => ?_)
  have hP : va_P (dC, dI) vwCl ([(o1, eL cy (vp_updL fo ((0 : Int32).toNatClampNeg) (ro.toInt64)))] ++ WC cy ad ks g u0) H := hP
  have hD : va_D A ([(o1, eL cy (vp_updL fo ((0 : Int32).toNatClampNeg) (ro.toInt64)))] ++ WC cy ad ks g u0) := hD
  refine lv_goto (tgt := 15) hx hb dL_total_9 (by decide) ?_
  refine lv_iconst (v := 0) hx hb dL_total_15 (by decide) ?_
  refine vx_ret ?_
  exact W.iret (v := 0) hx hb hr (fun t ht hW => ⟨⟨0, (), rfl, rfl, by rw [ht]; exact hP, hD⟩, hS.F ht⟩) hS.2.2 dL_total_16
set_option maxHeartbeats 4000000 in
set_option maxRecDepth 100000 in
theorem ct_total (l : Launch) (hst : l.stackTraces = false) (dC : Nat → ClassId) (dI : Nat → Nat → Nat) (cy : Nat → ClassId) (nb : Nat → Nat) (ad : CK → Nat) (ks : List CK) (g : CG) (hk : GA nb ad g ks) (u0 : RS) (a1 : Int32) (o1 : Nat) (fo : Nat → Int64) (xc : Int32) (sz : Nat) (hxc : ¬ xc = 1) (hF : C7_total g u0 a1 = some (.inl xc)) : vx_Met l yL_total (wsgH yL_total cL_total 4 (some .int) [(0, 9, 12, 13)]) ({ frames := 9, cells := 1, slots := 6, locals := 400 }) (va_Pc [.ref (ad .cl), .int a1, .ref o1] (fun U => U.heap.size = sz ∧ va_P (dC, dI) vwCl ([(o1, eL cy fo)] ++ WC cy ad ks g u0) U.heap ∧ va_K (dC, dI) vwCl (tyL cy) U ∧ va_D (fun _ => True) ([(o1, eL cy fo)] ++ WC cy ad ks g u0) ∧ GE nb (va_A ([(o1, eL cy fo)] ++ WC cy ad ks g u0) sz) U)) (va_Qi (fun (r : Int32) (_ : Unit) => r = 1) (fun _ t => va_P (dC, dI) vwCl ([(o1, eL cy fo)] ++ WC cy ad ks g u0) t.heap ∧ va_D (va_A ([(o1, eL cy fo)] ++ WC cy ad ks g u0) sz) ([(o1, eL cy fo)] ++ WC cy ad ks g u0)) (va_A ([(o1, eL cy fo)] ++ WC cy ad ks g u0) sz)) (vx_X (fun (_ : Unit) => False) (fun _ _ _ => True) (va_A ([(o1, eL cy fo)] ++ WC cy ad ks g u0) sz)) 1 6 (va_A ([(o1, eL cy fo)] ++ WC cy ad ks g u0) sz) := by
  refine vx_ofWH (cc := cL_total) (maxL := 4) (ret := (some .int)) (hh := [(0, 9, 12, 13)]) pn_L rfl ?_
  intro p e s m args below meth c s₁ B hml hv
  obtain ⟨rfl, hsz, hP, hK, hD0, hE⟩ := hv
  have hx := B.exec
  have hb := B.bytes
  have hr := B.returns
  have hts0 := atoms_spec (ws := (wsgH yL_total cL_total 4 (some .int) [(0, 9, 12, 13)])) B.pre
  have hts : ∀ w ∈ wsL_law, w.before _ s = true := fun w h => hts0 w (List.mem_cons_of_mem _ h)
  have hown : s.vm.findClass RL = some m.cls := by have h9 := findClass_of_methodNamed B.named; exact h9
  have hlocks := B.notSynchronized
  subst hsz
  have hD := hD0.self (sz := s.heap.size)
  generalize hAe : va_A ([(o1, eL cy fo)] ++ WC cy ad ks g u0) s.heap.size = A at hD hE ⊢
  have hA : ∀ q : Nat, s.heap.size ≤ q → A q := fun q h => by rw [← hAe]; exact Or.inr h
  have hS : va_S A s.heap s.heap [] := va_S.rf
  have hl := lv_entry ([.ref (ad .cl), .int a1, .ref o1]) (n := 4) (Nat.le_of_ble_eq_true rfl)
  rw [lg_entry_eq]
  generalize (lg_sl ([.ref (ad .cl), .int a1, .ref o1]) ++ List.replicate (4 - (lg_sl ([.ref (ad .cl), .int a1, .ref o1])).length) Slot.unset).toArray = ls at hl ⊢
  have hl : lv_has ls 4 [(0, .ref (ad .cl)), (1, .int a1), (2, .ref o1)] := hl
  generalize hHe : s.heap = H at hP hS ⊢
  have hS : va_S A s.heap H [] := by rw [hHe]; exact hS
  have htab := vx_table (x := yL_total) B (hts0 (.codeWith yL_total cL_total 4 (some .int) [(0, 9, 12, 13)]) List.mem_cons_self)
  refine lv_aload_n hx hb dL_total_0 rfl (lv_at hl 2 rfl) ?_
  refine lv_iconst (v := 0) hx hb dL_total_1 (by decide) ?_
  refine lv_aload_n hx hb dL_total_2 rfl (lv_at hl 0 rfl) ?_
  refine lv_iload_n hx hb dL_total_3 rfl (lv_at hl 1 rfl) ?_
  have hPc : va_P (dC, dI) vwCl (WC cy ad ks g u0) H := hP.part (X := [(o1, eL cy fo)]) (cx := []) [] rfl
  have hDc : va_D A (WC cy ad ks g u0) := hD.part (X := [(o1, eL cy fo)]) (cx := []) [] (by decide) rfl
  have hFc : ∀ q, va_A (WC cy ad ks g u0) H.size q → A q := va_freeP (X := [(o1, eL cy fo)]) (cx := []) hD hS hA [] rfl
  obtain ⟨q8, h8⟩ := wc_at (cy := cy) (ad := ad) (ks := ks) (g := g) (u := u0) (κ := .cl) hk.1 True.intro
  refine vx_calli (vx_runV (As := [.int a1]) (rest := [.int 0, .ref o1]) ⟨hx, hb, hml, hown, hts⟩ (c_X7_total_y l hst dC dI cy nb ad ks g hk u0 a1 xc H.size hF) (cwV 1 hts (gV mw_909 mw_910 mw_911 mw_2 mw_912) rfl rfl rfl (by decide +kernel) ⟨Nat.le_of_ble_eq_true rfl, Nat.le_of_ble_eq_true rfl⟩) (my_preV hPc hK hDc hE hS hFc (va_recv (q := (RX7, TX7, 12)) hK hPc (ci := 7) (q0 := q8) rfl h8)) rfl rfl hl.1 rfl (lv_room (Nat.le_of_ble_eq_true rfl)) dL_total_4 ⟨Nat.le_of_ble_eq_true rfl, Nat.le_of_ble_eq_true rfl⟩) hS (fun q _ h => hFc q h) hFc (fun q _ h => hFc q h) (fun E9 ce9 q9 u9 t9 H1 locs1 ht9 hvm9 hp9 hB9 hz9 hk9 hS9 hc9 hv9 hcl9 => ?_) (fun r9 u9 t9 H1 locs1 ht9 hvm9 hp9 _ _ _ _ => hp9.elim)
  clear h8
  obtain ⟨hB8, hP1⟩ := hB9
  rw [ht9] at hP1
  obtain ⟨hP, hD⟩ := va_joinP (X := [(o1, eL cy fo)]) (cx := []) (wr := [(o1, eL cy fo)]) (rx := []) (pl := WC cy ad ks g u0) (pl1 := WC cy ad ks g u0) hP hD [] [0] rfl rfl (by decide) (by decide) hk9 hFc hP1 hDc.self
  have hP : va_P (dC, dI) vwCl ([(o1, eL cy fo)] ++ WC cy ad ks g u0) H1 := hP
  have hD : va_D A ([(o1, eL cy fo)] ++ WC cy ad ks g u0) := hD
  obtain rfl : E9 = xA := hB8.trans (if_neg hxc)
  refine vx_catch (own := RL) (name := xA) hown (tableOf []) _ (tableOf []) (htab.trans rfl) (fun z hz => nomatch hz) (by decide) (by decide) (hts _ mw_564) (va_Nw.use rfl hE.cA) hc9 hv9 hcl9 ?_
  generalize H1 = H at hP hS9 ⊢
  refine W.widen (k := 1) (n := 6) (by omega) (by omega) ?_
  refine lv_astore_n (lv' := [(3, .ref q9), (0, .ref (ad .cl)), (1, .int a1), (2, .ref o1)]) hx hb dL_total_12 rfl hl (by decide) rfl (fun ls hl => ?_)
  refine lv_iconst (v := 1) hx hb dL_total_13 (by decide) ?_
  refine vx_ret ?_
  exact W.iret (v := 1) hx hb hr (fun t ht hW => ⟨⟨1, (), rfl, rfl, by rw [ht]; exact hP, hD⟩, hS9.F ht⟩) hS9.2.2 dL_total_14
