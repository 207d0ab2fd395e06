section
set_option maxHeartbeats 4000000 in
set_option maxRecDepth 100000 in
theorem cn_stop (l : Launch) (hst : l.stackTraces = false) (dC : Nat → ClassId) (dI : Nat → Nat → Nat) (cy : Nat → ClassId) (nb : Nat → Nat) (ad : CK → Nat) (ks : List CK) (g : CG) (hk : GA nb ad g ks) (u0 : RS) (a1 : Int32) (a2 : Int32) (o1 : Nat) (fo : Nat → Int64) (ro : Int32) (gz : CG) (uz : RS) (sz : Nat) (hF : C7_stop g u0 a1 a2 = some (.inr (ro, gz, uz))) : vx_Met l yL_stop (wsgH yL_stop cL_stop 5 (some .int) [(0, 10, 13, 22)]) ({ frames := 12, cells := 67, slots := 831, locals := 700 }) (va_Pc [.ref (ad .cl), .int a1, .int a2, .ref o1] (fun U => U.heap.size = sz ∧ va_P (dC, dI) vwCl ([(o1, eL cy fo)] ++ WC cy ad ks g u0) U.heap ∧ va_K (dC, dI) vwCl (tyL cy) U ∧ va_D (fun _ => True) ([(o1, eL cy fo)] ++ WC cy ad ks g u0) ∧ GE nb (va_A ([(o1, eL cy fo)] ++ WC cy ad ks g u0) sz) U)) (va_Qi (fun (r : Int32) (_ : Unit) => r = 0) (fun _ t => ∃ (ad' : CK → Nat) (ks' : List CK), GA nb ad' gz ks' ∧ AX g ad gz ad' ∧ va_P (dC, dI) vwCl ([(o1, eL cy (vp_updL fo ((0 : Int32).toNatClampNeg) (ro.toInt64)))] ++ WC cy ad' ks' gz uz) t.heap ∧ va_D (va_A ([(o1, eL cy fo)] ++ WC cy ad ks g u0) sz) ([(o1, eL cy (vp_updL fo ((0 : Int32).toNatClampNeg) (ro.toInt64)))] ++ WC cy ad' ks' gz uz)) (va_A ([(o1, eL cy fo)] ++ WC cy ad ks g u0) sz)) (vx_X (fun (_ : Unit) => False) (fun _ _ _ => True) (va_A ([(o1, eL cy fo)] ++ WC cy ad ks g u0) sz)) 67 831 (va_A ([(o1, eL cy fo)] ++ WC cy ad ks g u0) sz) := by
  refine vx_ofWH (cc := cL_stop) (maxL := 5) (ret := (some .int)) (hh := [(0, 10, 13, 22)]) pn_L rfl ?_
  intro p e s m args below meth c s₁ B hml hv
  obtain ⟨rfl, hsz, hP, hK, hD0, hE⟩ := hv
  have hx := B.exec
  have hb := B.bytes
  have hr := B.returns
  have hts0 := atoms_spec (ws := (wsgH yL_stop cL_stop 5 (some .int) [(0, 10, 13, 22)])) B.pre
  have hts : ∀ w ∈ wsL_law, w.before _ s = true := fun w h => hts0 w (List.mem_cons_of_mem _ h)
  have hown : s.vm.findClass RL = some m.cls := by have h9 := findClass_of_methodNamed B.named; exact h9
  have hlocks := B.notSynchronized
  subst hsz
  have hD := hD0.self (sz := s.heap.size)
  generalize hAe : va_A ([(o1, eL cy fo)] ++ WC cy ad ks g u0) s.heap.size = A at hD hE ⊢
  have hA : ∀ q : Nat, s.heap.size ≤ q → A q := fun q h => by rw [← hAe]; exact Or.inr h
  have hS : va_S A s.heap s.heap [] := va_S.rf
  have hl := lv_entry ([.ref (ad .cl), .int a1, .int a2, .ref o1]) (n := 5) (Nat.le_of_ble_eq_true rfl)
  rw [lg_entry_eq]
  generalize (lg_sl ([.ref (ad .cl), .int a1, .int a2, .ref o1]) ++ List.replicate (5 - (lg_sl ([.ref (ad .cl), .int a1, .int a2, .ref o1])).length) Slot.unset).toArray = ls at hl ⊢
  have hl : lv_has ls 5 [(0, .ref (ad .cl)), (1, .int a1), (2, .int a2), (3, .ref o1)] := hl
  generalize hHe : s.heap = H at hP hS ⊢
  have hS : va_S A s.heap H [] := by rw [hHe]; exact hS
  have htab := vx_table (x := yL_stop) B (hts0 (.codeWith yL_stop cL_stop 5 (some .int) [(0, 10, 13, 22)]) List.mem_cons_self)
  refine lv_aload_n hx hb dL_stop_0 rfl (lv_at hl 3 rfl) ?_
  refine lv_iconst (v := 0) hx hb dL_stop_1 (by decide) ?_
  refine lv_aload_n hx hb dL_stop_2 rfl (lv_at hl 0 rfl) ?_
  refine lv_iload_n hx hb dL_stop_3 rfl (lv_at hl 1 rfl) ?_
  refine lv_iload_n hx hb dL_stop_4 rfl (lv_at hl 2 rfl) ?_
  have hPc : va_P (dC, dI) vwCl (WC cy ad ks g u0) H := hP.part (X := [(o1, eL cy fo)]) (cx := []) [] rfl
  have hDc : va_D A (WC cy ad ks g u0) := hD.part (X := [(o1, eL cy fo)]) (cx := []) [] (by decide) rfl
  have hFc : ∀ q, va_A (WC cy ad ks g u0) H.size q → A q := va_freeP (X := [(o1, eL cy fo)]) (cx := []) hD hS hA [] rfl
  obtain ⟨q8, h8⟩ := wc_at (cy := cy) (ad := ad) (ks := ks) (g := g) (u := u0) (κ := .cl) hk.1 True.intro
  refine va_calli (va_runV (As := [.int a1, .int a2]) (rest := [.int 0, .ref o1]) ⟨hx, hb, hml, hown, hts⟩ (c_X7_stop l dC dI cy nb ad ks g hk u0 a1 a2 ro gz uz H.size hF) (cwV 2 hts (gV mw_1059 mw_1060 mw_1061 mw_2 mw_1062) rfl rfl rfl (by decide +kernel) ⟨Nat.le_of_ble_eq_true rfl, Nat.le_of_ble_eq_true rfl⟩) (my_preV hPc hK hDc hE hS hFc (va_recv (q := (RX7, TX7, 12)) hK hPc (ci := 7) (q0 := q8) rfl h8)) rfl rfl hl.1 rfl (lv_room (Nat.le_of_ble_eq_true rfl)) dL_stop_5 ⟨Nat.le_of_ble_eq_true rfl, Nat.le_of_ble_eq_true rfl⟩) hS (fun q _ h => hFc q h) hFc (fun r u t H1 locs ht hvm hw hB hz1 hk1 hS => ?_)
  clear h8
  obtain ⟨ad', ks', hkz, axz, hP1, hD1⟩ := hB
  rw [ht] at hP1
  obtain ⟨hP, hD⟩ := va_joinP (X := [(o1, eL cy fo)]) (cx := []) (wr := [(o1, eL cy fo)]) (rx := []) (pl := WC cy ad ks g u0) (pl1 := WC cy ad' ks' gz uz) hP hD [] [0] rfl rfl (by decide) (by decide) hk1 hFc hP1 hD1
  generalize H1 = H at hP hS ⊢
  have hP : va_P (dC, dI) vwCl ([(o1, eL cy fo)] ++ WC cy ad' ks' gz uz) H := hP
  have hD : va_D A ([(o1, eL cy fo)] ++ WC cy ad' ks' gz uz) := hD
  refine my_topi hw ?_
  refine W.widen (k := 67) (n := 831) (by omega) (by omega) ?_
  refine lv_i2l (v := ro.toInt64) hx hb dL_stop_8 rfl ?_
  refine va_last hx hb hK hP hD hS 0 3 rfl rfl (vp_in_nI (n := 0) (by decide) (by decide)) dL_stop_9 (fun H locs hP hD hS => ?_)
  have hP : va_P (dC, dI) vwCl ([(o1, eL cy (vp_updL fo ((0 : Int32).toNatClampNeg) (ro.toInt64)))] ++ WC cy ad' ks' gz uz) H := hP
  have hD : va_D A ([(o1, eL cy (vp_updL fo ((0 : Int32).toNatClampNeg) (ro.toInt64)))] ++ WC cy ad' ks' gz uz) := hD
  refine lv_goto (tgt := 17) hx hb dL_stop_10 (by decide) ?_
  refine lv_iconst (v := 0) hx hb dL_stop_17 (by decide) ?_
  refine vx_ret ?_
  exact W.iret (v := 0) hx hb hr (fun t ht hW => ⟨⟨0, (), rfl, rfl, ad', ks', hkz, axz, by rw [ht]; exact hP, hD⟩, hS.F ht⟩) hS.2.2 dL_stop_18
set_option maxHeartbeats 4000000 in
set_option maxRecDepth 100000 in
theorem ct_stop (l : Launch) (hst : l.stackTraces = false) (dC : Nat → ClassId) (dI : Nat → Nat → Nat) (cy : Nat → ClassId) (nb : Nat → Nat) (ad : CK → Nat) (ks : List CK) (g : CG) (hk : GA nb ad g ks) (u0 : RS) (a1 : Int32) (a2 : Int32) (o1 : Nat) (fo : Nat → Int64) (xc : Int32) (sz : Nat) (hxc : xc = 1) (hF : C7_stop g u0 a1 a2 = some (.inl xc)) : vx_Met l yL_stop (wsgH yL_stop cL_stop 5 (some .int) [(0, 10, 13, 22)]) ({ frames := 12, cells := 67, slots := 831, locals := 700 }) (va_Pc [.ref (ad .cl), .int a1, .int a2, .ref o1] (fun U => U.heap.size = sz ∧ va_P (dC, dI) vwCl ([(o1, eL cy fo)] ++ WC cy ad ks g u0) U.heap ∧ va_K (dC, dI) vwCl (tyL cy) U ∧ va_D (fun _ => True) ([(o1, eL cy fo)] ++ WC cy ad ks g u0) ∧ GE nb (va_A ([(o1, eL cy fo)] ++ WC cy ad ks g u0) sz) U)) (va_Qi (fun (r : Int32) (_ : Unit) => r = 1) (fun _ t => va_P (dC, dI) vwCl ([(o1, eL cy fo)] ++ WC cy ad ks g u0) t.heap ∧ va_D (va_A ([(o1, eL cy fo)] ++ WC cy ad ks g u0) sz) ([(o1, eL cy fo)] ++ WC cy ad ks g u0)) (va_A ([(o1, eL cy fo)] ++ WC cy ad ks g u0) sz)) (vx_X (fun (_ : Unit) => False) (fun _ _ _ => True) (va_A ([(o1, eL cy fo)] ++ WC cy ad ks g u0) sz)) 67 831 (va_A ([(o1, eL cy fo)] ++ WC cy ad ks g u0) sz) := by
  refine vx_ofWH (cc := cL_stop) (maxL := 5) (ret := (some .int)) (hh := [(0, 10, 13, 22)]) pn_L rfl ?_
  intro p e s m args below meth c s₁ B hml hv
  obtain ⟨rfl, hsz, hP, hK, hD0, hE⟩ := hv
  have hx := B.exec
  have hb := B.bytes
  have hr := B.returns
  have hts0 := atoms_spec (ws := (wsgH yL_stop cL_stop 5 (some .int) [(0, 10, 13, 22)])) B.pre
  have hts : ∀ w ∈ wsL_law, w.before _ s = true := fun w h => hts0 w (List.mem_cons_of_mem _ h)
  have hown : s.vm.findClass RL = some m.cls := by have h9 := findClass_of_methodNamed B.named; exact h9
  have hlocks := B.notSynchronized
  subst hsz
  have hD := hD0.self (sz := s.heap.size)
  generalize hAe : va_A ([(o1, eL cy fo)] ++ WC cy ad ks g u0) s.heap.size = A at hD hE ⊢
  have hA : ∀ q : Nat, s.heap.size ≤ q → A q := fun q h => by rw [← hAe]; exact Or.inr h
  have hS : va_S A s.heap s.heap [] := va_S.rf
  have hl := lv_entry ([.ref (ad .cl), .int a1, .int a2, .ref o1]) (n := 5) (Nat.le_of_ble_eq_true rfl)
  rw [lg_entry_eq]
  generalize (lg_sl ([.ref (ad .cl), .int a1, .int a2, .ref o1]) ++ List.replicate (5 - (lg_sl ([.ref (ad .cl), .int a1, .int a2, .ref o1])).length) Slot.unset).toArray = ls at hl ⊢
  have hl : lv_has ls 5 [(0, .ref (ad .cl)), (1, .int a1), (2, .int a2), (3, .ref o1)] := hl
  generalize hHe : s.heap = H at hP hS ⊢
  have hS : va_S A s.heap H [] := by rw [hHe]; exact hS
  have htab := vx_table (x := yL_stop) B (hts0 (.codeWith yL_stop cL_stop 5 (some .int) [(0, 10, 13, 22)]) List.mem_cons_self)
  refine lv_aload_n hx hb dL_stop_0 rfl (lv_at hl 3 rfl) ?_
  refine lv_iconst (v := 0) hx hb dL_stop_1 (by decide) ?_
  refine lv_aload_n hx hb dL_stop_2 rfl (lv_at hl 0 rfl) ?_
  refine lv_iload_n hx hb dL_stop_3 rfl (lv_at hl 1 rfl) ?_
  refine lv_iload_n hx hb dL_stop_4 rfl (lv_at hl 2 rfl) ?_
  have hPc : va_P (dC, dI) vwCl (WC cy ad ks g u0) H := hP.part (X := [(o1, eL cy fo)]) (cx := []) [] rfl
  have hDc : va_D A (WC cy ad ks g u0) := hD.part (X := [(o1, eL cy fo)]) (cx := []) [] (by decide) rfl
  have hFc : ∀ q, va_A (WC cy ad ks g u0) H.size q → A q := va_freeP (X := [(o1, eL cy fo)]) (cx := []) hD hS hA [] rfl
  obtain ⟨q8, h8⟩ := wc_at (cy := cy) (ad := ad) (ks := ks) (g := g) (u := u0) (κ := .cl) hk.1 True.intro
  refine vx_calli (vx_runV (As := [.int a1, .int a2]) (rest := [.int 0, .ref o1]) ⟨hx, hb, hml, hown, hts⟩ (c_X7_stop_y l hst dC dI cy nb ad ks g hk u0 a1 a2 xc H.size hF) (cwV 2 hts (gV mw_1059 mw_1060 mw_1061 mw_2 mw_1062) rfl rfl rfl (by decide +kernel) ⟨Nat.le_of_ble_eq_true rfl, Nat.le_of_ble_eq_true rfl⟩) (my_preV hPc hK hDc hE hS hFc (va_recv (q := (RX7, TX7, 12)) hK hPc (ci := 7) (q0 := q8) rfl h8)) rfl rfl hl.1 rfl (lv_room (Nat.le_of_ble_eq_true rfl)) dL_stop_5 ⟨Nat.le_of_ble_eq_true rfl, Nat.le_of_ble_eq_true rfl⟩) hS (fun q _ h => hFc q h) hFc (fun q _ h => hFc q h) (fun E9 ce9 q9 u9 t9 H1 locs1 ht9 hvm9 hp9 hB9 hz9 hk9 hS9 hc9 hv9 hcl9 => ?_) (fun r9 u9 t9 H1 locs1 ht9 hvm9 hp9 _ _ _ _ => hp9.elim)
  clear h8
  obtain ⟨hB8, hP1⟩ := hB9
  rw [ht9] at hP1
  obtain ⟨hP, hD⟩ := va_joinP (X := [(o1, eL cy fo)]) (cx := []) (wr := [(o1, eL cy fo)]) (rx := []) (pl := WC cy ad ks g u0) (pl1 := WC cy ad ks g u0) hP hD [] [0] rfl rfl (by decide) (by decide) hk9 hFc hP1 hDc.self
  have hP : va_P (dC, dI) vwCl ([(o1, eL cy fo)] ++ WC cy ad ks g u0) H1 := hP
  have hD : va_D A ([(o1, eL cy fo)] ++ WC cy ad ks g u0) := hD
  obtain rfl : E9 = xI := hB8.trans (if_pos hxc)
  refine vx_catch (own := RL) (name := xI) hown (tableOf []) _ (tableOf []) (htab.trans rfl) (fun z hz => nomatch hz) (by decide) (by decide) (hts _ mw_612) (va_Nw.use rfl hE.cI) hc9 hv9 hcl9 ?_
  generalize H1 = H at hP hS9 ⊢
  refine W.widen (k := 67) (n := 831) (by omega) (by omega) ?_
  refine lv_astore (lv' := [(4, .ref q9), (0, .ref (ad .cl)), (1, .int a1), (2, .int a2), (3, .ref o1)]) hx hb dL_stop_13 hl (by decide) rfl (fun ls hl => ?_)
  refine lv_iconst (v := 1) hx hb dL_stop_15 (by decide) ?_
  refine vx_ret ?_
  exact W.iret (v := 1) hx hb hr (fun t ht hW => ⟨⟨1, (), rfl, rfl, by rw [ht]; exact hP, hD⟩, hS9.F ht⟩) hS9.2.2 dL_stop_16
set_option maxHeartbeats 4000000 in
set_option maxRecDepth 100000 in
theorem cn_setRest (l : Launch) (hst : l.stackTraces = false) (dC : Nat → ClassId) (dI : Nat → Nat → Nat) (cy : Nat → ClassId) (nb : Nat → Nat) (ad : CK → Nat) (ks : List CK) (g : CG) (hk : GA nb ad g ks) (u0 : RS) (a1 : Int32) (a2 : Int32) (a3 : Int32) (o1 : Nat) (fo : Nat → Int64) (ro : Int32) (gz : CG) (uz : RS) (sz : Nat) (hF : C7_setRest g u0 a1 a2 a3 = some (.inr (ro, gz, uz))) : vx_Met l yL_setRest (wsgH yL_setRest cL_setRest 6 (some .int) [(0, 12, 15, 22), (0, 12, 19, 13)]) ({ frames := 12, cells := 67, slots := 831, locals := 700 }) (va_Pc [.ref (ad .cl), .int a1, .int a2, .int a3, .ref o1] (fun U => U.heap.size = sz ∧ va_P (dC, dI) vwCl ([(o1, eL cy fo)] ++ WC cy ad ks g u0) U.heap ∧ va_K (dC, dI) vwCl (tyL cy) U ∧ va_D (fun _ => True) ([(o1, eL cy fo)] ++ WC cy ad ks g u0) ∧ GE nb (va_A ([(o1, eL cy fo)] ++ WC cy ad ks g u0) sz) U)) (va_Qi (fun (r : Int32) (_ : Unit) => r = 0) (fun _ t => ∃ (ad' : CK → Nat) (ks' : List CK), GA nb ad' gz ks' ∧ AX g ad gz ad' ∧ va_P (dC, dI) vwCl ([(o1, eL cy (vp_updL fo ((0 : Int32).toNatClampNeg) (ro.toInt64)))] ++ WC cy ad' ks' gz uz) t.heap ∧ va_D (va_A ([(o1, eL cy fo)] ++ WC cy ad ks g u0) sz) ([(o1, eL cy (vp_updL fo ((0 : Int32).toNatClampNeg) (ro.toInt64)))] ++ WC cy ad' ks' gz uz)) (va_A ([(o1, eL cy fo)] ++ WC cy ad ks g u0) sz)) (vx_X (fun (_ : Unit) => False) (fun _ _ _ => True) (va_A ([(o1, eL cy fo)] ++ WC cy ad ks g u0) sz)) 67 831 (va_A ([(o1, eL cy fo)] ++ WC cy ad ks g u0) sz) := by
  refine vx_ofWH (cc := cL_setRest) (maxL := 6) (ret := (some .int)) (hh := [(0, 12, 15, 22), (0, 12, 19, 13)]) pn_L rfl ?_
  intro p e s m args below meth c s₁ B hml hv
  obtain ⟨rfl, hsz, hP, hK, hD0, hE⟩ := hv
  have hx := B.exec
  have hb := B.bytes
  have hr := B.returns
  have hts0 := atoms_spec (ws := (wsgH yL_setRest cL_setRest 6 (some .int) [(0, 12, 15, 22), (0, 12, 19, 13)])) B.pre
  have hts : ∀ w ∈ wsL_law, w.before _ s = true := fun w h => hts0 w (List.mem_cons_of_mem _ h)
  have hown : s.vm.findClass RL = some m.cls := by have h9 := findClass_of_methodNamed B.named; exact h9
  have hlocks := B.notSynchronized
  subst hsz
  have hD := hD0.self (sz := s.heap.size)
  generalize hAe : va_A ([(o1, eL cy fo)] ++ WC cy ad ks g u0) s.heap.size = A at hD hE ⊢
  have hA : ∀ q : Nat, s.heap.size ≤ q → A q := fun q h => by rw [← hAe]; exact Or.inr h
  have hS : va_S A s.heap s.heap [] := va_S.rf
  have hl := lv_entry ([.ref (ad .cl), .int a1, .int a2, .int a3, .ref o1]) (n := 6) (Nat.le_of_ble_eq_true rfl)
  rw [lg_entry_eq]
  generalize (lg_sl ([.ref (ad .cl), .int a1, .int a2, .int a3, .ref o1]) ++ List.replicate (6 - (lg_sl ([.ref (ad .cl), .int a1, .int a2, .int a3, .ref o1])).length) Slot.unset).toArray = ls at hl ⊢
  have hl : lv_has ls 6 [(0, .ref (ad .cl)), (1, .int a1), (2, .int a2), (3, .int a3), (4, .ref o1)] := hl
  generalize hHe : s.heap = H at hP hS ⊢
  have hS : va_S A s.heap H [] := by rw [hHe]; exact hS
  have htab := vx_table (x := yL_setRest) B (hts0 (.codeWith yL_setRest cL_setRest 6 (some .int) [(0, 12, 15, 22), (0, 12, 19, 13)]) List.mem_cons_self)
  refine lv_aload hx hb dL_setRest_0 (lv_at hl 4 rfl) ?_
  refine lv_iconst (v := 0) hx hb dL_setRest_2 (by decide) ?_
  refine lv_aload_n hx hb dL_setRest_3 rfl (lv_at hl 0 rfl) ?_
  refine lv_iload_n hx hb dL_setRest_4 rfl (lv_at hl 1 rfl) ?_
  refine lv_iload_n hx hb dL_setRest_5 rfl (lv_at hl 2 rfl) ?_
  refine lv_iload_n hx hb dL_setRest_6 rfl (lv_at hl 3 rfl) ?_
  have hPc : va_P (dC, dI) vwCl (WC cy ad ks g u0) H := hP.part (X := [(o1, eL cy fo)]) (cx := []) [] rfl
  have hDc : va_D A (WC cy ad ks g u0) := hD.part (X := [(o1, eL cy fo)]) (cx := []) [] (by decide) rfl
  have hFc : ∀ q, va_A (WC cy ad ks g u0) H.size q → A q := va_freeP (X := [(o1, eL cy fo)]) (cx := []) hD hS hA [] rfl
  obtain ⟨q8, h8⟩ := wc_at (cy := cy) (ad := ad) (ks := ks) (g := g) (u := u0) (κ := .cl) hk.1 True.intro
  refine va_calli (va_runV (As := [.int a1, .int a2, .int a3]) (rest := [.int 0, .ref o1]) ⟨hx, hb, hml, hown, hts⟩ (c_X7_setRest l dC dI cy nb ad ks g hk u0 a1 a2 a3 ro gz uz H.size hF) (cwV 3 hts (gV mw_1070 mw_1071 mw_1072 mw_2 mw_1073) rfl rfl rfl (by decide +kernel) ⟨Nat.le_of_ble_eq_true rfl, Nat.le_of_ble_eq_true rfl⟩) (my_preV hPc hK hDc hE hS hFc (va_recv (q := (RX7, TX7, 12)) hK hPc (ci := 7) (q0 := q8) rfl h8)) rfl rfl hl.1 rfl (lv_room (Nat.le_of_ble_eq_true rfl)) dL_setRest_7 ⟨Nat.le_of_ble_eq_true rfl, Nat.le_of_ble_eq_true rfl⟩) hS (fun q _ h => hFc q h) hFc (fun r u t H1 locs ht hvm hw hB hz1 hk1 hS => ?_)
  clear h8
  obtain ⟨ad', ks', hkz, axz, hP1, hD1⟩ := hB
  rw [ht] at hP1
  obtain ⟨hP, hD⟩ := va_joinP (X := [(o1, eL cy fo)]) (cx := []) (wr := [(o1, eL cy fo)]) (rx := []) (pl := WC cy ad ks g u0) (pl1 := WC cy ad' ks' gz uz) hP hD [] [0] rfl rfl (by decide) (by decide) hk1 hFc hP1 hD1
  generalize H1 = H at hP hS ⊢
  have hP : va_P (dC, dI) vwCl ([(o1, eL cy fo)] ++ WC cy ad' ks' gz uz) H := hP
  have hD : va_D A ([(o1, eL cy fo)] ++ WC cy ad' ks' gz uz) := hD
  refine my_topi hw ?_
  refine W.widen (k := 67) (n := 831) (by omega) (by omega) ?_
  refine lv_i2l (v := ro.toInt64) hx hb dL_setRest_10 rfl ?_
  refine va_last hx hb hK hP hD hS 0 3 rfl rfl (vp_in_nI (n := 0) (by decide) (by decide)) dL_setRest_11 (fun H locs hP hD hS => ?_)
  have hP : va_P (dC, dI) vwCl ([(o1, eL cy (vp_updL fo ((0 : Int32).toNatClampNeg) (ro.toInt64)))] ++ WC cy ad' ks' gz uz) H := hP
  have hD : va_D A ([(o1, eL cy (vp_updL fo ((0 : Int32).toNatClampNeg) (ro.toInt64)))] ++ WC cy ad' ks' gz uz) := hD
  refine lv_goto (tgt := 23) hx hb dL_setRest_12 (by decide) ?_
  refine lv_iconst (v := 0) hx hb dL_setRest_23 (by decide) ?_
  refine vx_ret ?_
  exact W.iret (v := 0) hx hb hr (fun t ht hW => ⟨⟨0, (), rfl, rfl, ad', ks', hkz, axz, by rw [ht]; exact hP, hD⟩, hS.F ht⟩) hS.2.2 dL_setRest_24
set_option maxHeartbeats 4000000 in
set_option maxRecDepth 100000 in
theorem ct_setRest (l : Launch) (hst : l.stackTraces = false) (dC : Nat → ClassId) (dI : Nat → Nat → Nat) (cy : Nat → ClassId) (nb : Nat → Nat) (ad : CK → Nat) (ks : List CK) (g : CG) (hk : GA nb ad g ks) (u0 : RS) (a1 : Int32) (a2 : Int32) (a3 : Int32) (o1 : Nat) (fo : Nat → Int64) (xc : Int32) (sz : Nat) (hF : C7_setRest g u0 a1 a2 a3 = some (.inl xc)) : vx_Met l yL_setRest (wsgH yL_setRest cL_setRest 6 (some .int) [(0, 12, 15, 22), (0, 12, 19, 13)]) ({ frames := 12, cells := 67, slots := 831, locals := 700 }) (va_Pc [.ref (ad .cl), .int a1, .int a2, .int a3, .ref o1] (fun U => U.heap.size = sz ∧ va_P (dC, dI) vwCl ([(o1, eL cy fo)] ++ WC cy ad ks g u0) U.heap ∧ va_K (dC, dI) vwCl (tyL cy) U ∧ va_D (fun _ => True) ([(o1, eL cy fo)] ++ WC cy ad ks g u0) ∧ GE nb (va_A ([(o1, eL cy fo)] ++ WC cy ad ks g u0) sz) U)) (va_Qi (fun (r : Int32) (_ : Unit) => r = if xc = 1 then 1 else 2) (fun _ t => va_P (dC, dI) vwCl ([(o1, eL cy fo)] ++ WC cy ad ks g u0) t.heap ∧ va_D (va_A ([(o1, eL cy fo)] ++ WC cy ad ks g u0) sz) ([(o1, eL cy fo)] ++ WC cy ad ks g u0)) (va_A ([(o1, eL cy fo)] ++ WC cy ad ks g u0) sz)) (vx_X (fun (_ : Unit) => False) (fun _ _ _ => True) (va_A ([(o1, eL cy fo)] ++ WC cy ad ks g u0) sz)) 67 831 (va_A ([(o1, eL cy fo)] ++ WC cy ad ks g u0) sz) := by
  refine vx_ofWH (cc := cL_setRest) (maxL := 6) (ret := (some .int)) (hh := [(0, 12, 15, 22), (0, 12, 19, 13)]) pn_L rfl ?_
  intro p e s m args below meth c s₁ B hml hv
  obtain ⟨rfl, hsz, hP, hK, hD0, hE⟩ := hv
  have hx := B.exec
  have hb := B.bytes
  have hr := B.returns
  have hts0 := atoms_spec (ws := (wsgH yL_setRest cL_setRest 6 (some .int) [(0, 12, 15, 22), (0, 12, 19, 13)])) B.pre
  have hts : ∀ w ∈ wsL_law, w.before _ s = true := fun w h => hts0 w (List.mem_cons_of_mem _ h)
  have hown : s.vm.findClass RL = some m.cls := by have h9 := findClass_of_methodNamed B.named; exact h9
  have hlocks := B.notSynchronized
  subst hsz
  have hD := hD0.self (sz := s.heap.size)
  generalize hAe : va_A ([(o1, eL cy fo)] ++ WC cy ad ks g u0) s.heap.size = A at hD hE ⊢
  have hA : ∀ q : Nat, s.heap.size ≤ q → A q := fun q h => by rw [← hAe]; exact Or.inr h
  have hS : va_S A s.heap s.heap [] := va_S.rf
  have hl := lv_entry ([.ref (ad .cl), .int a1, .int a2, .int a3, .ref o1]) (n := 6) (Nat.le_of_ble_eq_true rfl)
  rw [lg_entry_eq]
  generalize (lg_sl ([.ref (ad .cl), .int a1, .int a2, .int a3, .ref o1]) ++ List.replicate (6 - (lg_sl ([.ref (ad .cl), .int a1, .int a2, .int a3, .ref o1])).length) Slot.unset).toArray = ls at hl ⊢
  have hl : lv_has ls 6 [(0, .ref (ad .cl)), (1, .int a1), (2, .int a2), (3, .int a3), (4, .ref o1)] := hl
  generalize hHe : s.heap = H at hP hS ⊢
  have hS : va_S A s.heap H [] := by rw [hHe]; exact hS
  have htab := vx_table (x := yL_setRest) B (hts0 (.codeWith yL_setRest cL_setRest 6 (some .int) [(0, 12, 15, 22), (0, 12, 19, 13)]) List.mem_cons_self)
  refine lv_aload hx hb dL_setRest_0 (lv_at hl 4 rfl) ?_
  refine lv_iconst (v := 0) hx hb dL_setRest_2 (by decide) ?_
  refine lv_aload_n hx hb dL_setRest_3 rfl (lv_at hl 0 rfl) ?_
  refine lv_iload_n hx hb dL_setRest_4 rfl (lv_at hl 1 rfl) ?_
  refine lv_iload_n hx hb dL_setRest_5 rfl (lv_at hl 2 rfl) ?_
  refine lv_iload_n hx hb dL_setRest_6 rfl (lv_at hl 3 rfl) ?_
  have hPc : va_P (dC, dI) vwCl (WC cy ad ks g u0) H := hP.part (X := [(o1, eL cy fo)]) (cx := []) [] rfl
  have hDc : va_D A (WC cy ad ks g u0) := hD.part (X := [(o1, eL cy fo)]) (cx := []) [] (by decide) rfl
  have hFc : ∀ q, va_A (WC cy ad ks g u0) H.size q → A q := va_freeP (X := [(o1, eL cy fo)]) (cx := []) hD hS hA [] rfl
  obtain ⟨q8, h8⟩ := wc_at (cy := cy) (ad := ad) (ks := ks) (g := g) (u := u0) (κ := .cl) hk.1 True.intro
  refine vx_calli (vx_runV (As := [.int a1, .int a2, .int a3]) (rest := [.int 0, .ref o1]) ⟨hx, hb, hml, hown, hts⟩ (c_X7_setRest_y l hst dC dI cy nb ad ks g hk u0 a1 a2 a3 xc H.size hF) (cwV 3 hts (gV mw_1070 mw_1071 mw_1072 mw_2 mw_1073) rfl rfl rfl (by decide +kernel) ⟨Nat.le_of_ble_eq_true rfl, Nat.le_of_ble_eq_true rfl⟩) (my_preV hPc hK hDc hE hS hFc (va_recv (q := (RX7, TX7, 12)) hK hPc (ci := 7) (q0 := q8) rfl h8)) rfl rfl hl.1 rfl (lv_room (Nat.le_of_ble_eq_true rfl)) dL_setRest_7 ⟨Nat.le_of_ble_eq_true rfl, Nat.le_of_ble_eq_true rfl⟩) hS (fun q _ h => hFc q h) hFc (fun q _ h => hFc q h) (fun E9 ce9 q9 u9 t9 H1 locs1 ht9 hvm9 hp9 hB9 hz9 hk9 hS9 hc9 hv9 hcl9 => ?_) (fun r9 u9 t9 H1 locs1 ht9 hvm9 hp9 _ _ _ _ => hp9.elim)
  clear h8
  obtain ⟨hB8, hP1⟩ := hB9
  rw [ht9] at hP1
  obtain ⟨hP, hD⟩ := va_joinP (X := [(o1, eL cy fo)]) (cx := []) (wr := [(o1, eL cy fo)]) (rx := []) (pl := WC cy ad ks g u0) (pl1 := WC cy ad ks g u0) hP hD [] [0] rfl rfl (by decide) (by decide) hk9 hFc hP1 hDc.self
  have hP : va_P (dC, dI) vwCl ([(o1, eL cy fo)] ++ WC cy ad ks g u0) H1 := hP
  have hD : va_D A ([(o1, eL cy fo)] ++ WC cy ad ks g u0) := hD
  by_cases hxc : xc = 1
  · obtain rfl : E9 = xI := hB8.trans (if_pos hxc)
    refine vx_catch (own := RL) (name := xI) hown (tableOf []) _ (tableOf [(0, 12, 19, 13)]) (htab.trans rfl) (fun z hz => nomatch hz) (by decide) (by decide) (hts _ mw_612) (va_Nw.use rfl hE.cI) hc9 hv9 hcl9 ?_
    generalize H1 = H at hP hS9 ⊢
    refine W.widen (k := 67) (n := 831) (by omega) (by omega) ?_
    refine lv_astore (lv' := [(5, .ref q9), (0, .ref (ad .cl)), (1, .int a1), (2, .int a2), (3, .int a3), (4, .ref o1)]) hx hb dL_setRest_15 hl (by decide) rfl (fun ls hl => ?_)
    refine lv_iconst (v := 1) hx hb dL_setRest_17 (by decide) ?_
    refine vx_ret ?_
    exact W.iret (v := 1) hx hb hr (fun t ht hW => ⟨⟨1, (), rfl, (if_pos hxc).symm, by rw [ht]; exact hP, hD⟩, hS9.F ht⟩) hS9.2.2 dL_setRest_18
  · obtain rfl : E9 = xA := hB8.trans (if_neg hxc)
    refine vx_catch (own := RL) (name := xA) hown (tableOf [(0, 12, 15, 22)]) _ (tableOf []) (htab.trans rfl) (fun z hz => by obtain rfl := List.mem_singleton.mp hz; exact Or.inr ⟨by decide, xI, hts _ mw_612, hE.nc⟩) (by decide) (by decide) (hts _ mw_564) (va_Nw.use rfl hE.cA) hc9 hv9 hcl9 ?_
    generalize H1 = H at hP hS9 ⊢
    refine W.widen (k := 67) (n := 831) (by omega) (by omega) ?_
    refine lv_astore (lv' := [(5, .ref q9), (0, .ref (ad .cl)), (1, .int a1), (2, .int a2), (3, .int a3), (4, .ref o1)]) hx hb dL_setRest_19 hl (by decide) rfl (fun ls hl => ?_)
    refine lv_iconst (v := 2) hx hb dL_setRest_21 (by decide) ?_
    refine vx_ret ?_
    exact W.iret (v := 2) hx hb hr (fun t ht hW => ⟨⟨2, (), rfl, (if_neg hxc).symm, by rw [ht]; exact hP, hD⟩, hS9.F ht⟩) hS9.2.2 dL_setRest_22
set_option maxHeartbeats 4000000 in
set_option maxRecDepth 100000 in
theorem cn_rush (l : Launch) (hst : l.stackTraces = false) (dC : Nat → ClassId) (dI : Nat → Nat → Nat) (cy : Nat → ClassId) (nb : Nat → Nat) (ad : CK → Nat) (ks : List CK) (g : CG) (hk : GA nb ad g ks) (u0 : RS) (a1 : Int32) (o1 : Nat) (fo : Nat → Int64) (ro : Int32) (gz : CG) (uz : RS) (sz : Nat) (hF : C7_rush g u0 a1 = some (.inr (ro, gz, uz))) : vx_Met l yL_rush (wsgH yL_rush cL_rush 4 (some .int) [(0, 9, 12, 22)]) ({ frames := 12, cells := 67, slots := 831, locals := 700 }) (va_Pc [.ref (ad .cl), .int a1, .ref o1] (fun U => U.heap.size = sz ∧ va_P (dC, dI) vwCl ([(o1, eL cy fo)] ++ WC cy ad ks g u0) U.heap ∧ va_K (dC, dI) vwCl (tyL cy) U ∧ va_D (fun _ => True) ([(o1, eL cy fo)] ++ WC cy ad ks g u0) ∧ GE nb (va_A ([(o1, eL cy fo)] ++ WC cy ad ks g u0) sz) U)) (va_Qi (fun (r : Int32) (_ : Unit) => r = 0) (fun _ t => ∃ (ad' : CK → Nat) (ks' : List CK), GA nb ad' gz ks' ∧ AX g ad gz ad' ∧ va_P (dC, dI) vwCl ([(o1, eL cy (vp_updL fo ((0 : Int32).toNatClampNeg) (ro.toInt64)))] ++ WC cy ad' ks' gz uz) t.heap ∧ va_D (va_A ([(o1, eL cy fo)] ++ WC cy ad ks g u0) sz) ([(o1, eL cy (vp_updL fo ((0 : Int32).toNatClampNeg) (ro.toInt64)))] ++ WC cy ad' ks' gz uz)) (va_A ([(o1, eL cy fo)] ++ WC cy ad ks g u0) sz)) (vx_X (fun (_ : Unit) => False) (fun _ _ _ => True) (va_A ([(o1, eL cy fo)] ++ WC cy ad ks g u0) sz)) 67 831 (va_A ([(o1, eL cy fo)] ++ WC cy ad ks g u0) sz) := by
  refine vx_ofWH (cc := cL_rush) (maxL := 4) (ret := (some .int)) (hh := [(0, 9, 12, 22)]) pn_L rfl ?_
  intro p e s m args below meth c s₁ B hml hv
  obtain ⟨rfl, hsz, hP, hK, hD0, hE⟩ := hv
  have hx := B.exec
  have hb := B.bytes
  have hr := B.returns
  have hts0 := atoms_spec (ws := (wsgH yL_rush cL_rush 4 (some .int) [(0, 9, 12, 22)])) B.pre
  have hts : ∀ w ∈ wsL_law, w.before _ s = true := fun w h => hts0 w (List.mem_cons_of_mem _ h)
  have hown : s.vm.findClass RL = some m.cls := by have h9 := findClass_of_methodNamed B.named; exact h9
  have hlocks := B.notSynchronized
  subst hsz
  have hD := hD0.self (sz := s.heap.size)
  generalize hAe : va_A ([(o1, eL cy fo)] ++ WC cy ad ks g u0) s.heap.size = A at hD hE ⊢
  have hA : ∀ q : Nat, s.heap.size ≤ q → A q := fun q h => by rw [← hAe]; exact Or.inr h
  have hS : va_S A s.heap s.heap [] := va_S.rf
  have hl := lv_entry ([.ref (ad .cl), .int a1, .ref o1]) (n := 4) (Nat.le_of_ble_eq_true rfl)
  rw [lg_entry_eq]
  generalize (lg_sl ([.ref (ad .cl), .int a1, .ref o1]) ++ List.replicate (4 - (lg_sl ([.ref (ad .cl), .int a1, .ref o1])).length) Slot.unset).toArray = ls at hl ⊢
  have hl : lv_has ls 4 [(0, .ref (ad .cl)), (1, .int a1), (2, .ref o1)] := hl
  generalize hHe : s.heap = H at hP hS ⊢
  have hS : va_S A s.heap H [] := by rw [hHe]; exact hS
  have htab := vx_table (x := yL_rush) B (hts0 (.codeWith yL_rush cL_rush 4 (some .int) [(0, 9, 12, 22)]) List.mem_cons_self)
  refine lv_aload_n hx hb dL_rush_0 rfl (lv_at hl 2 rfl) ?_
  refine lv_iconst (v := 0) hx hb dL_rush_1 (by decide) ?_
  refine lv_aload_n hx hb dL_rush_2 rfl (lv_at hl 0 rfl) ?_
  refine lv_iload_n hx hb dL_rush_3 rfl (lv_at hl 1 rfl) ?_
  have hPc : va_P (dC, dI) vwCl (WC cy ad ks g u0) H := hP.part (X := [(o1, eL cy fo)]) (cx := []) [] rfl
  have hDc : va_D A (WC cy ad ks g u0) := hD.part (X := [(o1, eL cy fo)]) (cx := []) [] (by decide) rfl
  have hFc : ∀ q, va_A (WC cy ad ks g u0) H.size q → A q := va_freeP (X := [(o1, eL cy fo)]) (cx := []) hD hS hA [] rfl
  obtain ⟨q8, h8⟩ := wc_at (cy := cy) (ad := ad) (ks := ks) (g := g) (u := u0) (κ := .cl) hk.1 True.intro
  refine va_calli (va_runV (As := [.int a1]) (rest := [.int 0, .ref o1]) ⟨hx, hb, hml, hown, hts⟩ (c_X7_rush l dC dI cy nb ad ks g hk u0 a1 ro gz uz H.size hF) (cwV 1 hts (gV mw_1082 mw_1083 mw_1084 mw_2 mw_1085) rfl rfl rfl (by decide +kernel) ⟨Nat.le_of_ble_eq_true rfl, Nat.le_of_ble_eq_true rfl⟩) (my_preV hPc hK hDc hE hS hFc (va_recv (q := (RX7, TX7, 12)) hK hPc (ci := 7) (q0 := q8) rfl h8)) rfl rfl hl.1 rfl (lv_room (Nat.le_of_ble_eq_true rfl)) dL_rush_4 ⟨Nat.le_of_ble_eq_true rfl, Nat.le_of_ble_eq_true rfl⟩) hS (fun q _ h => hFc q h) hFc (fun r u t H1 locs ht hvm hw hB hz1 hk1 hS => ?_)
  clear h8
  obtain ⟨ad', ks', hkz, axz, hP1, hD1⟩ := hB
  rw [ht] at hP1
  obtain ⟨hP, hD⟩ := va_joinP (X := [(o1, eL cy fo)]) (cx := []) (wr := [(o1, eL cy fo)]) (rx := []) (pl := WC cy ad ks g u0) (pl1 := WC cy ad' ks' gz uz) hP hD [] [0] rfl rfl (by decide) (by decide) hk1 hFc hP1 hD1
  generalize H1 = H at hP hS ⊢
  have hP : va_P (dC, dI) vwCl ([(o1, eL cy fo)] ++ WC cy ad' ks' gz uz) H := hP
  have hD : va_D A ([(o1, eL cy fo)] ++ WC cy ad' ks' gz uz) := hD
  refine my_topi hw ?_
  refine W.widen (k := 67) (n := 831) (by omega) (by omega) ?_
  refine lv_i2l (v := ro.toInt64) hx hb dL_rush_7 rfl ?_
  refine va_last hx hb hK hP hD hS 0 3 rfl rfl (vp_in_nI (n := 0) (by decide) (by decide)) dL_rush_8 (fun H locs hP hD hS => ?_)
  have hP : va_P (dC, dI) vwCl ([(o1, eL cy (vp_updL fo ((0 : Int32).toNatClampNeg) (ro.toInt64)))] ++ WC cy ad' ks' gz uz) H := hP
  have hD : va_D A ([(o1, eL cy (vp_updL fo ((0 : Int32).toNatClampNeg) (ro.toInt64)))] ++ WC cy ad' ks' gz uz) := hD
  refine lv_goto (tgt := 15) hx hb dL_rush_9 (by decide) ?_
  refine lv_iconst (v := 0) hx hb dL_rush_15 (by decide) ?_
  refine vx_ret ?_
  exact W.iret (v := 0) hx hb hr (fun t ht hW => ⟨⟨0, (), rfl, rfl, ad', ks', hkz, axz, by rw [ht]; exact hP, hD⟩, hS.F ht⟩) hS.2.2 dL_rush_16
set_option maxHeartbeats 4000000 in
set_option maxRecDepth 100000 in
theorem ct_rush (l : Launch) (hst : l.stackTraces = false) (dC : Nat → ClassId) (dI : Nat → Nat → Nat) (cy : Nat → ClassId) (nb : Nat → Nat) (ad : CK → Nat) (ks : List CK) (g : CG) (hk : GA nb ad g ks) (u0 : RS) (a1 : Int32) (o1 : Nat) (fo : Nat → Int64) (xc : Int32) (sz : Nat) (hxc : xc = 1) (hF : C7_rush g u0 a1 = some (.inl xc)) : vx_Met l yL_rush (wsgH yL_rush cL_rush 4 (some .int) [(0, 9, 12, 22)]) ({ frames := 12, cells := 67, slots := 831, locals := 700 }) (va_Pc [.ref (ad .cl), .int a1, .ref o1] (fun U => U.heap.size = sz ∧ va_P (dC, dI) vwCl ([(o1, eL cy fo)] ++ WC cy ad ks g u0) U.heap ∧ va_K (dC, dI) vwCl (tyL cy) U ∧ va_D (fun _ => True) ([(o1, eL cy fo)] ++ WC cy ad ks g u0) ∧ GE nb (va_A ([(o1, eL cy fo)] ++ WC cy ad ks g u0) sz) U)) (va_Qi (fun (r : Int32) (_ : Unit) => r = 1) (fun _ t => va_P (dC, dI) vwCl ([(o1, eL cy fo)] ++ WC cy ad ks g u0) t.heap ∧ va_D (va_A ([(o1, eL cy fo)] ++ WC cy ad ks g u0) sz) ([(o1, eL cy fo)] ++ WC cy ad ks g u0)) (va_A ([(o1, eL cy fo)] ++ WC cy ad ks g u0) sz)) (vx_X (fun (_ : Unit) => False) (fun _ _ _ => True) (va_A ([(o1, eL cy fo)] ++ WC cy ad ks g u0) sz)) 67 831 (va_A ([(o1, eL cy fo)] ++ WC cy ad ks g u0) sz) := by
  refine vx_ofWH (cc := cL_rush) (maxL := 4) (ret := (some .int)) (hh := [(0, 9, 12, 22)]) pn_L rfl ?_
  intro p e s m args below meth c s₁ B hml hv
  obtain ⟨rfl, hsz, hP, hK, hD0, hE⟩ := hv
  have hx := B.exec
  have hb := B.bytes
  have hr := B.returns
  have hts0 := atoms_spec (ws := (wsgH yL_rush cL_rush 4 (some .int) [(0, 9, 12, 22)])) B.pre
  have hts : ∀ w ∈ wsL_law, w.before _ s = true := fun w h => hts0 w (List.mem_cons_of_mem _ h)
  have hown : s.vm.findClass RL = some m.cls := by have h9 := findClass_of_methodNamed B.named; exact h9
  have hlocks := B.notSynchronized
  subst hsz
  have hD := hD0.self (sz := s.heap.size)
  generalize hAe : va_A ([(o1, eL cy fo)] ++ WC cy ad ks g u0) s.heap.size = A at hD hE ⊢
  have hA : ∀ q : Nat, s.heap.size ≤ q → A q := fun q h => by rw [← hAe]; exact Or.inr h
  have hS : va_S A s.heap s.heap [] := va_S.rf
  have hl := lv_entry ([.ref (ad .cl), .int a1, .ref o1]) (n := 4) (Nat.le_of_ble_eq_true rfl)
  rw [lg_entry_eq]
  generalize (lg_sl ([.ref (ad .cl), .int a1, .ref o1]) ++ List.replicate (4 - (lg_sl ([.ref (ad .cl), .int a1, .ref o1])).length) Slot.unset).toArray = ls at hl ⊢
  have hl : lv_has ls 4 [(0, .ref (ad .cl)), (1, .int a1), (2, .ref o1)] := hl
  generalize hHe : s.heap = H at hP hS ⊢
  have hS : va_S A s.heap H [] := by rw [hHe]; exact hS
  have htab := vx_table (x := yL_rush) B (hts0 (.codeWith yL_rush cL_rush 4 (some .int) [(0, 9, 12, 22)]) List.mem_cons_self)
  refine lv_aload_n hx hb dL_rush_0 rfl (lv_at hl 2 rfl) ?_
  refine lv_iconst (v := 0) hx hb dL_rush_1 (by decide) ?_
  refine lv_aload_n hx hb dL_rush_2 rfl (lv_at hl 0 rfl) ?_
  refine lv_iload_n hx hb dL_rush_3 rfl (lv_at hl 1 rfl) ?_
  have hPc : va_P (dC, dI) vwCl (WC cy ad ks g u0) H := hP.part (X := [(o1, eL cy fo)]) (cx := []) [] rfl
  have hDc : va_D A (WC cy ad ks g u0) := hD.part (X := [(o1, eL cy fo)]) (cx := []) [] (by decide) rfl
  have hFc : ∀ q, va_A (WC cy ad ks g u0) H.size q → A q := va_freeP (X := [(o1, eL cy fo)]) (cx := []) hD hS hA [] rfl
  obtain ⟨q8, h8⟩ := wc_at (cy := cy) (ad := ad) (ks := ks) (g := g) (u := u0) (κ := .cl) hk.1 True.intro
  refine vx_calli (vx_runV (As := [.int a1]) (rest := [.int 0, .ref o1]) ⟨hx, hb, hml, hown, hts⟩ (c_X7_rush_y l hst dC dI cy nb ad ks g hk u0 a1 xc H.size hF) (cwV 1 hts (gV mw_1082 mw_1083 mw_1084 mw_2 mw_1085) rfl rfl rfl (by decide +kernel) ⟨Nat.le_of_ble_eq_true rfl, Nat.le_of_ble_eq_true rfl⟩) (my_preV hPc hK hDc hE hS hFc (va_recv (q := (RX7, TX7, 12)) hK hPc (ci := 7) (q0 := q8) rfl h8)) rfl rfl hl.1 rfl (lv_room (Nat.le_of_ble_eq_true rfl)) dL_rush_4 ⟨Nat.le_of_ble_eq_true rfl, Nat.le_of_ble_eq_true rfl⟩) hS (fun q _ h => hFc q h) hFc (fun q _ h => hFc q h) (fun E9 ce9 q9 u9 t9 H1 locs1 ht9 hvm9 hp9 hB9 hz9 hk9 hS9 hc9 hv9 hcl9 => ?_) (fun r9 u9 t9 H1 locs1 ht9 hvm9 hp9 _ _ _ _ => hp9.elim)
  clear h8
  obtain ⟨hB8, hP1⟩ := hB9
  rw [ht9] at hP1
  obtain ⟨hP, hD⟩ := va_joinP (X := [(o1, eL cy fo)]) (cx := []) (wr := [(o1, eL cy fo)]) (rx := []) (pl := WC cy ad ks g u0) (pl1 := WC cy ad ks g u0) hP hD [] [0] rfl rfl (by decide) (by decide) hk9 hFc hP1 hDc.self
  have hP : va_P (dC, dI) vwCl ([(o1, eL cy fo)] ++ WC cy ad ks g u0) H1 := hP
  have hD : va_D A ([(o1, eL cy fo)] ++ WC cy ad ks g u0) := hD
  obtain rfl : E9 = xI := hB8.trans (if_pos hxc)
  refine vx_catch (own := RL) (name := xI) hown (tableOf []) _ (tableOf []) (htab.trans rfl) (fun z hz => nomatch hz) (by decide) (by decide) (hts _ mw_612) (va_Nw.use rfl hE.cI) hc9 hv9 hcl9 ?_
  generalize H1 = H at hP hS9 ⊢
  refine W.widen (k := 67) (n := 831) (by omega) (by omega) ?_
  refine lv_astore_n (lv' := [(3, .ref q9), (0, .ref (ad .cl)), (1, .int a1), (2, .ref o1)]) hx hb dL_rush_12 rfl hl (by decide) rfl (fun ls hl => ?_)
  refine lv_iconst (v := 1) hx hb dL_rush_13 (by decide) ?_
  refine vx_ret ?_
  exact W.iret (v := 1) hx hb hr (fun t ht hW => ⟨⟨1, (), rfl, rfl, by rw [ht]; exact hP, hD⟩, hS9.F ht⟩) hS9.2.2 dL_rush_14
set_option maxHeartbeats 4000000 in
set_option maxRecDepth 100000 in
theorem cn_swap (l : Launch) (hst : l.stackTraces = false) (dC : Nat → ClassId) (dI : Nat → Nat → Nat) (cy : Nat → ClassId) (nb : Nat → Nat) (ad : CK → Nat) (ks : List CK) (g : CG) (hk : GA nb ad g ks) (u0 : RS) (a1 : Int32) (a2 : Int32) (o1 : Nat) (fo : Nat → Int64) (ro : Int32) (gz : CG) (uz : RS) (sz : Nat) (hF : C7_swap g u0 a1 a2 = some (.inr (ro, gz, uz))) : vx_Met l yL_swap (wsgH yL_swap cL_swap 5 (some .int) [(0, 10, 13, 22), (0, 10, 17, 13)]) ({ frames := 12, cells := 67, slots := 831, locals := 700 }) (va_Pc [.ref (ad .cl), .int a1, .int a2, .ref o1] (fun U => U.heap.size = sz ∧ va_P (dC, dI) vwCl ([(o1, eL cy fo)] ++ WC cy ad ks g u0) U.heap ∧ va_K (dC, dI) vwCl (tyL cy) U ∧ va_D (fun _ => True) ([(o1, eL cy fo)] ++ WC cy ad ks g u0) ∧ GE nb (va_A ([(o1, eL cy fo)] ++ WC cy ad ks g u0) sz) U)) (va_Qi (fun (r : Int32) (_ : Unit) => r = 0) (fun _ t => ∃ (ad' : CK → Nat) (ks' : List CK), GA nb ad' gz ks' ∧ AX g ad gz ad' ∧ va_P (dC, dI) vwCl ([(o1, eL cy (vp_updL fo ((0 : Int32).toNatClampNeg) (ro.toInt64)))] ++ WC cy ad' ks' gz uz) t.heap ∧ va_D (va_A ([(o1, eL cy fo)] ++ WC cy ad ks g u0) sz) ([(o1, eL cy (vp_updL fo ((0 : Int32).toNatClampNeg) (ro.toInt64)))] ++ WC cy ad' ks' gz uz)) (va_A ([(o1, eL cy fo)] ++ WC cy ad ks g u0) sz)) (vx_X (fun (_ : Unit) => False) (fun _ _ _ => True) (va_A ([(o1, eL cy fo)] ++ WC cy ad ks g u0) sz)) 67 831 (va_A ([(o1, eL cy fo)] ++ WC cy ad ks g u0) sz) := by
  refine vx_ofWH (cc := cL_swap) (maxL := 5) (ret := (some .int)) (hh := [(0, 10, 13, 22), (0, 10, 17, 13)]) pn_L rfl ?_
  intro p e s m args below meth c s₁ B hml hv
  obtain ⟨rfl, hsz, hP, hK, hD0, hE⟩ := hv
  have hx := B.exec
  have hb := B.bytes
  have hr := B.returns
  have hts0 := atoms_spec (ws := (wsgH yL_swap cL_swap 5 (some .int) [(0, 10, 13, 22), (0, 10, 17, 13)])) B.pre
  have hts : ∀ w ∈ wsL_law, w.before _ s = true := fun w h => hts0 w (List.mem_cons_of_mem _ h)
  have hown : s.vm.findClass RL = some m.cls := by have h9 := findClass_of_methodNamed B.named; exact h9
  have hlocks := B.notSynchronized
  subst hsz
  have hD := hD0.self (sz := s.heap.size)
  generalize hAe : va_A ([(o1, eL cy fo)] ++ WC cy ad ks g u0) s.heap.size = A at hD hE ⊢
  have hA : ∀ q : Nat, s.heap.size ≤ q → A q := fun q h => by rw [← hAe]; exact Or.inr h
  have hS : va_S A s.heap s.heap [] := va_S.rf
  have hl := lv_entry ([.ref (ad .cl), .int a1, .int a2, .ref o1]) (n := 5) (Nat.le_of_ble_eq_true rfl)
  rw [lg_entry_eq]
  generalize (lg_sl ([.ref (ad .cl), .int a1, .int a2, .ref o1]) ++ List.replicate (5 - (lg_sl ([.ref (ad .cl), .int a1, .int a2, .ref o1])).length) Slot.unset).toArray = ls at hl ⊢
  have hl : lv_has ls 5 [(0, .ref (ad .cl)), (1, .int a1), (2, .int a2), (3, .ref o1)] := hl
  generalize hHe : s.heap = H at hP hS ⊢
  have hS : va_S A s.heap H [] := by rw [hHe]; exact hS
  have htab := vx_table (x := yL_swap) B (hts0 (.codeWith yL_swap cL_swap 5 (some .int) [(0, 10, 13, 22), (0, 10, 17, 13)]) List.mem_cons_self)
  refine lv_aload_n hx hb dL_swap_0 rfl (lv_at hl 3 rfl) ?_
  refine lv_iconst (v := 0) hx hb dL_swap_1 (by decide) ?_
  refine lv_aload_n hx hb dL_swap_2 rfl (lv_at hl 0 rfl) ?_
  refine lv_iload_n hx hb dL_swap_3 rfl (lv_at hl 1 rfl) ?_
  refine lv_iload_n hx hb dL_swap_4 rfl (lv_at hl 2 rfl) ?_
  have hPc : va_P (dC, dI) vwCl (WC cy ad ks g u0) H := hP.part (X := [(o1, eL cy fo)]) (cx := []) [] rfl
  have hDc : va_D A (WC cy ad ks g u0) := hD.part (X := [(o1, eL cy fo)]) (cx := []) [] (by decide) rfl
  have hFc : ∀ q, va_A (WC cy ad ks g u0) H.size q → A q := va_freeP (X := [(o1, eL cy fo)]) (cx := []) hD hS hA [] rfl
  obtain ⟨q8, h8⟩ := wc_at (cy := cy) (ad := ad) (ks := ks) (g := g) (u := u0) (κ := .cl) hk.1 True.intro
  refine va_calli (va_runV (As := [.int a1, .int a2]) (rest := [.int 0, .ref o1]) ⟨hx, hb, hml, hown, hts⟩ (c_X7_swap l dC dI cy nb ad ks g hk u0 a1 a2 ro gz uz H.size hF) (cwV 2 hts (gV mw_1094 mw_1095 mw_1096 mw_2 mw_1097) rfl rfl rfl (by decide +kernel) ⟨Nat.le_of_ble_eq_true rfl, Nat.le_of_ble_eq_true rfl⟩) (my_preV hPc hK hDc hE hS hFc (va_recv (q := (RX7, TX7, 12)) hK hPc (ci := 7) (q0 := q8) rfl h8)) rfl rfl hl.1 rfl (lv_room (Nat.le_of_ble_eq_true rfl)) dL_swap_5 ⟨Nat.le_of_ble_eq_true rfl, Nat.le_of_ble_eq_true rfl⟩) hS (fun q _ h => hFc q h) hFc (fun r u t H1 locs ht hvm hw hB hz1 hk1 hS => ?_)
  clear h8
  obtain ⟨ad', ks', hkz, axz, hP1, hD1⟩ := hB
  rw [ht] at hP1
  obtain ⟨hP, hD⟩ := va_joinP (X := [(o1, eL cy fo)]) (cx := []) (wr := [(o1, eL cy fo)]) (rx := []) (pl := WC cy ad ks g u0) (pl1 := WC cy ad' ks' gz uz) hP hD [] [0] rfl rfl (by decide) (by decide) hk1 hFc hP1 hD1
  generalize H1 = H at hP hS ⊢
  have hP : va_P (dC, dI) vwCl ([(o1, eL cy fo)] ++ WC cy ad' ks' gz uz) H := hP
  have hD : va_D A ([(o1, eL cy fo)] ++ WC cy ad' ks' gz uz) := hD
  refine my_topi hw ?_
  refine W.widen (k := 67) (n := 831) (by omega) (by omega) ?_
  refine lv_i2l (v := ro.toInt64) hx hb dL_swap_8 rfl ?_
  refine va_last hx hb hK hP hD hS 0 3 rfl rfl (vp_in_nI (n := 0) (by decide) (by decide)) dL_swap_9 (fun H locs hP hD hS => ?_)
  have hP : va_P (dC, dI) vwCl ([(o1, eL cy (vp_updL fo ((0 : Int32).toNatClampNeg) (ro.toInt64)))] ++ WC cy ad' ks' gz uz) H := hP
  have hD : va_D A ([(o1, eL cy (vp_updL fo ((0 : Int32).toNatClampNeg) (ro.toInt64)))] ++ WC cy ad' ks' gz uz) := hD
  refine lv_goto (tgt := 21) hx hb dL_swap_10 (by decide) ?_
  refine lv_iconst (v := 0) hx hb dL_swap_21 (by decide) ?_
  refine vx_ret ?_
  exact W.iret (v := 0) hx hb hr (fun t ht hW => ⟨⟨0, (), rfl, rfl, ad', ks', hkz, axz, by rw [ht]; exact hP, hD⟩, hS.F ht⟩) hS.2.2 dL_swap_22
set_option maxHeartbeats 4000000 in
set_option maxRecDepth 100000 in
theorem ct_swap (l : Launch) (hst : l.stackTraces = false) (dC : Nat → ClassId) (dI : Nat → Nat → Nat) (cy : Nat → ClassId) (nb : Nat → Nat) (ad : CK → Nat) (ks : List CK) (g : CG) (hk : GA nb ad g ks) (u0 : RS) (a1 : Int32) (a2 : Int32) (o1 : Nat) (fo : Nat → Int64) (xc : Int32) (sz : Nat) (hF : C7_swap g u0 a1 a2 = some (.inl xc)) : vx_Met l yL_swap (wsgH yL_swap cL_swap 5 (some .int) [(0, 10, 13, 22), (0, 10, 17, 13)]) ({ frames := 12, cells := 67, slots := 831, locals := 700 }) (va_Pc [.ref (ad .cl), .int a1, .int a2, .ref o1] (fun U => U.heap.size = sz ∧ va_P (dC, dI) vwCl ([(o1, eL cy fo)] ++ WC cy ad ks g u0) U.heap ∧ va_K (dC, dI) vwCl (tyL cy) U ∧ va_D (fun _ => True) ([(o1, eL cy fo)] ++ WC cy ad ks g u0) ∧ GE nb (va_A ([(o1, eL cy fo)] ++ WC cy ad ks g u0) sz) U)) (va_Qi (fun (r : Int32) (_ : Unit) => r = if xc = 1 then 1 else 2) (fun _ t => va_P (dC, dI) vwCl ([(o1, eL cy fo)] ++ WC cy ad ks g u0) t.heap ∧ va_D (va_A ([(o1, eL cy fo)] ++ WC cy ad ks g u0) sz) ([(o1, eL cy fo)] ++ WC cy ad ks g u0)) (va_A ([(o1, eL cy fo)] ++ WC cy ad ks g u0) sz)) (vx_X (fun (_ : Unit) => False) (fun _ _ _ => True) (va_A ([(o1, eL cy fo)] ++ WC cy ad ks g u0) sz)) 67 831 (va_A ([(o1, eL cy fo)] ++ WC cy ad ks g u0) sz) := by
  refine vx_ofWH (cc := cL_swap) (maxL := 5) (ret := (some .int)) (hh := [(0, 10, 13, 22), (0, 10, 17, 13)]) pn_L rfl ?_
  intro p e s m args below meth c s₁ B hml hv
  obtain ⟨rfl, hsz, hP, hK, hD0, hE⟩ := hv
  have hx := B.exec
  have hb := B.bytes
  have hr := B.returns
  have hts0 := atoms_spec (ws := (wsgH yL_swap cL_swap 5 (some .int) [(0, 10, 13, 22), (0, 10, 17, 13)])) B.pre
  have hts : ∀ w ∈ wsL_law, w.before _ s = true := fun w h => hts0 w (List.mem_cons_of_mem _ h)
  have hown : s.vm.findClass RL = some m.cls := by have h9 := findClass_of_methodNamed B.named; exact h9
  have hlocks := B.notSynchronized
  subst hsz
  have hD := hD0.self (sz := s.heap.size)
  generalize hAe : va_A ([(o1, eL cy fo)] ++ WC cy ad ks g u0) s.heap.size = A at hD hE ⊢
  have hA : ∀ q : Nat, s.heap.size ≤ q → A q := fun q h => by rw [← hAe]; exact Or.inr h
  have hS : va_S A s.heap s.heap [] := va_S.rf
  have hl := lv_entry ([.ref (ad .cl), .int a1, .int a2, .ref o1]) (n := 5) (Nat.le_of_ble_eq_true rfl)
  rw [lg_entry_eq]
  generalize (lg_sl ([.ref (ad .cl), .int a1, .int a2, .ref o1]) ++ List.replicate (5 - (lg_sl ([.ref (ad .cl), .int a1, .int a2, .ref o1])).length) Slot.unset).toArray = ls at hl ⊢
  have hl : lv_has ls 5 [(0, .ref (ad .cl)), (1, .int a1), (2, .int a2), (3, .ref o1)] := hl
  generalize hHe : s.heap = H at hP hS ⊢
  have hS : va_S A s.heap H [] := by rw [hHe]; exact hS
  have htab := vx_table (x := yL_swap) B (hts0 (.codeWith yL_swap cL_swap 5 (some .int) [(0, 10, 13, 22), (0, 10, 17, 13)]) List.mem_cons_self)
  refine lv_aload_n hx hb dL_swap_0 rfl (lv_at hl 3 rfl) ?_
  refine lv_iconst (v := 0) hx hb dL_swap_1 (by decide) ?_
  refine lv_aload_n hx hb dL_swap_2 rfl (lv_at hl 0 rfl) ?_
  refine lv_iload_n hx hb dL_swap_3 rfl (lv_at hl 1 rfl) ?_
  refine lv_iload_n hx hb dL_swap_4 rfl (lv_at hl 2 rfl) ?_
  have hPc : va_P (dC, dI) vwCl (WC cy ad ks g u0) H := hP.part (X := [(o1, eL cy fo)]) (cx := []) [] rfl
  have hDc : va_D A (WC cy ad ks g u0) := hD.part (X := [(o1, eL cy fo)]) (cx := []) [] (by decide) rfl
  have hFc : ∀ q, va_A (WC cy ad ks g u0) H.size q → A q := va_freeP (X := [(o1, eL cy fo)]) (cx := []) hD hS hA [] rfl
  obtain ⟨q8, h8⟩ := wc_at (cy := cy) (ad := ad) (ks := ks) (g := g) (u := u0) (κ := .cl) hk.1 True.intro
  refine vx_calli (vx_runV (As := [.int a1, .int a2]) (rest := [.int 0, .ref o1]) ⟨hx, hb, hml, hown, hts⟩ (c_X7_swap_y l hst dC dI cy nb ad ks g hk u0 a1 a2 xc H.size hF) (cwV 2 hts (gV mw_1094 mw_1095 mw_1096 mw_2 mw_1097) rfl rfl rfl (by decide +kernel) ⟨Nat.le_of_ble_eq_true rfl, Nat.le_of_ble_eq_true rfl⟩) (my_preV hPc hK hDc hE hS hFc (va_recv (q := (RX7, TX7, 12)) hK hPc (ci := 7) (q0 := q8) rfl h8)) rfl rfl hl.1 rfl (lv_room (Nat.le_of_ble_eq_true rfl)) dL_swap_5 ⟨Nat.le_of_ble_eq_true rfl, Nat.le_of_ble_eq_true rfl⟩) hS (fun q _ h => hFc q h) hFc (fun q _ h => hFc q h) (fun E9 ce9 q9 u9 t9 H1 locs1 ht9 hvm9 hp9 hB9 hz9 hk9 hS9 hc9 hv9 hcl9 => ?_) (fun r9 u9 t9 H1 locs1 ht9 hvm9 hp9 _ _ _ _ => hp9.elim)
  clear h8
  obtain ⟨hB8, hP1⟩ := hB9
  rw [ht9] at hP1
  obtain ⟨hP, hD⟩ := va_joinP (X := [(o1, eL cy fo)]) (cx := []) (wr := [(o1, eL cy fo)]) (rx := []) (pl := WC cy ad ks g u0) (pl1 := WC cy ad ks g u0) hP hD [] [0] rfl rfl (by decide) (by decide) hk9 hFc hP1 hDc.self
  have hP : va_P (dC, dI) vwCl ([(o1, eL cy fo)] ++ WC cy ad ks g u0) H1 := hP
  have hD : va_D A ([(o1, eL cy fo)] ++ WC cy ad ks g u0) := hD
  by_cases hxc : xc = 1
  · obtain rfl : E9 = xI := hB8.trans (if_pos hxc)
    refine vx_catch (own := RL) (name := xI) hown (tableOf []) _ (tableOf [(0, 10, 17, 13)]) (htab.trans rfl) (fun z hz => nomatch hz) (by decide) (by decide) (hts _ mw_612) (va_Nw.use rfl hE.cI) hc9 hv9 hcl9 ?_
    generalize H1 = H at hP hS9 ⊢
    refine W.widen (k := 67) (n := 831) (by omega) (by omega) ?_
    refine lv_astore (lv' := [(4, .ref q9), (0, .ref (ad .cl)), (1, .int a1), (2, .int a2), (3, .ref o1)]) hx hb dL_swap_13 hl (by decide) rfl (fun ls hl => ?_)
    refine lv_iconst (v := 1) hx hb dL_swap_15 (by decide) ?_
    refine vx_ret ?_
    exact W.iret (v := 1) hx hb hr (fun t ht hW => ⟨⟨1, (), rfl, (if_pos hxc).symm, by rw [ht]; exact hP, hD⟩, hS9.F ht⟩) hS9.2.2 dL_swap_16
  · obtain rfl : E9 = xA := hB8.trans (if_neg hxc)
    refine vx_catch (own := RL) (name := xA) hown (tableOf [(0, 10, 13, 22)]) _ (tableOf []) (htab.trans rfl) (fun z hz => by obtain rfl := List.mem_singleton.mp hz; exact Or.inr ⟨by decide, xI, hts _ mw_612, hE.nc⟩) (by decide) (by decide) (hts _ mw_564) (va_Nw.use rfl hE.cA) hc9 hv9 hcl9 ?_
    generalize H1 = H at hP hS9 ⊢
    refine W.widen (k := 67) (n := 831) (by omega) (by omega) ?_
    refine lv_astore (lv' := [(4, .ref q9), (0, .ref (ad .cl)), (1, .int a1), (2, .int a2), (3, .ref o1)]) hx hb dL_swap_17 hl (by decide) rfl (fun ls hl => ?_)
    refine lv_iconst (v := 2) hx hb dL_swap_19 (by decide) ?_
    refine vx_ret ?_
    exact W.iret (v := 2) hx hb hr (fun t ht hW => ⟨⟨2, (), rfl, (if_neg hxc).symm, by rw [ht]; exact hP, hD⟩, hS9.F ht⟩) hS9.2.2 dL_swap_20
set_option maxHeartbeats 4000000 in
set_option maxRecDepth 100000 in
theorem cn_setTries (l : Launch) (hst : l.stackTraces = false) (dC : Nat → ClassId) (dI : Nat → Nat → Nat) (cy : Nat → ClassId) (nb : Nat → Nat) (ad : CK → Nat) (ks : List CK) (g : CG) (hk : GA nb ad g ks) (u0 : RS) (a1 : Int32) (o1 : Nat) (fo : Nat → Int64) (ro : Int32) (gz : CG) (uz : RS) (sz : Nat) (hF : C7_setTries g u0 a1 = some (.inr (ro, gz, uz))) : vx_Met l yL_setTries (wsgH yL_setTries cL_setTries 4 (some .int) [(0, 9, 12, 13)]) ({ frames := 12, cells := 67, slots := 831, locals := 700 }) (va_Pc [.ref (ad .cl), .int a1, .ref o1] (fun U => U.heap.size = sz ∧ va_P (dC, dI) vwCl ([(o1, eL cy fo)] ++ WC cy ad ks g u0) U.heap ∧ va_K (dC, dI) vwCl (tyL cy) U ∧ va_D (fun _ => True) ([(o1, eL cy fo)] ++ WC cy ad ks g u0) ∧ GE nb (va_A ([(o1, eL cy fo)] ++ WC cy ad ks g u0) sz) U)) (va_Qi (fun (r : Int32) (_ : Unit) => r = 0) (fun _ t => ∃ (ad' : CK → Nat) (ks' : List CK), GA nb ad' gz ks' ∧ AX g ad gz ad' ∧ va_P (dC, dI) vwCl ([(o1, eL cy (vp_updL fo ((0 : Int32).toNatClampNeg) (ro.toInt64)))] ++ WC cy ad' ks' gz uz) t.heap ∧ va_D (va_A ([(o1, eL cy fo)] ++ WC cy ad ks g u0) sz) ([(o1, eL cy (vp_updL fo ((0 : Int32).toNatClampNeg) (ro.toInt64)))] ++ WC cy ad' ks' gz uz)) (va_A ([(o1, eL cy fo)] ++ WC cy ad ks g u0) sz)) (vx_X (fun (_ : Unit) => False) (fun _ _ _ => True) (va_A ([(o1, eL cy fo)] ++ WC cy ad ks g u0) sz)) 67 831 (va_A ([(o1, eL cy fo)] ++ WC cy ad ks g u0) sz) := by
  refine vx_ofWH (cc := cL_setTries) (maxL := 4) (ret := (some .int)) (hh := [(0, 9, 12, 13)]) pn_L rfl ?_
  intro p e s m args below meth c s₁ B hml hv
  obtain ⟨rfl, hsz, hP, hK, hD0, hE⟩ := hv
  have hx := B.exec
  have hb := B.bytes
  have hr := B.returns
  have hts0 := atoms_spec (ws := (wsgH yL_setTries cL_setTries 4 (some .int) [(0, 9, 12, 13)])) B.pre
  have hts : ∀ w ∈ wsL_law, w.before _ s = true := fun w h => hts0 w (List.mem_cons_of_mem _ h)
  have hown : s.vm.findClass RL = some m.cls := by have h9 := findClass_of_methodNamed B.named; exact h9
  have hlocks := B.notSynchronized
  subst hsz
  have hD := hD0.self (sz := s.heap.size)
  generalize hAe : va_A ([(o1, eL cy fo)] ++ WC cy ad ks g u0) s.heap.size = A at hD hE ⊢
  have hA : ∀ q : Nat, s.heap.size ≤ q → A q := fun q h => by rw [← hAe]; exact Or.inr h
  have hS : va_S A s.heap s.heap [] := va_S.rf
  have hl := lv_entry ([.ref (ad .cl), .int a1, .ref o1]) (n := 4) (Nat.le_of_ble_eq_true rfl)
  rw [lg_entry_eq]
  generalize (lg_sl ([.ref (ad .cl), .int a1, .ref o1]) ++ List.replicate (4 - (lg_sl ([.ref (ad .cl), .int a1, .ref o1])).length) Slot.unset).toArray = ls at hl ⊢
  have hl : lv_has ls 4 [(0, .ref (ad .cl)), (1, .int a1), (2, .ref o1)] := hl
  generalize hHe : s.heap = H at hP hS ⊢
  have hS : va_S A s.heap H [] := by rw [hHe]; exact hS
  have htab := vx_table (x := yL_setTries) B (hts0 (.codeWith yL_setTries cL_setTries 4 (some .int) [(0, 9, 12, 13)]) List.mem_cons_self)
  refine lv_aload_n hx hb dL_setTries_0 rfl (lv_at hl 2 rfl) ?_
  refine lv_iconst (v := 0) hx hb dL_setTries_1 (by decide) ?_
  refine lv_aload_n hx hb dL_setTries_2 rfl (lv_at hl 0 rfl) ?_
  refine lv_iload_n hx hb dL_setTries_3 rfl (lv_at hl 1 rfl) ?_
  have hPc : va_P (dC, dI) vwCl (WC cy ad ks g u0) H := hP.part (X := [(o1, eL cy fo)]) (cx := []) [] rfl
  have hDc : va_D A (WC cy ad ks g u0) := hD.part (X := [(o1, eL cy fo)]) (cx := []) [] (by decide) rfl
  have hFc : ∀ q, va_A (WC cy ad ks g u0) H.size q → A q := va_freeP (X := [(o1, eL cy fo)]) (cx := []) hD hS hA [] rfl
  obtain ⟨q8, h8⟩ := wc_at (cy := cy) (ad := ad) (ks := ks) (g := g) (u := u0) (κ := .cl) hk.1 True.intro
  refine va_calli (va_runV (As := [.int a1]) (rest := [.int 0, .ref o1]) ⟨hx, hb, hml, hown, hts⟩ (c_X7_setTries l dC dI cy nb ad ks g hk u0 a1 ro gz uz H.size hF) (cwV 1 hts (gV mw_1110 mw_1111 mw_1112 mw_2 mw_1113) rfl rfl rfl (by decide +kernel) ⟨Nat.le_of_ble_eq_true rfl, Nat.le_of_ble_eq_true rfl⟩) (my_preV hPc hK hDc hE hS hFc (va_recv (q := (RX7, TX7, 12)) hK hPc (ci := 7) (q0 := q8) rfl h8)) rfl rfl hl.1 rfl (lv_room (Nat.le_of_ble_eq_true rfl)) dL_setTries_4 ⟨Nat.le_of_ble_eq_true rfl, Nat.le_of_ble_eq_true rfl⟩) hS (fun q _ h => hFc q h) hFc (fun r u t H1 locs ht hvm hw hB hz1 hk1 hS => ?_)
  clear h8
  obtain ⟨ad', ks', hkz, axz, hP1, hD1⟩ := hB
  rw [ht] at hP1
  obtain ⟨hP, hD⟩ := va_joinP (X := [(o1, eL cy fo)]) (cx := []) (wr := [(o1, eL cy fo)]) (rx := []) (pl := WC cy ad ks g u0) (pl1 := WC cy ad' ks' gz uz) hP hD [] [0] rfl rfl (by decide) (by decide) hk1 hFc hP1 hD1
  generalize H1 = H at hP hS ⊢
  have hP : va_P (dC, dI) vwCl ([(o1, eL cy fo)] ++ WC cy ad' ks' gz uz) H := hP
  have hD : va_D A ([(o1, eL cy fo)] ++ WC cy ad' ks' gz uz) := hD
  refine my_topi hw ?_
  refine W.widen (k := 67) (n := 831) (by omega) (by omega) ?_
  refine lv_i2l (v := ro.toInt64) hx hb dL_setTries_7 rfl ?_
  refine va_last hx hb hK hP hD hS 0 3 rfl rfl (vp_in_nI (n := 0) (by decide) (by decide)) dL_setTries_8 (fun H locs hP hD hS => ?_)
  have hP : va_P (dC, dI) vwCl ([(o1, eL cy (vp_updL fo ((0 : Int32).toNatClampNeg) (ro.toInt64)))] ++ WC cy ad' ks' gz uz) H := hP
  have hD : va_D A ([(o1, eL cy (vp_updL fo ((0 : Int32).toNatClampNeg) (ro.toInt64)))] ++ WC cy ad' ks' gz uz) := hD
  refine lv_goto (tgt := 15) hx hb dL_setTries_9 (by decide) ?_
  refine lv_iconst (v := 0) hx hb dL_setTries_15 (by decide) ?_
  refine vx_ret ?_
  exact W.iret (v := 0) hx hb hr (fun t ht hW => ⟨⟨0, (), rfl, rfl, ad', ks', hkz, axz, by rw [ht]; exact hP, hD⟩, hS.F ht⟩) hS.2.2 dL_setTries_16
set_option maxHeartbeats 4000000 in
set_option maxRecDepth 100000 in
theorem ct_setTries (l : Launch) (hst : l.stackTraces = false) (dC : Nat → ClassId) (dI : Nat → Nat → Nat) (cy : Nat → ClassId) (nb : Nat → Nat) (ad : CK → Nat) (ks : List CK) (g : CG) (hk : GA nb ad g ks) (u0 : RS) (a1 : Int32) (o1 : Nat) (fo : Nat → Int64) (xc : Int32) (sz : Nat) (hxc : ¬ xc = 1) (hF : C7_setTries g u0 a1 = some (.inl xc)) : vx_Met l yL_setTries (wsgH yL_setTries cL_setTries 4 (some .int) [(0, 9, 12, 13)]) ({ frames := 12, cells := 67, slots := 831, locals := 700 }) (va_Pc [.ref (ad .cl), .int a1, .ref o1] (fun U => U.heap.size = sz ∧ va_P (dC, dI) vwCl ([(o1, eL cy fo)] ++ WC cy ad ks g u0) U.heap ∧ va_K (dC, dI) vwCl (tyL cy) U ∧ va_D (fun _ => True) ([(o1, eL cy fo)] ++ WC cy ad ks g u0) ∧ GE nb (va_A ([(o1, eL cy fo)] ++ WC cy ad ks g u0) sz) U)) (va_Qi (fun (r : Int32) (_ : Unit) => r = 1) (fun _ t => va_P (dC, dI) vwCl ([(o1, eL cy fo)] ++ WC cy ad ks g u0) t.heap ∧ va_D (va_A ([(o1, eL cy fo)] ++ WC cy ad ks g u0) sz) ([(o1, eL cy fo)] ++ WC cy ad ks g u0)) (va_A ([(o1, eL cy fo)] ++ WC cy ad ks g u0) sz)) (vx_X (fun (_ : Unit) => False) (fun _ _ _ => True) (va_A ([(o1, eL cy fo)] ++ WC cy ad ks g u0) sz)) 67 831 (va_A ([(o1, eL cy fo)] ++ WC cy ad ks g u0) sz) := by
  refine vx_ofWH (cc := cL_setTries) (maxL := 4) (ret := (some .int)) (hh := [(0, 9, 12, 13)]) pn_L rfl ?_
  intro p e s m args below meth c s₁ B hml hv
  obtain ⟨rfl, hsz, hP, hK, hD0, hE⟩ := hv
  have hx := B.exec
  have hb := B.bytes
  have hr := B.returns
  have hts0 := atoms_spec (ws := (wsgH yL_setTries cL_setTries 4 (some .int) [(0, 9, 12, 13)])) B.pre
  have hts : ∀ w ∈ wsL_law, w.before _ s = true := fun w h => hts0 w (List.mem_cons_of_mem _ h)
  have hown : s.vm.findClass RL = some m.cls := by have h9 := findClass_of_methodNamed B.named; exact h9
  have hlocks := B.notSynchronized
  subst hsz
  have hD := hD0.self (sz := s.heap.size)
  generalize hAe : va_A ([(o1, eL cy fo)] ++ WC cy ad ks g u0) s.heap.size = A at hD hE ⊢
  have hA : ∀ q : Nat, s.heap.size ≤ q → A q := fun q h => by rw [← hAe]; exact Or.inr h
  have hS : va_S A s.heap s.heap [] := va_S.rf
  have hl := lv_entry ([.ref (ad .cl), .int a1, .ref o1]) (n := 4) (Nat.le_of_ble_eq_true rfl)
  rw [lg_entry_eq]
  generalize (lg_sl ([.ref (ad .cl), .int a1, .ref o1]) ++ List.replicate (4 - (lg_sl ([.ref (ad .cl), .int a1, .ref o1])).length) Slot.unset).toArray = ls at hl ⊢
  have hl : lv_has ls 4 [(0, .ref (ad .cl)), (1, .int a1), (2, .ref o1)] := hl
  generalize hHe : s.heap = H at hP hS ⊢
  have hS : va_S A s.heap H [] := by rw [hHe]; exact hS
  have htab := vx_table (x := yL_setTries) B (hts0 (.codeWith yL_setTries cL_setTries 4 (some .int) [(0, 9, 12, 13)]) List.mem_cons_self)
  refine lv_aload_n hx hb dL_setTries_0 rfl (lv_at hl 2 rfl) ?_
  refine lv_iconst (v := 0) hx hb dL_setTries_1 (by decide) ?_
  refine lv_aload_n hx hb dL_setTries_2 rfl (lv_at hl 0 rfl) ?_
  refine lv_iload_n hx hb dL_setTries_3 rfl (lv_at hl 1 rfl) ?_
  have hPc : va_P (dC, dI) vwCl (WC cy ad ks g u0) H := hP.part (X := [(o1, eL cy fo)]) (cx := []) [] rfl
  have hDc : va_D A (WC cy ad ks g u0) := hD.part (X := [(o1, eL cy fo)]) (cx := []) [] (by decide) rfl
  have hFc : ∀ q, va_A (WC cy ad ks g u0) H.size q → A q := va_freeP (X := [(o1, eL cy fo)]) (cx := []) hD hS hA [] rfl
  obtain ⟨q8, h8⟩ := wc_at (cy := cy) (ad := ad) (ks := ks) (g := g) (u := u0) (κ := .cl) hk.1 True.intro
  refine vx_calli (vx_runV (As := [.int a1]) (rest := [.int 0, .ref o1]) ⟨hx, hb, hml, hown, hts⟩ (c_X7_setTries_y l hst dC dI cy nb ad ks g hk u0 a1 xc H.size hF) (cwV 1 hts (gV mw_1110 mw_1111 mw_1112 mw_2 mw_1113) rfl rfl rfl (by decide +kernel) ⟨Nat.le_of_ble_eq_true rfl, Nat.le_of_ble_eq_true rfl⟩) (my_preV hPc hK hDc hE hS hFc (va_recv (q := (RX7, TX7, 12)) hK hPc (ci := 7) (q0 := q8) rfl h8)) rfl rfl hl.1 rfl (lv_room (Nat.le_of_ble_eq_true rfl)) dL_setTries_4 ⟨Nat.le_of_ble_eq_true rfl, Nat.le_of_ble_eq_true rfl⟩) hS (fun q _ h => hFc q h) hFc (fun q _ h => hFc q h) (fun E9 ce9 q9 u9 t9 H1 locs1 ht9 hvm9 hp9 hB9 hz9 hk9 hS9 hc9 hv9 hcl9 => ?_) (fun r9 u9 t9 H1 locs1 ht9 hvm9 hp9 _ _ _ _ => hp9.elim)
  clear h8
  obtain ⟨hB8, hP1⟩ := hB9
  rw [ht9] at hP1
  obtain ⟨hP, hD⟩ := va_joinP (X := [(o1, eL cy fo)]) (cx := []) (wr := [(o1, eL cy fo)]) (rx := []) (pl := WC cy ad ks g u0) (pl1 := WC cy ad ks g u0) hP hD [] [0] rfl rfl (by decide) (by decide) hk9 hFc hP1 hDc.self
  have hP : va_P (dC, dI) vwCl ([(o1, eL cy fo)] ++ WC cy ad ks g u0) H1 := hP
  have hD : va_D A ([(o1, eL cy fo)] ++ WC cy ad ks g u0) := hD
  obtain rfl : E9 = xA := hB8.trans (if_neg hxc)
  refine vx_catch (own := RL) (name := xA) hown (tableOf []) _ (tableOf []) (htab.trans rfl) (fun z hz => nomatch hz) (by decide) (by decide) (hts _ mw_564) (va_Nw.use rfl hE.cA) hc9 hv9 hcl9 ?_
  generalize H1 = H at hP hS9 ⊢
  refine W.widen (k := 67) (n := 831) (by omega) (by omega) ?_
  refine lv_astore_n (lv' := [(3, .ref q9), (0, .ref (ad .cl)), (1, .int a1), (2, .ref o1)]) hx hb dL_setTries_12 rfl hl (by decide) rfl (fun ls hl => ?_)
  refine lv_iconst (v := 1) hx hb dL_setTries_13 (by decide) ?_
  refine vx_ret ?_
  exact W.iret (v := 1) hx hb hr (fun t ht hW => ⟨⟨1, (), rfl, rfl, by rw [ht]; exact hP, hD⟩, hS9.F ht⟩) hS9.2.2 dL_setTries_14
set_option maxHeartbeats 4000000 in
set_option maxRecDepth 100000 in
theorem cn_setTray (l : Launch) (hst : l.stackTraces = false) (dC : Nat → ClassId) (dI : Nat → Nat → Nat) (cy : Nat → ClassId) (nb : Nat → Nat) (ad : CK → Nat) (ks : List CK) (g : CG) (hk : GA nb ad g ks) (u0 : RS) (a1 : Int32) (o1 : Nat) (fo : Nat → Int64) (ro : Int32) (gz : CG) (uz : RS) (sz : Nat) (hF : C7_setTray g u0 a1 = some (.inr (ro, gz, uz))) : vx_Met l yL_setTray (wsgH yL_setTray cL_setTray 4 (some .int) [(0, 9, 12, 13)]) ({ frames := 12, cells := 67, slots := 831, locals := 700 }) (va_Pc [.ref (ad .cl), .int a1, .ref o1] (fun U => U.heap.size = sz ∧ va_P (dC, dI) vwCl ([(o1, eL cy fo)] ++ WC cy ad ks g u0) U.heap ∧ va_K (dC, dI) vwCl (tyL cy) U ∧ va_D (fun _ => True) ([(o1, eL cy fo)] ++ WC cy ad ks g u0) ∧ GE nb (va_A ([(o1, eL cy fo)] ++ WC cy ad ks g u0) sz) U)) (va_Qi (fun (r : Int32) (_ : Unit) => r = 0) (fun _ t => ∃ (ad' : CK → Nat) (ks' : List CK), GA nb ad' gz ks' ∧ AX g ad gz ad' ∧ va_P (dC, dI) vwCl ([(o1, eL cy (vp_updL fo ((0 : Int32).toNatClampNeg) (ro.toInt64)))] ++ WC cy ad' ks' gz uz) t.heap ∧ va_D (va_A ([(o1, eL cy fo)] ++ WC cy ad ks g u0) sz) ([(o1, eL cy (vp_updL fo ((0 : Int32).toNatClampNeg) (ro.toInt64)))] ++ WC cy ad' ks' gz uz)) (va_A ([(o1, eL cy fo)] ++ WC cy ad ks g u0) sz)) (vx_X (fun (_ : Unit) => False) (fun _ _ _ => True) (va_A ([(o1, eL cy fo)] ++ WC cy ad ks g u0) sz)) 67 831 (va_A ([(o1, eL cy fo)] ++ WC cy ad ks g u0) sz) := by
  refine vx_ofWH (cc := cL_setTray) (maxL := 4) (ret := (some .int)) (hh := [(0, 9, 12, 13)]) pn_L rfl ?_
  intro p e s m args below meth c s₁ B hml hv
  obtain ⟨rfl, hsz, hP, hK, hD0, hE⟩ := hv
  have hx := B.exec
  have hb := B.bytes
  have hr := B.returns
  have hts0 := atoms_spec (ws := (wsgH yL_setTray cL_setTray 4 (some .int) [(0, 9, 12, 13)])) B.pre
  have hts : ∀ w ∈ wsL_law, w.before _ s = true := fun w h => hts0 w (List.mem_cons_of_mem _ h)
  have hown : s.vm.findClass RL = some m.cls := by have h9 := findClass_of_methodNamed B.named; exact h9
  have hlocks := B.notSynchronized
  subst hsz
  have hD := hD0.self (sz := s.heap.size)
  generalize hAe : va_A ([(o1, eL cy fo)] ++ WC cy ad ks g u0) s.heap.size = A at hD hE ⊢
  have hA : ∀ q : Nat, s.heap.size ≤ q → A q := fun q h => by rw [← hAe]; exact Or.inr h
  have hS : va_S A s.heap s.heap [] := va_S.rf
  have hl := lv_entry ([.ref (ad .cl), .int a1, .ref o1]) (n := 4) (Nat.le_of_ble_eq_true rfl)
  rw [lg_entry_eq]
  generalize (lg_sl ([.ref (ad .cl), .int a1, .ref o1]) ++ List.replicate (4 - (lg_sl ([.ref (ad .cl), .int a1, .ref o1])).length) Slot.unset).toArray = ls at hl ⊢
  have hl : lv_has ls 4 [(0, .ref (ad .cl)), (1, .int a1), (2, .ref o1)] := hl
  generalize hHe : s.heap = H at hP hS ⊢
  have hS : va_S A s.heap H [] := by rw [hHe]; exact hS
  have htab := vx_table (x := yL_setTray) B (hts0 (.codeWith yL_setTray cL_setTray 4 (some .int) [(0, 9, 12, 13)]) List.mem_cons_self)
  refine lv_aload_n hx hb dL_setTray_0 rfl (lv_at hl 2 rfl) ?_
  refine lv_iconst (v := 0) hx hb dL_setTray_1 (by decide) ?_
  refine lv_aload_n hx hb dL_setTray_2 rfl (lv_at hl 0 rfl) ?_
  refine lv_iload_n hx hb dL_setTray_3 rfl (lv_at hl 1 rfl) ?_
  have hPc : va_P (dC, dI) vwCl (WC cy ad ks g u0) H := hP.part (X := [(o1, eL cy fo)]) (cx := []) [] rfl
  have hDc : va_D A (WC cy ad ks g u0) := hD.part (X := [(o1, eL cy fo)]) (cx := []) [] (by decide) rfl
  have hFc : ∀ q, va_A (WC cy ad ks g u0) H.size q → A q := va_freeP (X := [(o1, eL cy fo)]) (cx := []) hD hS hA [] rfl
  obtain ⟨q8, h8⟩ := wc_at (cy := cy) (ad := ad) (ks := ks) (g := g) (u := u0) (κ := .cl) hk.1 True.intro
  refine va_calli (va_runV (As := [.int a1]) (rest := [.int 0, .ref o1]) ⟨hx, hb, hml, hown, hts⟩ (c_X7_setTray l dC dI cy nb ad ks g hk u0 a1 ro gz uz H.size hF) (cwV 1 hts (gV mw_1121 mw_1122 mw_1123 mw_2 mw_1124) rfl rfl rfl (by decide +kernel) ⟨Nat.le_of_ble_eq_true rfl, Nat.le_of_ble_eq_true rfl⟩) (my_preV hPc hK hDc hE hS hFc (va_recv (q := (RX7, TX7, 12)) hK hPc (ci := 7) (q0 := q8) rfl h8)) rfl rfl hl.1 rfl (lv_room (Nat.le_of_ble_eq_true rfl)) dL_setTray_4 ⟨Nat.le_of_ble_eq_true rfl, Nat.le_of_ble_eq_true rfl⟩) hS (fun q _ h => hFc q h) hFc (fun r u t H1 locs ht hvm hw hB hz1 hk1 hS => ?_)
  clear h8
  obtain ⟨ad', ks', hkz, axz, hP1, hD1⟩ := hB
  rw [ht] at hP1
  obtain ⟨hP, hD⟩ := va_joinP (X := [(o1, eL cy fo)]) (cx := []) (wr := [(o1, eL cy fo)]) (rx := []) (pl := WC cy ad ks g u0) (pl1 := WC cy ad' ks' gz uz) hP hD [] [0] rfl rfl (by decide) (by decide) hk1 hFc hP1 hD1
  generalize H1 = H at hP hS ⊢
  have hP : va_P (dC, dI) vwCl ([(o1, eL cy fo)] ++ WC cy ad' ks' gz uz) H := hP
  have hD : va_D A ([(o1, eL cy fo)] ++ WC cy ad' ks' gz uz) := hD
  refine my_topi hw ?_
  refine W.widen (k := 67) (n := 831) (by omega) (by omega) ?_
  refine lv_i2l (v := ro.toInt64) hx hb dL_setTray_7 rfl ?_
  refine va_last hx hb hK hP hD hS 0 3 rfl rfl (vp_in_nI (n := 0) (by decide) (by decide)) dL_setTray_8 (fun H locs hP hD hS => ?_)
  have hP : va_P (dC, dI) vwCl ([(o1, eL cy (vp_updL fo ((0 : Int32).toNatClampNeg) (ro.toInt64)))] ++ WC cy ad' ks' gz uz) H := hP
  have hD : va_D A ([(o1, eL cy (vp_updL fo ((0 : Int32).toNatClampNeg) (ro.toInt64)))] ++ WC cy ad' ks' gz uz) := hD
  refine lv_goto (tgt := 15) hx hb dL_setTray_9 (by decide) ?_
  refine lv_iconst (v := 0) hx hb dL_setTray_15 (by decide) ?_
  refine vx_ret ?_
  exact W.iret (v := 0) hx hb hr (fun t ht hW => ⟨⟨0, (), rfl, rfl, ad', ks', hkz, axz, by rw [ht]; exact hP, hD⟩, hS.F ht⟩) hS.2.2 dL_setTray_16
set_option maxHeartbeats 4000000 in
set_option maxRecDepth 100000 in
theorem ct_setTray (l : Launch) (hst : l.stackTraces = false) (dC : Nat → ClassId) (dI : Nat → Nat → Nat) (cy : Nat → ClassId) (nb : Nat → Nat) (ad : CK → Nat) (ks : List CK) (g : CG) (hk : GA nb ad g ks) (u0 : RS) (a1 : Int32) (o1 : Nat) (fo : Nat → Int64) (xc : Int32) (sz : Nat) (hxc : ¬ xc = 1) (hF : C7_setTray g u0 a1 = some (.inl xc)) : vx_Met l yL_setTray (wsgH yL_setTray cL_setTray 4 (some .int) [(0, 9, 12, 13)]) ({ frames := 12, cells := 67, slots := 831, locals := 700 }) (va_Pc [.ref (ad .cl), .int a1, .ref o1] (fun U => U.heap.size = sz ∧ va_P (dC, dI) vwCl ([(o1, eL cy fo)] ++ WC cy ad ks g u0) U.heap ∧ va_K (dC, dI) vwCl (tyL cy) U ∧ va_D (fun _ => True) ([(o1, eL cy fo)] ++ WC cy ad ks g u0) ∧ GE nb (va_A ([(o1, eL cy fo)] ++ WC cy ad ks g u0) sz) U)) (va_Qi (fun (r : Int32) (_ : Unit) => r = 1) (fun _ t => va_P (dC, dI) vwCl ([(o1, eL cy fo)] ++ WC cy ad ks g u0) t.heap ∧ va_D (va_A ([(o1, eL cy fo)] ++ WC cy ad ks g u0) sz) ([(o1, eL cy fo)] ++ WC cy ad ks g u0)) (va_A ([(o1, eL cy fo)] ++ WC cy ad ks g u0) sz)) (vx_X (fun (_ : Unit) => False) (fun _ _ _ => True) (va_A ([(o1, eL cy fo)] ++ WC cy ad ks g u0) sz)) 67 831 (va_A ([(o1, eL cy fo)] ++ WC cy ad ks g u0) sz) := by
  refine vx_ofWH (cc := cL_setTray) (maxL := 4) (ret := (some .int)) (hh := [(0, 9, 12, 13)]) pn_L rfl ?_
  intro p e s m args below meth c s₁ B hml hv
  obtain ⟨rfl, hsz, hP, hK, hD0, hE⟩ := hv
  have hx := B.exec
  have hb := B.bytes
  have hr := B.returns
  have hts0 := atoms_spec (ws := (wsgH yL_setTray cL_setTray 4 (some .int) [(0, 9, 12, 13)])) B.pre
  have hts : ∀ w ∈ wsL_law, w.before _ s = true := fun w h => hts0 w (List.mem_cons_of_mem _ h)
  have hown : s.vm.findClass RL = some m.cls := by have h9 := findClass_of_methodNamed B.named; exact h9
  have hlocks := B.notSynchronized
  subst hsz
  have hD := hD0.self (sz := s.heap.size)
  generalize hAe : va_A ([(o1, eL cy fo)] ++ WC cy ad ks g u0) s.heap.size = A at hD hE ⊢
  have hA : ∀ q : Nat, s.heap.size ≤ q → A q := fun q h => by rw [← hAe]; exact Or.inr h
  have hS : va_S A s.heap s.heap [] := va_S.rf
  have hl := lv_entry ([.ref (ad .cl), .int a1, .ref o1]) (n := 4) (Nat.le_of_ble_eq_true rfl)
  rw [lg_entry_eq]
  generalize (lg_sl ([.ref (ad .cl), .int a1, .ref o1]) ++ List.replicate (4 - (lg_sl ([.ref (ad .cl), .int a1, .ref o1])).length) Slot.unset).toArray = ls at hl ⊢
  have hl : lv_has ls 4 [(0, .ref (ad .cl)), (1, .int a1), (2, .ref o1)] := hl
  generalize hHe : s.heap = H at hP hS ⊢
  have hS : va_S A s.heap H [] := by rw [hHe]; exact hS
  have htab := vx_table (x := yL_setTray) B (hts0 (.codeWith yL_setTray cL_setTray 4 (some .int) [(0, 9, 12, 13)]) List.mem_cons_self)
  refine lv_aload_n hx hb dL_setTray_0 rfl (lv_at hl 2 rfl) ?_
  refine lv_iconst (v := 0) hx hb dL_setTray_1 (by decide) ?_
  refine lv_aload_n hx hb dL_setTray_2 rfl (lv_at hl 0 rfl) ?_
  refine lv_iload_n hx hb dL_setTray_3 rfl (lv_at hl 1 rfl) ?_
  have hPc : va_P (dC, dI) vwCl (WC cy ad ks g u0) H := hP.part (X := [(o1, eL cy fo)]) (cx := []) [] rfl
  have hDc : va_D A (WC cy ad ks g u0) := hD.part (X := [(o1, eL cy fo)]) (cx := []) [] (by decide) rfl
  have hFc : ∀ q, va_A (WC cy ad ks g u0) H.size q → A q := va_freeP (X := [(o1, eL cy fo)]) (cx := []) hD hS hA [] rfl
  obtain ⟨q8, h8⟩ := wc_at (cy := cy) (ad := ad) (ks := ks) (g := g) (u := u0) (κ := .cl) hk.1 True.intro
  refine vx_calli (vx_runV (As := [.int a1]) (rest := [.int 0, .ref o1]) ⟨hx, hb, hml, hown, hts⟩ (c_X7_setTray_y l hst dC dI cy nb ad ks g hk u0 a1 xc H.size hF) (cwV 1 hts (gV mw_1121 mw_1122 mw_1123 mw_2 mw_1124) rfl rfl rfl (by decide +kernel) ⟨Nat.le_of_ble_eq_true rfl, Nat.le_of_ble_eq_true rfl⟩) (my_preV hPc hK hDc hE hS hFc (va_recv (q := (RX7, TX7, 12)) hK hPc (ci := 7) (q0 := q8) rfl h8)) rfl rfl hl.1 rfl (lv_room (Nat.le_of_ble_eq_true rfl)) dL_setTray_4 ⟨Nat.le_of_ble_eq_true rfl, Nat.le_of_ble_eq_true rfl⟩) hS (fun q _ h => hFc q h) hFc (fun q _ h => hFc q h) (fun E9 ce9 q9 u9 t9 H1 locs1 ht9 hvm9 hp9 hB9 hz9 hk9 hS9 hc9 hv9 hcl9 => ?_) (fun r9 u9 t9 H1 locs1 ht9 hvm9 hp9 _ _ _ _ => hp9.elim)
  clear h8
  obtain ⟨hB8, hP1⟩ := hB9
  rw [ht9] at hP1
  obtain ⟨hP, hD⟩ := va_joinP (X := [(o1, eL cy fo)]) (cx := []) (wr := [(o1, eL cy fo)]) (rx := []) (pl := WC cy ad ks g u0) (pl1 := WC cy ad ks g u0) hP hD [] [0] rfl rfl (by decide) (by decide) hk9 hFc hP1 hDc.self
  have hP : va_P (dC, dI) vwCl ([(o1, eL cy fo)] ++ WC cy ad ks g u0) H1 := hP
  have hD : va_D A ([(o1, eL cy fo)] ++ WC cy ad ks g u0) := hD
  obtain rfl : E9 = xA := hB8.trans (if_neg hxc)
  refine vx_catch (own := RL) (name := xA) hown (tableOf []) _ (tableOf []) (htab.trans rfl) (fun z hz => nomatch hz) (by decide) (by decide) (hts _ mw_564) (va_Nw.use rfl hE.cA) hc9 hv9 hcl9 ?_
  generalize H1 = H at hP hS9 ⊢
  refine W.widen (k := 67) (n := 831) (by omega) (by omega) ?_
  refine lv_astore_n (lv' := [(3, .ref q9), (0, .ref (ad .cl)), (1, .int a1), (2, .ref o1)]) hx hb dL_setTray_12 rfl hl (by decide) rfl (fun ls hl => ?_)
  refine lv_iconst (v := 1) hx hb dL_setTray_13 (by decide) ?_
  refine vx_ret ?_
  exact W.iret (v := 1) hx hb hr (fun t ht hW => ⟨⟨1, (), rfl, rfl, by rw [ht]; exact hP, hD⟩, hS9.F ht⟩) hS9.2.2 dL_setTray_14
end
section
set_option maxHeartbeats 4000000 in
set_option maxRecDepth 100000 in
theorem cn_run (l : Launch) (hst : l.stackTraces = false) (dC : Nat → ClassId) (dI : Nat → Nat → Nat) (cy : Nat → ClassId) (nb : Nat → Nat) (ad : CK → Nat) (ks : List CK) (g : CG) (hk : GA nb ad g ks) (u0 : RS) (a1 : Int32) (o1 : Nat) (fo : Nat → Int64) (ro : Int32) (gz : CG) (uz : RS) (sz : Nat) (hF : C7_run g u0 a1 = some (.inr (ro, gz, uz))) : vx_Met l yL_run (wsgH yL_run cL_run 4 (some .int) [(0, 9, 12, 13)]) ({ frames := 13, cells := 67, slots := 831, locals := 800 }) (va_Pc [.ref (ad .cl), .int a1, .ref o1] (fun U => U.heap.size = sz ∧ va_P (dC, dI) vwCl ([(o1, eL cy fo)] ++ WC cy ad ks g u0) U.heap ∧ va_K (dC, dI) vwCl (tyL cy) U ∧ va_D (fun _ => True) ([(o1, eL cy fo)] ++ WC cy ad ks g u0) ∧ GE nb (va_A ([(o1, eL cy fo)] ++ WC cy ad ks g u0) sz) U)) (va_Qi (fun (r : Int32) (_ : Unit) => r = 0) (fun _ t => ∃ (ad' : CK → Nat) (ks' : List CK), GA nb ad' gz ks' ∧ AX g ad gz ad' ∧ va_P (dC, dI) vwCl ([(o1, eL cy (vp_updL fo ((0 : Int32).toNatClampNeg) (ro.toInt64)))] ++ WC cy ad' ks' gz uz) t.heap ∧ va_D (va_A ([(o1, eL cy fo)] ++ WC cy ad ks g u0) sz) ([(o1, eL cy (vp_updL fo ((0 : Int32).toNatClampNeg) (ro.toInt64)))] ++ WC cy ad' ks' gz uz)) (va_A ([(o1, eL cy fo)] ++ WC cy ad ks g u0) sz)) (vx_X (fun (_ : Unit) => False) (fun _ _ _ => True) (va_A ([(o1, eL cy fo)] ++ WC cy ad ks g u0) sz)) 67 831 (va_A ([(o1, eL cy fo)] ++ WC cy ad ks g u0) sz) := by
  refine vx_ofWH (cc := cL_run) (maxL := 4) (ret := (some .int)) (hh := [(0, 9, 12, 13)]) pn_L rfl ?_
  intro p e s m args below meth c s₁ B hml hv
  obtain ⟨rfl, hsz, hP, hK, hD0, hE⟩ := hv
  have hx := B.exec
  have hb := B.bytes
  have hr := B.returns
  have hts0 := atoms_spec (ws := (wsgH yL_run cL_run 4 (some .int) [(0, 9, 12, 13)])) B.pre
  have hts : ∀ w ∈ wsL_law, w.before _ s = true := fun w h => hts0 w (List.mem_cons_of_mem _ h)
  have hown : s.vm.findClass RL = some m.cls := by have h9 := findClass_of_methodNamed B.named; exact h9
  have hlocks := B.notSynchronized
  subst hsz
  have hD := hD0.self (sz := s.heap.size)
  generalize hAe : va_A ([(o1, eL cy fo)] ++ WC cy ad ks g u0) s.heap.size = A at hD hE ⊢
  have hA : ∀ q : Nat, s.heap.size ≤ q → A q := fun q h => by rw [← hAe]; exact Or.inr h
  have hS : va_S A s.heap s.heap [] := va_S.rf
  have hl := lv_entry ([.ref (ad .cl), .int a1, .ref o1]) (n := 4) (Nat.le_of_ble_eq_true rfl)
  rw [lg_entry_eq]
  generalize (lg_sl ([.ref (ad .cl), .int a1, .ref o1]) ++ List.replicate (4 - (lg_sl ([.ref (ad .cl), .int a1, .ref o1])).length) Slot.unset).toArray = ls at hl ⊢
  have hl : lv_has ls 4 [(0, .ref (ad .cl)), (1, .int a1), (2, .ref o1)] := hl
  generalize hHe : s.heap = H at hP hS ⊢
  have hS : va_S A s.heap H [] := by rw [hHe]; exact hS
  have htab := vx_table (x := yL_run) B (hts0 (.codeWith yL_run cL_run 4 (some .int) [(0, 9, 12, 13)]) List.mem_cons_self)
  refine lv_aload_n hx hb dL_run_0 rfl (lv_at hl 2 rfl) ?_
  refine lv_iconst (v := 0) hx hb dL_run_1 (by decide) ?_
  refine lv_aload_n hx hb dL_run_2 rfl (lv_at hl 0 rfl) ?_
  refine lv_iload_n hx hb dL_run_3 rfl (lv_at hl 1 rfl) ?_
  have hPc : va_P (dC, dI) vwCl (WC cy ad ks g u0) H := hP.part (X := [(o1, eL cy fo)]) (cx := []) [] rfl
  have hDc : va_D A (WC cy ad ks g u0) := hD.part (X := [(o1, eL cy fo)]) (cx := []) [] (by decide) rfl
  have hFc : ∀ q, va_A (WC cy ad ks g u0) H.size q → A q := va_freeP (X := [(o1, eL cy fo)]) (cx := []) hD hS hA [] rfl
  obtain ⟨q8, h8⟩ := wc_at (cy := cy) (ad := ad) (ks := ks) (g := g) (u := u0) (κ := .cl) hk.1 True.intro
  refine va_calli (va_runV (As := [.int a1]) (rest := [.int 0, .ref o1]) ⟨hx, hb, hml, hown, hts⟩ (c_X7_run l dC dI cy nb ad ks g hk u0 a1 ro gz uz H.size hF) (cwV 1 hts (gV mw_1133 mw_1134 mw_1135 mw_2 mw_1136) rfl rfl rfl (by decide +kernel) ⟨Nat.le_of_ble_eq_true rfl, Nat.le_of_ble_eq_true rfl⟩) (my_preV hPc hK hDc hE hS hFc (va_recv (q := (RX7, TX7, 12)) hK hPc (ci := 7) (q0 := q8) rfl h8)) rfl rfl hl.1 rfl (lv_room (Nat.le_of_ble_eq_true rfl)) dL_run_4 ⟨Nat.le_of_ble_eq_true rfl, Nat.le_of_ble_eq_true rfl⟩) hS (fun q _ h => hFc q h) hFc (fun r u t H1 locs ht hvm hw hB hz1 hk1 hS => ?_)
  clear h8
  obtain ⟨ad', ks', hkz, axz, hP1, hD1⟩ := hB
  rw [ht] at hP1
  obtain ⟨hP, hD⟩ := va_joinP (X := [(o1, eL cy fo)]) (cx := []) (wr := [(o1, eL cy fo)]) (rx := []) (pl := WC cy ad ks g u0) (pl1 := WC cy ad' ks' gz uz) hP hD [] [0] rfl rfl (by decide) (by decide) hk1 hFc hP1 hD1
  generalize H1 = H at hP hS ⊢
  have hP : va_P (dC, dI) vwCl ([(o1, eL cy fo)] ++ WC cy ad' ks' gz uz) H := hP
  have hD : va_D A ([(o1, eL cy fo)] ++ WC cy ad' ks' gz uz) := hD
  refine my_topi hw ?_
  refine W.widen (k := 67) (n := 831) (by omega) (by omega) ?_
  refine lv_i2l (v := ro.toInt64) hx hb dL_run_7 rfl ?_
  refine va_last hx hb hK hP hD hS 0 3 rfl rfl (vp_in_nI (n := 0) (by decide) (by decide)) dL_run_8 (fun H locs hP hD hS => ?_)
  have hP : va_P (dC, dI) vwCl ([(o1, eL cy (vp_updL fo ((0 : Int32).toNatClampNeg) (ro.toInt64)))] ++ WC cy ad' ks' gz uz) H := hP
  have hD : va_D A ([(o1, eL cy (vp_updL fo ((0 : Int32).toNatClampNeg) (ro.toInt64)))] ++ WC cy ad' ks' gz uz) := hD
  refine lv_goto (tgt := 15) hx hb dL_run_9 (by decide) ?_
  refine lv_iconst (v := 0) hx hb dL_run_15 (by decide) ?_
  refine vx_ret ?_
  exact W.iret (v := 0) hx hb hr (fun t ht hW => ⟨⟨0, (), rfl, rfl, ad', ks', hkz, axz, by rw [ht]; exact hP, hD⟩, hS.F ht⟩) hS.2.2 dL_run_16
set_option maxHeartbeats 4000000 in
set_option maxRecDepth 100000 in
theorem ct_run (l : Launch) (hst : l.stackTraces = false) (dC : Nat → ClassId) (dI : Nat → Nat → Nat) (cy : Nat → ClassId) (nb : Nat → Nat) (ad : CK → Nat) (ks : List CK) (g : CG) (hk : GA nb ad g ks) (u0 : RS) (a1 : Int32) (o1 : Nat) (fo : Nat → Int64) (xc : Int32) (sz : Nat) (hxc : ¬ xc = 1) (hF : C7_run g u0 a1 = some (.inl xc)) : vx_Met l yL_run (wsgH yL_run cL_run 4 (some .int) [(0, 9, 12, 13)]) ({ frames := 13, cells := 67, slots := 831, locals := 800 }) (va_Pc [.ref (ad .cl), .int a1, .ref o1] (fun U => U.heap.size = sz ∧ va_P (dC, dI) vwCl ([(o1, eL cy fo)] ++ WC cy ad ks g u0) U.heap ∧ va_K (dC, dI) vwCl (tyL cy) U ∧ va_D (fun _ => True) ([(o1, eL cy fo)] ++ WC cy ad ks g u0) ∧ GE nb (va_A ([(o1, eL cy fo)] ++ WC cy ad ks g u0) sz) U)) (va_Qi (fun (r : Int32) (_ : Unit) => r = 1) (fun _ t => va_P (dC, dI) vwCl ([(o1, eL cy fo)] ++ WC cy ad ks g u0) t.heap ∧ va_D (va_A ([(o1, eL cy fo)] ++ WC cy ad ks g u0) sz) ([(o1, eL cy fo)] ++ WC cy ad ks g u0)) (va_A ([(o1, eL cy fo)] ++ WC cy ad ks g u0) sz)) (vx_X (fun (_ : Unit) => False) (fun _ _ _ => True) (va_A ([(o1, eL cy fo)] ++ WC cy ad ks g u0) sz)) 67 831 (va_A ([(o1, eL cy fo)] ++ WC cy ad ks g u0) sz) := by
  refine vx_ofWH (cc := cL_run) (maxL := 4) (ret := (some .int)) (hh := [(0, 9, 12, 13)]) pn_L rfl ?_
  intro p e s m args below meth c s₁ B hml hv
  obtain ⟨rfl, hsz, hP, hK, hD0, hE⟩ := hv
  have hx := B.exec
  have hb := B.bytes
  have hr := B.returns
  have hts0 := atoms_spec (ws := (wsgH yL_run cL_run 4 (some .int) [(0, 9, 12, 13)])) B.pre
  have hts : ∀ w ∈ wsL_law, w.before _ s = true := fun w h => hts0 w (List.mem_cons_of_mem _ h)
  have hown : s.vm.findClass RL = some m.cls := by have h9 := findClass_of_methodNamed B.named; exact h9
  have hlocks := B.notSynchronized
  subst hsz
  have hD := hD0.self (sz := s.heap.size)
  generalize hAe : va_A ([(o1, eL cy fo)] ++ WC cy ad ks g u0) s.heap.size = A at hD hE ⊢
  have hA : ∀ q : Nat, s.heap.size ≤ q → A q := fun q h => by rw [← hAe]; exact Or.inr h
  have hS : va_S A s.heap s.heap [] := va_S.rf
  have hl := lv_entry ([.ref (ad .cl), .int a1, .ref o1]) (n := 4) (Nat.le_of_ble_eq_true rfl)
  rw [lg_entry_eq]
  generalize (lg_sl ([.ref (ad .cl), .int a1, .ref o1]) ++ List.replicate (4 - (lg_sl ([.ref (ad .cl), .int a1, .ref o1])).length) Slot.unset).toArray = ls at hl ⊢
  have hl : lv_has ls 4 [(0, .ref (ad .cl)), (1, .int a1), (2, .ref o1)] := hl
  generalize hHe : s.heap = H at hP hS ⊢
  have hS : va_S A s.heap H [] := by rw [hHe]; exact hS
  have htab := vx_table (x := yL_run) B (hts0 (.codeWith yL_run cL_run 4 (some .int) [(0, 9, 12, 13)]) List.mem_cons_self)
  refine lv_aload_n hx hb dL_run_0 rfl (lv_at hl 2 rfl) ?_
  refine lv_iconst (v := 0) hx hb dL_run_1 (by decide) ?_
  refine lv_aload_n hx hb dL_run_2 rfl (lv_at hl 0 rfl) ?_
  refine lv_iload_n hx hb dL_run_3 rfl (lv_at hl 1 rfl) ?_
  have hPc : va_P (dC, dI) vwCl (WC cy ad ks g u0) H := hP.part (X := [(o1, eL cy fo)]) (cx := []) [] rfl
  have hDc : va_D A (WC cy ad ks g u0) := hD.part (X := [(o1, eL cy fo)]) (cx := []) [] (by decide) rfl
  have hFc : ∀ q, va_A (WC cy ad ks g u0) H.size q → A q := va_freeP (X := [(o1, eL cy fo)]) (cx := []) hD hS hA [] rfl
  obtain ⟨q8, h8⟩ := wc_at (cy := cy) (ad := ad) (ks := ks) (g := g) (u := u0) (κ := .cl) hk.1 True.intro
  refine vx_calli (vx_runV (As := [.int a1]) (rest := [.int 0, .ref o1]) ⟨hx, hb, hml, hown, hts⟩ (c_X7_run_y l hst dC dI cy nb ad ks g hk u0 a1 xc H.size hF) (cwV 1 hts (gV mw_1133 mw_1134 mw_1135 mw_2 mw_1136) rfl rfl rfl (by decide +kernel) ⟨Nat.le_of_ble_eq_true rfl, Nat.le_of_ble_eq_true rfl⟩) (my_preV hPc hK hDc hE hS hFc (va_recv (q := (RX7, TX7, 12)) hK hPc (ci := 7) (q0 := q8) rfl h8)) rfl rfl hl.1 rfl (lv_room (Nat.le_of_ble_eq_true rfl)) dL_run_4 ⟨Nat.le_of_ble_eq_true rfl, Nat.le_of_ble_eq_true rfl⟩) hS (fun q _ h => hFc q h) hFc (fun q _ h => hFc q h) (fun E9 ce9 q9 u9 t9 H1 locs1 ht9 hvm9 hp9 hB9 hz9 hk9 hS9 hc9 hv9 hcl9 => ?_) (fun r9 u9 t9 H1 locs1 ht9 hvm9 hp9 _ _ _ _ => hp9.elim)
  clear h8
  obtain ⟨hB8, hP1⟩ := hB9
  rw [ht9] at hP1
  obtain ⟨hP, hD⟩ := va_joinP (X := [(o1, eL cy fo)]) (cx := []) (wr := [(o1, eL cy fo)]) (rx := []) (pl := WC cy ad ks g u0) (pl1 := WC cy ad ks g u0) hP hD [] [0] rfl rfl (by decide) (by decide) hk9 hFc hP1 hDc.self
  have hP : va_P (dC, dI) vwCl ([(o1, eL cy fo)] ++ WC cy ad ks g u0) H1 := hP
  have hD : va_D A ([(o1, eL cy fo)] ++ WC cy ad ks g u0) := hD
  obtain rfl : E9 = xA := hB8.trans (if_neg hxc)
  refine vx_catch (own := RL) (name := xA) hown (tableOf []) _ (tableOf []) (htab.trans rfl) (fun z hz => nomatch hz) (by decide) (by decide) (hts _ mw_564) (va_Nw.use rfl hE.cA) hc9 hv9 hcl9 ?_
  generalize H1 = H at hP hS9 ⊢
  refine W.widen (k := 67) (n := 831) (by omega) (by omega) ?_
  refine lv_astore_n (lv' := [(3, .ref q9), (0, .ref (ad .cl)), (1, .int a1), (2, .ref o1)]) hx hb dL_run_12 rfl hl (by decide) rfl (fun ls hl => ?_)
  refine lv_iconst (v := 1) hx hb dL_run_13 (by decide) ?_
  refine vx_ret ?_
  exact W.iret (v := 1) hx hb hr (fun t ht hW => ⟨⟨1, (), rfl, rfl, by rw [ht]; exact hP, hD⟩, hS9.F ht⟩) hS9.2.2 dL_run_14
set_option maxHeartbeats 4000000 in
set_option maxRecDepth 100000 in
theorem cn_runToLeave (l : Launch) (hst : l.stackTraces = false) (dC : Nat → ClassId) (dI : Nat → Nat → Nat) (cy : Nat → ClassId) (nb : Nat → Nat) (ad : CK → Nat) (ks : List CK) (g : CG) (hk : GA nb ad g ks) (u0 : RS) (a1 : Int32) (o1 : Nat) (fo : Nat → Int64) (ro : Int32) (gz : CG) (uz : RS) (sz : Nat) (hF : C7_runToLeave g u0 a1 = some (.inr (ro, gz, uz))) : vx_Met l yL_runToLeave (wsgH yL_runToLeave cL_runToLeave 4 (some .int) [(0, 9, 12, 13)]) ({ frames := 13, cells := 67, slots := 831, locals := 800 }) (va_Pc [.ref (ad .cl), .int a1, .ref o1] (fun U => U.heap.size = sz ∧ va_P (dC, dI) vwCl ([(o1, eL cy fo)] ++ WC cy ad ks g u0) U.heap ∧ va_K (dC, dI) vwCl (tyL cy) U ∧ va_D (fun _ => True) ([(o1, eL cy fo)] ++ WC cy ad ks g u0) ∧ GE nb (va_A ([(o1, eL cy fo)] ++ WC cy ad ks g u0) sz) U)) (va_Qi (fun (r : Int32) (_ : Unit) => r = 0) (fun _ t => ∃ (ad' : CK → Nat) (ks' : List CK), GA nb ad' gz ks' ∧ AX g ad gz ad' ∧ va_P (dC, dI) vwCl ([(o1, eL cy (vp_updL fo ((0 : Int32).toNatClampNeg) (ro.toInt64)))] ++ WC cy ad' ks' gz uz) t.heap ∧ va_D (va_A ([(o1, eL cy fo)] ++ WC cy ad ks g u0) sz) ([(o1, eL cy (vp_updL fo ((0 : Int32).toNatClampNeg) (ro.toInt64)))] ++ WC cy ad' ks' gz uz)) (va_A ([(o1, eL cy fo)] ++ WC cy ad ks g u0) sz)) (vx_X (fun (_ : Unit) => False) (fun _ _ _ => True) (va_A ([(o1, eL cy fo)] ++ WC cy ad ks g u0) sz)) 67 831 (va_A ([(o1, eL cy fo)] ++ WC cy ad ks g u0) sz) := by
  refine vx_ofWH (cc := cL_runToLeave) (maxL := 4) (ret := (some .int)) (hh := [(0, 9, 12, 13)]) pn_L rfl ?_
  intro p e s m args below meth c s₁ B hml hv
  obtain ⟨rfl, hsz, hP, hK, hD0, hE⟩ := hv
  have hx := B.exec
  have hb := B.bytes
  have hr := B.returns
  have hts0 := atoms_spec (ws := (wsgH yL_runToLeave cL_runToLeave 4 (some .int) [(0, 9, 12, 13)])) B.pre
  have hts : ∀ w ∈ wsL_law, w.before _ s = true := fun w h => hts0 w (List.mem_cons_of_mem _ h)
  have hown : s.vm.findClass RL = some m.cls := by have h9 := findClass_of_methodNamed B.named; exact h9
  have hlocks := B.notSynchronized
  subst hsz
  have hD := hD0.self (sz := s.heap.size)
  generalize hAe : va_A ([(o1, eL cy fo)] ++ WC cy ad ks g u0) s.heap.size = A at hD hE ⊢
  have hA : ∀ q : Nat, s.heap.size ≤ q → A q := fun q h => by rw [← hAe]; exact Or.inr h
  have hS : va_S A s.heap s.heap [] := va_S.rf
  have hl := lv_entry ([.ref (ad .cl), .int a1, .ref o1]) (n := 4) (Nat.le_of_ble_eq_true rfl)
  rw [lg_entry_eq]
  generalize (lg_sl ([.ref (ad .cl), .int a1, .ref o1]) ++ List.replicate (4 - (lg_sl ([.ref (ad .cl), .int a1, .ref o1])).length) Slot.unset).toArray = ls at hl ⊢
  have hl : lv_has ls 4 [(0, .ref (ad .cl)), (1, .int a1), (2, .ref o1)] := hl
  generalize hHe : s.heap = H at hP hS ⊢
  have hS : va_S A s.heap H [] := by rw [hHe]; exact hS
  have htab := vx_table (x := yL_runToLeave) B (hts0 (.codeWith yL_runToLeave cL_runToLeave 4 (some .int) [(0, 9, 12, 13)]) List.mem_cons_self)
  refine lv_aload_n hx hb dL_runToLeave_0 rfl (lv_at hl 2 rfl) ?_
  refine lv_iconst (v := 0) hx hb dL_runToLeave_1 (by decide) ?_
  refine lv_aload_n hx hb dL_runToLeave_2 rfl (lv_at hl 0 rfl) ?_
  refine lv_iload_n hx hb dL_runToLeave_3 rfl (lv_at hl 1 rfl) ?_
  have hPc : va_P (dC, dI) vwCl (WC cy ad ks g u0) H := hP.part (X := [(o1, eL cy fo)]) (cx := []) [] rfl
  have hDc : va_D A (WC cy ad ks g u0) := hD.part (X := [(o1, eL cy fo)]) (cx := []) [] (by decide) rfl
  have hFc : ∀ q, va_A (WC cy ad ks g u0) H.size q → A q := va_freeP (X := [(o1, eL cy fo)]) (cx := []) hD hS hA [] rfl
  obtain ⟨q8, h8⟩ := wc_at (cy := cy) (ad := ad) (ks := ks) (g := g) (u := u0) (κ := .cl) hk.1 True.intro
  refine va_calli (va_runV (As := [.int a1]) (rest := [.int 0, .ref o1]) ⟨hx, hb, hml, hown, hts⟩ (c_X7_runToLeave l dC dI cy nb ad ks g hk u0 a1 ro gz uz H.size hF) (cwV 1 hts (gV mw_1282 mw_1283 mw_1284 mw_2 mw_1285) rfl rfl rfl (by decide +kernel) ⟨Nat.le_of_ble_eq_true rfl, Nat.le_of_ble_eq_true rfl⟩) (my_preV hPc hK hDc hE hS hFc (va_recv (q := (RX7, TX7, 12)) hK hPc (ci := 7) (q0 := q8) rfl h8)) rfl rfl hl.1 rfl (lv_room (Nat.le_of_ble_eq_true rfl)) dL_runToLeave_4 ⟨Nat.le_of_ble_eq_true rfl, Nat.le_of_ble_eq_true rfl⟩) hS (fun q _ h => hFc q h) hFc (fun r u t H1 locs ht hvm hw hB hz1 hk1 hS => ?_)
  clear h8
  obtain ⟨ad', ks', hkz, axz, hP1, hD1⟩ := hB
  rw [ht] at hP1
  obtain ⟨hP, hD⟩ := va_joinP (X := [(o1, eL cy fo)]) (cx := []) (wr := [(o1, eL cy fo)]) (rx := []) (pl := WC cy ad ks g u0) (pl1 := WC cy ad' ks' gz uz) hP hD [] [0] rfl rfl (by decide) (by decide) hk1 hFc hP1 hD1
  generalize H1 = H at hP hS ⊢
  have hP : va_P (dC, dI) vwCl ([(o1, eL cy fo)] ++ WC cy ad' ks' gz uz) H := hP
  have hD : va_D A ([(o1, eL cy fo)] ++ WC cy ad' ks' gz uz) := hD
  refine my_topi hw ?_
  refine W.widen (k := 67) (n := 831) (by omega) (by omega) ?_
  refine lv_i2l (v := ro.toInt64) hx hb dL_runToLeave_7 rfl ?_
  refine va_last hx hb hK hP hD hS 0 3 rfl rfl (vp_in_nI (n := 0) (by decide) (by decide)) dL_runToLeave_8 (fun H locs hP hD hS => ?_)
  have hP : va_P (dC, dI) vwCl ([(o1, eL cy (vp_updL fo ((0 : Int32).toNatClampNeg) (ro.toInt64)))] ++ WC cy ad' ks' gz uz) H := hP
  have hD : va_D A ([(o1, eL cy (vp_updL fo ((0 : Int32).toNatClampNeg) (ro.toInt64)))] ++ WC cy ad' ks' gz uz) := hD
  refine lv_goto (tgt := 15) hx hb dL_runToLeave_9 (by decide) ?_
  refine lv_iconst (v := 0) hx hb dL_runToLeave_15 (by decide) ?_
  refine vx_ret ?_
  exact W.iret (v := 0) hx hb hr (fun t ht hW => ⟨⟨0, (), rfl, rfl, ad', ks', hkz, axz, by rw [ht]; exact hP, hD⟩, hS.F ht⟩) hS.2.2 dL_runToLeave_16
set_option maxHeartbeats 4000000 in
set_option maxRecDepth 100000 in
theorem ct_runToLeave (l : Launch) (hst : l.stackTraces = false) (dC : Nat → ClassId) (dI : Nat → Nat → Nat) (cy : Nat → ClassId) (nb : Nat → Nat) (ad : CK → Nat) (ks : List CK) (g : CG) (hk : GA nb ad g ks) (u0 : RS) (a1 : Int32) (o1 : Nat) (fo : Nat → Int64) (xc : Int32) (sz : Nat) (hxc : ¬ xc = 1) (hF : C7_runToLeave g u0 a1 = some (.inl xc)) : vx_Met l yL_runToLeave (wsgH yL_runToLeave cL_runToLeave 4 (some .int) [(0, 9, 12, 13)]) ({ frames := 13, cells := 67, slots := 831, locals := 800 }) (va_Pc [.ref (ad .cl), .int a1, .ref o1] (fun U => U.heap.size = sz ∧ va_P (dC, dI) vwCl ([(o1, eL cy fo)] ++ WC cy ad ks g u0) U.heap ∧ va_K (dC, dI) vwCl (tyL cy) U ∧ va_D (fun _ => True) ([(o1, eL cy fo)] ++ WC cy ad ks g u0) ∧ GE nb (va_A ([(o1, eL cy fo)] ++ WC cy ad ks g u0) sz) U)) (va_Qi (fun (r : Int32) (_ : Unit) => r = 1) (fun _ t => va_P (dC, dI) vwCl ([(o1, eL cy fo)] ++ WC cy ad ks g u0) t.heap ∧ va_D (va_A ([(o1, eL cy fo)] ++ WC cy ad ks g u0) sz) ([(o1, eL cy fo)] ++ WC cy ad ks g u0)) (va_A ([(o1, eL cy fo)] ++ WC cy ad ks g u0) sz)) (vx_X (fun (_ : Unit) => False) (fun _ _ _ => True) (va_A ([(o1, eL cy fo)] ++ WC cy ad ks g u0) sz)) 67 831 (va_A ([(o1, eL cy fo)] ++ WC cy ad ks g u0) sz) := by
  refine vx_ofWH (cc := cL_runToLeave) (maxL := 4) (ret := (some .int)) (hh := [(0, 9, 12, 13)]) pn_L rfl ?_
  intro p e s m args below meth c s₁ B hml hv
  obtain ⟨rfl, hsz, hP, hK, hD0, hE⟩ := hv
  have hx := B.exec
  have hb := B.bytes
  have hr := B.returns
  have hts0 := atoms_spec (ws := (wsgH yL_runToLeave cL_runToLeave 4 (some .int) [(0, 9, 12, 13)])) B.pre
  have hts : ∀ w ∈ wsL_law, w.before _ s = true := fun w h => hts0 w (List.mem_cons_of_mem _ h)
  have hown : s.vm.findClass RL = some m.cls := by have h9 := findClass_of_methodNamed B.named; exact h9
  have hlocks := B.notSynchronized
  subst hsz
  have hD := hD0.self (sz := s.heap.size)
  generalize hAe : va_A ([(o1, eL cy fo)] ++ WC cy ad ks g u0) s.heap.size = A at hD hE ⊢
  have hA : ∀ q : Nat, s.heap.size ≤ q → A q := fun q h => by rw [← hAe]; exact Or.inr h
  have hS : va_S A s.heap s.heap [] := va_S.rf
  have hl := lv_entry ([.ref (ad .cl), .int a1, .ref o1]) (n := 4) (Nat.le_of_ble_eq_true rfl)
  rw [lg_entry_eq]
  generalize (lg_sl ([.ref (ad .cl), .int a1, .ref o1]) ++ List.replicate (4 - (lg_sl ([.ref (ad .cl), .int a1, .ref o1])).length) Slot.unset).toArray = ls at hl ⊢
  have hl : lv_has ls 4 [(0, .ref (ad .cl)), (1, .int a1), (2, .ref o1)] := hl
  generalize hHe : s.heap = H at hP hS ⊢
  have hS : va_S A s.heap H [] := by rw [hHe]; exact hS
  have htab := vx_table (x := yL_runToLeave) B (hts0 (.codeWith yL_runToLeave cL_runToLeave 4 (some .int) [(0, 9, 12, 13)]) List.mem_cons_self)
  refine lv_aload_n hx hb dL_runToLeave_0 rfl (lv_at hl 2 rfl) ?_
  refine lv_iconst (v := 0) hx hb dL_runToLeave_1 (by decide) ?_
  refine lv_aload_n hx hb dL_runToLeave_2 rfl (lv_at hl 0 rfl) ?_
  refine lv_iload_n hx hb dL_runToLeave_3 rfl (lv_at hl 1 rfl) ?_
  have hPc : va_P (dC, dI) vwCl (WC cy ad ks g u0) H := hP.part (X := [(o1, eL cy fo)]) (cx := []) [] rfl
  have hDc : va_D A (WC cy ad ks g u0) := hD.part (X := [(o1, eL cy fo)]) (cx := []) [] (by decide) rfl
  have hFc : ∀ q, va_A (WC cy ad ks g u0) H.size q → A q := va_freeP (X := [(o1, eL cy fo)]) (cx := []) hD hS hA [] rfl
  obtain ⟨q8, h8⟩ := wc_at (cy := cy) (ad := ad) (ks := ks) (g := g) (u := u0) (κ := .cl) hk.1 True.intro
  refine vx_calli (vx_runV (As := [.int a1]) (rest := [.int 0, .ref o1]) ⟨hx, hb, hml, hown, hts⟩ (c_X7_runToLeave_y l hst dC dI cy nb ad ks g hk u0 a1 xc H.size hF) (cwV 1 hts (gV mw_1282 mw_1283 mw_1284 mw_2 mw_1285) rfl rfl rfl (by decide +kernel) ⟨Nat.le_of_ble_eq_true rfl, Nat.le_of_ble_eq_true rfl⟩) (my_preV hPc hK hDc hE hS hFc (va_recv (q := (RX7, TX7, 12)) hK hPc (ci := 7) (q0 := q8) rfl h8)) rfl rfl hl.1 rfl (lv_room (Nat.le_of_ble_eq_true rfl)) dL_runToLeave_4 ⟨Nat.le_of_ble_eq_true rfl, Nat.le_of_ble_eq_true rfl⟩) hS (fun q _ h => hFc q h) hFc (fun q _ h => hFc q h) (fun E9 ce9 q9 u9 t9 H1 locs1 ht9 hvm9 hp9 hB9 hz9 hk9 hS9 hc9 hv9 hcl9 => ?_) (fun r9 u9 t9 H1 locs1 ht9 hvm9 hp9 _ _ _ _ => hp9.elim)
  clear h8
  obtain ⟨hB8, hP1⟩ := hB9
  rw [ht9] at hP1
  obtain ⟨hP, hD⟩ := va_joinP (X := [(o1, eL cy fo)]) (cx := []) (wr := [(o1, eL cy fo)]) (rx := []) (pl := WC cy ad ks g u0) (pl1 := WC cy ad ks g u0) hP hD [] [0] rfl rfl (by decide) (by decide) hk9 hFc hP1 hDc.self
  have hP : va_P (dC, dI) vwCl ([(o1, eL cy fo)] ++ WC cy ad ks g u0) H1 := hP
  have hD : va_D A ([(o1, eL cy fo)] ++ WC cy ad ks g u0) := hD
  obtain rfl : E9 = xA := hB8.trans (if_neg hxc)
  refine vx_catch (own := RL) (name := xA) hown (tableOf []) _ (tableOf []) (htab.trans rfl) (fun z hz => nomatch hz) (by decide) (by decide) (hts _ mw_564) (va_Nw.use rfl hE.cA) hc9 hv9 hcl9 ?_
  generalize H1 = H at hP hS9 ⊢
  refine W.widen (k := 67) (n := 831) (by omega) (by omega) ?_
  refine lv_astore_n (lv' := [(3, .ref q9), (0, .ref (ad .cl)), (1, .int a1), (2, .ref o1)]) hx hb dL_runToLeave_12 rfl hl (by decide) rfl (fun ls hl => ?_)
  refine lv_iconst (v := 1) hx hb dL_runToLeave_13 (by decide) ?_
  refine vx_ret ?_
  exact W.iret (v := 1) hx hb hr (fun t ht hW => ⟨⟨1, (), rfl, rfl, by rw [ht]; exact hP, hD⟩, hS9.F ht⟩) hS9.2.2 dL_runToLeave_14
set_option maxHeartbeats 4000000 in
set_option maxRecDepth 100000 in
theorem cn_leavesIn (l : Launch) (hst : l.stackTraces = false) (dC : Nat → ClassId) (dI : Nat → Nat → Nat) (cy : Nat → ClassId) (nb : Nat → Nat) (ad : CK → Nat) (ks : List CK) (g : CG) (hk : GA nb ad g ks) (u0 : RS) (a1 : Int32) (o1 : Nat) (fo : Nat → Int64) (ro : Int32) (uz : RS) (sz : Nat) (hF : C7_leavesIn g u0 a1 = some (.inr (ro, uz))) : vx_Met l yL_leavesIn (wsgH yL_leavesIn cL_leavesIn 4 (some .int) [(0, 9, 12, 22)]) ({ frames := 14, cells := 0, slots := 0, locals := 900 }) (va_Pc [.ref (ad .cl), .int a1, .ref o1] (fun U => U.heap.size = sz ∧ va_P (dC, dI) vwCl ([(o1, eL cy fo)] ++ WC cy ad ks g u0) U.heap ∧ va_K (dC, dI) vwCl (tyL cy) U ∧ va_D (fun _ => True) ([(o1, eL cy fo)] ++ WC cy ad ks g u0) ∧ GE nb (va_A ([(o1, eL cy fo)] ++ WC cy ad ks g u0) sz) U)) (va_Qi (fun (r : Int32) (_ : Unit) => r = 0) (fun _ t => va_P (dC, dI) vwCl ([(o1, eL cy (vp_updL fo ((0 : Int32).toNatClampNeg) (ro.toInt64)))] ++ WC cy ad ks g uz) t.heap ∧ va_D (va_A ([(o1, eL cy fo)] ++ WC cy ad ks g u0) sz) ([(o1, eL cy (vp_updL fo ((0 : Int32).toNatClampNeg) (ro.toInt64)))] ++ WC cy ad ks g uz)) (va_A ([(o1, eL cy fo)] ++ WC cy ad ks g u0) sz)) (vx_X (fun (_ : Unit) => False) (fun _ _ _ => True) (va_A ([(o1, eL cy fo)] ++ WC cy ad ks g u0) sz)) 0 0 (va_A ([(o1, eL cy fo)] ++ WC cy ad ks g u0) sz) := by
  refine vx_ofWH (cc := cL_leavesIn) (maxL := 4) (ret := (some .int)) (hh := [(0, 9, 12, 22)]) pn_L rfl ?_
  intro p e s m args below meth c s₁ B hml hv
  obtain ⟨rfl, hsz, hP, hK, hD0, hE⟩ := hv
  have hx := B.exec
  have hb := B.bytes
  have hr := B.returns
  have hts0 := atoms_spec (ws := (wsgH yL_leavesIn cL_leavesIn 4 (some .int) [(0, 9, 12, 22)])) B.pre
  have hts : ∀ w ∈ wsL_law, w.before _ s = true := fun w h => hts0 w (List.mem_cons_of_mem _ h)
  have hown : s.vm.findClass RL = some m.cls := by have h9 := findClass_of_methodNamed B.named; exact h9
  have hlocks := B.notSynchronized
  subst hsz
  have hD := hD0.self (sz := s.heap.size)
  generalize hAe : va_A ([(o1, eL cy fo)] ++ WC cy ad ks g u0) s.heap.size = A at hD hE ⊢
  have hA : ∀ q : Nat, s.heap.size ≤ q → A q := fun q h => by rw [← hAe]; exact Or.inr h
  have hS : va_S A s.heap s.heap [] := va_S.rf
  have hl := lv_entry ([.ref (ad .cl), .int a1, .ref o1]) (n := 4) (Nat.le_of_ble_eq_true rfl)
  rw [lg_entry_eq]
  generalize (lg_sl ([.ref (ad .cl), .int a1, .ref o1]) ++ List.replicate (4 - (lg_sl ([.ref (ad .cl), .int a1, .ref o1])).length) Slot.unset).toArray = ls at hl ⊢
  have hl : lv_has ls 4 [(0, .ref (ad .cl)), (1, .int a1), (2, .ref o1)] := hl
  generalize hHe : s.heap = H at hP hS ⊢
  have hS : va_S A s.heap H [] := by rw [hHe]; exact hS
  have htab := vx_table (x := yL_leavesIn) B (hts0 (.codeWith yL_leavesIn cL_leavesIn 4 (some .int) [(0, 9, 12, 22)]) List.mem_cons_self)
  refine lv_aload_n hx hb dL_leavesIn_0 rfl (lv_at hl 2 rfl) ?_
  refine lv_iconst (v := 0) hx hb dL_leavesIn_1 (by decide) ?_
  refine lv_aload_n hx hb dL_leavesIn_2 rfl (lv_at hl 0 rfl) ?_
  refine lv_iload_n hx hb dL_leavesIn_3 rfl (lv_at hl 1 rfl) ?_
  have hPc : va_P (dC, dI) vwCl (WC cy ad ks g u0) H := hP.part (X := [(o1, eL cy fo)]) (cx := []) [] rfl
  have hDc : va_D A (WC cy ad ks g u0) := hD.part (X := [(o1, eL cy fo)]) (cx := []) [] (by decide) rfl
  have hFc : ∀ q, va_A (WC cy ad ks g u0) H.size q → A q := va_freeP (X := [(o1, eL cy fo)]) (cx := []) hD hS hA [] rfl
  obtain ⟨q8, h8⟩ := wc_at (cy := cy) (ad := ad) (ks := ks) (g := g) (u := u0) (κ := .cl) hk.1 True.intro
  refine va_calli (va_runV (As := [.int a1]) (rest := [.int 0, .ref o1]) ⟨hx, hb, hml, hown, hts⟩ (c_X7_leavesIn l dC dI cy nb ad ks g hk u0 a1 ro uz H.size hF) (cwV 1 hts (gV mw_1293 mw_1294 mw_1295 mw_2 mw_1296) rfl rfl rfl (by decide +kernel) ⟨Nat.le_of_ble_eq_true rfl, Nat.le_of_ble_eq_true rfl⟩) (my_preV hPc hK hDc hE hS hFc (va_recv (q := (RX7, TX7, 12)) hK hPc (ci := 7) (q0 := q8) rfl h8)) rfl rfl hl.1 rfl (lv_room (Nat.le_of_ble_eq_true rfl)) dL_leavesIn_4 ⟨Nat.le_of_ble_eq_true rfl, Nat.le_of_ble_eq_true rfl⟩) hS (fun q _ h => hFc q h) hFc (fun r u t H1 locs ht hvm hw hB hz1 hk1 hS => ?_)
  clear h8
  obtain ⟨hP1, hD1⟩ := hB
  rw [ht] at hP1
  obtain ⟨hP, hD⟩ := va_joinP (X := [(o1, eL cy fo)]) (cx := []) (wr := [(o1, eL cy fo)]) (rx := []) (pl := WC cy ad ks g u0) (pl1 := WC cy ad ks g uz) hP hD [] [0] rfl rfl (by decide) (by decide) hk1 hFc hP1 hD1
  generalize H1 = H at hP hS ⊢
  have hP : va_P (dC, dI) vwCl ([(o1, eL cy fo)] ++ WC cy ad ks g uz) H := hP
  have hD : va_D A ([(o1, eL cy fo)] ++ WC cy ad ks g uz) := hD
  refine my_topi hw ?_
  refine W.widen (k := 0) (n := 0) (by omega) (by omega) ?_
  refine lv_i2l (v := ro.toInt64) hx hb dL_leavesIn_7 rfl ?_
  refine va_last hx hb hK hP hD hS 0 3 rfl rfl (vp_in_nI (n := 0) (by decide) (by decide)) dL_leavesIn_8 (fun H locs hP hD hS => ?_)
  have hP : va_P (dC, dI) vwCl ([(o1, eL cy (vp_updL fo ((0 : Int32).toNatClampNeg) (ro.toInt64)))] ++ WC cy ad ks g uz) H := hP
  have hD : va_D A ([(o1, eL cy (vp_updL fo ((0 : Int32).toNatClampNeg) (ro.toInt64)))] ++ WC cy ad ks g uz) := hD
  refine lv_goto (tgt := 15) hx hb dL_leavesIn_9 (by decide) ?_
  refine lv_iconst (v := 0) hx hb dL_leavesIn_15 (by decide) ?_
  refine vx_ret ?_
  exact W.iret (v := 0) hx hb hr (fun t ht hW => ⟨⟨0, (), rfl, rfl, by rw [ht]; exact hP, hD⟩, hS.F ht⟩) hS.2.2 dL_leavesIn_16
set_option maxHeartbeats 4000000 in
set_option maxRecDepth 100000 in
theorem ct_leavesIn (l : Launch) (hst : l.stackTraces = false) (dC : Nat → ClassId) (dI : Nat → Nat → Nat) (cy : Nat → ClassId) (nb : Nat → Nat) (ad : CK → Nat) (ks : List CK) (g : CG) (hk : GA nb ad g ks) (u0 : RS) (a1 : Int32) (o1 : Nat) (fo : Nat → Int64) (xc : Int32) (sz : Nat) (hxc : xc = 1) (hF : C7_leavesIn g u0 a1 = some (.inl xc)) : vx_Met l yL_leavesIn (wsgH yL_leavesIn cL_leavesIn 4 (some .int) [(0, 9, 12, 22)]) ({ frames := 14, cells := 1, slots := 6, locals := 900 }) (va_Pc [.ref (ad .cl), .int a1, .ref o1] (fun U => U.heap.size = sz ∧ va_P (dC, dI) vwCl ([(o1, eL cy fo)] ++ WC cy ad ks g u0) U.heap ∧ va_K (dC, dI) vwCl (tyL cy) U ∧ va_D (fun _ => True) ([(o1, eL cy fo)] ++ WC cy ad ks g u0) ∧ GE nb (va_A ([(o1, eL cy fo)] ++ WC cy ad ks g u0) sz) U)) (va_Qi (fun (r : Int32) (_ : Unit) => r = 1) (fun _ t => va_P (dC, dI) vwCl ([(o1, eL cy fo)] ++ WC cy ad ks g u0) t.heap ∧ va_D (va_A ([(o1, eL cy fo)] ++ WC cy ad ks g u0) sz) ([(o1, eL cy fo)] ++ WC cy ad ks g u0)) (va_A ([(o1, eL cy fo)] ++ WC cy ad ks g u0) sz)) (vx_X (fun (_ : Unit) => False) (fun _ _ _ => True) (va_A ([(o1, eL cy fo)] ++ WC cy ad ks g u0) sz)) 1 6 (va_A ([(o1, eL cy fo)] ++ WC cy ad ks g u0) sz) := by
  refine vx_ofWH (cc := cL_leavesIn) (maxL := 4) (ret := (some .int)) (hh := [(0, 9, 12, 22)]) pn_L rfl ?_
  intro p e s m args below meth c s₁ B hml hv
  obtain ⟨rfl, hsz, hP, hK, hD0, hE⟩ := hv
  have hx := B.exec
  have hb := B.bytes
  have hr := B.returns
  have hts0 := atoms_spec (ws := (wsgH yL_leavesIn cL_leavesIn 4 (some .int) [(0, 9, 12, 22)])) B.pre
  have hts : ∀ w ∈ wsL_law, w.before _ s = true := fun w h => hts0 w (List.mem_cons_of_mem _ h)
  have hown : s.vm.findClass RL = some m.cls := by have h9 := findClass_of_methodNamed B.named; exact h9
  have hlocks := B.notSynchronized
  subst hsz
  have hD := hD0.self (sz := s.heap.size)
  generalize hAe : va_A ([(o1, eL cy fo)] ++ WC cy ad ks g u0) s.heap.size = A at hD hE ⊢
  have hA : ∀ q : Nat, s.heap.size ≤ q → A q := fun q h => by rw [← hAe]; exact Or.inr h
  have hS : va_S A s.heap s.heap [] := va_S.rf
  have hl := lv_entry ([.ref (ad .cl), .int a1, .ref o1]) (n := 4) (Nat.le_of_ble_eq_true rfl)
  rw [lg_entry_eq]
  generalize (lg_sl ([.ref (ad .cl), .int a1, .ref o1]) ++ List.replicate (4 - (lg_sl ([.ref (ad .cl), .int a1, .ref o1])).length) Slot.unset).toArray = ls at hl ⊢
  have hl : lv_has ls 4 [(0, .ref (ad .cl)), (1, .int a1), (2, .ref o1)] := hl
  generalize hHe : s.heap = H at hP hS ⊢
  have hS : va_S A s.heap H [] := by rw [hHe]; exact hS
  have htab := vx_table (x := yL_leavesIn) B (hts0 (.codeWith yL_leavesIn cL_leavesIn 4 (some .int) [(0, 9, 12, 22)]) List.mem_cons_self)
  refine lv_aload_n hx hb dL_leavesIn_0 rfl (lv_at hl 2 rfl) ?_
  refine lv_iconst (v := 0) hx hb dL_leavesIn_1 (by decide) ?_
  refine lv_aload_n hx hb dL_leavesIn_2 rfl (lv_at hl 0 rfl) ?_
  refine lv_iload_n hx hb dL_leavesIn_3 rfl (lv_at hl 1 rfl) ?_
  have hPc : va_P (dC, dI) vwCl (WC cy ad ks g u0) H := hP.part (X := [(o1, eL cy fo)]) (cx := []) [] rfl
  have hDc : va_D A (WC cy ad ks g u0) := hD.part (X := [(o1, eL cy fo)]) (cx := []) [] (by decide) rfl
  have hFc : ∀ q, va_A (WC cy ad ks g u0) H.size q → A q := va_freeP (X := [(o1, eL cy fo)]) (cx := []) hD hS hA [] rfl
  obtain ⟨q8, h8⟩ := wc_at (cy := cy) (ad := ad) (ks := ks) (g := g) (u := u0) (κ := .cl) hk.1 True.intro
  refine vx_calli (vx_runV (As := [.int a1]) (rest := [.int 0, .ref o1]) ⟨hx, hb, hml, hown, hts⟩ (c_X7_leavesIn_y l hst dC dI cy nb ad ks g hk u0 a1 xc H.size hF) (cwV 1 hts (gV mw_1293 mw_1294 mw_1295 mw_2 mw_1296) rfl rfl rfl (by decide +kernel) ⟨Nat.le_of_ble_eq_true rfl, Nat.le_of_ble_eq_true rfl⟩) (my_preV hPc hK hDc hE hS hFc (va_recv (q := (RX7, TX7, 12)) hK hPc (ci := 7) (q0 := q8) rfl h8)) rfl rfl hl.1 rfl (lv_room (Nat.le_of_ble_eq_true rfl)) dL_leavesIn_4 ⟨Nat.le_of_ble_eq_true rfl, Nat.le_of_ble_eq_true rfl⟩) hS (fun q _ h => hFc q h) hFc (fun q _ h => hFc q h) (fun E9 ce9 q9 u9 t9 H1 locs1 ht9 hvm9 hp9 hB9 hz9 hk9 hS9 hc9 hv9 hcl9 => ?_) (fun r9 u9 t9 H1 locs1 ht9 hvm9 hp9 _ _ _ _ => hp9.elim)
  clear h8
  obtain ⟨hB8, hP1⟩ := hB9
  rw [ht9] at hP1
  obtain ⟨hP, hD⟩ := va_joinP (X := [(o1, eL cy fo)]) (cx := []) (wr := [(o1, eL cy fo)]) (rx := []) (pl := WC cy ad ks g u0) (pl1 := WC cy ad ks g u0) hP hD [] [0] rfl rfl (by decide) (by decide) hk9 hFc hP1 hDc.self
  have hP : va_P (dC, dI) vwCl ([(o1, eL cy fo)] ++ WC cy ad ks g u0) H1 := hP
  have hD : va_D A ([(o1, eL cy fo)] ++ WC cy ad ks g u0) := hD
  obtain rfl : E9 = xI := hB8.trans (if_pos hxc)
  refine vx_catch (own := RL) (name := xI) hown (tableOf []) _ (tableOf []) (htab.trans rfl) (fun z hz => nomatch hz) (by decide) (by decide) (hts _ mw_612) (va_Nw.use rfl hE.cI) hc9 hv9 hcl9 ?_
  generalize H1 = H at hP hS9 ⊢
  refine W.widen (k := 1) (n := 6) (by omega) (by omega) ?_
  refine lv_astore_n (lv' := [(3, .ref q9), (0, .ref (ad .cl)), (1, .int a1), (2, .ref o1)]) hx hb dL_leavesIn_12 rfl hl (by decide) rfl (fun ls hl => ?_)
  refine lv_iconst (v := 1) hx hb dL_leavesIn_13 (by decide) ?_
  refine vx_ret ?_
  exact W.iret (v := 1) hx hb hr (fun t ht hW => ⟨⟨1, (), rfl, rfl, by rw [ht]; exact hP, hD⟩, hS9.F ht⟩) hS9.2.2 dL_leavesIn_14
set_option maxHeartbeats 4000000 in
set_option maxRecDepth 100000 in
theorem cn_lotIn (l : Launch) (hst : l.stackTraces = false) (dC : Nat → ClassId) (dI : Nat → Nat → Nat) (cy : Nat → ClassId) (nb : Nat → Nat) (ad : CK → Nat) (ks : List CK) (g : CG) (hk : GA nb ad g ks) (u0 : RS) (a1 : Int32) (o1 : Nat) (fo : Nat → Int64) (ro : Int32) (uz : RS) (sz : Nat) (hF : C7_lotIn g u0 a1 = some (.inr (ro, uz))) : vx_Met l yL_lotIn (wsgH yL_lotIn cL_lotIn 4 (some .int) [(0, 9, 12, 22)]) ({ frames := 14, cells := 0, slots := 0, locals := 900 }) (va_Pc [.ref (ad .cl), .int a1, .ref o1] (fun U => U.heap.size = sz ∧ va_P (dC, dI) vwCl ([(o1, eL cy fo)] ++ WC cy ad ks g u0) U.heap ∧ va_K (dC, dI) vwCl (tyL cy) U ∧ va_D (fun _ => True) ([(o1, eL cy fo)] ++ WC cy ad ks g u0) ∧ GE nb (va_A ([(o1, eL cy fo)] ++ WC cy ad ks g u0) sz) U)) (va_Qi (fun (r : Int32) (_ : Unit) => r = 0) (fun _ t => va_P (dC, dI) vwCl ([(o1, eL cy (vp_updL fo ((0 : Int32).toNatClampNeg) (ro.toInt64)))] ++ WC cy ad ks g uz) t.heap ∧ va_D (va_A ([(o1, eL cy fo)] ++ WC cy ad ks g u0) sz) ([(o1, eL cy (vp_updL fo ((0 : Int32).toNatClampNeg) (ro.toInt64)))] ++ WC cy ad ks g uz)) (va_A ([(o1, eL cy fo)] ++ WC cy ad ks g u0) sz)) (vx_X (fun (_ : Unit) => False) (fun _ _ _ => True) (va_A ([(o1, eL cy fo)] ++ WC cy ad ks g u0) sz)) 0 0 (va_A ([(o1, eL cy fo)] ++ WC cy ad ks g u0) sz) := by
  refine vx_ofWH (cc := cL_lotIn) (maxL := 4) (ret := (some .int)) (hh := [(0, 9, 12, 22)]) pn_L rfl ?_
  intro p e s m args below meth c s₁ B hml hv
  obtain ⟨rfl, hsz, hP, hK, hD0, hE⟩ := hv
  have hx := B.exec
  have hb := B.bytes
  have hr := B.returns
  have hts0 := atoms_spec (ws := (wsgH yL_lotIn cL_lotIn 4 (some .int) [(0, 9, 12, 22)])) B.pre
  have hts : ∀ w ∈ wsL_law, w.before _ s = true := fun w h => hts0 w (List.mem_cons_of_mem _ h)
  have hown : s.vm.findClass RL = some m.cls := by have h9 := findClass_of_methodNamed B.named; exact h9
  have hlocks := B.notSynchronized
  subst hsz
  have hD := hD0.self (sz := s.heap.size)
  generalize hAe : va_A ([(o1, eL cy fo)] ++ WC cy ad ks g u0) s.heap.size = A at hD hE ⊢
  have hA : ∀ q : Nat, s.heap.size ≤ q → A q := fun q h => by rw [← hAe]; exact Or.inr h
  have hS : va_S A s.heap s.heap [] := va_S.rf
  have hl := lv_entry ([.ref (ad .cl), .int a1, .ref o1]) (n := 4) (Nat.le_of_ble_eq_true rfl)
  rw [lg_entry_eq]
  generalize (lg_sl ([.ref (ad .cl), .int a1, .ref o1]) ++ List.replicate (4 - (lg_sl ([.ref (ad .cl), .int a1, .ref o1])).length) Slot.unset).toArray = ls at hl ⊢
  have hl : lv_has ls 4 [(0, .ref (ad .cl)), (1, .int a1), (2, .ref o1)] := hl
  generalize hHe : s.heap = H at hP hS ⊢
  have hS : va_S A s.heap H [] := by rw [hHe]; exact hS
  have htab := vx_table (x := yL_lotIn) B (hts0 (.codeWith yL_lotIn cL_lotIn 4 (some .int) [(0, 9, 12, 22)]) List.mem_cons_self)
  refine lv_aload_n hx hb dL_lotIn_0 rfl (lv_at hl 2 rfl) ?_
  refine lv_iconst (v := 0) hx hb dL_lotIn_1 (by decide) ?_
  refine lv_aload_n hx hb dL_lotIn_2 rfl (lv_at hl 0 rfl) ?_
  refine lv_iload_n hx hb dL_lotIn_3 rfl (lv_at hl 1 rfl) ?_
  have hPc : va_P (dC, dI) vwCl (WC cy ad ks g u0) H := hP.part (X := [(o1, eL cy fo)]) (cx := []) [] rfl
  have hDc : va_D A (WC cy ad ks g u0) := hD.part (X := [(o1, eL cy fo)]) (cx := []) [] (by decide) rfl
  have hFc : ∀ q, va_A (WC cy ad ks g u0) H.size q → A q := va_freeP (X := [(o1, eL cy fo)]) (cx := []) hD hS hA [] rfl
  obtain ⟨q8, h8⟩ := wc_at (cy := cy) (ad := ad) (ks := ks) (g := g) (u := u0) (κ := .cl) hk.1 True.intro
  refine va_calli (va_runV (As := [.int a1]) (rest := [.int 0, .ref o1]) ⟨hx, hb, hml, hown, hts⟩ (c_X7_lotIn l dC dI cy nb ad ks g hk u0 a1 ro uz H.size hF) (cwV 1 hts (gV mw_1345 mw_1346 mw_1347 mw_2 mw_1348) rfl rfl rfl (by decide +kernel) ⟨Nat.le_of_ble_eq_true rfl, Nat.le_of_ble_eq_true rfl⟩) (my_preV hPc hK hDc hE hS hFc (va_recv (q := (RX7, TX7, 12)) hK hPc (ci := 7) (q0 := q8) rfl h8)) rfl rfl hl.1 rfl (lv_room (Nat.le_of_ble_eq_true rfl)) dL_lotIn_4 ⟨Nat.le_of_ble_eq_true rfl, Nat.le_of_ble_eq_true rfl⟩) hS (fun q _ h => hFc q h) hFc (fun r u t H1 locs ht hvm hw hB hz1 hk1 hS => ?_)
  clear h8
  obtain ⟨hP1, hD1⟩ := hB
  rw [ht] at hP1
  obtain ⟨hP, hD⟩ := va_joinP (X := [(o1, eL cy fo)]) (cx := []) (wr := [(o1, eL cy fo)]) (rx := []) (pl := WC cy ad ks g u0) (pl1 := WC cy ad ks g uz) hP hD [] [0] rfl rfl (by decide) (by decide) hk1 hFc hP1 hD1
  generalize H1 = H at hP hS ⊢
  have hP : va_P (dC, dI) vwCl ([(o1, eL cy fo)] ++ WC cy ad ks g uz) H := hP
  have hD : va_D A ([(o1, eL cy fo)] ++ WC cy ad ks g uz) := hD
  refine my_topi hw ?_
  refine W.widen (k := 0) (n := 0) (by omega) (by omega) ?_
  refine lv_i2l (v := ro.toInt64) hx hb dL_lotIn_7 rfl ?_
  refine va_last hx hb hK hP hD hS 0 3 rfl rfl (vp_in_nI (n := 0) (by decide) (by decide)) dL_lotIn_8 (fun H locs hP hD hS => ?_)
  have hP : va_P (dC, dI) vwCl ([(o1, eL cy (vp_updL fo ((0 : Int32).toNatClampNeg) (ro.toInt64)))] ++ WC cy ad ks g uz) H := hP
  have hD : va_D A ([(o1, eL cy (vp_updL fo ((0 : Int32).toNatClampNeg) (ro.toInt64)))] ++ WC cy ad ks g uz) := hD
  refine lv_goto (tgt := 15) hx hb dL_lotIn_9 (by decide) ?_
  refine lv_iconst (v := 0) hx hb dL_lotIn_15 (by decide) ?_
  refine vx_ret ?_
  exact W.iret (v := 0) hx hb hr (fun t ht hW => ⟨⟨0, (), rfl, rfl, by rw [ht]; exact hP, hD⟩, hS.F ht⟩) hS.2.2 dL_lotIn_16
set_option maxHeartbeats 4000000 in
set_option maxRecDepth 100000 in
theorem ct_lotIn (l : Launch) (hst : l.stackTraces = false) (dC : Nat → ClassId) (dI : Nat → Nat → Nat) (cy : Nat → ClassId) (nb : Nat → Nat) (ad : CK → Nat) (ks : List CK) (g : CG) (hk : GA nb ad g ks) (u0 : RS) (a1 : Int32) (o1 : Nat) (fo : Nat → Int64) (xc : Int32) (sz : Nat) (hxc : xc = 1) (hF : C7_lotIn g u0 a1 = some (.inl xc)) : vx_Met l yL_lotIn (wsgH yL_lotIn cL_lotIn 4 (some .int) [(0, 9, 12, 22)]) ({ frames := 14, cells := 1, slots := 6, locals := 900 }) (va_Pc [.ref (ad .cl), .int a1, .ref o1] (fun U => U.heap.size = sz ∧ va_P (dC, dI) vwCl ([(o1, eL cy fo)] ++ WC cy ad ks g u0) U.heap ∧ va_K (dC, dI) vwCl (tyL cy) U ∧ va_D (fun _ => True) ([(o1, eL cy fo)] ++ WC cy ad ks g u0) ∧ GE nb (va_A ([(o1, eL cy fo)] ++ WC cy ad ks g u0) sz) U)) (va_Qi (fun (r : Int32) (_ : Unit) => r = 1) (fun _ t => va_P (dC, dI) vwCl ([(o1, eL cy fo)] ++ WC cy ad ks g u0) t.heap ∧ va_D (va_A ([(o1, eL cy fo)] ++ WC cy ad ks g u0) sz) ([(o1, eL cy fo)] ++ WC cy ad ks g u0)) (va_A ([(o1, eL cy fo)] ++ WC cy ad ks g u0) sz)) (vx_X (fun (_ : Unit) => False) (fun _ _ _ => True) (va_A ([(o1, eL cy fo)] ++ WC cy ad ks g u0) sz)) 1 6 (va_A ([(o1, eL cy fo)] ++ WC cy ad ks g u0) sz) := by
  refine vx_ofWH (cc := cL_lotIn) (maxL := 4) (ret := (some .int)) (hh := [(0, 9, 12, 22)]) pn_L rfl ?_
  intro p e s m args below meth c s₁ B hml hv
  obtain ⟨rfl, hsz, hP, hK, hD0, hE⟩ := hv
  have hx := B.exec
  have hb := B.bytes
  have hr := B.returns
  have hts0 := atoms_spec (ws := (wsgH yL_lotIn cL_lotIn 4 (some .int) [(0, 9, 12, 22)])) B.pre
  have hts : ∀ w ∈ wsL_law, w.before _ s = true := fun w h => hts0 w (List.mem_cons_of_mem _ h)
  have hown : s.vm.findClass RL = some m.cls := by have h9 := findClass_of_methodNamed B.named; exact h9
  have hlocks := B.notSynchronized
  subst hsz
  have hD := hD0.self (sz := s.heap.size)
  generalize hAe : va_A ([(o1, eL cy fo)] ++ WC cy ad ks g u0) s.heap.size = A at hD hE ⊢
  have hA : ∀ q : Nat, s.heap.size ≤ q → A q := fun q h => by rw [← hAe]; exact Or.inr h
  have hS : va_S A s.heap s.heap [] := va_S.rf
  have hl := lv_entry ([.ref (ad .cl), .int a1, .ref o1]) (n := 4) (Nat.le_of_ble_eq_true rfl)
  rw [lg_entry_eq]
  generalize (lg_sl ([.ref (ad .cl), .int a1, .ref o1]) ++ List.replicate (4 - (lg_sl ([.ref (ad .cl), .int a1, .ref o1])).length) Slot.unset).toArray = ls at hl ⊢
  have hl : lv_has ls 4 [(0, .ref (ad .cl)), (1, .int a1), (2, .ref o1)] := hl
  generalize hHe : s.heap = H at hP hS ⊢
  have hS : va_S A s.heap H [] := by rw [hHe]; exact hS
  have htab := vx_table (x := yL_lotIn) B (hts0 (.codeWith yL_lotIn cL_lotIn 4 (some .int) [(0, 9, 12, 22)]) List.mem_cons_self)
  refine lv_aload_n hx hb dL_lotIn_0 rfl (lv_at hl 2 rfl) ?_
  refine lv_iconst (v := 0) hx hb dL_lotIn_1 (by decide) ?_
  refine lv_aload_n hx hb dL_lotIn_2 rfl (lv_at hl 0 rfl) ?_
  refine lv_iload_n hx hb dL_lotIn_3 rfl (lv_at hl 1 rfl) ?_
  have hPc : va_P (dC, dI) vwCl (WC cy ad ks g u0) H := hP.part (X := [(o1, eL cy fo)]) (cx := []) [] rfl
  have hDc : va_D A (WC cy ad ks g u0) := hD.part (X := [(o1, eL cy fo)]) (cx := []) [] (by decide) rfl
  have hFc : ∀ q, va_A (WC cy ad ks g u0) H.size q → A q := va_freeP (X := [(o1, eL cy fo)]) (cx := []) hD hS hA [] rfl
  obtain ⟨q8, h8⟩ := wc_at (cy := cy) (ad := ad) (ks := ks) (g := g) (u := u0) (κ := .cl) hk.1 True.intro
  refine vx_calli (vx_runV (As := [.int a1]) (rest := [.int 0, .ref o1]) ⟨hx, hb, hml, hown, hts⟩ (c_X7_lotIn_y l hst dC dI cy nb ad ks g hk u0 a1 xc H.size hF) (cwV 1 hts (gV mw_1345 mw_1346 mw_1347 mw_2 mw_1348) rfl rfl rfl (by decide +kernel) ⟨Nat.le_of_ble_eq_true rfl, Nat.le_of_ble_eq_true rfl⟩) (my_preV hPc hK hDc hE hS hFc (va_recv (q := (RX7, TX7, 12)) hK hPc (ci := 7) (q0 := q8) rfl h8)) rfl rfl hl.1 rfl (lv_room (Nat.le_of_ble_eq_true rfl)) dL_lotIn_4 ⟨Nat.le_of_ble_eq_true rfl, Nat.le_of_ble_eq_true rfl⟩) hS (fun q _ h => hFc q h) hFc (fun q _ h => hFc q h) (fun E9 ce9 q9 u9 t9 H1 locs1 ht9 hvm9 hp9 hB9 hz9 hk9 hS9 hc9 hv9 hcl9 => ?_) (fun r9 u9 t9 H1 locs1 ht9 hvm9 hp9 _ _ _ _ => hp9.elim)
  clear h8
  obtain ⟨hB8, hP1⟩ := hB9
  rw [ht9] at hP1
  obtain ⟨hP, hD⟩ := va_joinP (X := [(o1, eL cy fo)]) (cx := []) (wr := [(o1, eL cy fo)]) (rx := []) (pl := WC cy ad ks g u0) (pl1 := WC cy ad ks g u0) hP hD [] [0] rfl rfl (by decide) (by decide) hk9 hFc hP1 hDc.self
  have hP : va_P (dC, dI) vwCl ([(o1, eL cy fo)] ++ WC cy ad ks g u0) H1 := hP
  have hD : va_D A ([(o1, eL cy fo)] ++ WC cy ad ks g u0) := hD
  obtain rfl : E9 = xI := hB8.trans (if_pos hxc)
  refine vx_catch (own := RL) (name := xI) hown (tableOf []) _ (tableOf []) (htab.trans rfl) (fun z hz => nomatch hz) (by decide) (by decide) (hts _ mw_612) (va_Nw.use rfl hE.cI) hc9 hv9 hcl9 ?_
  generalize H1 = H at hP hS9 ⊢
  refine W.widen (k := 1) (n := 6) (by omega) (by omega) ?_
  refine lv_astore_n (lv' := [(3, .ref q9), (0, .ref (ad .cl)), (1, .int a1), (2, .ref o1)]) hx hb dL_lotIn_12 rfl hl (by decide) rfl (fun ls hl => ?_)
  refine lv_iconst (v := 1) hx hb dL_lotIn_13 (by decide) ?_
  refine vx_ret ?_
  exact W.iret (v := 1) hx hb hr (fun t ht hW => ⟨⟨1, (), rfl, rfl, by rw [ht]; exact hP, hD⟩, hS9.F ht⟩) hS9.2.2 dL_lotIn_14
set_option maxHeartbeats 4000000 in
set_option maxRecDepth 100000 in
theorem cn_leftIn (l : Launch) (hst : l.stackTraces = false) (dC : Nat → ClassId) (dI : Nat → Nat → Nat) (cy : Nat → ClassId) (nb : Nat → Nat) (ad : CK → Nat) (ks : List CK) (g : CG) (hk : GA nb ad g ks) (u0 : RS) (a1 : Int32) (o1 : Nat) (fo : Nat → Int64) (ro : Int32) (uz : RS) (sz : Nat) (hF : C7_leftIn g u0 a1 = some (.inr (ro, uz))) : vx_Met l yL_leftIn (wsgH yL_leftIn cL_leftIn 4 (some .int) [(0, 9, 12, 13)]) ({ frames := 14, cells := 0, slots := 0, locals := 900 }) (va_Pc [.ref (ad .cl), .int a1, .ref o1] (fun U => U.heap.size = sz ∧ va_P (dC, dI) vwCl ([(o1, eL cy fo)] ++ WC cy ad ks g u0) U.heap ∧ va_K (dC, dI) vwCl (tyL cy) U ∧ va_D (fun _ => True) ([(o1, eL cy fo)] ++ WC cy ad ks g u0) ∧ GE nb (va_A ([(o1, eL cy fo)] ++ WC cy ad ks g u0) sz) U)) (va_Qi (fun (r : Int32) (_ : Unit) => r = 0) (fun _ t => va_P (dC, dI) vwCl ([(o1, eL cy (vp_updL fo ((0 : Int32).toNatClampNeg) (ro.toInt64)))] ++ WC cy ad ks g uz) t.heap ∧ va_D (va_A ([(o1, eL cy fo)] ++ WC cy ad ks g u0) sz) ([(o1, eL cy (vp_updL fo ((0 : Int32).toNatClampNeg) (ro.toInt64)))] ++ WC cy ad ks g uz)) (va_A ([(o1, eL cy fo)] ++ WC cy ad ks g u0) sz)) (vx_X (fun (_ : Unit) => False) (fun _ _ _ => True) (va_A ([(o1, eL cy fo)] ++ WC cy ad ks g u0) sz)) 0 0 (va_A ([(o1, eL cy fo)] ++ WC cy ad ks g u0) sz) := by
  refine vx_ofWH (cc := cL_leftIn) (maxL := 4) (ret := (some .int)) (hh := [(0, 9, 12, 13)]) pn_L rfl ?_
  intro p e s m args below meth c s₁ B hml hv
  obtain ⟨rfl, hsz, hP, hK, hD0, hE⟩ := hv
  have hx := B.exec
  have hb := B.bytes
  have hr := B.returns
  have hts0 := atoms_spec (ws := (wsgH yL_leftIn cL_leftIn 4 (some .int) [(0, 9, 12, 13)])) B.pre
  have hts : ∀ w ∈ wsL_law, w.before _ s = true := fun w h => hts0 w (List.mem_cons_of_mem _ h)
  have hown : s.vm.findClass RL = some m.cls := by have h9 := findClass_of_methodNamed B.named; exact h9
  have hlocks := B.notSynchronized
  subst hsz
  have hD := hD0.self (sz := s.heap.size)
  generalize hAe : va_A ([(o1, eL cy fo)] ++ WC cy ad ks g u0) s.heap.size = A at hD hE ⊢
  have hA : ∀ q : Nat, s.heap.size ≤ q → A q := fun q h => by rw [← hAe]; exact Or.inr h
  have hS : va_S A s.heap s.heap [] := va_S.rf
  have hl := lv_entry ([.ref (ad .cl), .int a1, .ref o1]) (n := 4) (Nat.le_of_ble_eq_true rfl)
  rw [lg_entry_eq]
  generalize (lg_sl ([.ref (ad .cl), .int a1, .ref o1]) ++ List.replicate (4 - (lg_sl ([.ref (ad .cl), .int a1, .ref o1])).length) Slot.unset).toArray = ls at hl ⊢
  have hl : lv_has ls 4 [(0, .ref (ad .cl)), (1, .int a1), (2, .ref o1)] := hl
  generalize hHe : s.heap = H at hP hS ⊢
  have hS : va_S A s.heap H [] := by rw [hHe]; exact hS
  have htab := vx_table (x := yL_leftIn) B (hts0 (.codeWith yL_leftIn cL_leftIn 4 (some .int) [(0, 9, 12, 13)]) List.mem_cons_self)
  refine lv_aload_n hx hb dL_leftIn_0 rfl (lv_at hl 2 rfl) ?_
  refine lv_iconst (v := 0) hx hb dL_leftIn_1 (by decide) ?_
  refine lv_aload_n hx hb dL_leftIn_2 rfl (lv_at hl 0 rfl) ?_
  refine lv_iload_n hx hb dL_leftIn_3 rfl (lv_at hl 1 rfl) ?_
  have hPc : va_P (dC, dI) vwCl (WC cy ad ks g u0) H := hP.part (X := [(o1, eL cy fo)]) (cx := []) [] rfl
  have hDc : va_D A (WC cy ad ks g u0) := hD.part (X := [(o1, eL cy fo)]) (cx := []) [] (by decide) rfl
  have hFc : ∀ q, va_A (WC cy ad ks g u0) H.size q → A q := va_freeP (X := [(o1, eL cy fo)]) (cx := []) hD hS hA [] rfl
  obtain ⟨q8, h8⟩ := wc_at (cy := cy) (ad := ad) (ks := ks) (g := g) (u := u0) (κ := .cl) hk.1 True.intro
  refine va_calli (va_runV (As := [.int a1]) (rest := [.int 0, .ref o1]) ⟨hx, hb, hml, hown, hts⟩ (c_X7_leftIn l dC dI cy nb ad ks g hk u0 a1 ro uz H.size hF) (cwV 1 hts (gV mw_1366 mw_1367 mw_1368 mw_2 mw_1369) rfl rfl rfl (by decide +kernel) ⟨Nat.le_of_ble_eq_true rfl, Nat.le_of_ble_eq_true rfl⟩) (my_preV hPc hK hDc hE hS hFc (va_recv (q := (RX7, TX7, 12)) hK hPc (ci := 7) (q0 := q8) rfl h8)) rfl rfl hl.1 rfl (lv_room (Nat.le_of_ble_eq_true rfl)) dL_leftIn_4 ⟨Nat.le_of_ble_eq_true rfl, Nat.le_of_ble_eq_true rfl⟩) hS (fun q _ h => hFc q h) hFc (fun r u t H1 locs ht hvm hw hB hz1 hk1 hS => ?_)
  clear h8
  obtain ⟨hP1, hD1⟩ := hB
  rw [ht] at hP1
  obtain ⟨hP, hD⟩ := va_joinP (X := [(o1, eL cy fo)]) (cx := []) (wr := [(o1, eL cy fo)]) (rx := []) (pl := WC cy ad ks g u0) (pl1 := WC cy ad ks g uz) hP hD [] [0] rfl rfl (by decide) (by decide) hk1 hFc hP1 hD1
  generalize H1 = H at hP hS ⊢
  have hP : va_P (dC, dI) vwCl ([(o1, eL cy fo)] ++ WC cy ad ks g uz) H := hP
  have hD : va_D A ([(o1, eL cy fo)] ++ WC cy ad ks g uz) := hD
  refine my_topi hw ?_
  refine W.widen (k := 0) (n := 0) (by omega) (by omega) ?_
  refine lv_i2l (v := ro.toInt64) hx hb dL_leftIn_7 rfl ?_
  refine va_last hx hb hK hP hD hS 0 3 rfl rfl (vp_in_nI (n := 0) (by decide) (by decide)) dL_leftIn_8 (fun H locs hP hD hS => ?_)
  have hP : va_P (dC, dI) vwCl ([(o1, eL cy (vp_updL fo ((0 : Int32).toNatClampNeg) (ro.toInt64)))] ++ WC cy ad ks g uz) H := hP
  have hD : va_D A ([(o1, eL cy (vp_updL fo ((0 : Int32).toNatClampNeg) (ro.toInt64)))] ++ WC cy ad ks g uz) := hD
  refine lv_goto (tgt := 15) hx hb dL_leftIn_9 (by decide) ?_
  refine lv_iconst (v := 0) hx hb dL_leftIn_15 (by decide) ?_
  refine vx_ret ?_
  exact W.iret (v := 0) hx hb hr (fun t ht hW => ⟨⟨0, (), rfl, rfl, by rw [ht]; exact hP, hD⟩, hS.F ht⟩) hS.2.2 dL_leftIn_16
set_option maxHeartbeats 4000000 in
set_option maxRecDepth 100000 in
theorem ct_leftIn (l : Launch) (hst : l.stackTraces = false) (dC : Nat → ClassId) (dI : Nat → Nat → Nat) (cy : Nat → ClassId) (nb : Nat → Nat) (ad : CK → Nat) (ks : List CK) (g : CG) (hk : GA nb ad g ks) (u0 : RS) (a1 : Int32) (o1 : Nat) (fo : Nat → Int64) (xc : Int32) (sz : Nat) (hxc : ¬ xc = 1) (hF : C7_leftIn g u0 a1 = some (.inl xc)) : vx_Met l yL_leftIn (wsgH yL_leftIn cL_leftIn 4 (some .int) [(0, 9, 12, 13)]) ({ frames := 14, cells := 1, slots := 6, locals := 900 }) (va_Pc [.ref (ad .cl), .int a1, .ref o1] (fun U => U.heap.size = sz ∧ va_P (dC, dI) vwCl ([(o1, eL cy fo)] ++ WC cy ad ks g u0) U.heap ∧ va_K (dC, dI) vwCl (tyL cy) U ∧ va_D (fun _ => True) ([(o1, eL cy fo)] ++ WC cy ad ks g u0) ∧ GE nb (va_A ([(o1, eL cy fo)] ++ WC cy ad ks g u0) sz) U)) (va_Qi (fun (r : Int32) (_ : Unit) => r = 1) (fun _ t => va_P (dC, dI) vwCl ([(o1, eL cy fo)] ++ WC cy ad ks g u0) t.heap ∧ va_D (va_A ([(o1, eL cy fo)] ++ WC cy ad ks g u0) sz) ([(o1, eL cy fo)] ++ WC cy ad ks g u0)) (va_A ([(o1, eL cy fo)] ++ WC cy ad ks g u0) sz)) (vx_X (fun (_ : Unit) => False) (fun _ _ _ => True) (va_A ([(o1, eL cy fo)] ++ WC cy ad ks g u0) sz)) 1 6 (va_A ([(o1, eL cy fo)] ++ WC cy ad ks g u0) sz) := by
  refine vx_ofWH (cc := cL_leftIn) (maxL := 4) (ret := (some .int)) (hh := [(0, 9, 12, 13)]) pn_L rfl ?_
  intro p e s m args below meth c s₁ B hml hv
  obtain ⟨rfl, hsz, hP, hK, hD0, hE⟩ := hv
  have hx := B.exec
  have hb := B.bytes
  have hr := B.returns
  have hts0 := atoms_spec (ws := (wsgH yL_leftIn cL_leftIn 4 (some .int) [(0, 9, 12, 13)])) B.pre
  have hts : ∀ w ∈ wsL_law, w.before _ s = true := fun w h => hts0 w (List.mem_cons_of_mem _ h)
  have hown : s.vm.findClass RL = some m.cls := by have h9 := findClass_of_methodNamed B.named; exact h9
  have hlocks := B.notSynchronized
  subst hsz
  have hD := hD0.self (sz := s.heap.size)
  generalize hAe : va_A ([(o1, eL cy fo)] ++ WC cy ad ks g u0) s.heap.size = A at hD hE ⊢
  have hA : ∀ q : Nat, s.heap.size ≤ q → A q := fun q h => by rw [← hAe]; exact Or.inr h
  have hS : va_S A s.heap s.heap [] := va_S.rf
  have hl := lv_entry ([.ref (ad .cl), .int a1, .ref o1]) (n := 4) (Nat.le_of_ble_eq_true rfl)
  rw [lg_entry_eq]
  generalize (lg_sl ([.ref (ad .cl), .int a1, .ref o1]) ++ List.replicate (4 - (lg_sl ([.ref (ad .cl), .int a1, .ref o1])).length) Slot.unset).toArray = ls at hl ⊢
  have hl : lv_has ls 4 [(0, .ref (ad .cl)), (1, .int a1), (2, .ref o1)] := hl
  generalize hHe : s.heap = H at hP hS ⊢
  have hS : va_S A s.heap H [] := by rw [hHe]; exact hS
  have htab := vx_table (x := yL_leftIn) B (hts0 (.codeWith yL_leftIn cL_leftIn 4 (some .int) [(0, 9, 12, 13)]) List.mem_cons_self)
  refine lv_aload_n hx hb dL_leftIn_0 rfl (lv_at hl 2 rfl) ?_
  refine lv_iconst (v := 0) hx hb dL_leftIn_1 (by decide) ?_
  refine lv_aload_n hx hb dL_leftIn_2 rfl (lv_at hl 0 rfl) ?_
  refine lv_iload_n hx hb dL_leftIn_3 rfl (lv_at hl 1 rfl) ?_
  have hPc : va_P (dC, dI) vwCl (WC cy ad ks g u0) H := hP.part (X := [(o1, eL cy fo)]) (cx := []) [] rfl
  have hDc : va_D A (WC cy ad ks g u0) := hD.part (X := [(o1, eL cy fo)]) (cx := []) [] (by decide) rfl
  have hFc : ∀ q, va_A (WC cy ad ks g u0) H.size q → A q := va_freeP (X := [(o1, eL cy fo)]) (cx := []) hD hS hA [] rfl
  obtain ⟨q8, h8⟩ := wc_at (cy := cy) (ad := ad) (ks := ks) (g := g) (u := u0) (κ := .cl) hk.1 True.intro
  refine vx_calli (vx_runV (As := [.int a1]) (rest := [.int 0, .ref o1]) ⟨hx, hb, hml, hown, hts⟩ (c_X7_leftIn_y l hst dC dI cy nb ad ks g hk u0 a1 xc H.size hF) (cwV 1 hts (gV mw_1366 mw_1367 mw_1368 mw_2 mw_1369) rfl rfl rfl (by decide +kernel) ⟨Nat.le_of_ble_eq_true rfl, Nat.le_of_ble_eq_true rfl⟩) (my_preV hPc hK hDc hE hS hFc (va_recv (q := (RX7, TX7, 12)) hK hPc (ci := 7) (q0 := q8) rfl h8)) rfl rfl hl.1 rfl (lv_room (Nat.le_of_ble_eq_true rfl)) dL_leftIn_4 ⟨Nat.le_of_ble_eq_true rfl, Nat.le_of_ble_eq_true rfl⟩) hS (fun q _ h => hFc q h) hFc (fun q _ h => hFc q h) (fun E9 ce9 q9 u9 t9 H1 locs1 ht9 hvm9 hp9 hB9 hz9 hk9 hS9 hc9 hv9 hcl9 => ?_) (fun r9 u9 t9 H1 locs1 ht9 hvm9 hp9 _ _ _ _ => hp9.elim)
  clear h8
  obtain ⟨hB8, hP1⟩ := hB9
  rw [ht9] at hP1
  obtain ⟨hP, hD⟩ := va_joinP (X := [(o1, eL cy fo)]) (cx := []) (wr := [(o1, eL cy fo)]) (rx := []) (pl := WC cy ad ks g u0) (pl1 := WC cy ad ks g u0) hP hD [] [0] rfl rfl (by decide) (by decide) hk9 hFc hP1 hDc.self
  have hP : va_P (dC, dI) vwCl ([(o1, eL cy fo)] ++ WC cy ad ks g u0) H1 := hP
  have hD : va_D A ([(o1, eL cy fo)] ++ WC cy ad ks g u0) := hD
  obtain rfl : E9 = xA := hB8.trans (if_neg hxc)
  refine vx_catch (own := RL) (name := xA) hown (tableOf []) _ (tableOf []) (htab.trans rfl) (fun z hz => nomatch hz) (by decide) (by decide) (hts _ mw_564) (va_Nw.use rfl hE.cA) hc9 hv9 hcl9 ?_
  generalize H1 = H at hP hS9 ⊢
  refine W.widen (k := 1) (n := 6) (by omega) (by omega) ?_
  refine lv_astore_n (lv' := [(3, .ref q9), (0, .ref (ad .cl)), (1, .int a1), (2, .ref o1)]) hx hb dL_leftIn_12 rfl hl (by decide) rfl (fun ls hl => ?_)
  refine lv_iconst (v := 1) hx hb dL_leftIn_13 (by decide) ?_
  refine vx_ret ?_
  exact W.iret (v := 1) hx hb hr (fun t ht hW => ⟨⟨1, (), rfl, rfl, by rw [ht]; exact hP, hD⟩, hS9.F ht⟩) hS9.2.2 dL_leftIn_14
set_option maxHeartbeats 4000000 in
set_option maxRecDepth 100000 in
theorem cn_failIn (l : Launch) (hst : l.stackTraces = false) (dC : Nat → ClassId) (dI : Nat → Nat → Nat) (cy : Nat → ClassId) (nb : Nat → Nat) (ad : CK → Nat) (ks : List CK) (g : CG) (hk : GA nb ad g ks) (u0 : RS) (a1 : Int32) (o1 : Nat) (fo : Nat → Int64) (ro : Int32) (uz : RS) (sz : Nat) (hF : C7_failIn g u0 a1 = some (.inr (ro, uz))) : vx_Met l yL_failIn (wsgH yL_failIn cL_failIn 4 (some .int) [(0, 9, 12, 22)]) ({ frames := 14, cells := 0, slots := 0, locals := 900 }) (va_Pc [.ref (ad .cl), .int a1, .ref o1] (fun U => U.heap.size = sz ∧ va_P (dC, dI) vwCl ([(o1, eL cy fo)] ++ WC cy ad ks g u0) U.heap ∧ va_K (dC, dI) vwCl (tyL cy) U ∧ va_D (fun _ => True) ([(o1, eL cy fo)] ++ WC cy ad ks g u0) ∧ GE nb (va_A ([(o1, eL cy fo)] ++ WC cy ad ks g u0) sz) U)) (va_Qi (fun (r : Int32) (_ : Unit) => r = 0) (fun _ t => va_P (dC, dI) vwCl ([(o1, eL cy (vp_updL fo ((0 : Int32).toNatClampNeg) (ro.toInt64)))] ++ WC cy ad ks g uz) t.heap ∧ va_D (va_A ([(o1, eL cy fo)] ++ WC cy ad ks g u0) sz) ([(o1, eL cy (vp_updL fo ((0 : Int32).toNatClampNeg) (ro.toInt64)))] ++ WC cy ad ks g uz)) (va_A ([(o1, eL cy fo)] ++ WC cy ad ks g u0) sz)) (vx_X (fun (_ : Unit) => False) (fun _ _ _ => True) (va_A ([(o1, eL cy fo)] ++ WC cy ad ks g u0) sz)) 0 0 (va_A ([(o1, eL cy fo)] ++ WC cy ad ks g u0) sz) := by
  refine vx_ofWH (cc := cL_failIn) (maxL := 4) (ret := (some .int)) (hh := [(0, 9, 12, 22)]) pn_L rfl ?_
  intro p e s m args below meth c s₁ B hml hv
  obtain ⟨rfl, hsz, hP, hK, hD0, hE⟩ := hv
  have hx := B.exec
  have hb := B.bytes
  have hr := B.returns
  have hts0 := atoms_spec (ws := (wsgH yL_failIn cL_failIn 4 (some .int) [(0, 9, 12, 22)])) B.pre
  have hts : ∀ w ∈ wsL_law, w.before _ s = true := fun w h => hts0 w (List.mem_cons_of_mem _ h)
  have hown : s.vm.findClass RL = some m.cls := by have h9 := findClass_of_methodNamed B.named; exact h9
  have hlocks := B.notSynchronized
  subst hsz
  have hD := hD0.self (sz := s.heap.size)
  generalize hAe : va_A ([(o1, eL cy fo)] ++ WC cy ad ks g u0) s.heap.size = A at hD hE ⊢
  have hA : ∀ q : Nat, s.heap.size ≤ q → A q := fun q h => by rw [← hAe]; exact Or.inr h
  have hS : va_S A s.heap s.heap [] := va_S.rf
  have hl := lv_entry ([.ref (ad .cl), .int a1, .ref o1]) (n := 4) (Nat.le_of_ble_eq_true rfl)
  rw [lg_entry_eq]
  generalize (lg_sl ([.ref (ad .cl), .int a1, .ref o1]) ++ List.replicate (4 - (lg_sl ([.ref (ad .cl), .int a1, .ref o1])).length) Slot.unset).toArray = ls at hl ⊢
  have hl : lv_has ls 4 [(0, .ref (ad .cl)), (1, .int a1), (2, .ref o1)] := hl
  generalize hHe : s.heap = H at hP hS ⊢
  have hS : va_S A s.heap H [] := by rw [hHe]; exact hS
  have htab := vx_table (x := yL_failIn) B (hts0 (.codeWith yL_failIn cL_failIn 4 (some .int) [(0, 9, 12, 22)]) List.mem_cons_self)
  refine lv_aload_n hx hb dL_failIn_0 rfl (lv_at hl 2 rfl) ?_
  refine lv_iconst (v := 0) hx hb dL_failIn_1 (by decide) ?_
  refine lv_aload_n hx hb dL_failIn_2 rfl (lv_at hl 0 rfl) ?_
  refine lv_iload_n hx hb dL_failIn_3 rfl (lv_at hl 1 rfl) ?_
  have hPc : va_P (dC, dI) vwCl (WC cy ad ks g u0) H := hP.part (X := [(o1, eL cy fo)]) (cx := []) [] rfl
  have hDc : va_D A (WC cy ad ks g u0) := hD.part (X := [(o1, eL cy fo)]) (cx := []) [] (by decide) rfl
  have hFc : ∀ q, va_A (WC cy ad ks g u0) H.size q → A q := va_freeP (X := [(o1, eL cy fo)]) (cx := []) hD hS hA [] rfl
  obtain ⟨q8, h8⟩ := wc_at (cy := cy) (ad := ad) (ks := ks) (g := g) (u := u0) (κ := .cl) hk.1 True.intro
  refine va_calli (va_runV (As := [.int a1]) (rest := [.int 0, .ref o1]) ⟨hx, hb, hml, hown, hts⟩ (c_X7_failIn l dC dI cy nb ad ks g hk u0 a1 ro uz H.size hF) (cwV 1 hts (gV mw_1385 mw_1386 mw_1387 mw_2 mw_1388) rfl rfl rfl (by decide +kernel) ⟨Nat.le_of_ble_eq_true rfl, Nat.le_of_ble_eq_true rfl⟩) (my_preV hPc hK hDc hE hS hFc (va_recv (q := (RX7, TX7, 12)) hK hPc (ci := 7) (q0 := q8) rfl h8)) rfl rfl hl.1 rfl (lv_room (Nat.le_of_ble_eq_true rfl)) dL_failIn_4 ⟨Nat.le_of_ble_eq_true rfl, Nat.le_of_ble_eq_true rfl⟩) hS (fun q _ h => hFc q h) hFc (fun r u t H1 locs ht hvm hw hB hz1 hk1 hS => ?_)
  clear h8
  obtain ⟨hP1, hD1⟩ := hB
  rw [ht] at hP1
  obtain ⟨hP, hD⟩ := va_joinP (X := [(o1, eL cy fo)]) (cx := []) (wr := [(o1, eL cy fo)]) (rx := []) (pl := WC cy ad ks g u0) (pl1 := WC cy ad ks g uz) hP hD [] [0] rfl rfl (by decide) (by decide) hk1 hFc hP1 hD1
  generalize H1 = H at hP hS ⊢
  have hP : va_P (dC, dI) vwCl ([(o1, eL cy fo)] ++ WC cy ad ks g uz) H := hP
  have hD : va_D A ([(o1, eL cy fo)] ++ WC cy ad ks g uz) := hD
  refine my_topi hw ?_
  refine W.widen (k := 0) (n := 0) (by omega) (by omega) ?_
  refine lv_i2l (v := ro.toInt64) hx hb dL_failIn_7 rfl ?_
  refine va_last hx hb hK hP hD hS 0 3 rfl rfl (vp_in_nI (n := 0) (by decide) (by decide)) dL_failIn_8 (fun H locs hP hD hS => ?_)
  have hP : va_P (dC, dI) vwCl ([(o1, eL cy (vp_updL fo ((0 : Int32).toNatClampNeg) (ro.toInt64)))] ++ WC cy ad ks g uz) H := hP
  have hD : va_D A ([(o1, eL cy (vp_updL fo ((0 : Int32).toNatClampNeg) (ro.toInt64)))] ++ WC cy ad ks g uz) := hD
  refine lv_goto (tgt := 15) hx hb dL_failIn_9 (by decide) ?_
  refine lv_iconst (v := 0) hx hb dL_failIn_15 (by decide) ?_
  refine vx_ret ?_
  exact W.iret (v := 0) hx hb hr (fun t ht hW => ⟨⟨0, (), rfl, rfl, by rw [ht]; exact hP, hD⟩, hS.F ht⟩) hS.2.2 dL_failIn_16
set_option maxHeartbeats 4000000 in
set_option maxRecDepth 100000 in
theorem ct_failIn (l : Launch) (hst : l.stackTraces = false) (dC : Nat → ClassId) (dI : Nat → Nat → Nat) (cy : Nat → ClassId) (nb : Nat → Nat) (ad : CK → Nat) (ks : List CK) (g : CG) (hk : GA nb ad g ks) (u0 : RS) (a1 : Int32) (o1 : Nat) (fo : Nat → Int64) (xc : Int32) (sz : Nat) (hxc : xc = 1) (hF : C7_failIn g u0 a1 = some (.inl xc)) : vx_Met l yL_failIn (wsgH yL_failIn cL_failIn 4 (some .int) [(0, 9, 12, 22)]) ({ frames := 14, cells := 1, slots := 6, locals := 900 }) (va_Pc [.ref (ad .cl), .int a1, .ref o1] (fun U => U.heap.size = sz ∧ va_P (dC, dI) vwCl ([(o1, eL cy fo)] ++ WC cy ad ks g u0) U.heap ∧ va_K (dC, dI) vwCl (tyL cy) U ∧ va_D (fun _ => True) ([(o1, eL cy fo)] ++ WC cy ad ks g u0) ∧ GE nb (va_A ([(o1, eL cy fo)] ++ WC cy ad ks g u0) sz) U)) (va_Qi (fun (r : Int32) (_ : Unit) => r = 1) (fun _ t => va_P (dC, dI) vwCl ([(o1, eL cy fo)] ++ WC cy ad ks g u0) t.heap ∧ va_D (va_A ([(o1, eL cy fo)] ++ WC cy ad ks g u0) sz) ([(o1, eL cy fo)] ++ WC cy ad ks g u0)) (va_A ([(o1, eL cy fo)] ++ WC cy ad ks g u0) sz)) (vx_X (fun (_ : Unit) => False) (fun _ _ _ => True) (va_A ([(o1, eL cy fo)] ++ WC cy ad ks g u0) sz)) 1 6 (va_A ([(o1, eL cy fo)] ++ WC cy ad ks g u0) sz) := by
  refine vx_ofWH (cc := cL_failIn) (maxL := 4) (ret := (some .int)) (hh := [(0, 9, 12, 22)]) pn_L rfl ?_
  intro p e s m args below meth c s₁ B hml hv
  obtain ⟨rfl, hsz, hP, hK, hD0, hE⟩ := hv
  have hx := B.exec
  have hb := B.bytes
  have hr := B.returns
  have hts0 := atoms_spec (ws := (wsgH yL_failIn cL_failIn 4 (some .int) [(0, 9, 12, 22)])) B.pre
  have hts : ∀ w ∈ wsL_law, w.before _ s = true := fun w h => hts0 w (List.mem_cons_of_mem _ h)
  have hown : s.vm.findClass RL = some m.cls := by have h9 := findClass_of_methodNamed B.named; exact h9
  have hlocks := B.notSynchronized
  subst hsz
  have hD := hD0.self (sz := s.heap.size)
  generalize hAe : va_A ([(o1, eL cy fo)] ++ WC cy ad ks g u0) s.heap.size = A at hD hE ⊢
  have hA : ∀ q : Nat, s.heap.size ≤ q → A q := fun q h => by rw [← hAe]; exact Or.inr h
  have hS : va_S A s.heap s.heap [] := va_S.rf
  have hl := lv_entry ([.ref (ad .cl), .int a1, .ref o1]) (n := 4) (Nat.le_of_ble_eq_true rfl)
  rw [lg_entry_eq]
  generalize (lg_sl ([.ref (ad .cl), .int a1, .ref o1]) ++ List.replicate (4 - (lg_sl ([.ref (ad .cl), .int a1, .ref o1])).length) Slot.unset).toArray = ls at hl ⊢
  have hl : lv_has ls 4 [(0, .ref (ad .cl)), (1, .int a1), (2, .ref o1)] := hl
  generalize hHe : s.heap = H at hP hS ⊢
  have hS : va_S A s.heap H [] := by rw [hHe]; exact hS
  have htab := vx_table (x := yL_failIn) B (hts0 (.codeWith yL_failIn cL_failIn 4 (some .int) [(0, 9, 12, 22)]) List.mem_cons_self)
  refine lv_aload_n hx hb dL_failIn_0 rfl (lv_at hl 2 rfl) ?_
  refine lv_iconst (v := 0) hx hb dL_failIn_1 (by decide) ?_
  refine lv_aload_n hx hb dL_failIn_2 rfl (lv_at hl 0 rfl) ?_
  refine lv_iload_n hx hb dL_failIn_3 rfl (lv_at hl 1 rfl) ?_
  have hPc : va_P (dC, dI) vwCl (WC cy ad ks g u0) H := hP.part (X := [(o1, eL cy fo)]) (cx := []) [] rfl
  have hDc : va_D A (WC cy ad ks g u0) := hD.part (X := [(o1, eL cy fo)]) (cx := []) [] (by decide) rfl
  have hFc : ∀ q, va_A (WC cy ad ks g u0) H.size q → A q := va_freeP (X := [(o1, eL cy fo)]) (cx := []) hD hS hA [] rfl
  obtain ⟨q8, h8⟩ := wc_at (cy := cy) (ad := ad) (ks := ks) (g := g) (u := u0) (κ := .cl) hk.1 True.intro
  refine vx_calli (vx_runV (As := [.int a1]) (rest := [.int 0, .ref o1]) ⟨hx, hb, hml, hown, hts⟩ (c_X7_failIn_y l hst dC dI cy nb ad ks g hk u0 a1 xc H.size hF) (cwV 1 hts (gV mw_1385 mw_1386 mw_1387 mw_2 mw_1388) rfl rfl rfl (by decide +kernel) ⟨Nat.le_of_ble_eq_true rfl, Nat.le_of_ble_eq_true rfl⟩) (my_preV hPc hK hDc hE hS hFc (va_recv (q := (RX7, TX7, 12)) hK hPc (ci := 7) (q0 := q8) rfl h8)) rfl rfl hl.1 rfl (lv_room (Nat.le_of_ble_eq_true rfl)) dL_failIn_4 ⟨Nat.le_of_ble_eq_true rfl, Nat.le_of_ble_eq_true rfl⟩) hS (fun q _ h => hFc q h) hFc (fun q _ h => hFc q h) (fun E9 ce9 q9 u9 t9 H1 locs1 ht9 hvm9 hp9 hB9 hz9 hk9 hS9 hc9 hv9 hcl9 => ?_) (fun r9 u9 t9 H1 locs1 ht9 hvm9 hp9 _ _ _ _ => hp9.elim)
  clear h8
  obtain ⟨hB8, hP1⟩ := hB9
  rw [ht9] at hP1
  obtain ⟨hP, hD⟩ := va_joinP (X := [(o1, eL cy fo)]) (cx := []) (wr := [(o1, eL cy fo)]) (rx := []) (pl := WC cy ad ks g u0) (pl1 := WC cy ad ks g u0) hP hD [] [0] rfl rfl (by decide) (by decide) hk9 hFc hP1 hDc.self
  have hP : va_P (dC, dI) vwCl ([(o1, eL cy fo)] ++ WC cy ad ks g u0) H1 := hP
  have hD : va_D A ([(o1, eL cy fo)] ++ WC cy ad ks g u0) := hD
  obtain rfl : E9 = xI := hB8.trans (if_pos hxc)
  refine vx_catch (own := RL) (name := xI) hown (tableOf []) _ (tableOf []) (htab.trans rfl) (fun z hz => nomatch hz) (by decide) (by decide) (hts _ mw_612) (va_Nw.use rfl hE.cI) hc9 hv9 hcl9 ?_
  generalize H1 = H at hP hS9 ⊢
  refine W.widen (k := 1) (n := 6) (by omega) (by omega) ?_
  refine lv_astore_n (lv' := [(3, .ref q9), (0, .ref (ad .cl)), (1, .int a1), (2, .ref o1)]) hx hb dL_failIn_12 rfl hl (by decide) rfl (fun ls hl => ?_)
  refine lv_iconst (v := 1) hx hb dL_failIn_13 (by decide) ?_
  refine vx_ret ?_
  exact W.iret (v := 1) hx hb hr (fun t ht hW => ⟨⟨1, (), rfl, rfl, by rw [ht]; exact hP, hD⟩, hS9.F ht⟩) hS9.2.2 dL_failIn_14
end
section
set_option maxHeartbeats 4000000 in
set_option maxRecDepth 100000 in
theorem cn_blanksIn (l : Launch) (hst : l.stackTraces = false) (dC : Nat → ClassId) (dI : Nat → Nat → Nat) (cy : Nat → ClassId) (nb : Nat → Nat) (ad : CK → Nat) (ks : List CK) (g : CG) (hk : GA nb ad g ks) (u0 : RS) (a1 : Int32) (o1 : Nat) (fo : Nat → Int64) (ro : Int32) (uz : RS) (sz : Nat) (hF : C7_blanksIn g u0 a1 = some (.inr (ro, uz))) : vx_Met l yL_blanksIn (wsgH yL_blanksIn cL_blanksIn 4 (some .int) [(0, 9, 12, 13)]) ({ frames := 14, cells := 0, slots := 0, locals := 900 }) (va_Pc [.ref (ad .cl), .int a1, .ref o1] (fun U => U.heap.size = sz ∧ va_P (dC, dI) vwCl ([(o1, eL cy fo)] ++ WC cy ad ks g u0) U.heap ∧ va_K (dC, dI) vwCl (tyL cy) U ∧ va_D (fun _ => True) ([(o1, eL cy fo)] ++ WC cy ad ks g u0) ∧ GE nb (va_A ([(o1, eL cy fo)] ++ WC cy ad ks g u0) sz) U)) (va_Qi (fun (r : Int32) (_ : Unit) => r = 0) (fun _ t => va_P (dC, dI) vwCl ([(o1, eL cy (vp_updL fo ((0 : Int32).toNatClampNeg) (ro.toInt64)))] ++ WC cy ad ks g uz) t.heap ∧ va_D (va_A ([(o1, eL cy fo)] ++ WC cy ad ks g u0) sz) ([(o1, eL cy (vp_updL fo ((0 : Int32).toNatClampNeg) (ro.toInt64)))] ++ WC cy ad ks g uz)) (va_A ([(o1, eL cy fo)] ++ WC cy ad ks g u0) sz)) (vx_X (fun (_ : Unit) => False) (fun _ _ _ => True) (va_A ([(o1, eL cy fo)] ++ WC cy ad ks g u0) sz)) 0 0 (va_A ([(o1, eL cy fo)] ++ WC cy ad ks g u0) sz) := by
  refine vx_ofWH (cc := cL_blanksIn) (maxL := 4) (ret := (some .int)) (hh := [(0, 9, 12, 13)]) pn_L rfl ?_
  intro p e s m args below meth c s₁ B hml hv
  obtain ⟨rfl, hsz, hP, hK, hD0, hE⟩ := hv
  have hx := B.exec
  have hb := B.bytes
  have hr := B.returns
  have hts0 := atoms_spec (ws := (wsgH yL_blanksIn cL_blanksIn 4 (some .int) [(0, 9, 12, 13)])) B.pre
  have hts : ∀ w ∈ wsL_law, w.before _ s = true := fun w h => hts0 w (List.mem_cons_of_mem _ h)
  have hown : s.vm.findClass RL = some m.cls := by have h9 := findClass_of_methodNamed B.named; exact h9
  have hlocks := B.notSynchronized
  subst hsz
  have hD := hD0.self (sz := s.heap.size)
  generalize hAe : va_A ([(o1, eL cy fo)] ++ WC cy ad ks g u0) s.heap.size = A at hD hE ⊢
  have hA : ∀ q : Nat, s.heap.size ≤ q → A q := fun q h => by rw [← hAe]; exact Or.inr h
  have hS : va_S A s.heap s.heap [] := va_S.rf
  have hl := lv_entry ([.ref (ad .cl), .int a1, .ref o1]) (n := 4) (Nat.le_of_ble_eq_true rfl)
  rw [lg_entry_eq]
  generalize (lg_sl ([.ref (ad .cl), .int a1, .ref o1]) ++ List.replicate (4 - (lg_sl ([.ref (ad .cl), .int a1, .ref o1])).length) Slot.unset).toArray = ls at hl ⊢
  have hl : lv_has ls 4 [(0, .ref (ad .cl)), (1, .int a1), (2, .ref o1)] := hl
  generalize hHe : s.heap = H at hP hS ⊢
  have hS : va_S A s.heap H [] := by rw [hHe]; exact hS
  have htab := vx_table (x := yL_blanksIn) B (hts0 (.codeWith yL_blanksIn cL_blanksIn 4 (some .int) [(0, 9, 12, 13)]) List.mem_cons_self)
  refine lv_aload_n hx hb dL_blanksIn_0 rfl (lv_at hl 2 rfl) ?_
  refine lv_iconst (v := 0) hx hb dL_blanksIn_1 (by decide) ?_
  refine lv_aload_n hx hb dL_blanksIn_2 rfl (lv_at hl 0 rfl) ?_
  refine lv_iload_n hx hb dL_blanksIn_3 rfl (lv_at hl 1 rfl) ?_
  have hPc : va_P (dC, dI) vwCl (WC cy ad ks g u0) H := hP.part (X := [(o1, eL cy fo)]) (cx := []) [] rfl
  have hDc : va_D A (WC cy ad ks g u0) := hD.part (X := [(o1, eL cy fo)]) (cx := []) [] (by decide) rfl
  have hFc : ∀ q, va_A (WC cy ad ks g u0) H.size q → A q := va_freeP (X := [(o1, eL cy fo)]) (cx := []) hD hS hA [] rfl
  obtain ⟨q8, h8⟩ := wc_at (cy := cy) (ad := ad) (ks := ks) (g := g) (u := u0) (κ := .cl) hk.1 True.intro
  refine va_calli (va_runV (As := [.int a1]) (rest := [.int 0, .ref o1]) ⟨hx, hb, hml, hown, hts⟩ (c_X7_blanksIn l dC dI cy nb ad ks g hk u0 a1 ro uz H.size hF) (cwV 1 hts (gV mw_1397 mw_1398 mw_1399 mw_2 mw_1400) rfl rfl rfl (by decide +kernel) ⟨Nat.le_of_ble_eq_true rfl, Nat.le_of_ble_eq_true rfl⟩) (my_preV hPc hK hDc hE hS hFc (va_recv (q := (RX7, TX7, 12)) hK hPc (ci := 7) (q0 := q8) rfl h8)) rfl rfl hl.1 rfl (lv_room (Nat.le_of_ble_eq_true rfl)) dL_blanksIn_4 ⟨Nat.le_of_ble_eq_true rfl, Nat.le_of_ble_eq_true rfl⟩) hS (fun q _ h => hFc q h) hFc (fun r u t H1 locs ht hvm hw hB hz1 hk1 hS => ?_)
  clear h8
  obtain ⟨hP1, hD1⟩ := hB
  rw [ht] at hP1
  obtain ⟨hP, hD⟩ := va_joinP (X := [(o1, eL cy fo)]) (cx := []) (wr := [(o1, eL cy fo)]) (rx := []) (pl := WC cy ad ks g u0) (pl1 := WC cy ad ks g uz) hP hD [] [0] rfl rfl (by decide) (by decide) hk1 hFc hP1 hD1
  generalize H1 = H at hP hS ⊢
  have hP : va_P (dC, dI) vwCl ([(o1, eL cy fo)] ++ WC cy ad ks g uz) H := hP
  have hD : va_D A ([(o1, eL cy fo)] ++ WC cy ad ks g uz) := hD
  refine my_topi hw ?_
  refine W.widen (k := 0) (n := 0) (by omega) (by omega) ?_
  refine lv_i2l (v := ro.toInt64) hx hb dL_blanksIn_7 rfl ?_
  refine va_last hx hb hK hP hD hS 0 3 rfl rfl (vp_in_nI (n := 0) (by decide) (by decide)) dL_blanksIn_8 (fun H locs hP hD hS => ?_)
  have hP : va_P (dC, dI) vwCl ([(o1, eL cy (vp_updL fo ((0 : Int32).toNatClampNeg) (ro.toInt64)))] ++ WC cy ad ks g uz) H := hP
  have hD : va_D A ([(o1, eL cy (vp_updL fo ((0 : Int32).toNatClampNeg) (ro.toInt64)))] ++ WC cy ad ks g uz) := hD
  refine lv_goto (tgt := 15) hx hb dL_blanksIn_9 (by decide) ?_
  refine lv_iconst (v := 0) hx hb dL_blanksIn_15 (by decide) ?_
  refine vx_ret ?_
  exact W.iret (v := 0) hx hb hr (fun t ht hW => ⟨⟨0, (), rfl, rfl, by rw [ht]; exact hP, hD⟩, hS.F ht⟩) hS.2.2 dL_blanksIn_16
set_option maxHeartbeats 4000000 in
set_option maxRecDepth 100000 in
theorem ct_blanksIn (l : Launch) (hst : l.stackTraces = false) (dC : Nat → ClassId) (dI : Nat → Nat → Nat) (cy : Nat → ClassId) (nb : Nat → Nat) (ad : CK → Nat) (ks : List CK) (g : CG) (hk : GA nb ad g ks) (u0 : RS) (a1 : Int32) (o1 : Nat) (fo : Nat → Int64) (xc : Int32) (sz : Nat) (hxc : ¬ xc = 1) (hF : C7_blanksIn g u0 a1 = some (.inl xc)) : vx_Met l yL_blanksIn (wsgH yL_blanksIn cL_blanksIn 4 (some .int) [(0, 9, 12, 13)]) ({ frames := 14, cells := 1, slots := 6, locals := 900 }) (va_Pc [.ref (ad .cl), .int a1, .ref o1] (fun U => U.heap.size = sz ∧ va_P (dC, dI) vwCl ([(o1, eL cy fo)] ++ WC cy ad ks g u0) U.heap ∧ va_K (dC, dI) vwCl (tyL cy) U ∧ va_D (fun _ => True) ([(o1, eL cy fo)] ++ WC cy ad ks g u0) ∧ GE nb (va_A ([(o1, eL cy fo)] ++ WC cy ad ks g u0) sz) U)) (va_Qi (fun (r : Int32) (_ : Unit) => r = 1) (fun _ t => va_P (dC, dI) vwCl ([(o1, eL cy fo)] ++ WC cy ad ks g u0) t.heap ∧ va_D (va_A ([(o1, eL cy fo)] ++ WC cy ad ks g u0) sz) ([(o1, eL cy fo)] ++ WC cy ad ks g u0)) (va_A ([(o1, eL cy fo)] ++ WC cy ad ks g u0) sz)) (vx_X (fun (_ : Unit) => False) (fun _ _ _ => True) (va_A ([(o1, eL cy fo)] ++ WC cy ad ks g u0) sz)) 1 6 (va_A ([(o1, eL cy fo)] ++ WC cy ad ks g u0) sz) := by
  refine vx_ofWH (cc := cL_blanksIn) (maxL := 4) (ret := (some .int)) (hh := [(0, 9, 12, 13)]) pn_L rfl ?_
  intro p e s m args below meth c s₁ B hml hv
  obtain ⟨rfl, hsz, hP, hK, hD0, hE⟩ := hv
  have hx := B.exec
  have hb := B.bytes
  have hr := B.returns
  have hts0 := atoms_spec (ws := (wsgH yL_blanksIn cL_blanksIn 4 (some .int) [(0, 9, 12, 13)])) B.pre
  have hts : ∀ w ∈ wsL_law, w.before _ s = true := fun w h => hts0 w (List.mem_cons_of_mem _ h)
  have hown : s.vm.findClass RL = some m.cls := by have h9 := findClass_of_methodNamed B.named; exact h9
  have hlocks := B.notSynchronized
  subst hsz
  have hD := hD0.self (sz := s.heap.size)
  generalize hAe : va_A ([(o1, eL cy fo)] ++ WC cy ad ks g u0) s.heap.size = A at hD hE ⊢
  have hA : ∀ q : Nat, s.heap.size ≤ q → A q := fun q h => by rw [← hAe]; exact Or.inr h
  have hS : va_S A s.heap s.heap [] := va_S.rf
  have hl := lv_entry ([.ref (ad .cl), .int a1, .ref o1]) (n := 4) (Nat.le_of_ble_eq_true rfl)
  rw [lg_entry_eq]
  generalize (lg_sl ([.ref (ad .cl), .int a1, .ref o1]) ++ List.replicate (4 - (lg_sl ([.ref (ad .cl), .int a1, .ref o1])).length) Slot.unset).toArray = ls at hl ⊢
  have hl : lv_has ls 4 [(0, .ref (ad .cl)), (1, .int a1), (2, .ref o1)] := hl
  generalize hHe : s.heap = H at hP hS ⊢
  have hS : va_S A s.heap H [] := by rw [hHe]; exact hS
  have htab := vx_table (x := yL_blanksIn) B (hts0 (.codeWith yL_blanksIn cL_blanksIn 4 (some .int) [(0, 9, 12, 13)]) List.mem_cons_self)
  refine lv_aload_n hx hb dL_blanksIn_0 rfl (lv_at hl 2 rfl) ?_
  refine lv_iconst (v := 0) hx hb dL_blanksIn_1 (by decide) ?_
  refine lv_aload_n hx hb dL_blanksIn_2 rfl (lv_at hl 0 rfl) ?_
  refine lv_iload_n hx hb dL_blanksIn_3 rfl (lv_at hl 1 rfl) ?_
  have hPc : va_P (dC, dI) vwCl (WC cy ad ks g u0) H := hP.part (X := [(o1, eL cy fo)]) (cx := []) [] rfl
  have hDc : va_D A (WC cy ad ks g u0) := hD.part (X := [(o1, eL cy fo)]) (cx := []) [] (by decide) rfl
  have hFc : ∀ q, va_A (WC cy ad ks g u0) H.size q → A q := va_freeP (X := [(o1, eL cy fo)]) (cx := []) hD hS hA [] rfl
  obtain ⟨q8, h8⟩ := wc_at (cy := cy) (ad := ad) (ks := ks) (g := g) (u := u0) (κ := .cl) hk.1 True.intro
  refine vx_calli (vx_runV (As := [.int a1]) (rest := [.int 0, .ref o1]) ⟨hx, hb, hml, hown, hts⟩ (c_X7_blanksIn_y l hst dC dI cy nb ad ks g hk u0 a1 xc H.size hF) (cwV 1 hts (gV mw_1397 mw_1398 mw_1399 mw_2 mw_1400) rfl rfl rfl (by decide +kernel) ⟨Nat.le_of_ble_eq_true rfl, Nat.le_of_ble_eq_true rfl⟩) (my_preV hPc hK hDc hE hS hFc (va_recv (q := (RX7, TX7, 12)) hK hPc (ci := 7) (q0 := q8) rfl h8)) rfl rfl hl.1 rfl (lv_room (Nat.le_of_ble_eq_true rfl)) dL_blanksIn_4 ⟨Nat.le_of_ble_eq_true rfl, Nat.le_of_ble_eq_true rfl⟩) hS (fun q _ h => hFc q h) hFc (fun q _ h => hFc q h) (fun E9 ce9 q9 u9 t9 H1 locs1 ht9 hvm9 hp9 hB9 hz9 hk9 hS9 hc9 hv9 hcl9 => ?_) (fun r9 u9 t9 H1 locs1 ht9 hvm9 hp9 _ _ _ _ => hp9.elim)
  clear h8
  obtain ⟨hB8, hP1⟩ := hB9
  rw [ht9] at hP1
  obtain ⟨hP, hD⟩ := va_joinP (X := [(o1, eL cy fo)]) (cx := []) (wr := [(o1, eL cy fo)]) (rx := []) (pl := WC cy ad ks g u0) (pl1 := WC cy ad ks g u0) hP hD [] [0] rfl rfl (by decide) (by decide) hk9 hFc hP1 hDc.self
  have hP : va_P (dC, dI) vwCl ([(o1, eL cy fo)] ++ WC cy ad ks g u0) H1 := hP
  have hD : va_D A ([(o1, eL cy fo)] ++ WC cy ad ks g u0) := hD
  obtain rfl : E9 = xA := hB8.trans (if_neg hxc)
  refine vx_catch (own := RL) (name := xA) hown (tableOf []) _ (tableOf []) (htab.trans rfl) (fun z hz => nomatch hz) (by decide) (by decide) (hts _ mw_564) (va_Nw.use rfl hE.cA) hc9 hv9 hcl9 ?_
  generalize H1 = H at hP hS9 ⊢
  refine W.widen (k := 1) (n := 6) (by omega) (by omega) ?_
  refine lv_astore_n (lv' := [(3, .ref q9), (0, .ref (ad .cl)), (1, .int a1), (2, .ref o1)]) hx hb dL_blanksIn_12 rfl hl (by decide) rfl (fun ls hl => ?_)
  refine lv_iconst (v := 1) hx hb dL_blanksIn_13 (by decide) ?_
  refine vx_ret ?_
  exact W.iret (v := 1) hx hb hr (fun t ht hW => ⟨⟨1, (), rfl, rfl, by rw [ht]; exact hP, hD⟩, hS9.F ht⟩) hS9.2.2 dL_blanksIn_14
set_option maxHeartbeats 4000000 in
set_option maxRecDepth 100000 in
theorem cn_restIn (l : Launch) (hst : l.stackTraces = false) (dC : Nat → ClassId) (dI : Nat → Nat → Nat) (cy : Nat → ClassId) (nb : Nat → Nat) (ad : CK → Nat) (ks : List CK) (g : CG) (hk : GA nb ad g ks) (u0 : RS) (a1 : Int32) (o1 : Nat) (fo : Nat → Int64) (ro : Int32) (uz : RS) (sz : Nat) (hF : C7_restIn g u0 a1 = some (.inr (ro, uz))) : vx_Met l yL_restIn (wsgH yL_restIn cL_restIn 4 (some .int) [(0, 9, 12, 22)]) ({ frames := 14, cells := 0, slots := 0, locals := 900 }) (va_Pc [.ref (ad .cl), .int a1, .ref o1] (fun U => U.heap.size = sz ∧ va_P (dC, dI) vwCl ([(o1, eL cy fo)] ++ WC cy ad ks g u0) U.heap ∧ va_K (dC, dI) vwCl (tyL cy) U ∧ va_D (fun _ => True) ([(o1, eL cy fo)] ++ WC cy ad ks g u0) ∧ GE nb (va_A ([(o1, eL cy fo)] ++ WC cy ad ks g u0) sz) U)) (va_Qi (fun (r : Int32) (_ : Unit) => r = 0) (fun _ t => va_P (dC, dI) vwCl ([(o1, eL cy (vp_updL fo ((0 : Int32).toNatClampNeg) (ro.toInt64)))] ++ WC cy ad ks g uz) t.heap ∧ va_D (va_A ([(o1, eL cy fo)] ++ WC cy ad ks g u0) sz) ([(o1, eL cy (vp_updL fo ((0 : Int32).toNatClampNeg) (ro.toInt64)))] ++ WC cy ad ks g uz)) (va_A ([(o1, eL cy fo)] ++ WC cy ad ks g u0) sz)) (vx_X (fun (_ : Unit) => False) (fun _ _ _ => True) (va_A ([(o1, eL cy fo)] ++ WC cy ad ks g u0) sz)) 0 0 (va_A ([(o1, eL cy fo)] ++ WC cy ad ks g u0) sz) := by
  refine vx_ofWH (cc := cL_restIn) (maxL := 4) (ret := (some .int)) (hh := [(0, 9, 12, 22)]) pn_L rfl ?_
  intro p e s m args below meth c s₁ B hml hv
  obtain ⟨rfl, hsz, hP, hK, hD0, hE⟩ := hv
  have hx := B.exec
  have hb := B.bytes
  have hr := B.returns
  have hts0 := atoms_spec (ws := (wsgH yL_restIn cL_restIn 4 (some .int) [(0, 9, 12, 22)])) B.pre
  have hts : ∀ w ∈ wsL_law, w.before _ s = true := fun w h => hts0 w (List.mem_cons_of_mem _ h)
  have hown : s.vm.findClass RL = some m.cls := by have h9 := findClass_of_methodNamed B.named; exact h9
  have hlocks := B.notSynchronized
  subst hsz
  have hD := hD0.self (sz := s.heap.size)
  generalize hAe : va_A ([(o1, eL cy fo)] ++ WC cy ad ks g u0) s.heap.size = A at hD hE ⊢
  have hA : ∀ q : Nat, s.heap.size ≤ q → A q := fun q h => by rw [← hAe]; exact Or.inr h
  have hS : va_S A s.heap s.heap [] := va_S.rf
  have hl := lv_entry ([.ref (ad .cl), .int a1, .ref o1]) (n := 4) (Nat.le_of_ble_eq_true rfl)
  rw [lg_entry_eq]
  generalize (lg_sl ([.ref (ad .cl), .int a1, .ref o1]) ++ List.replicate (4 - (lg_sl ([.ref (ad .cl), .int a1, .ref o1])).length) Slot.unset).toArray = ls at hl ⊢
  have hl : lv_has ls 4 [(0, .ref (ad .cl)), (1, .int a1), (2, .ref o1)] := hl
  generalize hHe : s.heap = H at hP hS ⊢
  have hS : va_S A s.heap H [] := by rw [hHe]; exact hS
  have htab := vx_table (x := yL_restIn) B (hts0 (.codeWith yL_restIn cL_restIn 4 (some .int) [(0, 9, 12, 22)]) List.mem_cons_self)
  refine lv_aload_n hx hb dL_restIn_0 rfl (lv_at hl 2 rfl) ?_
  refine lv_iconst (v := 0) hx hb dL_restIn_1 (by decide) ?_
  refine lv_aload_n hx hb dL_restIn_2 rfl (lv_at hl 0 rfl) ?_
  refine lv_iload_n hx hb dL_restIn_3 rfl (lv_at hl 1 rfl) ?_
  have hPc : va_P (dC, dI) vwCl (WC cy ad ks g u0) H := hP.part (X := [(o1, eL cy fo)]) (cx := []) [] rfl
  have hDc : va_D A (WC cy ad ks g u0) := hD.part (X := [(o1, eL cy fo)]) (cx := []) [] (by decide) rfl
  have hFc : ∀ q, va_A (WC cy ad ks g u0) H.size q → A q := va_freeP (X := [(o1, eL cy fo)]) (cx := []) hD hS hA [] rfl
  obtain ⟨q8, h8⟩ := wc_at (cy := cy) (ad := ad) (ks := ks) (g := g) (u := u0) (κ := .cl) hk.1 True.intro
  refine va_calli (va_runV (As := [.int a1]) (rest := [.int 0, .ref o1]) ⟨hx, hb, hml, hown, hts⟩ (c_X7_restIn l dC dI cy nb ad ks g hk u0 a1 ro uz H.size hF) (cwV 1 hts (gV mw_1408 mw_1409 mw_1410 mw_2 mw_1411) rfl rfl rfl (by decide +kernel) ⟨Nat.le_of_ble_eq_true rfl, Nat.le_of_ble_eq_true rfl⟩) (my_preV hPc hK hDc hE hS hFc (va_recv (q := (RX7, TX7, 12)) hK hPc (ci := 7) (q0 := q8) rfl h8)) rfl rfl hl.1 rfl (lv_room (Nat.le_of_ble_eq_true rfl)) dL_restIn_4 ⟨Nat.le_of_ble_eq_true rfl, Nat.le_of_ble_eq_true rfl⟩) hS (fun q _ h => hFc q h) hFc (fun r u t H1 locs ht hvm hw hB hz1 hk1 hS => ?_)
  clear h8
  obtain ⟨hP1, hD1⟩ := hB
  rw [ht] at hP1
  obtain ⟨hP, hD⟩ := va_joinP (X := [(o1, eL cy fo)]) (cx := []) (wr := [(o1, eL cy fo)]) (rx := []) (pl := WC cy ad ks g u0) (pl1 := WC cy ad ks g uz) hP hD [] [0] rfl rfl (by decide) (by decide) hk1 hFc hP1 hD1
  generalize H1 = H at hP hS ⊢
  have hP : va_P (dC, dI) vwCl ([(o1, eL cy fo)] ++ WC cy ad ks g uz) H := hP
  have hD : va_D A ([(o1, eL cy fo)] ++ WC cy ad ks g uz) := hD
  refine my_topi hw ?_
  refine W.widen (k := 0) (n := 0) (by omega) (by omega) ?_
  refine lv_i2l (v := ro.toInt64) hx hb dL_restIn_7 rfl ?_
  refine va_last hx hb hK hP hD hS 0 3 rfl rfl (vp_in_nI (n := 0) (by decide) (by decide)) dL_restIn_8 (fun H locs hP hD hS => ?_)
  have hP : va_P (dC, dI) vwCl ([(o1, eL cy (vp_updL fo ((0 : Int32).toNatClampNeg) (ro.toInt64)))] ++ WC cy ad ks g uz) H := hP
  have hD : va_D A ([(o1, eL cy (vp_updL fo ((0 : Int32).toNatClampNeg) (ro.toInt64)))] ++ WC cy ad ks g uz) := hD
  refine lv_goto (tgt := 15) hx hb dL_restIn_9 (by decide) ?_
  refine lv_iconst (v := 0) hx hb dL_restIn_15 (by decide) ?_
  refine vx_ret ?_
  exact W.iret (v := 0) hx hb hr (fun t ht hW => ⟨⟨0, (), rfl, rfl, by rw [ht]; exact hP, hD⟩, hS.F ht⟩) hS.2.2 dL_restIn_16
set_option maxHeartbeats 4000000 in
set_option maxRecDepth 100000 in
theorem ct_restIn (l : Launch) (hst : l.stackTraces = false) (dC : Nat → ClassId) (dI : Nat → Nat → Nat) (cy : Nat → ClassId) (nb : Nat → Nat) (ad : CK → Nat) (ks : List CK) (g : CG) (hk : GA nb ad g ks) (u0 : RS) (a1 : Int32) (o1 : Nat) (fo : Nat → Int64) (xc : Int32) (sz : Nat) (hxc : xc = 1) (hF : C7_restIn g u0 a1 = some (.inl xc)) : vx_Met l yL_restIn (wsgH yL_restIn cL_restIn 4 (some .int) [(0, 9, 12, 22)]) ({ frames := 14, cells := 1, slots := 6, locals := 900 }) (va_Pc [.ref (ad .cl), .int a1, .ref o1] (fun U => U.heap.size = sz ∧ va_P (dC, dI) vwCl ([(o1, eL cy fo)] ++ WC cy ad ks g u0) U.heap ∧ va_K (dC, dI) vwCl (tyL cy) U ∧ va_D (fun _ => True) ([(o1, eL cy fo)] ++ WC cy ad ks g u0) ∧ GE nb (va_A ([(o1, eL cy fo)] ++ WC cy ad ks g u0) sz) U)) (va_Qi (fun (r : Int32) (_ : Unit) => r = 1) (fun _ t => va_P (dC, dI) vwCl ([(o1, eL cy fo)] ++ WC cy ad ks g u0) t.heap ∧ va_D (va_A ([(o1, eL cy fo)] ++ WC cy ad ks g u0) sz) ([(o1, eL cy fo)] ++ WC cy ad ks g u0)) (va_A ([(o1, eL cy fo)] ++ WC cy ad ks g u0) sz)) (vx_X (fun (_ : Unit) => False) (fun _ _ _ => True) (va_A ([(o1, eL cy fo)] ++ WC cy ad ks g u0) sz)) 1 6 (va_A ([(o1, eL cy fo)] ++ WC cy ad ks g u0) sz) := by
  refine vx_ofWH (cc := cL_restIn) (maxL := 4) (ret := (some .int)) (hh := [(0, 9, 12, 22)]) pn_L rfl ?_
  intro p e s m args below meth c s₁ B hml hv
  obtain ⟨rfl, hsz, hP, hK, hD0, hE⟩ := hv
  have hx := B.exec
  have hb := B.bytes
  have hr := B.returns
  have hts0 := atoms_spec (ws := (wsgH yL_restIn cL_restIn 4 (some .int) [(0, 9, 12, 22)])) B.pre
  have hts : ∀ w ∈ wsL_law, w.before _ s = true := fun w h => hts0 w (List.mem_cons_of_mem _ h)
  have hown : s.vm.findClass RL = some m.cls := by have h9 := findClass_of_methodNamed B.named; exact h9
  have hlocks := B.notSynchronized
  subst hsz
  have hD := hD0.self (sz := s.heap.size)
  generalize hAe : va_A ([(o1, eL cy fo)] ++ WC cy ad ks g u0) s.heap.size = A at hD hE ⊢
  have hA : ∀ q : Nat, s.heap.size ≤ q → A q := fun q h => by rw [← hAe]; exact Or.inr h
  have hS : va_S A s.heap s.heap [] := va_S.rf
  have hl := lv_entry ([.ref (ad .cl), .int a1, .ref o1]) (n := 4) (Nat.le_of_ble_eq_true rfl)
  rw [lg_entry_eq]
  generalize (lg_sl ([.ref (ad .cl), .int a1, .ref o1]) ++ List.replicate (4 - (lg_sl ([.ref (ad .cl), .int a1, .ref o1])).length) Slot.unset).toArray = ls at hl ⊢
  have hl : lv_has ls 4 [(0, .ref (ad .cl)), (1, .int a1), (2, .ref o1)] := hl
  generalize hHe : s.heap = H at hP hS ⊢
  have hS : va_S A s.heap H [] := by rw [hHe]; exact hS
  have htab := vx_table (x := yL_restIn) B (hts0 (.codeWith yL_restIn cL_restIn 4 (some .int) [(0, 9, 12, 22)]) List.mem_cons_self)
  refine lv_aload_n hx hb dL_restIn_0 rfl (lv_at hl 2 rfl) ?_
  refine lv_iconst (v := 0) hx hb dL_restIn_1 (by decide) ?_
  refine lv_aload_n hx hb dL_restIn_2 rfl (lv_at hl 0 rfl) ?_
  refine lv_iload_n hx hb dL_restIn_3 rfl (lv_at hl 1 rfl) ?_
  have hPc : va_P (dC, dI) vwCl (WC cy ad ks g u0) H := hP.part (X := [(o1, eL cy fo)]) (cx := []) [] rfl
  have hDc : va_D A (WC cy ad ks g u0) := hD.part (X := [(o1, eL cy fo)]) (cx := []) [] (by decide) rfl
  have hFc : ∀ q, va_A (WC cy ad ks g u0) H.size q → A q := va_freeP (X := [(o1, eL cy fo)]) (cx := []) hD hS hA [] rfl
  obtain ⟨q8, h8⟩ := wc_at (cy := cy) (ad := ad) (ks := ks) (g := g) (u := u0) (κ := .cl) hk.1 True.intro
  refine vx_calli (vx_runV (As := [.int a1]) (rest := [.int 0, .ref o1]) ⟨hx, hb, hml, hown, hts⟩ (c_X7_restIn_y l hst dC dI cy nb ad ks g hk u0 a1 xc H.size hF) (cwV 1 hts (gV mw_1408 mw_1409 mw_1410 mw_2 mw_1411) rfl rfl rfl (by decide +kernel) ⟨Nat.le_of_ble_eq_true rfl, Nat.le_of_ble_eq_true rfl⟩) (my_preV hPc hK hDc hE hS hFc (va_recv (q := (RX7, TX7, 12)) hK hPc (ci := 7) (q0 := q8) rfl h8)) rfl rfl hl.1 rfl (lv_room (Nat.le_of_ble_eq_true rfl)) dL_restIn_4 ⟨Nat.le_of_ble_eq_true rfl, Nat.le_of_ble_eq_true rfl⟩) hS (fun q _ h => hFc q h) hFc (fun q _ h => hFc q h) (fun E9 ce9 q9 u9 t9 H1 locs1 ht9 hvm9 hp9 hB9 hz9 hk9 hS9 hc9 hv9 hcl9 => ?_) (fun r9 u9 t9 H1 locs1 ht9 hvm9 hp9 _ _ _ _ => hp9.elim)
  clear h8
  obtain ⟨hB8, hP1⟩ := hB9
  rw [ht9] at hP1
  obtain ⟨hP, hD⟩ := va_joinP (X := [(o1, eL cy fo)]) (cx := []) (wr := [(o1, eL cy fo)]) (rx := []) (pl := WC cy ad ks g u0) (pl1 := WC cy ad ks g u0) hP hD [] [0] rfl rfl (by decide) (by decide) hk9 hFc hP1 hDc.self
  have hP : va_P (dC, dI) vwCl ([(o1, eL cy fo)] ++ WC cy ad ks g u0) H1 := hP
  have hD : va_D A ([(o1, eL cy fo)] ++ WC cy ad ks g u0) := hD
  obtain rfl : E9 = xI := hB8.trans (if_pos hxc)
  refine vx_catch (own := RL) (name := xI) hown (tableOf []) _ (tableOf []) (htab.trans rfl) (fun z hz => nomatch hz) (by decide) (by decide) (hts _ mw_612) (va_Nw.use rfl hE.cI) hc9 hv9 hcl9 ?_
  generalize H1 = H at hP hS9 ⊢
  refine W.widen (k := 1) (n := 6) (by omega) (by omega) ?_
  refine lv_astore_n (lv' := [(3, .ref q9), (0, .ref (ad .cl)), (1, .int a1), (2, .ref o1)]) hx hb dL_restIn_12 rfl hl (by decide) rfl (fun ls hl => ?_)
  refine lv_iconst (v := 1) hx hb dL_restIn_13 (by decide) ?_
  refine vx_ret ?_
  exact W.iret (v := 1) hx hb hr (fun t ht hW => ⟨⟨1, (), rfl, rfl, by rw [ht]; exact hP, hD⟩, hS9.F ht⟩) hS9.2.2 dL_restIn_14
set_option maxHeartbeats 4000000 in
set_option maxRecDepth 100000 in
theorem cn_bestRank (l : Launch) (hst : l.stackTraces = false) (dC : Nat → ClassId) (dI : Nat → Nat → Nat) (cy : Nat → ClassId) (nb : Nat → Nat) (ad : CK → Nat) (ks : List CK) (g : CG) (hk : GA nb ad g ks) (u0 : RS) (a1 : Int32) (o1 : Nat) (fo : Nat → Int64) (ro : Int32) (uz : RS) (sz : Nat) (hF : C7_bestRank g u0 a1 = some (.inr (ro, uz))) : vx_Met l yL_bestRank (wsgH yL_bestRank cL_bestRank 4 (some .int) [(0, 9, 12, 22)]) ({ frames := 14, cells := 0, slots := 0, locals := 900 }) (va_Pc [.ref (ad .cl), .int a1, .ref o1] (fun U => U.heap.size = sz ∧ va_P (dC, dI) vwCl ([(o1, eL cy fo)] ++ WC cy ad ks g u0) U.heap ∧ va_K (dC, dI) vwCl (tyL cy) U ∧ va_D (fun _ => True) ([(o1, eL cy fo)] ++ WC cy ad ks g u0) ∧ GE nb (va_A ([(o1, eL cy fo)] ++ WC cy ad ks g u0) sz) U)) (va_Qi (fun (r : Int32) (_ : Unit) => r = 0) (fun _ t => va_P (dC, dI) vwCl ([(o1, eL cy (vp_updL fo ((0 : Int32).toNatClampNeg) (ro.toInt64)))] ++ WC cy ad ks g uz) t.heap ∧ va_D (va_A ([(o1, eL cy fo)] ++ WC cy ad ks g u0) sz) ([(o1, eL cy (vp_updL fo ((0 : Int32).toNatClampNeg) (ro.toInt64)))] ++ WC cy ad ks g uz)) (va_A ([(o1, eL cy fo)] ++ WC cy ad ks g u0) sz)) (vx_X (fun (_ : Unit) => False) (fun _ _ _ => True) (va_A ([(o1, eL cy fo)] ++ WC cy ad ks g u0) sz)) 0 0 (va_A ([(o1, eL cy fo)] ++ WC cy ad ks g u0) sz) := by
  refine vx_ofWH (cc := cL_bestRank) (maxL := 4) (ret := (some .int)) (hh := [(0, 9, 12, 22)]) pn_L rfl ?_
  intro p e s m args below meth c s₁ B hml hv
  obtain ⟨rfl, hsz, hP, hK, hD0, hE⟩ := hv
  have hx := B.exec
  have hb := B.bytes
  have hr := B.returns
  have hts0 := atoms_spec (ws := (wsgH yL_bestRank cL_bestRank 4 (some .int) [(0, 9, 12, 22)])) B.pre
  have hts : ∀ w ∈ wsL_law, w.before _ s = true := fun w h => hts0 w (List.mem_cons_of_mem _ h)
  have hown : s.vm.findClass RL = some m.cls := by have h9 := findClass_of_methodNamed B.named; exact h9
  have hlocks := B.notSynchronized
  subst hsz
  have hD := hD0.self (sz := s.heap.size)
  generalize hAe : va_A ([(o1, eL cy fo)] ++ WC cy ad ks g u0) s.heap.size = A at hD hE ⊢
  have hA : ∀ q : Nat, s.heap.size ≤ q → A q := fun q h => by rw [← hAe]; exact Or.inr h
  have hS : va_S A s.heap s.heap [] := va_S.rf
  have hl := lv_entry ([.ref (ad .cl), .int a1, .ref o1]) (n := 4) (Nat.le_of_ble_eq_true rfl)
  rw [lg_entry_eq]
  generalize (lg_sl ([.ref (ad .cl), .int a1, .ref o1]) ++ List.replicate (4 - (lg_sl ([.ref (ad .cl), .int a1, .ref o1])).length) Slot.unset).toArray = ls at hl ⊢
  have hl : lv_has ls 4 [(0, .ref (ad .cl)), (1, .int a1), (2, .ref o1)] := hl
  generalize hHe : s.heap = H at hP hS ⊢
  have hS : va_S A s.heap H [] := by rw [hHe]; exact hS
  have htab := vx_table (x := yL_bestRank) B (hts0 (.codeWith yL_bestRank cL_bestRank 4 (some .int) [(0, 9, 12, 22)]) List.mem_cons_self)
  refine lv_aload_n hx hb dL_bestRank_0 rfl (lv_at hl 2 rfl) ?_
  refine lv_iconst (v := 0) hx hb dL_bestRank_1 (by decide) ?_
  refine lv_aload_n hx hb dL_bestRank_2 rfl (lv_at hl 0 rfl) ?_
  refine lv_iload_n hx hb dL_bestRank_3 rfl (lv_at hl 1 rfl) ?_
  have hPc : va_P (dC, dI) vwCl (WC cy ad ks g u0) H := hP.part (X := [(o1, eL cy fo)]) (cx := []) [] rfl
  have hDc : va_D A (WC cy ad ks g u0) := hD.part (X := [(o1, eL cy fo)]) (cx := []) [] (by decide) rfl
  have hFc : ∀ q, va_A (WC cy ad ks g u0) H.size q → A q := va_freeP (X := [(o1, eL cy fo)]) (cx := []) hD hS hA [] rfl
  obtain ⟨q8, h8⟩ := wc_at (cy := cy) (ad := ad) (ks := ks) (g := g) (u := u0) (κ := .cl) hk.1 True.intro
  refine va_calli (va_runV (As := [.int a1]) (rest := [.int 0, .ref o1]) ⟨hx, hb, hml, hown, hts⟩ (c_X7_bestRank l dC dI cy nb ad ks g hk u0 a1 ro uz H.size hF) (cwV 1 hts (gV mw_1432 mw_1433 mw_1434 mw_2 mw_1435) rfl rfl rfl (by decide +kernel) ⟨Nat.le_of_ble_eq_true rfl, Nat.le_of_ble_eq_true rfl⟩) (my_preV hPc hK hDc hE hS hFc (va_recv (q := (RX7, TX7, 12)) hK hPc (ci := 7) (q0 := q8) rfl h8)) rfl rfl hl.1 rfl (lv_room (Nat.le_of_ble_eq_true rfl)) dL_bestRank_4 ⟨Nat.le_of_ble_eq_true rfl, Nat.le_of_ble_eq_true rfl⟩) hS (fun q _ h => hFc q h) hFc (fun r u t H1 locs ht hvm hw hB hz1 hk1 hS => ?_)
  clear h8
  obtain ⟨hP1, hD1⟩ := hB
  rw [ht] at hP1
  obtain ⟨hP, hD⟩ := va_joinP (X := [(o1, eL cy fo)]) (cx := []) (wr := [(o1, eL cy fo)]) (rx := []) (pl := WC cy ad ks g u0) (pl1 := WC cy ad ks g uz) hP hD [] [0] rfl rfl (by decide) (by decide) hk1 hFc hP1 hD1
  generalize H1 = H at hP hS ⊢
  have hP : va_P (dC, dI) vwCl ([(o1, eL cy fo)] ++ WC cy ad ks g uz) H := hP
  have hD : va_D A ([(o1, eL cy fo)] ++ WC cy ad ks g uz) := hD
  refine my_topi hw ?_
  refine W.widen (k := 0) (n := 0) (by omega) (by omega) ?_
  refine lv_i2l (v := ro.toInt64) hx hb dL_bestRank_7 rfl ?_
  refine va_last hx hb hK hP hD hS 0 3 rfl rfl (vp_in_nI (n := 0) (by decide) (by decide)) dL_bestRank_8 (fun H locs hP hD hS => ?_)
  have hP : va_P (dC, dI) vwCl ([(o1, eL cy (vp_updL fo ((0 : Int32).toNatClampNeg) (ro.toInt64)))] ++ WC cy ad ks g uz) H := hP
  have hD : va_D A ([(o1, eL cy (vp_updL fo ((0 : Int32).toNatClampNeg) (ro.toInt64)))] ++ WC cy ad ks g uz) := hD
  refine lv_goto (tgt := 15) hx hb dL_bestRank_9 (by decide) ?_
  refine lv_iconst (v := 0) hx hb dL_bestRank_15 (by decide) ?_
  refine vx_ret ?_
  exact W.iret (v := 0) hx hb hr (fun t ht hW => ⟨⟨0, (), rfl, rfl, by rw [ht]; exact hP, hD⟩, hS.F ht⟩) hS.2.2 dL_bestRank_16
set_option maxHeartbeats 4000000 in
set_option maxRecDepth 100000 in
theorem ct_bestRank (l : Launch) (hst : l.stackTraces = false) (dC : Nat → ClassId) (dI : Nat → Nat → Nat) (cy : Nat → ClassId) (nb : Nat → Nat) (ad : CK → Nat) (ks : List CK) (g : CG) (hk : GA nb ad g ks) (u0 : RS) (a1 : Int32) (o1 : Nat) (fo : Nat → Int64) (xc : Int32) (sz : Nat) (hxc : xc = 1) (hF : C7_bestRank g u0 a1 = some (.inl xc)) : vx_Met l yL_bestRank (wsgH yL_bestRank cL_bestRank 4 (some .int) [(0, 9, 12, 22)]) ({ frames := 14, cells := 1, slots := 6, locals := 900 }) (va_Pc [.ref (ad .cl), .int a1, .ref o1] (fun U => U.heap.size = sz ∧ va_P (dC, dI) vwCl ([(o1, eL cy fo)] ++ WC cy ad ks g u0) U.heap ∧ va_K (dC, dI) vwCl (tyL cy) U ∧ va_D (fun _ => True) ([(o1, eL cy fo)] ++ WC cy ad ks g u0) ∧ GE nb (va_A ([(o1, eL cy fo)] ++ WC cy ad ks g u0) sz) U)) (va_Qi (fun (r : Int32) (_ : Unit) => r = 1) (fun _ t => va_P (dC, dI) vwCl ([(o1, eL cy fo)] ++ WC cy ad ks g u0) t.heap ∧ va_D (va_A ([(o1, eL cy fo)] ++ WC cy ad ks g u0) sz) ([(o1, eL cy fo)] ++ WC cy ad ks g u0)) (va_A ([(o1, eL cy fo)] ++ WC cy ad ks g u0) sz)) (vx_X (fun (_ : Unit) => False) (fun _ _ _ => True) (va_A ([(o1, eL cy fo)] ++ WC cy ad ks g u0) sz)) 1 6 (va_A ([(o1, eL cy fo)] ++ WC cy ad ks g u0) sz) := by
  refine vx_ofWH (cc := cL_bestRank) (maxL := 4) (ret := (some .int)) (hh := [(0, 9, 12, 22)]) pn_L rfl ?_
  intro p e s m args below meth c s₁ B hml hv
  obtain ⟨rfl, hsz, hP, hK, hD0, hE⟩ := hv
  have hx := B.exec
  have hb := B.bytes
  have hr := B.returns
  have hts0 := atoms_spec (ws := (wsgH yL_bestRank cL_bestRank 4 (some .int) [(0, 9, 12, 22)])) B.pre
  have hts : ∀ w ∈ wsL_law, w.before _ s = true := fun w h => hts0 w (List.mem_cons_of_mem _ h)
  have hown : s.vm.findClass RL = some m.cls := by have h9 := findClass_of_methodNamed B.named; exact h9
  have hlocks := B.notSynchronized
  subst hsz
  have hD := hD0.self (sz := s.heap.size)
  generalize hAe : va_A ([(o1, eL cy fo)] ++ WC cy ad ks g u0) s.heap.size = A at hD hE ⊢
  have hA : ∀ q : Nat, s.heap.size ≤ q → A q := fun q h => by rw [← hAe]; exact Or.inr h
  have hS : va_S A s.heap s.heap [] := va_S.rf
  have hl := lv_entry ([.ref (ad .cl), .int a1, .ref o1]) (n := 4) (Nat.le_of_ble_eq_true rfl)
  rw [lg_entry_eq]
  generalize (lg_sl ([.ref (ad .cl), .int a1, .ref o1]) ++ List.replicate (4 - (lg_sl ([.ref (ad .cl), .int a1, .ref o1])).length) Slot.unset).toArray = ls at hl ⊢
  have hl : lv_has ls 4 [(0, .ref (ad .cl)), (1, .int a1), (2, .ref o1)] := hl
  generalize hHe : s.heap = H at hP hS ⊢
  have hS : va_S A s.heap H [] := by rw [hHe]; exact hS
  have htab := vx_table (x := yL_bestRank) B (hts0 (.codeWith yL_bestRank cL_bestRank 4 (some .int) [(0, 9, 12, 22)]) List.mem_cons_self)
  refine lv_aload_n hx hb dL_bestRank_0 rfl (lv_at hl 2 rfl) ?_
  refine lv_iconst (v := 0) hx hb dL_bestRank_1 (by decide) ?_
  refine lv_aload_n hx hb dL_bestRank_2 rfl (lv_at hl 0 rfl) ?_
  refine lv_iload_n hx hb dL_bestRank_3 rfl (lv_at hl 1 rfl) ?_
  have hPc : va_P (dC, dI) vwCl (WC cy ad ks g u0) H := hP.part (X := [(o1, eL cy fo)]) (cx := []) [] rfl
  have hDc : va_D A (WC cy ad ks g u0) := hD.part (X := [(o1, eL cy fo)]) (cx := []) [] (by decide) rfl
  have hFc : ∀ q, va_A (WC cy ad ks g u0) H.size q → A q := va_freeP (X := [(o1, eL cy fo)]) (cx := []) hD hS hA [] rfl
  obtain ⟨q8, h8⟩ := wc_at (cy := cy) (ad := ad) (ks := ks) (g := g) (u := u0) (κ := .cl) hk.1 True.intro
  refine vx_calli (vx_runV (As := [.int a1]) (rest := [.int 0, .ref o1]) ⟨hx, hb, hml, hown, hts⟩ (c_X7_bestRank_y l hst dC dI cy nb ad ks g hk u0 a1 xc H.size hF) (cwV 1 hts (gV mw_1432 mw_1433 mw_1434 mw_2 mw_1435) rfl rfl rfl (by decide +kernel) ⟨Nat.le_of_ble_eq_true rfl, Nat.le_of_ble_eq_true rfl⟩) (my_preV hPc hK hDc hE hS hFc (va_recv (q := (RX7, TX7, 12)) hK hPc (ci := 7) (q0 := q8) rfl h8)) rfl rfl hl.1 rfl (lv_room (Nat.le_of_ble_eq_true rfl)) dL_bestRank_4 ⟨Nat.le_of_ble_eq_true rfl, Nat.le_of_ble_eq_true rfl⟩) hS (fun q _ h => hFc q h) hFc (fun q _ h => hFc q h) (fun E9 ce9 q9 u9 t9 H1 locs1 ht9 hvm9 hp9 hB9 hz9 hk9 hS9 hc9 hv9 hcl9 => ?_) (fun r9 u9 t9 H1 locs1 ht9 hvm9 hp9 _ _ _ _ => hp9.elim)
  clear h8
  obtain ⟨hB8, hP1⟩ := hB9
  rw [ht9] at hP1
  obtain ⟨hP, hD⟩ := va_joinP (X := [(o1, eL cy fo)]) (cx := []) (wr := [(o1, eL cy fo)]) (rx := []) (pl := WC cy ad ks g u0) (pl1 := WC cy ad ks g u0) hP hD [] [0] rfl rfl (by decide) (by decide) hk9 hFc hP1 hDc.self
  have hP : va_P (dC, dI) vwCl ([(o1, eL cy fo)] ++ WC cy ad ks g u0) H1 := hP
  have hD : va_D A ([(o1, eL cy fo)] ++ WC cy ad ks g u0) := hD
  obtain rfl : E9 = xI := hB8.trans (if_pos hxc)
  refine vx_catch (own := RL) (name := xI) hown (tableOf []) _ (tableOf []) (htab.trans rfl) (fun z hz => nomatch hz) (by decide) (by decide) (hts _ mw_612) (va_Nw.use rfl hE.cI) hc9 hv9 hcl9 ?_
  generalize H1 = H at hP hS9 ⊢
  refine W.widen (k := 1) (n := 6) (by omega) (by omega) ?_
  refine lv_astore_n (lv' := [(3, .ref q9), (0, .ref (ad .cl)), (1, .int a1), (2, .ref o1)]) hx hb dL_bestRank_12 rfl hl (by decide) rfl (fun ls hl => ?_)
  refine lv_iconst (v := 1) hx hb dL_bestRank_13 (by decide) ?_
  refine vx_ret ?_
  exact W.iret (v := 1) hx hb hr (fun t ht hW => ⟨⟨1, (), rfl, rfl, by rw [ht]; exact hP, hD⟩, hS9.F ht⟩) hS9.2.2 dL_bestRank_14
set_option maxHeartbeats 4000000 in
set_option maxRecDepth 100000 in
theorem cn_writeCard (l : Launch) (hst : l.stackTraces = false) (dC : Nat → ClassId) (dI : Nat → Nat → Nat) (cy : Nat → ClassId) (nb : Nat → Nat) (ad : CK → Nat) (ks : List CK) (g : CG) (hk : GA nb ad g ks) (u0 : RS) (a1 : Int32) (o1 : Nat) (fo : Nat → Int64) (ro : Int32) (uz : RS) (sz : Nat) (hF : C7_writeCard g u0 a1 = some (.inr (ro, uz))) : vx_Met l yL_writeCard (wsgH yL_writeCard cL_writeCard 4 (some .int) [(0, 9, 12, 22)]) ({ frames := 9, cells := 0, slots := 0, locals := 400 }) (va_Pc [.ref (ad .cl), .int a1, .ref o1] (fun U => U.heap.size = sz ∧ va_P (dC, dI) vwCl ([(o1, eL cy fo)] ++ WC cy ad ks g u0) U.heap ∧ va_K (dC, dI) vwCl (tyL cy) U ∧ va_D (fun _ => True) ([(o1, eL cy fo)] ++ WC cy ad ks g u0) ∧ GE nb (va_A ([(o1, eL cy fo)] ++ WC cy ad ks g u0) sz) U)) (va_Qi (fun (r : Int32) (_ : Unit) => r = 0) (fun _ t => va_P (dC, dI) vwCl ([(o1, eL cy (vp_updL fo ((0 : Int32).toNatClampNeg) (ro.toInt64)))] ++ WC cy ad ks g uz) t.heap ∧ va_D (va_A ([(o1, eL cy fo)] ++ WC cy ad ks g u0) sz) ([(o1, eL cy (vp_updL fo ((0 : Int32).toNatClampNeg) (ro.toInt64)))] ++ WC cy ad ks g uz)) (va_A ([(o1, eL cy fo)] ++ WC cy ad ks g u0) sz)) (vx_X (fun (_ : Unit) => False) (fun _ _ _ => True) (va_A ([(o1, eL cy fo)] ++ WC cy ad ks g u0) sz)) 0 0 (va_A ([(o1, eL cy fo)] ++ WC cy ad ks g u0) sz) := by
  refine vx_ofWH (cc := cL_writeCard) (maxL := 4) (ret := (some .int)) (hh := [(0, 9, 12, 22)]) pn_L rfl ?_
  intro p e s m args below meth c s₁ B hml hv
  obtain ⟨rfl, hsz, hP, hK, hD0, hE⟩ := hv
  have hx := B.exec
  have hb := B.bytes
  have hr := B.returns
  have hts0 := atoms_spec (ws := (wsgH yL_writeCard cL_writeCard 4 (some .int) [(0, 9, 12, 22)])) B.pre
  have hts : ∀ w ∈ wsL_law, w.before _ s = true := fun w h => hts0 w (List.mem_cons_of_mem _ h)
  have hown : s.vm.findClass RL = some m.cls := by have h9 := findClass_of_methodNamed B.named; exact h9
  have hlocks := B.notSynchronized
  subst hsz
  have hD := hD0.self (sz := s.heap.size)
  generalize hAe : va_A ([(o1, eL cy fo)] ++ WC cy ad ks g u0) s.heap.size = A at hD hE ⊢
  have hA : ∀ q : Nat, s.heap.size ≤ q → A q := fun q h => by rw [← hAe]; exact Or.inr h
  have hS : va_S A s.heap s.heap [] := va_S.rf
  have hl := lv_entry ([.ref (ad .cl), .int a1, .ref o1]) (n := 4) (Nat.le_of_ble_eq_true rfl)
  rw [lg_entry_eq]
  generalize (lg_sl ([.ref (ad .cl), .int a1, .ref o1]) ++ List.replicate (4 - (lg_sl ([.ref (ad .cl), .int a1, .ref o1])).length) Slot.unset).toArray = ls at hl ⊢
  have hl : lv_has ls 4 [(0, .ref (ad .cl)), (1, .int a1), (2, .ref o1)] := hl
  generalize hHe : s.heap = H at hP hS ⊢
  have hS : va_S A s.heap H [] := by rw [hHe]; exact hS
  have htab := vx_table (x := yL_writeCard) B (hts0 (.codeWith yL_writeCard cL_writeCard 4 (some .int) [(0, 9, 12, 22)]) List.mem_cons_self)
  refine lv_aload_n hx hb dL_writeCard_0 rfl (lv_at hl 2 rfl) ?_
  refine lv_iconst (v := 0) hx hb dL_writeCard_1 (by decide) ?_
  refine lv_aload_n hx hb dL_writeCard_2 rfl (lv_at hl 0 rfl) ?_
  refine lv_iload_n hx hb dL_writeCard_3 rfl (lv_at hl 1 rfl) ?_
  have hPc : va_P (dC, dI) vwCl (WC cy ad ks g u0) H := hP.part (X := [(o1, eL cy fo)]) (cx := []) [] rfl
  have hDc : va_D A (WC cy ad ks g u0) := hD.part (X := [(o1, eL cy fo)]) (cx := []) [] (by decide) rfl
  have hFc : ∀ q, va_A (WC cy ad ks g u0) H.size q → A q := va_freeP (X := [(o1, eL cy fo)]) (cx := []) hD hS hA [] rfl
  obtain ⟨q8, h8⟩ := wc_at (cy := cy) (ad := ad) (ks := ks) (g := g) (u := u0) (κ := .cl) hk.1 True.intro
  refine va_calli (va_runV (As := [.int a1]) (rest := [.int 0, .ref o1]) ⟨hx, hb, hml, hown, hts⟩ (c_X7_writeCard l dC dI cy nb ad ks g hk u0 a1 ro uz H.size hF) (cwV 1 hts (gV mw_1455 mw_1456 mw_1457 mw_2 mw_1458) rfl rfl rfl (by decide +kernel) ⟨Nat.le_of_ble_eq_true rfl, Nat.le_of_ble_eq_true rfl⟩) (my_preV hPc hK hDc hE hS hFc (va_recv (q := (RX7, TX7, 12)) hK hPc (ci := 7) (q0 := q8) rfl h8)) rfl rfl hl.1 rfl (lv_room (Nat.le_of_ble_eq_true rfl)) dL_writeCard_4 ⟨Nat.le_of_ble_eq_true rfl, Nat.le_of_ble_eq_true rfl⟩) hS (fun q _ h => hFc q h) hFc (fun r u t H1 locs ht hvm hw hB hz1 hk1 hS => ?_)
  clear h8
  obtain ⟨hP1, hD1⟩ := hB
  rw [ht] at hP1
  obtain ⟨hP, hD⟩ := va_joinP (X := [(o1, eL cy fo)]) (cx := []) (wr := [(o1, eL cy fo)]) (rx := []) (pl := WC cy ad ks g u0) (pl1 := WC cy ad ks g uz) hP hD [] [0] rfl rfl (by decide) (by decide) hk1 hFc hP1 hD1
  generalize H1 = H at hP hS ⊢
  have hP : va_P (dC, dI) vwCl ([(o1, eL cy fo)] ++ WC cy ad ks g uz) H := hP
  have hD : va_D A ([(o1, eL cy fo)] ++ WC cy ad ks g uz) := hD
  refine my_topi hw ?_
  refine W.widen (k := 0) (n := 0) (by omega) (by omega) ?_
  refine lv_i2l (v := ro.toInt64) hx hb dL_writeCard_7 rfl ?_
  refine va_last hx hb hK hP hD hS 0 3 rfl rfl (vp_in_nI (n := 0) (by decide) (by decide)) dL_writeCard_8 (fun H locs hP hD hS => ?_)
  have hP : va_P (dC, dI) vwCl ([(o1, eL cy (vp_updL fo ((0 : Int32).toNatClampNeg) (ro.toInt64)))] ++ WC cy ad ks g uz) H := hP
  have hD : va_D A ([(o1, eL cy (vp_updL fo ((0 : Int32).toNatClampNeg) (ro.toInt64)))] ++ WC cy ad ks g uz) := hD
  refine lv_goto (tgt := 15) hx hb dL_writeCard_9 (by decide) ?_
  refine lv_iconst (v := 0) hx hb dL_writeCard_15 (by decide) ?_
  refine vx_ret ?_
  exact W.iret (v := 0) hx hb hr (fun t ht hW => ⟨⟨0, (), rfl, rfl, by rw [ht]; exact hP, hD⟩, hS.F ht⟩) hS.2.2 dL_writeCard_16
set_option maxHeartbeats 4000000 in
set_option maxRecDepth 100000 in
theorem ct_writeCard (l : Launch) (hst : l.stackTraces = false) (dC : Nat → ClassId) (dI : Nat → Nat → Nat) (cy : Nat → ClassId) (nb : Nat → Nat) (ad : CK → Nat) (ks : List CK) (g : CG) (hk : GA nb ad g ks) (u0 : RS) (a1 : Int32) (o1 : Nat) (fo : Nat → Int64) (xc : Int32) (sz : Nat) (hxc : xc = 1) (hF : C7_writeCard g u0 a1 = some (.inl xc)) : vx_Met l yL_writeCard (wsgH yL_writeCard cL_writeCard 4 (some .int) [(0, 9, 12, 22)]) ({ frames := 9, cells := 1, slots := 6, locals := 400 }) (va_Pc [.ref (ad .cl), .int a1, .ref o1] (fun U => U.heap.size = sz ∧ va_P (dC, dI) vwCl ([(o1, eL cy fo)] ++ WC cy ad ks g u0) U.heap ∧ va_K (dC, dI) vwCl (tyL cy) U ∧ va_D (fun _ => True) ([(o1, eL cy fo)] ++ WC cy ad ks g u0) ∧ GE nb (va_A ([(o1, eL cy fo)] ++ WC cy ad ks g u0) sz) U)) (va_Qi (fun (r : Int32) (_ : Unit) => r = 1) (fun _ t => va_P (dC, dI) vwCl ([(o1, eL cy fo)] ++ WC cy ad ks g u0) t.heap ∧ va_D (va_A ([(o1, eL cy fo)] ++ WC cy ad ks g u0) sz) ([(o1, eL cy fo)] ++ WC cy ad ks g u0)) (va_A ([(o1, eL cy fo)] ++ WC cy ad ks g u0) sz)) (vx_X (fun (_ : Unit) => False) (fun _ _ _ => True) (va_A ([(o1, eL cy fo)] ++ WC cy ad ks g u0) sz)) 1 6 (va_A ([(o1, eL cy fo)] ++ WC cy ad ks g u0) sz) := by
  refine vx_ofWH (cc := cL_writeCard) (maxL := 4) (ret := (some .int)) (hh := [(0, 9, 12, 22)]) pn_L rfl ?_
  intro p e s m args below meth c s₁ B hml hv
  obtain ⟨rfl, hsz, hP, hK, hD0, hE⟩ := hv
  have hx := B.exec
  have hb := B.bytes
  have hr := B.returns
  have hts0 := atoms_spec (ws := (wsgH yL_writeCard cL_writeCard 4 (some .int) [(0, 9, 12, 22)])) B.pre
  have hts : ∀ w ∈ wsL_law, w.before _ s = true := fun w h => hts0 w (List.mem_cons_of_mem _ h)
  have hown : s.vm.findClass RL = some m.cls := by have h9 := findClass_of_methodNamed B.named; exact h9
  have hlocks := B.notSynchronized
  subst hsz
  have hD := hD0.self (sz := s.heap.size)
  generalize hAe : va_A ([(o1, eL cy fo)] ++ WC cy ad ks g u0) s.heap.size = A at hD hE ⊢
  have hA : ∀ q : Nat, s.heap.size ≤ q → A q := fun q h => by rw [← hAe]; exact Or.inr h
  have hS : va_S A s.heap s.heap [] := va_S.rf
  have hl := lv_entry ([.ref (ad .cl), .int a1, .ref o1]) (n := 4) (Nat.le_of_ble_eq_true rfl)
  rw [lg_entry_eq]
  generalize (lg_sl ([.ref (ad .cl), .int a1, .ref o1]) ++ List.replicate (4 - (lg_sl ([.ref (ad .cl), .int a1, .ref o1])).length) Slot.unset).toArray = ls at hl ⊢
  have hl : lv_has ls 4 [(0, .ref (ad .cl)), (1, .int a1), (2, .ref o1)] := hl
  generalize hHe : s.heap = H at hP hS ⊢
  have hS : va_S A s.heap H [] := by rw [hHe]; exact hS
  have htab := vx_table (x := yL_writeCard) B (hts0 (.codeWith yL_writeCard cL_writeCard 4 (some .int) [(0, 9, 12, 22)]) List.mem_cons_self)
  refine lv_aload_n hx hb dL_writeCard_0 rfl (lv_at hl 2 rfl) ?_
  refine lv_iconst (v := 0) hx hb dL_writeCard_1 (by decide) ?_
  refine lv_aload_n hx hb dL_writeCard_2 rfl (lv_at hl 0 rfl) ?_
  refine lv_iload_n hx hb dL_writeCard_3 rfl (lv_at hl 1 rfl) ?_
  have hPc : va_P (dC, dI) vwCl (WC cy ad ks g u0) H := hP.part (X := [(o1, eL cy fo)]) (cx := []) [] rfl
  have hDc : va_D A (WC cy ad ks g u0) := hD.part (X := [(o1, eL cy fo)]) (cx := []) [] (by decide) rfl
  have hFc : ∀ q, va_A (WC cy ad ks g u0) H.size q → A q := va_freeP (X := [(o1, eL cy fo)]) (cx := []) hD hS hA [] rfl
  obtain ⟨q8, h8⟩ := wc_at (cy := cy) (ad := ad) (ks := ks) (g := g) (u := u0) (κ := .cl) hk.1 True.intro
  refine vx_calli (vx_runV (As := [.int a1]) (rest := [.int 0, .ref o1]) ⟨hx, hb, hml, hown, hts⟩ (c_X7_writeCard_y l hst dC dI cy nb ad ks g hk u0 a1 xc H.size hF) (cwV 1 hts (gV mw_1455 mw_1456 mw_1457 mw_2 mw_1458) rfl rfl rfl (by decide +kernel) ⟨Nat.le_of_ble_eq_true rfl, Nat.le_of_ble_eq_true rfl⟩) (my_preV hPc hK hDc hE hS hFc (va_recv (q := (RX7, TX7, 12)) hK hPc (ci := 7) (q0 := q8) rfl h8)) rfl rfl hl.1 rfl (lv_room (Nat.le_of_ble_eq_true rfl)) dL_writeCard_4 ⟨Nat.le_of_ble_eq_true rfl, Nat.le_of_ble_eq_true rfl⟩) hS (fun q _ h => hFc q h) hFc (fun q _ h => hFc q h) (fun E9 ce9 q9 u9 t9 H1 locs1 ht9 hvm9 hp9 hB9 hz9 hk9 hS9 hc9 hv9 hcl9 => ?_) (fun r9 u9 t9 H1 locs1 ht9 hvm9 hp9 _ _ _ _ => hp9.elim)
  clear h8
  obtain ⟨hB8, hP1⟩ := hB9
  rw [ht9] at hP1
  obtain ⟨hP, hD⟩ := va_joinP (X := [(o1, eL cy fo)]) (cx := []) (wr := [(o1, eL cy fo)]) (rx := []) (pl := WC cy ad ks g u0) (pl1 := WC cy ad ks g u0) hP hD [] [0] rfl rfl (by decide) (by decide) hk9 hFc hP1 hDc.self
  have hP : va_P (dC, dI) vwCl ([(o1, eL cy fo)] ++ WC cy ad ks g u0) H1 := hP
  have hD : va_D A ([(o1, eL cy fo)] ++ WC cy ad ks g u0) := hD
  obtain rfl : E9 = xI := hB8.trans (if_pos hxc)
  refine vx_catch (own := RL) (name := xI) hown (tableOf []) _ (tableOf []) (htab.trans rfl) (fun z hz => nomatch hz) (by decide) (by decide) (hts _ mw_612) (va_Nw.use rfl hE.cI) hc9 hv9 hcl9 ?_
  generalize H1 = H at hP hS9 ⊢
  refine W.widen (k := 1) (n := 6) (by omega) (by omega) ?_
  refine lv_astore_n (lv' := [(3, .ref q9), (0, .ref (ad .cl)), (1, .int a1), (2, .ref o1)]) hx hb dL_writeCard_12 rfl hl (by decide) rfl (fun ls hl => ?_)
  refine lv_iconst (v := 1) hx hb dL_writeCard_13 (by decide) ?_
  refine vx_ret ?_
  exact W.iret (v := 1) hx hb hr (fun t ht hW => ⟨⟨1, (), rfl, rfl, by rw [ht]; exact hP, hD⟩, hS9.F ht⟩) hS9.2.2 dL_writeCard_14
set_option maxHeartbeats 4000000 in
set_option maxRecDepth 100000 in
theorem cn_saveSnapshot (l : Launch) (hst : l.stackTraces = false) (dC : Nat → ClassId) (dI : Nat → Nat → Nat) (cy : Nat → ClassId) (nb : Nat → Nat) (ad : CK → Nat) (ks : List CK) (g : CG) (hk : GA nb ad g ks) (u0 : RS) (a1 : Int32) (o1 : Nat) (fo : Nat → Int64) (ro : Int32) (gz : CG) (uz : RS) (sz : Nat) (hF : C7_saveSnapshot g u0 a1 = some (.inr (ro, gz, uz))) : vx_Met l yL_saveSnapshot (wsgH yL_saveSnapshot cL_saveSnapshot 4 (some .int) [(0, 9, 12, 13)]) ({ frames := 11, cells := 67, slots := 831, locals := 600 }) (va_Pc [.ref (ad .cl), .int a1, .ref o1] (fun U => U.heap.size = sz ∧ va_P (dC, dI) vwCl ([(o1, eL cy fo)] ++ WC cy ad ks g u0) U.heap ∧ va_K (dC, dI) vwCl (tyL cy) U ∧ va_D (fun _ => True) ([(o1, eL cy fo)] ++ WC cy ad ks g u0) ∧ GE nb (va_A ([(o1, eL cy fo)] ++ WC cy ad ks g u0) sz) U)) (va_Qi (fun (r : Int32) (_ : Unit) => r = 0) (fun _ t => ∃ (ad' : CK → Nat) (ks' : List CK), GA nb ad' gz ks' ∧ AX g ad gz ad' ∧ va_P (dC, dI) vwCl ([(o1, eL cy (vp_updL fo ((0 : Int32).toNatClampNeg) (ro.toInt64)))] ++ WC cy ad' ks' gz uz) t.heap ∧ va_D (va_A ([(o1, eL cy fo)] ++ WC cy ad ks g u0) sz) ([(o1, eL cy (vp_updL fo ((0 : Int32).toNatClampNeg) (ro.toInt64)))] ++ WC cy ad' ks' gz uz)) (va_A ([(o1, eL cy fo)] ++ WC cy ad ks g u0) sz)) (vx_X (fun (_ : Unit) => False) (fun _ _ _ => True) (va_A ([(o1, eL cy fo)] ++ WC cy ad ks g u0) sz)) 67 831 (va_A ([(o1, eL cy fo)] ++ WC cy ad ks g u0) sz) := by
  refine vx_ofWH (cc := cL_saveSnapshot) (maxL := 4) (ret := (some .int)) (hh := [(0, 9, 12, 13)]) pn_L rfl ?_
  intro p e s m args below meth c s₁ B hml hv
  obtain ⟨rfl, hsz, hP, hK, hD0, hE⟩ := hv
  have hx := B.exec
  have hb := B.bytes
  have hr := B.returns
  have hts0 := atoms_spec (ws := (wsgH yL_saveSnapshot cL_saveSnapshot 4 (some .int) [(0, 9, 12, 13)])) B.pre
  have hts : ∀ w ∈ wsL_law, w.before _ s = true := fun w h => hts0 w (List.mem_cons_of_mem _ h)
  have hown : s.vm.findClass RL = some m.cls := by have h9 := findClass_of_methodNamed B.named; exact h9
  have hlocks := B.notSynchronized
  subst hsz
  have hD := hD0.self (sz := s.heap.size)
  generalize hAe : va_A ([(o1, eL cy fo)] ++ WC cy ad ks g u0) s.heap.size = A at hD hE ⊢
  have hA : ∀ q : Nat, s.heap.size ≤ q → A q := fun q h => by rw [← hAe]; exact Or.inr h
  have hS : va_S A s.heap s.heap [] := va_S.rf
  have hl := lv_entry ([.ref (ad .cl), .int a1, .ref o1]) (n := 4) (Nat.le_of_ble_eq_true rfl)
  rw [lg_entry_eq]
  generalize (lg_sl ([.ref (ad .cl), .int a1, .ref o1]) ++ List.replicate (4 - (lg_sl ([.ref (ad .cl), .int a1, .ref o1])).length) Slot.unset).toArray = ls at hl ⊢
  have hl : lv_has ls 4 [(0, .ref (ad .cl)), (1, .int a1), (2, .ref o1)] := hl
  generalize hHe : s.heap = H at hP hS ⊢
  have hS : va_S A s.heap H [] := by rw [hHe]; exact hS
  have htab := vx_table (x := yL_saveSnapshot) B (hts0 (.codeWith yL_saveSnapshot cL_saveSnapshot 4 (some .int) [(0, 9, 12, 13)]) List.mem_cons_self)
  refine lv_aload_n hx hb dL_saveSnapshot_0 rfl (lv_at hl 2 rfl) ?_
  refine lv_iconst (v := 0) hx hb dL_saveSnapshot_1 (by decide) ?_
  refine lv_aload_n hx hb dL_saveSnapshot_2 rfl (lv_at hl 0 rfl) ?_
  refine lv_iload_n hx hb dL_saveSnapshot_3 rfl (lv_at hl 1 rfl) ?_
  have hPc : va_P (dC, dI) vwCl (WC cy ad ks g u0) H := hP.part (X := [(o1, eL cy fo)]) (cx := []) [] rfl
  have hDc : va_D A (WC cy ad ks g u0) := hD.part (X := [(o1, eL cy fo)]) (cx := []) [] (by decide) rfl
  have hFc : ∀ q, va_A (WC cy ad ks g u0) H.size q → A q := va_freeP (X := [(o1, eL cy fo)]) (cx := []) hD hS hA [] rfl
  obtain ⟨q8, h8⟩ := wc_at (cy := cy) (ad := ad) (ks := ks) (g := g) (u := u0) (κ := .cl) hk.1 True.intro
  refine va_calli (va_runV (As := [.int a1]) (rest := [.int 0, .ref o1]) ⟨hx, hb, hml, hown, hts⟩ (c_X7_saveSnapshot l dC dI cy nb ad ks g hk u0 a1 ro gz uz H.size hF) (cwV 1 hts (gV mw_1484 mw_1485 mw_1486 mw_2 mw_1487) rfl rfl rfl (by decide +kernel) ⟨Nat.le_of_ble_eq_true rfl, Nat.le_of_ble_eq_true rfl⟩) (my_preV hPc hK hDc hE hS hFc (va_recv (q := (RX7, TX7, 12)) hK hPc (ci := 7) (q0 := q8) rfl h8)) rfl rfl hl.1 rfl (lv_room (Nat.le_of_ble_eq_true rfl)) dL_saveSnapshot_4 ⟨Nat.le_of_ble_eq_true rfl, Nat.le_of_ble_eq_true rfl⟩) hS (fun q _ h => hFc q h) hFc (fun r u t H1 locs ht hvm hw hB hz1 hk1 hS => ?_)
  clear h8
  obtain ⟨ad', ks', hkz, axz, hP1, hD1⟩ := hB
  rw [ht] at hP1
  obtain ⟨hP, hD⟩ := va_joinP (X := [(o1, eL cy fo)]) (cx := []) (wr := [(o1, eL cy fo)]) (rx := []) (pl := WC cy ad ks g u0) (pl1 := WC cy ad' ks' gz uz) hP hD [] [0] rfl rfl (by decide) (by decide) hk1 hFc hP1 hD1
  generalize H1 = H at hP hS ⊢
  have hP : va_P (dC, dI) vwCl ([(o1, eL cy fo)] ++ WC cy ad' ks' gz uz) H := hP
  have hD : va_D A ([(o1, eL cy fo)] ++ WC cy ad' ks' gz uz) := hD
  refine my_topi hw ?_
  refine W.widen (k := 67) (n := 831) (by omega) (by omega) ?_
  refine lv_i2l (v := ro.toInt64) hx hb dL_saveSnapshot_7 rfl ?_
  refine va_last hx hb hK hP hD hS 0 3 rfl rfl (vp_in_nI (n := 0) (by decide) (by decide)) dL_saveSnapshot_8 (fun H locs hP hD hS => ?_)
  have hP : va_P (dC, dI) vwCl ([(o1, eL cy (vp_updL fo ((0 : Int32).toNatClampNeg) (ro.toInt64)))] ++ WC cy ad' ks' gz uz) H := hP
  have hD : va_D A ([(o1, eL cy (vp_updL fo ((0 : Int32).toNatClampNeg) (ro.toInt64)))] ++ WC cy ad' ks' gz uz) := hD
  refine lv_goto (tgt := 15) hx hb dL_saveSnapshot_9 (by decide) ?_
  refine lv_iconst (v := 0) hx hb dL_saveSnapshot_15 (by decide) ?_
  refine vx_ret ?_
  exact W.iret (v := 0) hx hb hr (fun t ht hW => ⟨⟨0, (), rfl, rfl, ad', ks', hkz, axz, by rw [ht]; exact hP, hD⟩, hS.F ht⟩) hS.2.2 dL_saveSnapshot_16
set_option maxHeartbeats 4000000 in
set_option maxRecDepth 100000 in
theorem ct_saveSnapshot (l : Launch) (hst : l.stackTraces = false) (dC : Nat → ClassId) (dI : Nat → Nat → Nat) (cy : Nat → ClassId) (nb : Nat → Nat) (ad : CK → Nat) (ks : List CK) (g : CG) (hk : GA nb ad g ks) (u0 : RS) (a1 : Int32) (o1 : Nat) (fo : Nat → Int64) (xc : Int32) (sz : Nat) (hxc : ¬ xc = 1) (hF : C7_saveSnapshot g u0 a1 = some (.inl xc)) : vx_Met l yL_saveSnapshot (wsgH yL_saveSnapshot cL_saveSnapshot 4 (some .int) [(0, 9, 12, 13)]) ({ frames := 11, cells := 67, slots := 831, locals := 600 }) (va_Pc [.ref (ad .cl), .int a1, .ref o1] (fun U => U.heap.size = sz ∧ va_P (dC, dI) vwCl ([(o1, eL cy fo)] ++ WC cy ad ks g u0) U.heap ∧ va_K (dC, dI) vwCl (tyL cy) U ∧ va_D (fun _ => True) ([(o1, eL cy fo)] ++ WC cy ad ks g u0) ∧ GE nb (va_A ([(o1, eL cy fo)] ++ WC cy ad ks g u0) sz) U)) (va_Qi (fun (r : Int32) (_ : Unit) => r = 1) (fun _ t => va_P (dC, dI) vwCl ([(o1, eL cy fo)] ++ WC cy ad ks g u0) t.heap ∧ va_D (va_A ([(o1, eL cy fo)] ++ WC cy ad ks g u0) sz) ([(o1, eL cy fo)] ++ WC cy ad ks g u0)) (va_A ([(o1, eL cy fo)] ++ WC cy ad ks g u0) sz)) (vx_X (fun (_ : Unit) => False) (fun _ _ _ => True) (va_A ([(o1, eL cy fo)] ++ WC cy ad ks g u0) sz)) 67 831 (va_A ([(o1, eL cy fo)] ++ WC cy ad ks g u0) sz) := by
  refine vx_ofWH (cc := cL_saveSnapshot) (maxL := 4) (ret := (some .int)) (hh := [(0, 9, 12, 13)]) pn_L rfl ?_
  intro p e s m args below meth c s₁ B hml hv
  obtain ⟨rfl, hsz, hP, hK, hD0, hE⟩ := hv
  have hx := B.exec
  have hb := B.bytes
  have hr := B.returns
  have hts0 := atoms_spec (ws := (wsgH yL_saveSnapshot cL_saveSnapshot 4 (some .int) [(0, 9, 12, 13)])) B.pre
  have hts : ∀ w ∈ wsL_law, w.before _ s = true := fun w h => hts0 w (List.mem_cons_of_mem _ h)
  have hown : s.vm.findClass RL = some m.cls := by have h9 := findClass_of_methodNamed B.named; exact h9
  have hlocks := B.notSynchronized
  subst hsz
  have hD := hD0.self (sz := s.heap.size)
  generalize hAe : va_A ([(o1, eL cy fo)] ++ WC cy ad ks g u0) s.heap.size = A at hD hE ⊢
  have hA : ∀ q : Nat, s.heap.size ≤ q → A q := fun q h => by rw [← hAe]; exact Or.inr h
  have hS : va_S A s.heap s.heap [] := va_S.rf
  have hl := lv_entry ([.ref (ad .cl), .int a1, .ref o1]) (n := 4) (Nat.le_of_ble_eq_true rfl)
  rw [lg_entry_eq]
  generalize (lg_sl ([.ref (ad .cl), .int a1, .ref o1]) ++ List.replicate (4 - (lg_sl ([.ref (ad .cl), .int a1, .ref o1])).length) Slot.unset).toArray = ls at hl ⊢
  have hl : lv_has ls 4 [(0, .ref (ad .cl)), (1, .int a1), (2, .ref o1)] := hl
  generalize hHe : s.heap = H at hP hS ⊢
  have hS : va_S A s.heap H [] := by rw [hHe]; exact hS
  have htab := vx_table (x := yL_saveSnapshot) B (hts0 (.codeWith yL_saveSnapshot cL_saveSnapshot 4 (some .int) [(0, 9, 12, 13)]) List.mem_cons_self)
  refine lv_aload_n hx hb dL_saveSnapshot_0 rfl (lv_at hl 2 rfl) ?_
  refine lv_iconst (v := 0) hx hb dL_saveSnapshot_1 (by decide) ?_
  refine lv_aload_n hx hb dL_saveSnapshot_2 rfl (lv_at hl 0 rfl) ?_
  refine lv_iload_n hx hb dL_saveSnapshot_3 rfl (lv_at hl 1 rfl) ?_
  have hPc : va_P (dC, dI) vwCl (WC cy ad ks g u0) H := hP.part (X := [(o1, eL cy fo)]) (cx := []) [] rfl
  have hDc : va_D A (WC cy ad ks g u0) := hD.part (X := [(o1, eL cy fo)]) (cx := []) [] (by decide) rfl
  have hFc : ∀ q, va_A (WC cy ad ks g u0) H.size q → A q := va_freeP (X := [(o1, eL cy fo)]) (cx := []) hD hS hA [] rfl
  obtain ⟨q8, h8⟩ := wc_at (cy := cy) (ad := ad) (ks := ks) (g := g) (u := u0) (κ := .cl) hk.1 True.intro
  refine vx_calli (vx_runV (As := [.int a1]) (rest := [.int 0, .ref o1]) ⟨hx, hb, hml, hown, hts⟩ (c_X7_saveSnapshot_y l hst dC dI cy nb ad ks g hk u0 a1 xc H.size hF) (cwV 1 hts (gV mw_1484 mw_1485 mw_1486 mw_2 mw_1487) rfl rfl rfl (by decide +kernel) ⟨Nat.le_of_ble_eq_true rfl, Nat.le_of_ble_eq_true rfl⟩) (my_preV hPc hK hDc hE hS hFc (va_recv (q := (RX7, TX7, 12)) hK hPc (ci := 7) (q0 := q8) rfl h8)) rfl rfl hl.1 rfl (lv_room (Nat.le_of_ble_eq_true rfl)) dL_saveSnapshot_4 ⟨Nat.le_of_ble_eq_true rfl, Nat.le_of_ble_eq_true rfl⟩) hS (fun q _ h => hFc q h) hFc (fun q _ h => hFc q h) (fun E9 ce9 q9 u9 t9 H1 locs1 ht9 hvm9 hp9 hB9 hz9 hk9 hS9 hc9 hv9 hcl9 => ?_) (fun r9 u9 t9 H1 locs1 ht9 hvm9 hp9 _ _ _ _ => hp9.elim)
  clear h8
  obtain ⟨hB8, hP1⟩ := hB9
  rw [ht9] at hP1
  obtain ⟨hP, hD⟩ := va_joinP (X := [(o1, eL cy fo)]) (cx := []) (wr := [(o1, eL cy fo)]) (rx := []) (pl := WC cy ad ks g u0) (pl1 := WC cy ad ks g u0) hP hD [] [0] rfl rfl (by decide) (by decide) hk9 hFc hP1 hDc.self
  have hP : va_P (dC, dI) vwCl ([(o1, eL cy fo)] ++ WC cy ad ks g u0) H1 := hP
  have hD : va_D A ([(o1, eL cy fo)] ++ WC cy ad ks g u0) := hD
  obtain rfl : E9 = xA := hB8.trans (if_neg hxc)
  refine vx_catch (own := RL) (name := xA) hown (tableOf []) _ (tableOf []) (htab.trans rfl) (fun z hz => nomatch hz) (by decide) (by decide) (hts _ mw_564) (va_Nw.use rfl hE.cA) hc9 hv9 hcl9 ?_
  generalize H1 = H at hP hS9 ⊢
  refine W.widen (k := 67) (n := 831) (by omega) (by omega) ?_
  refine lv_astore_n (lv' := [(3, .ref q9), (0, .ref (ad .cl)), (1, .int a1), (2, .ref o1)]) hx hb dL_saveSnapshot_12 rfl hl (by decide) rfl (fun ls hl => ?_)
  refine lv_iconst (v := 1) hx hb dL_saveSnapshot_13 (by decide) ?_
  refine vx_ret ?_
  exact W.iret (v := 1) hx hb hr (fun t ht hW => ⟨⟨1, (), rfl, rfl, by rw [ht]; exact hP, hD⟩, hS9.F ht⟩) hS9.2.2 dL_saveSnapshot_14
set_option maxHeartbeats 4000000 in
set_option maxRecDepth 100000 in
theorem cn_restoreSnapshot (l : Launch) (hst : l.stackTraces = false) (dC : Nat → ClassId) (dI : Nat → Nat → Nat) (cy : Nat → ClassId) (nb : Nat → Nat) (ad : CK → Nat) (ks : List CK) (g : CG) (hk : GA nb ad g ks) (u0 : RS) (a1 : Int32) (o1 : Nat) (fo : Nat → Int64) (ro : Int32) (uz : RS) (sz : Nat) (hF : C7_restoreSnapshot g u0 a1 = some (.inr (ro, uz))) : vx_Met l yL_restoreSnapshot (wsgH yL_restoreSnapshot cL_restoreSnapshot 4 (some .int) [(0, 9, 12, 13)]) ({ frames := 10, cells := 0, slots := 0, locals := 500 }) (va_Pc [.ref (ad .cl), .int a1, .ref o1] (fun U => U.heap.size = sz ∧ va_P (dC, dI) vwCl ([(o1, eL cy fo)] ++ WC cy ad ks g u0) U.heap ∧ va_K (dC, dI) vwCl (tyL cy) U ∧ va_D (fun _ => True) ([(o1, eL cy fo)] ++ WC cy ad ks g u0) ∧ GE nb (va_A ([(o1, eL cy fo)] ++ WC cy ad ks g u0) sz) U)) (va_Qi (fun (r : Int32) (_ : Unit) => r = 0) (fun _ t => va_P (dC, dI) vwCl ([(o1, eL cy (vp_updL fo ((0 : Int32).toNatClampNeg) (ro.toInt64)))] ++ WC cy ad ks g uz) t.heap ∧ va_D (va_A ([(o1, eL cy fo)] ++ WC cy ad ks g u0) sz) ([(o1, eL cy (vp_updL fo ((0 : Int32).toNatClampNeg) (ro.toInt64)))] ++ WC cy ad ks g uz)) (va_A ([(o1, eL cy fo)] ++ WC cy ad ks g u0) sz)) (vx_X (fun (_ : Unit) => False) (fun _ _ _ => True) (va_A ([(o1, eL cy fo)] ++ WC cy ad ks g u0) sz)) 0 0 (va_A ([(o1, eL cy fo)] ++ WC cy ad ks g u0) sz) := by
  refine vx_ofWH (cc := cL_restoreSnapshot) (maxL := 4) (ret := (some .int)) (hh := [(0, 9, 12, 13)]) pn_L rfl ?_
  intro p e s m args below meth c s₁ B hml hv
  obtain ⟨rfl, hsz, hP, hK, hD0, hE⟩ := hv
  have hx := B.exec
  have hb := B.bytes
  have hr := B.returns
  have hts0 := atoms_spec (ws := (wsgH yL_restoreSnapshot cL_restoreSnapshot 4 (some .int) [(0, 9, 12, 13)])) B.pre
  have hts : ∀ w ∈ wsL_law, w.before _ s = true := fun w h => hts0 w (List.mem_cons_of_mem _ h)
  have hown : s.vm.findClass RL = some m.cls := by have h9 := findClass_of_methodNamed B.named; exact h9
  have hlocks := B.notSynchronized
  subst hsz
  have hD := hD0.self (sz := s.heap.size)
  generalize hAe : va_A ([(o1, eL cy fo)] ++ WC cy ad ks g u0) s.heap.size = A at hD hE ⊢
  have hA : ∀ q : Nat, s.heap.size ≤ q → A q := fun q h => by rw [← hAe]; exact Or.inr h
  have hS : va_S A s.heap s.heap [] := va_S.rf
  have hl := lv_entry ([.ref (ad .cl), .int a1, .ref o1]) (n := 4) (Nat.le_of_ble_eq_true rfl)
  rw [lg_entry_eq]
  generalize (lg_sl ([.ref (ad .cl), .int a1, .ref o1]) ++ List.replicate (4 - (lg_sl ([.ref (ad .cl), .int a1, .ref o1])).length) Slot.unset).toArray = ls at hl ⊢
  have hl : lv_has ls 4 [(0, .ref (ad .cl)), (1, .int a1), (2, .ref o1)] := hl
  generalize hHe : s.heap = H at hP hS ⊢
  have hS : va_S A s.heap H [] := by rw [hHe]; exact hS
  have htab := vx_table (x := yL_restoreSnapshot) B (hts0 (.codeWith yL_restoreSnapshot cL_restoreSnapshot 4 (some .int) [(0, 9, 12, 13)]) List.mem_cons_self)
  refine lv_aload_n hx hb dL_restoreSnapshot_0 rfl (lv_at hl 2 rfl) ?_
  refine lv_iconst (v := 0) hx hb dL_restoreSnapshot_1 (by decide) ?_
  refine lv_aload_n hx hb dL_restoreSnapshot_2 rfl (lv_at hl 0 rfl) ?_
  refine lv_iload_n hx hb dL_restoreSnapshot_3 rfl (lv_at hl 1 rfl) ?_
  have hPc : va_P (dC, dI) vwCl (WC cy ad ks g u0) H := hP.part (X := [(o1, eL cy fo)]) (cx := []) [] rfl
  have hDc : va_D A (WC cy ad ks g u0) := hD.part (X := [(o1, eL cy fo)]) (cx := []) [] (by decide) rfl
  have hFc : ∀ q, va_A (WC cy ad ks g u0) H.size q → A q := va_freeP (X := [(o1, eL cy fo)]) (cx := []) hD hS hA [] rfl
  obtain ⟨q8, h8⟩ := wc_at (cy := cy) (ad := ad) (ks := ks) (g := g) (u := u0) (κ := .cl) hk.1 True.intro
  refine va_calli (va_runV (As := [.int a1]) (rest := [.int 0, .ref o1]) ⟨hx, hb, hml, hown, hts⟩ (c_X7_restoreSnapshot l dC dI cy nb ad ks g hk u0 a1 ro uz H.size hF) (cwV 1 hts (gV mw_1495 mw_1496 mw_1497 mw_2 mw_1498) rfl rfl rfl (by decide +kernel) ⟨Nat.le_of_ble_eq_true rfl, Nat.le_of_ble_eq_true rfl⟩) (my_preV hPc hK hDc hE hS hFc (va_recv (q := (RX7, TX7, 12)) hK hPc (ci := 7) (q0 := q8) rfl h8)) rfl rfl hl.1 rfl (lv_room (Nat.le_of_ble_eq_true rfl)) dL_restoreSnapshot_4 ⟨Nat.le_of_ble_eq_true rfl, Nat.le_of_ble_eq_true rfl⟩) hS (fun q _ h => hFc q h) hFc (fun r u t H1 locs ht hvm hw hB hz1 hk1 hS => ?_)
  clear h8
  obtain ⟨hP1, hD1⟩ := hB
  rw [ht] at hP1
  obtain ⟨hP, hD⟩ := va_joinP (X := [(o1, eL cy fo)]) (cx := []) (wr := [(o1, eL cy fo)]) (rx := []) (pl := WC cy ad ks g u0) (pl1 := WC cy ad ks g uz) hP hD [] [0] rfl rfl (by decide) (by decide) hk1 hFc hP1 hD1
  generalize H1 = H at hP hS ⊢
  have hP : va_P (dC, dI) vwCl ([(o1, eL cy fo)] ++ WC cy ad ks g uz) H := hP
  have hD : va_D A ([(o1, eL cy fo)] ++ WC cy ad ks g uz) := hD
  refine my_topi hw ?_
  refine W.widen (k := 0) (n := 0) (by omega) (by omega) ?_
  refine lv_i2l (v := ro.toInt64) hx hb dL_restoreSnapshot_7 rfl ?_
  refine va_last hx hb hK hP hD hS 0 3 rfl rfl (vp_in_nI (n := 0) (by decide) (by decide)) dL_restoreSnapshot_8 (fun H locs hP hD hS => ?_)
  have hP : va_P (dC, dI) vwCl ([(o1, eL cy (vp_updL fo ((0 : Int32).toNatClampNeg) (ro.toInt64)))] ++ WC cy ad ks g uz) H := hP
  have hD : va_D A ([(o1, eL cy (vp_updL fo ((0 : Int32).toNatClampNeg) (ro.toInt64)))] ++ WC cy ad ks g uz) := hD
  refine lv_goto (tgt := 15) hx hb dL_restoreSnapshot_9 (by decide) ?_
  refine lv_iconst (v := 0) hx hb dL_restoreSnapshot_15 (by decide) ?_
  refine vx_ret ?_
  exact W.iret (v := 0) hx hb hr (fun t ht hW => ⟨⟨0, (), rfl, rfl, by rw [ht]; exact hP, hD⟩, hS.F ht⟩) hS.2.2 dL_restoreSnapshot_16
set_option maxHeartbeats 4000000 in
set_option maxRecDepth 100000 in
theorem ct_restoreSnapshot (l : Launch) (hst : l.stackTraces = false) (dC : Nat → ClassId) (dI : Nat → Nat → Nat) (cy : Nat → ClassId) (nb : Nat → Nat) (ad : CK → Nat) (ks : List CK) (g : CG) (hk : GA nb ad g ks) (u0 : RS) (a1 : Int32) (o1 : Nat) (fo : Nat → Int64) (xc : Int32) (sz : Nat) (hxc : ¬ xc = 1) (hF : C7_restoreSnapshot g u0 a1 = some (.inl xc)) : vx_Met l yL_restoreSnapshot (wsgH yL_restoreSnapshot cL_restoreSnapshot 4 (some .int) [(0, 9, 12, 13)]) ({ frames := 10, cells := 1, slots := 6, locals := 500 }) (va_Pc [.ref (ad .cl), .int a1, .ref o1] (fun U => U.heap.size = sz ∧ va_P (dC, dI) vwCl ([(o1, eL cy fo)] ++ WC cy ad ks g u0) U.heap ∧ va_K (dC, dI) vwCl (tyL cy) U ∧ va_D (fun _ => True) ([(o1, eL cy fo)] ++ WC cy ad ks g u0) ∧ GE nb (va_A ([(o1, eL cy fo)] ++ WC cy ad ks g u0) sz) U)) (va_Qi (fun (r : Int32) (_ : Unit) => r = 1) (fun _ t => va_P (dC, dI) vwCl ([(o1, eL cy fo)] ++ WC cy ad ks g u0) t.heap ∧ va_D (va_A ([(o1, eL cy fo)] ++ WC cy ad ks g u0) sz) ([(o1, eL cy fo)] ++ WC cy ad ks g u0)) (va_A ([(o1, eL cy fo)] ++ WC cy ad ks g u0) sz)) (vx_X (fun (_ : Unit) => False) (fun _ _ _ => True) (va_A ([(o1, eL cy fo)] ++ WC cy ad ks g u0) sz)) 1 6 (va_A ([(o1, eL cy fo)] ++ WC cy ad ks g u0) sz) := by
  refine vx_ofWH (cc := cL_restoreSnapshot) (maxL := 4) (ret := (some .int)) (hh := [(0, 9, 12, 13)]) pn_L rfl ?_
  intro p e s m args below meth c s₁ B hml hv
  obtain ⟨rfl, hsz, hP, hK, hD0, hE⟩ := hv
  have hx := B.exec
  have hb := B.bytes
  have hr := B.returns
  have hts0 := atoms_spec (ws := (wsgH yL_restoreSnapshot cL_restoreSnapshot 4 (some .int) [(0, 9, 12, 13)])) B.pre
  have hts : ∀ w ∈ wsL_law, w.before _ s = true := fun w h => hts0 w (List.mem_cons_of_mem _ h)
  have hown : s.vm.findClass RL = some m.cls := by have h9 := findClass_of_methodNamed B.named; exact h9
  have hlocks := B.notSynchronized
  subst hsz
  have hD := hD0.self (sz := s.heap.size)
  generalize hAe : va_A ([(o1, eL cy fo)] ++ WC cy ad ks g u0) s.heap.size = A at hD hE ⊢
  have hA : ∀ q : Nat, s.heap.size ≤ q → A q := fun q h => by rw [← hAe]; exact Or.inr h
  have hS : va_S A s.heap s.heap [] := va_S.rf
  have hl := lv_entry ([.ref (ad .cl), .int a1, .ref o1]) (n := 4) (Nat.le_of_ble_eq_true rfl)
  rw [lg_entry_eq]
  generalize (lg_sl ([.ref (ad .cl), .int a1, .ref o1]) ++ List.replicate (4 - (lg_sl ([.ref (ad .cl), .int a1, .ref o1])).length) Slot.unset).toArray = ls at hl ⊢
  have hl : lv_has ls 4 [(0, .ref (ad .cl)), (1, .int a1), (2, .ref o1)] := hl
  generalize hHe : s.heap = H at hP hS ⊢
  have hS : va_S A s.heap H [] := by rw [hHe]; exact hS
  have htab := vx_table (x := yL_restoreSnapshot) B (hts0 (.codeWith yL_restoreSnapshot cL_restoreSnapshot 4 (some .int) [(0, 9, 12, 13)]) List.mem_cons_self)
  refine lv_aload_n hx hb dL_restoreSnapshot_0 rfl (lv_at hl 2 rfl) ?_
  refine lv_iconst (v := 0) hx hb dL_restoreSnapshot_1 (by decide) ?_
  refine lv_aload_n hx hb dL_restoreSnapshot_2 rfl (lv_at hl 0 rfl) ?_
  refine lv_iload_n hx hb dL_restoreSnapshot_3 rfl (lv_at hl 1 rfl) ?_
  have hPc : va_P (dC, dI) vwCl (WC cy ad ks g u0) H := hP.part (X := [(o1, eL cy fo)]) (cx := []) [] rfl
  have hDc : va_D A (WC cy ad ks g u0) := hD.part (X := [(o1, eL cy fo)]) (cx := []) [] (by decide) rfl
  have hFc : ∀ q, va_A (WC cy ad ks g u0) H.size q → A q := va_freeP (X := [(o1, eL cy fo)]) (cx := []) hD hS hA [] rfl
  obtain ⟨q8, h8⟩ := wc_at (cy := cy) (ad := ad) (ks := ks) (g := g) (u := u0) (κ := .cl) hk.1 True.intro
  refine vx_calli (vx_runV (As := [.int a1]) (rest := [.int 0, .ref o1]) ⟨hx, hb, hml, hown, hts⟩ (c_X7_restoreSnapshot_y l hst dC dI cy nb ad ks g hk u0 a1 xc H.size hF) (cwV 1 hts (gV mw_1495 mw_1496 mw_1497 mw_2 mw_1498) rfl rfl rfl (by decide +kernel) ⟨Nat.le_of_ble_eq_true rfl, Nat.le_of_ble_eq_true rfl⟩) (my_preV hPc hK hDc hE hS hFc (va_recv (q := (RX7, TX7, 12)) hK hPc (ci := 7) (q0 := q8) rfl h8)) rfl rfl hl.1 rfl (lv_room (Nat.le_of_ble_eq_true rfl)) dL_restoreSnapshot_4 ⟨Nat.le_of_ble_eq_true rfl, Nat.le_of_ble_eq_true rfl⟩) hS (fun q _ h => hFc q h) hFc (fun q _ h => hFc q h) (fun E9 ce9 q9 u9 t9 H1 locs1 ht9 hvm9 hp9 hB9 hz9 hk9 hS9 hc9 hv9 hcl9 => ?_) (fun r9 u9 t9 H1 locs1 ht9 hvm9 hp9 _ _ _ _ => hp9.elim)
  clear h8
  obtain ⟨hB8, hP1⟩ := hB9
  rw [ht9] at hP1
  obtain ⟨hP, hD⟩ := va_joinP (X := [(o1, eL cy fo)]) (cx := []) (wr := [(o1, eL cy fo)]) (rx := []) (pl := WC cy ad ks g u0) (pl1 := WC cy ad ks g u0) hP hD [] [0] rfl rfl (by decide) (by decide) hk9 hFc hP1 hDc.self
  have hP : va_P (dC, dI) vwCl ([(o1, eL cy fo)] ++ WC cy ad ks g u0) H1 := hP
  have hD : va_D A ([(o1, eL cy fo)] ++ WC cy ad ks g u0) := hD
  obtain rfl : E9 = xA := hB8.trans (if_neg hxc)
  refine vx_catch (own := RL) (name := xA) hown (tableOf []) _ (tableOf []) (htab.trans rfl) (fun z hz => nomatch hz) (by decide) (by decide) (hts _ mw_564) (va_Nw.use rfl hE.cA) hc9 hv9 hcl9 ?_
  generalize H1 = H at hP hS9 ⊢
  refine W.widen (k := 1) (n := 6) (by omega) (by omega) ?_
  refine lv_astore_n (lv' := [(3, .ref q9), (0, .ref (ad .cl)), (1, .int a1), (2, .ref o1)]) hx hb dL_restoreSnapshot_12 rfl hl (by decide) rfl (fun ls hl => ?_)
  refine lv_iconst (v := 1) hx hb dL_restoreSnapshot_13 (by decide) ?_
  refine vx_ret ?_
  exact W.iret (v := 1) hx hb hr (fun t ht hW => ⟨⟨1, (), rfl, rfl, by rw [ht]; exact hP, hD⟩, hS9.F ht⟩) hS9.2.2 dL_restoreSnapshot_14
end
section
theorem nn_32 {x : UInt32} (h : x &&& 0x7fffffff ≤ 0x7f800000) : FP.Core.decode FP.Core.b32 x.toNat ≠ .nan := by
  intro e
  rw [UInt32.le_iff_toNat_le, UInt32.toNat_and] at h
  have h3 : x.toNat &&& (2 ^ 31 - 1) ≤ 2139095040 := h
  rw [Nat.and_two_pow_sub_one_eq_mod] at h3
  have hx : x.toNat < 4294967296 := x.toNat_lt
  generalize x.toNat = n at *
  have en : n = (n / 2147483648 * 256 + n / 8388608 % 256) * 8388608 + n % 8388608 := by omega
  rw [en] at e
  exact de_32 (by omega) (by omega) (fun q => by omega) e
theorem ff_num {x : UInt32} (h : x &&& 0x7fffffff ≤ 0x7f800000) : vf_n64 (FP.f2d x) := by
  have hn := nn_32 h
  have e : FP.f2d x = FP.Core.f2d x := by
    unfold FP.f2d
    exact if_neg (fun q => hn (of_decide_eq_true (p := FP.Core.decode FP.Core.b32 x.toNat = .nan) q))
  have hf : fnn 53 971 (FP.Core.round FP.Core.b64 (FP.Core.decode FP.Core.b32 x.toNat)) := by
    generalize FP.Core.decode FP.Core.b32 x.toNat = d at hn ⊢
    cases d with
    | nan => exact absurd rfl hn
    | inf t => trivial
    | fin t c q => exact rr_64
  obtain ⟨s, k, t, h1, h2, h3, h4, h5⟩ := en_64 hf
  have hz := sz_64 h1 h2 h3
  rw [e]
  unfold vf_n64
  show UInt64.ofNat (FP.Core.encode FP.Core.b64 (FP.Core.round FP.Core.b64 (FP.Core.decode FP.Core.b32 x.toNat))) &&& 9223372036854775807 ≤ 9218868437227405312
  rw [h5]
  exact and_64 hz (by omega)
theorem fd_num {x y z : UInt32} (h : fd x y = some z) : vf_n64 (FP.f2d z) := by
  unfold fd at h
  split at h
  · rename_i q
    rw [← Option.some.inj h]
    exact ff_num q
  · cases h
theorem f0_num : vf_n64 (FP.f2d FP.fconst0) := ff_num (by decide)
theorem mean_F {r r2 : RS} {x : UInt32} (h : F8_meanFails r = some (x, r2)) : vf_n64 (FP.f2d x) := by
  unfold F8_meanFails at h
  obtain ⟨u1, -, h⟩ := ob h
  obtain ⟨t4, h1, h⟩ := ob h
  have e : t4 = x := (Prod.mk.inj (Option.some.inj h)).1
  rw [← e]
  split at h1
  · rw [← Option.some.inj h1]; exact f0_num
  · obtain ⟨x7, h2, h1⟩ := ob h1
    rw [← Option.some.inj h1]; exact fd_num h2
theorem mean_C {g : CG} {c : RS} {x : UInt32} (h : C7_meanFails g c = some x) : vf_n64 (FP.f2d x) := by
  unfold C7_meanFails at h
  obtain ⟨t4, h1, h⟩ := ob h
  have e : t4 = x := Option.some.inj h
  rw [← e]
  split at h1
  · rw [← Option.some.inj h1]; exact f0_num
  · obtain ⟨x7, h2, h1⟩ := ob h1
    rw [← Option.some.inj h1]; exact fd_num h2
theorem busy_C {g : CG} {c : RS} {a : Int32} {x : UInt32} (h : C7_busyPart g c a = some (.inr x)) : vf_n64 (FP.f2d x) := by
  unfold C7_busyPart at h
  obtain ⟨t1, -, h⟩ := ob h
  rcases t1 with t1 | t1
  · rw [trL] at h
    cases h
  · rw [trR] at h
    obtain ⟨t4, h1, h⟩ := ob h
    have e : t4 = x := Sum.inr.inj (Option.some.inj h)
    rw [← e]
    split at h1
    · rw [← Option.some.inj h1]; exact f0_num
    · obtain ⟨n8, -, h1⟩ := ob h1
      obtain ⟨x7, h2, h1⟩ := ob h1
      rw [← Option.some.inj h1]; exact fd_num h2
theorem nd_card {g : CG} {u : RS} {a k : Int32} (h : C7_needCard g u a = some (.inl k)) : k = 1 := by
  unfold C7_needCard at h
  split at h
  · exact (Sum.inl.inj (Option.some.inj h)).symm
  · split at h
    · cases h
    · exact (Sum.inl.inj (Option.some.inj h)).symm
theorem nd_lot {g : CG} {u : RS} {a k : Int32} (h : C7_needLot g u a = some (.inl k)) : k = 1 := by
  unfold C7_needLot at h
  split at h
  · exact (Sum.inl.inj (Option.some.inj h)).symm
  · split at h
    · cases h
    · exact (Sum.inl.inj (Option.some.inj h)).symm
theorem nd_station {g : CG} {u : RS} {a k : Int32} (h : C7_needStation g u a = some (.inl k)) : k = 1 := by
  unfold C7_needStation at h
  split at h
  · exact (Sum.inl.inj (Option.some.inj h)).symm
  · split at h
    · cases h
    · exact (Sum.inl.inj (Option.some.inj h)).symm
theorem tr_1 {α β : Type} {x : Option (Sum Int32 α)} {f : α → Option (Sum Int32 β)} {k : Int32} (h : (x.bind fun t => tr t f) = some (.inl k)) (h1 : ∀ z, x = some (.inl z) → z = 1) (h2 : ∀ a, f a = some (.inl k) → k = 1) : k = 1 := by
  obtain ⟨t, e, h⟩ := ob h
  rcases t with z | z
  · have h3 : some (Sum.inl z) = some (Sum.inl k) := h
    rw [← Sum.inl.inj (Option.some.inj h3)]
    exact h1 z e
  · exact h2 z h
end
section
noncomputable def NI {α : Type} (x : Option (Sum Int32 α)) : Prop := ∀ k : Int32, ¬ x = some (.inl k)
theorem NI.b {α β : Type} {x : Option α} {f : α → Option (Sum Int32 β)} (h : ∀ a, NI (f a)) : NI (x.bind f) := fun k e => by
  obtain ⟨a, -, e⟩ := ob e
  exact h a k e
theorem NI.i {α : Type} {c : Prop} [Decidable c] {x y : Option (Sum Int32 α)} (h1 : NI x) (h2 : NI y) : NI (if c then x else y) := fun k e => by
  split at e
  · exact h1 k e
  · exact h2 k e
theorem NI.s {α : Type} {y : α} : NI (some (Sum.inr y) : Option (Sum Int32 α)) := fun k e => by cases e
theorem NI.no {α : Type} {x : Option (Sum Int32 α)} {k : Int32} {P : Prop} (hn : NI x) (h : x = some (.inl k)) : P := (hn k h).elim
theorem x1_letter {g : CG} {u : RS} {a1 a2 k : Int32} (h : C7_letter g u a1 a2 = some (.inl k)) : k = 1 := by
  unfold C7_letter at h
  refine tr_1 h (fun z hz => nd_card hz) (fun a9 h => ?_)
  exact NI.no (by repeat' (first | exact NI.s | refine NI.b fun _ => ?_ | refine NI.i ?_ ?_)) h
theorem x1_cardOf {g : CG} {u : RS} {a1 a2 k : Int32} (h : C7_cardOf g u a1 a2 = some (.inl k)) : k = 1 := by
  unfold C7_cardOf at h
  refine tr_1 h (fun z hz => nd_lot hz) (fun a9 h => ?_)
  exact NI.no (by repeat' (first | exact NI.s | refine NI.b fun _ => ?_ | refine NI.i ?_ ?_)) h
theorem x1_ticksFor {g : CG} {u : RS} {a1 a2 k : Int32} (h : C7_ticksFor g u a1 a2 = some (.inl k)) : k = 1 := by
  unfold C7_ticksFor at h
  refine tr_1 h (fun z hz => nd_station hz) (fun a9 h => ?_)
  refine tr_1 h (fun z hz => nd_card hz) (fun a8 h => ?_)
  exact NI.no (by repeat' (first | exact NI.s | refine NI.b fun _ => ?_ | refine NI.i ?_ ?_)) h
theorem x1_busyPart {g : CG} {u : RS} {a1 k : Int32} (h : C7_busyPart g u a1 = some (.inl k)) : k = 1 := by
  unfold C7_busyPart at h
  refine tr_1 h (fun z hz => nd_station hz) (fun a9 h => ?_)
  exact NI.no (by repeat' (first | exact NI.s | refine NI.b fun _ => ?_ | refine NI.i ?_ ?_)) h
theorem x1_order {g : CG} {u : RS} {a1 k : Int32} (h : C7_order g u a1 = some (.inl k)) : k = 1 := by
  unfold C7_order at h
  refine tr_1 h (fun z hz => nd_lot hz) (fun a9 h => ?_)
  exact NI.no (by repeat' (first | exact NI.s | refine NI.b fun _ => ?_ | refine NI.i ?_ ?_)) h
theorem x1_giveUp {g : CG} {u : RS} {a1 k : Int32} (h : C7_giveUp g u a1 = some (.inl k)) : k = 1 := by
  unfold C7_giveUp at h
  refine tr_1 h (fun z hz => nd_card hz) (fun a9 h => ?_)
  exact NI.no (by repeat' (first | exact NI.s | refine NI.b fun _ => ?_ | refine NI.i ?_ ?_)) h
theorem x1_stop {g : CG} {u : RS} {a1 a2 k : Int32} (h : C7_stop g u a1 a2 = some (.inl k)) : k = 1 := by
  unfold C7_stop at h
  refine tr_1 h (fun z hz => nd_station hz) (fun a9 h => ?_)
  exact NI.no (by repeat' (first | exact NI.s | refine NI.b fun _ => ?_ | refine NI.i ?_ ?_)) h
theorem x1_rush {g : CG} {u : RS} {a1 k : Int32} (h : C7_rush g u a1 = some (.inl k)) : k = 1 := by
  unfold C7_rush at h
  refine tr_1 h (fun z hz => nd_card hz) (fun a9 h => ?_)
  exact NI.no (by repeat' (first | exact NI.s | refine NI.b fun _ => ?_ | refine NI.i ?_ ?_)) h
theorem x1_leavesIn {g : CG} {u : RS} {a1 k : Int32} (h : C7_leavesIn g u a1 = some (.inl k)) : k = 1 := by
  unfold C7_leavesIn at h
  refine tr_1 h (fun z hz => nd_card hz) (fun a9 h => ?_)
  exact NI.no (by repeat' (first | exact NI.s | refine NI.b fun _ => ?_ | refine NI.i ?_ ?_)) h
theorem x1_lotIn {g : CG} {u : RS} {a1 k : Int32} (h : C7_lotIn g u a1 = some (.inl k)) : k = 1 := by
  unfold C7_lotIn at h
  refine tr_1 h (fun z hz => nd_lot hz) (fun a9 h => ?_)
  exact NI.no (by repeat' (first | exact NI.s | refine NI.b fun _ => ?_ | refine NI.i ?_ ?_)) h
theorem x1_failIn {g : CG} {u : RS} {a1 k : Int32} (h : C7_failIn g u a1 = some (.inl k)) : k = 1 := by
  unfold C7_failIn at h
  refine tr_1 h (fun z hz => nd_station hz) (fun a9 h => ?_)
  exact NI.no (by repeat' (first | exact NI.s | refine NI.b fun _ => ?_ | refine NI.i ?_ ?_)) h
theorem x1_restIn {g : CG} {u : RS} {a1 k : Int32} (h : C7_restIn g u a1 = some (.inl k)) : k = 1 := by
  unfold C7_restIn at h
  refine tr_1 h (fun z hz => nd_station hz) (fun a9 h => ?_)
  exact NI.no (by repeat' (first | exact NI.s | refine NI.b fun _ => ?_ | refine NI.i ?_ ?_)) h
theorem x1_bestRank {g : CG} {u : RS} {a1 k : Int32} (h : C7_bestRank g u a1 = some (.inl k)) : k = 1 := by
  unfold C7_bestRank at h
  refine tr_1 h (fun z hz => nd_lot hz) (fun a9 h => ?_)
  exact NI.no (by repeat' (first | exact NI.s | refine NI.b fun _ => ?_ | refine NI.i ?_ ?_)) h
theorem x1_writeCard {g : CG} {u : RS} {a1 k : Int32} (h : C7_writeCard g u a1 = some (.inl k)) : k = 1 := by
  unfold C7_writeCard at h
  refine tr_1 h (fun z hz => nd_card hz) (fun a9 h => ?_)
  exact NI.no (by repeat' (first | exact NI.s | refine NI.b fun _ => ?_ | refine NI.i ?_ ?_)) h
end
section
noncomputable def LX (p : Program) (s : State) (m : MethodId) (meth : Method) (c : Code) (b L : Nat) (xs : Nat → Int32) (dC : Nat → ClassId) (dI : Nat → Nat → Nat) (cy : Nat → ClassId) (nb : Nat → Nat) : Prop :=
  p.tables.exec = Jvm.exec ∧ c.code = code ∧ meth.sig.returnType = ret ∧ c.maxLocals = 10 ∧ s.vm.findClass RL = some m.cls ∧ (∀ w ∈ wsL_law, w.before #[Value.ref b] s = true) ∧ va_X b L xs s s.heap ∧ b < s.heap.size ∧ meth.locks = false ∧ va_K (dC, dI) vwCl (tyL cy) s ∧ GE nb (fun q => s.heap.size ≤ q) s
noncomputable abbrev XLW (cy : Nat → ClassId) (o3 o4 : Nat) (am : Nat → Nat) (f3 : Nat → Int64) (f4 : Nat → UInt64) (w : RS) : va_W := (o3, eL cy f3) :: (o4, eD cy f4) :: WM cy am w
noncomputable def LSt (s : State) (dC : Nat → ClassId) (dI : Nat → Nat → Nat) (cy : Nat → ClassId) (nb : Nat → Nat) (b o3 o4 : Nat) (am : Nat → Nat) (n i : Nat) (H : Heap) (locs : List Loc) (ls : Array Slot) : Prop := ∃ (ad : CK → Nat) (ks : List CK) (g : CG) (u r : RS) (f3 : Nat → Int64) (f4 : Nat → UInt64), GA nb ad g ks ∧ GI r u g (2001 * n) (602 * n) ∧ va_P (dC, dI) vwCl (XLW cy o3 o4 am f3 f4 r ++ WC cy ad ks g u) H ∧ va_D (fun q : Nat => s.heap.size ≤ q) (XLW cy o3 o4 am f3 f4 r ++ WC cy ad ks g u) ∧ va_S (fun q : Nat => s.heap.size ≤ q) s.heap H locs ∧ lv_has ls 10 [(5, .int (nI i)), (4, .ref o4), (3, .ref o3), (2, .ref (am 0)), (1, .ref (ad .cl)), (0, .ref b)]
theorem my_topd {p : Program} {l : Launch} {e : Env} {R : Room} {s : State} {m : MethodId} {args : Array Value} {below : List Frame} {meth : Method} {c : Code} {H : Heap} {locs : List Loc} {cells slots : Nat} {Q : State → Prop} {pc : Nat} {ls : Array Slot} {rest : List Value} {x y : UInt64} (h : x = y) (k : W p l e R s m args below meth c H locs cells slots Q (F0 m pc ls (.double y :: rest))) : W p l e R s m args below meth c H locs cells slots Q (F0 m pc ls (.double x :: rest)) := h ▸ k
end
