set_option maxHeartbeats 4000000 in
set_option maxRecDepth 100000 in
theorem cn_blanksIn (l : Launch) (hst : l.stackTraces = false) (dC : Nat → ClassId) (dI : Nat → Nat → Nat) (cy : Nat → ClassId) (nb : Nat → Nat) (ad : CK → Nat) (ks : List CK) (g : CG) (hk : GA nb ad g ks) (u0 : RS) (a1 : Int32) (o1 : Nat) (fo : Nat → Int64) (ro : Int32) (uz : RS) (sz : Nat) (hF : C7_blanksIn g u0 a1 = some (.inr (ro, uz))) : vx_Met l yL_blanksIn (wsgH yL_blanksIn cL_blanksIn 4 (some .int) [(0, 9, 12, 13)]) ({ frames := 14, cells := 0, slots := 0, locals := 900 }) (va_Pc [.ref (ad .cl), .int a1, .ref o1] (fun U => U.heap.size = sz ∧ va_P (dC, dI) vwCl ([(o1, eL cy fo)] ++ WC cy ad ks g u0) U.heap ∧ va_K (dC, dI) vwCl (tyL cy) U ∧ va_D (fun _ => True) ([(o1, eL cy fo)] ++ WC cy ad ks g u0) ∧ GE nb (va_A ([(o1, eL cy fo)] ++ WC cy ad ks g u0) sz) U)) (va_Qi (fun (r : Int32) (_ : Unit) => r = 0) (fun _ t => va_P (dC, dI) vwCl ([(o1, eL cy (vp_updL fo ((0 : Int32).toNatClampNeg) (ro.toInt64)))] ++ WC cy ad ks g uz) t.heap ∧ va_D (va_A ([(o1, eL cy fo)] ++ WC cy ad ks g u0) sz) ([(o1, eL cy (vp_updL fo ((0 : Int32).toNatClampNeg) (ro.toInt64)))] ++ WC cy ad ks g uz)) (va_A ([(o1, eL cy fo)] ++ WC cy ad ks g u0) sz)) (vx_X (fun (_ : Unit) => False) (fun _ _ _ => True) (va_A ([(o1, eL cy fo)] ++ WC cy ad ks g u0) sz)) 0 0 (va_A ([(o1, eL cy fo)] ++ WC cy ad ks g u0) sz) := by
  refine vx_ofWH (cc := cL_blanksIn) (maxL := 4) (ret := (some .int)) (hh := [(0, 9, 12, 13)]) pn_L rfl ?_
  intro p e s m args below meth c s₁ B hml hv
  obtain ⟨rfl, hsz, hP, hK, hD0, hE⟩ := hv
  have hx := B.exec
  have hb := B.bytes
  have hr := B.returns
  have hts0 := atoms_spec (ws := (wsgH yL_blanksIn cL_blanksIn 4 (some .int) [(0, 9, 12, 13)])) B.pre
  have hts : ∀ w ∈ wsL_law, w.before _ s = true := fun w h => hts0 w (List.mem_cons_of_mem _ h)
  have hown : s.vm.findClass RL = some m.cls := by have h9 := findClass_of_methodNamed B.named; exact h9
  have hlocks := B.notSynchronized
  subst hsz
  have hD := hD0.self (sz := s.heap.size)
  generalize hAe : va_A ([(o1, eL cy fo)] ++ WC cy ad ks g u0) s.heap.size = A at hD hE ⊢
  have hA : ∀ q : Nat, s.heap.size ≤ q → A q := fun q h => by rw [← hAe]; exact Or.inr h
  have hS : va_S A s.heap s.heap [] := va_S.rf
  have hl := lv_entry ([.ref (ad .cl), .int a1, .ref o1]) (n := 4) (Nat.le_of_ble_eq_true rfl)
  rw [lg_entry_eq]
  generalize (lg_sl ([.ref (ad .cl), .int a1, .ref o1]) ++ List.replicate (4 - (lg_sl ([.ref (ad .cl), .int a1, .ref o1])).length) Slot.unset).toArray = ls at hl ⊢
  have hl : lv_has ls 4 [(0, .ref (ad .cl)), (1, .int a1), (2, .ref o1)] := hl
  generalize hHe : s.heap = H at hP hS ⊢
  have hS : va_S A s.heap H [] := by rw [hHe]; exact hS
  have htab := vx_table (x := yL_blanksIn) B (hts0 (.codeWith yL_blanksIn cL_blanksIn 4 (some .int) [(0, 9, 12, 13)]) List.mem_cons_self)
  refine lv_aload_n hx hb dL_blanksIn_0 rfl (lv_at hl 2 rfl) ?_
  refine lv_iconst (v := 0) hx hb dL_blanksIn_1 (by decide) ?_
  refine lv_aload_n hx hb dL_blanksIn_2 rfl (lv_at hl 0 rfl) ?_
  refine lv_iload_n hx hb dL_blanksIn_3 rfl (lv_at hl 1 rfl) ?_
  have hPc : va_P (dC, dI) vwCl (WC cy ad ks g u0) H := hP.part (X := [(o1, eL cy fo)]) (cx := []) [] rfl
  have hDc : va_D A (WC cy ad ks g u0) := hD.part (X := [(o1, eL cy fo)]) (cx := []) [] (by decide) rfl
  have hFc : ∀ q, va_A (WC cy ad ks g u0) H.size q → A q := va_freeP (X := [(o1, eL cy fo)]) (cx := []) hD hS hA [] rfl
  obtain ⟨q8, h8⟩ := wc_at (cy := cy) (ad := ad) (ks := ks) (g := g) (u := u0) (κ := .cl) hk.1 True.intro
  refine va_calli (va_runV (As := [.int a1]) (rest := [.int 0, .ref o1]) ⟨hx, hb, hml, hown, hts⟩ (c_X7_blanksIn l dC dI cy nb ad ks g hk u0 a1 ro uz H.size hF) (cwV 1 hts (gV mw_1401 mw_1402 mw_1403 mw_2 mw_1404) rfl rfl rfl (by decide +kernel) ⟨Nat.le_of_ble_eq_true rfl, Nat.le_of_ble_eq_true rfl⟩) (my_preV hPc hK hDc hE hS hFc (va_recv (q := (RX7, TX7, 12)) hK hPc (ci := 7) (q0 := q8) rfl h8)) rfl rfl hl.1 rfl (lv_room (Nat.le_of_ble_eq_true rfl)) dL_blanksIn_4 ⟨Nat.le_of_ble_eq_true rfl, Nat.le_of_ble_eq_true rfl⟩) hS (fun q _ h => hFc q h) hFc (fun r u t H1 locs ht hvm hw hB hz1 hk1 hS => ?_)
  clear h8
  obtain ⟨hP1, hD1⟩ := hB
  rw [ht] at hP1
  obtain ⟨hP, hD⟩ := va_joinP (X := [(o1, eL cy fo)]) (cx := []) (wr := [(o1, eL cy fo)]) (rx := []) (pl := WC cy ad ks g u0) (pl1 := WC cy ad ks g uz) hP hD [] [0] rfl rfl (by decide) (by decide) hk1 hFc hP1 hD1
  generalize H1 = H at hP hS ⊢
  have hP : va_P (dC, dI) vwCl ([(o1, eL cy fo)] ++ WC cy ad ks g uz) H := hP
  have hD : va_D A ([(o1, eL cy fo)] ++ WC cy ad ks g uz) := hD
  refine my_topi hw ?_
  refine W.widen (k := 0) (n := 0) (by omega) (by omega) ?_
  refine lv_i2l (v := ro.toInt64) hx hb dL_blanksIn_7 rfl ?_
  refine va_last hx hb hK hP hD hS 0 3 rfl rfl (vp_in_nI (n := 0) (by decide) (by decide)) dL_blanksIn_8 (fun H locs hP hD hS => ?_)
  have hP : va_P (dC, dI) vwCl ([(o1, eL cy (vp_updL fo ((0 : Int32).toNatClampNeg) (ro.toInt64)))] ++ WC cy ad ks g uz) H := hP
  have hD : va_D A ([(o1, eL cy (vp_updL fo ((0 : Int32).toNatClampNeg) (ro.toInt64)))] ++ WC cy ad ks g uz) := hD
  refine lv_goto (tgt := 15) hx hb dL_blanksIn_9 (by decide) ?_
  refine lv_iconst (v := 0) hx hb dL_blanksIn_15 (by decide) ?_
  refine vx_ret ?_
  exact W.iret (v := 0) hx hb hr (fun t ht hW => ⟨⟨0, (), rfl, rfl, by rw [ht]; exact hP, hD⟩, hS.F ht⟩) hS.2.2 dL_blanksIn_16
set_option maxHeartbeats 4000000 in
set_option maxRecDepth 100000 in
theorem ct_blanksIn (l : Launch) (hst : l.stackTraces = false) (dC : Nat → ClassId) (dI : Nat → Nat → Nat) (cy : Nat → ClassId) (nb : Nat → Nat) (ad : CK → Nat) (ks : List CK) (g : CG) (hk : GA nb ad g ks) (u0 : RS) (a1 : Int32) (o1 : Nat) (fo : Nat → Int64) (xc : Int32) (sz : Nat) (hxc : ¬ xc = 1) (hF : C7_blanksIn g u0 a1 = some (.inl xc)) : vx_Met l yL_blanksIn (wsgH yL_blanksIn cL_blanksIn 4 (some .int) [(0, 9, 12, 13)]) ({ frames := 14, cells := 1, slots := 6, locals := 900 }) (va_Pc [.ref (ad .cl), .int a1, .ref o1] (fun U => U.heap.size = sz ∧ va_P (dC, dI) vwCl ([(o1, eL cy fo)] ++ WC cy ad ks g u0) U.heap ∧ va_K (dC, dI) vwCl (tyL cy) U ∧ va_D (fun _ => True) ([(o1, eL cy fo)] ++ WC cy ad ks g u0) ∧ GE nb (va_A ([(o1, eL cy fo)] ++ WC cy ad ks g u0) sz) U)) (va_Qi (fun (r : Int32) (_ : Unit) => r = 1) (fun _ t => va_P (dC, dI) vwCl ([(o1, eL cy fo)] ++ WC cy ad ks g u0) t.heap ∧ va_D (va_A ([(o1, eL cy fo)] ++ WC cy ad ks g u0) sz) ([(o1, eL cy fo)] ++ WC cy ad ks g u0)) (va_A ([(o1, eL cy fo)] ++ WC cy ad ks g u0) sz)) (vx_X (fun (_ : Unit) => False) (fun _ _ _ => True) (va_A ([(o1, eL cy fo)] ++ WC cy ad ks g u0) sz)) 1 6 (va_A ([(o1, eL cy fo)] ++ WC cy ad ks g u0) sz) := by
  refine vx_ofWH (cc := cL_blanksIn) (maxL := 4) (ret := (some .int)) (hh := [(0, 9, 12, 13)]) pn_L rfl ?_
  intro p e s m args below meth c s₁ B hml hv
  obtain ⟨rfl, hsz, hP, hK, hD0, hE⟩ := hv
  have hx := B.exec
  have hb := B.bytes
  have hr := B.returns
  have hts0 := atoms_spec (ws := (wsgH yL_blanksIn cL_blanksIn 4 (some .int) [(0, 9, 12, 13)])) B.pre
  have hts : ∀ w ∈ wsL_law, w.before _ s = true := fun w h => hts0 w (List.mem_cons_of_mem _ h)
  have hown : s.vm.findClass RL = some m.cls := by have h9 := findClass_of_methodNamed B.named; exact h9
  have hlocks := B.notSynchronized
  subst hsz
  have hD := hD0.self (sz := s.heap.size)
  generalize hAe : va_A ([(o1, eL cy fo)] ++ WC cy ad ks g u0) s.heap.size = A at hD hE ⊢
  have hA : ∀ q : Nat, s.heap.size ≤ q → A q := fun q h => by rw [← hAe]; exact Or.inr h
  have hS : va_S A s.heap s.heap [] := va_S.rf
  have hl := lv_entry ([.ref (ad .cl), .int a1, .ref o1]) (n := 4) (Nat.le_of_ble_eq_true rfl)
  rw [lg_entry_eq]
  generalize (lg_sl ([.ref (ad .cl), .int a1, .ref o1]) ++ List.replicate (4 - (lg_sl ([.ref (ad .cl), .int a1, .ref o1])).length) Slot.unset).toArray = ls at hl ⊢
  have hl : lv_has ls 4 [(0, .ref (ad .cl)), (1, .int a1), (2, .ref o1)] := hl
  generalize hHe : s.heap = H at hP hS ⊢
  have hS : va_S A s.heap H [] := by rw [hHe]; exact hS
  have htab := vx_table (x := yL_blanksIn) B (hts0 (.codeWith yL_blanksIn cL_blanksIn 4 (some .int) [(0, 9, 12, 13)]) List.mem_cons_self)
  refine lv_aload_n hx hb dL_blanksIn_0 rfl (lv_at hl 2 rfl) ?_
  refine lv_iconst (v := 0) hx hb dL_blanksIn_1 (by decide) ?_
  refine lv_aload_n hx hb dL_blanksIn_2 rfl (lv_at hl 0 rfl) ?_
  refine lv_iload_n hx hb dL_blanksIn_3 rfl (lv_at hl 1 rfl) ?_
  have hPc : va_P (dC, dI) vwCl (WC cy ad ks g u0) H := hP.part (X := [(o1, eL cy fo)]) (cx := []) [] rfl
  have hDc : va_D A (WC cy ad ks g u0) := hD.part (X := [(o1, eL cy fo)]) (cx := []) [] (by decide) rfl
  have hFc : ∀ q, va_A (WC cy ad ks g u0) H.size q → A q := va_freeP (X := [(o1, eL cy fo)]) (cx := []) hD hS hA [] rfl
  obtain ⟨q8, h8⟩ := wc_at (cy := cy) (ad := ad) (ks := ks) (g := g) (u := u0) (κ := .cl) hk.1 True.intro
  refine vx_calli (vx_runV (As := [.int a1]) (rest := [.int 0, .ref o1]) ⟨hx, hb, hml, hown, hts⟩ (c_X7_blanksIn_y l hst dC dI cy nb ad ks g hk u0 a1 xc H.size hF) (cwV 1 hts (gV mw_1401 mw_1402 mw_1403 mw_2 mw_1404) rfl rfl rfl (by decide +kernel) ⟨Nat.le_of_ble_eq_true rfl, Nat.le_of_ble_eq_true rfl⟩) (my_preV hPc hK hDc hE hS hFc (va_recv (q := (RX7, TX7, 12)) hK hPc (ci := 7) (q0 := q8) rfl h8)) rfl rfl hl.1 rfl (lv_room (Nat.le_of_ble_eq_true rfl)) dL_blanksIn_4 ⟨Nat.le_of_ble_eq_true rfl, Nat.le_of_ble_eq_true rfl⟩) hS (fun q _ h => hFc q h) hFc (fun q _ h => hFc q h) (fun E9 ce9 q9 u9 t9 H1 locs1 ht9 hvm9 hp9 hB9 hz9 hk9 hS9 hc9 hv9 hcl9 => ?_) (fun r9 u9 t9 H1 locs1 ht9 hvm9 hp9 _ _ _ _ => hp9.elim)
  clear h8
  obtain ⟨hB8, hP1⟩ := hB9
  rw [ht9] at hP1
  obtain ⟨hP, hD⟩ := va_joinP (X := [(o1, eL cy fo)]) (cx := []) (wr := [(o1, eL cy fo)]) (rx := []) (pl := WC cy ad ks g u0) (pl1 := WC cy ad ks g u0) hP hD [] [0] rfl rfl (by decide) (by decide) hk9 hFc hP1 hDc.self
  have hP : va_P (dC, dI) vwCl ([(o1, eL cy fo)] ++ WC cy ad ks g u0) H1 := hP
  have hD : va_D A ([(o1, eL cy fo)] ++ WC cy ad ks g u0) := hD
  obtain rfl : E9 = xA := hB8.trans (if_neg hxc)
  refine vx_catch (own := RL) (name := xA) hown (tableOf []) _ (tableOf []) (htab.trans rfl) (fun z hz => nomatch hz) (by decide) (by decide) (hts _ mw_564) (va_Nw.use rfl hE.cA) hc9 hv9 hcl9 ?_
  generalize H1 = H at hP hS9 ⊢
  refine W.widen (k := 1) (n := 6) (by omega) (by omega) ?_
  refine lv_astore_n (lv' := [(3, .ref q9), (0, .ref (ad .cl)), (1, .int a1), (2, .ref o1)]) hx hb dL_blanksIn_12 rfl hl (by decide) rfl (fun ls hl => ?_)
  refine lv_iconst (v := 1) hx hb dL_blanksIn_13 (by decide) ?_
  refine vx_ret ?_
  exact W.iret (v := 1) hx hb hr (fun t ht hW => ⟨⟨1, (), rfl, rfl, by rw [ht]; exact hP, hD⟩, hS9.F ht⟩) hS9.2.2 dL_blanksIn_14
set_option maxHeartbeats 4000000 in
set_option maxRecDepth 100000 in
theorem cn_restIn (l : Launch) (hst : l.stackTraces = false) (dC : Nat → ClassId) (dI : Nat → Nat → Nat) (cy : Nat → ClassId) (nb : Nat → Nat) (ad : CK → Nat) (ks : List CK) (g : CG) (hk : GA nb ad g ks) (u0 : RS) (a1 : Int32) (o1 : Nat) (fo : Nat → Int64) (ro : Int32) (uz : RS) (sz : Nat) (hF : C7_restIn g u0 a1 = some (.inr (ro, uz))) : vx_Met l yL_restIn (wsgH yL_restIn cL_restIn 4 (some .int) [(0, 9, 12, 22)]) ({ frames := 14, cells := 0, slots := 0, locals := 900 }) (va_Pc [.ref (ad .cl), .int a1, .ref o1] (fun U => U.heap.size = sz ∧ va_P (dC, dI) vwCl ([(o1, eL cy fo)] ++ WC cy ad ks g u0) U.heap ∧ va_K (dC, dI) vwCl (tyL cy) U ∧ va_D (fun _ => True) ([(o1, eL cy fo)] ++ WC cy ad ks g u0) ∧ GE nb (va_A ([(o1, eL cy fo)] ++ WC cy ad ks g u0) sz) U)) (va_Qi (fun (r : Int32) (_ : Unit) => r = 0) (fun _ t => va_P (dC, dI) vwCl ([(o1, eL cy (vp_updL fo ((0 : Int32).toNatClampNeg) (ro.toInt64)))] ++ WC cy ad ks g uz) t.heap ∧ va_D (va_A ([(o1, eL cy fo)] ++ WC cy ad ks g u0) sz) ([(o1, eL cy (vp_updL fo ((0 : Int32).toNatClampNeg) (ro.toInt64)))] ++ WC cy ad ks g uz)) (va_A ([(o1, eL cy fo)] ++ WC cy ad ks g u0) sz)) (vx_X (fun (_ : Unit) => False) (fun _ _ _ => True) (va_A ([(o1, eL cy fo)] ++ WC cy ad ks g u0) sz)) 0 0 (va_A ([(o1, eL cy fo)] ++ WC cy ad ks g u0) sz) := by
  refine vx_ofWH (cc := cL_restIn) (maxL := 4) (ret := (some .int)) (hh := [(0, 9, 12, 22)]) pn_L rfl ?_
  intro p e s m args below meth c s₁ B hml hv
  obtain ⟨rfl, hsz, hP, hK, hD0, hE⟩ := hv
  have hx := B.exec
  have hb := B.bytes
  have hr := B.returns
  have hts0 := atoms_spec (ws := (wsgH yL_restIn cL_restIn 4 (some .int) [(0, 9, 12, 22)])) B.pre
  have hts : ∀ w ∈ wsL_law, w.before _ s = true := fun w h => hts0 w (List.mem_cons_of_mem _ h)
  have hown : s.vm.findClass RL = some m.cls := by have h9 := findClass_of_methodNamed B.named; exact h9
  have hlocks := B.notSynchronized
  subst hsz
  have hD := hD0.self (sz := s.heap.size)
  generalize hAe : va_A ([(o1, eL cy fo)] ++ WC cy ad ks g u0) s.heap.size = A at hD hE ⊢
  have hA : ∀ q : Nat, s.heap.size ≤ q → A q := fun q h => by rw [← hAe]; exact Or.inr h
  have hS : va_S A s.heap s.heap [] := va_S.rf
  have hl := lv_entry ([.ref (ad .cl), .int a1, .ref o1]) (n := 4) (Nat.le_of_ble_eq_true rfl)
  rw [lg_entry_eq]
  generalize (lg_sl ([.ref (ad .cl), .int a1, .ref o1]) ++ List.replicate (4 - (lg_sl ([.ref (ad .cl), .int a1, .ref o1])).length) Slot.unset).toArray = ls at hl ⊢
  have hl : lv_has ls 4 [(0, .ref (ad .cl)), (1, .int a1), (2, .ref o1)] := hl
  generalize hHe : s.heap = H at hP hS ⊢
  have hS : va_S A s.heap H [] := by rw [hHe]; exact hS
  have htab := vx_table (x := yL_restIn) B (hts0 (.codeWith yL_restIn cL_restIn 4 (some .int) [(0, 9, 12, 22)]) List.mem_cons_self)
  refine lv_aload_n hx hb dL_restIn_0 rfl (lv_at hl 2 rfl) ?_
  refine lv_iconst (v := 0) hx hb dL_restIn_1 (by decide) ?_
  refine lv_aload_n hx hb dL_restIn_2 rfl (lv_at hl 0 rfl) ?_
  refine lv_iload_n hx hb dL_restIn_3 rfl (lv_at hl 1 rfl) ?_
  have hPc : va_P (dC, dI) vwCl (WC cy ad ks g u0) H := hP.part (X := [(o1, eL cy fo)]) (cx := []) [] rfl
  have hDc : va_D A (WC cy ad ks g u0) := hD.part (X := [(o1, eL cy fo)]) (cx := []) [] (by decide) rfl
  have hFc : ∀ q, va_A (WC cy ad ks g u0) H.size q → A q := va_freeP (X := [(o1, eL cy fo)]) (cx := []) hD hS hA [] rfl
  obtain ⟨q8, h8⟩ := wc_at (cy := cy) (ad := ad) (ks := ks) (g := g) (u := u0) (κ := .cl) hk.1 True.intro
  refine va_calli (va_runV (As := [.int a1]) (rest := [.int 0, .ref o1]) ⟨hx, hb, hml, hown, hts⟩ (c_X7_restIn l dC dI cy nb ad ks g hk u0 a1 ro uz H.size hF) (cwV 1 hts (gV mw_1412 mw_1413 mw_1414 mw_2 mw_1415) rfl rfl rfl (by decide +kernel) ⟨Nat.le_of_ble_eq_true rfl, Nat.le_of_ble_eq_true rfl⟩) (my_preV hPc hK hDc hE hS hFc (va_recv (q := (RX7, TX7, 12)) hK hPc (ci := 7) (q0 := q8) rfl h8)) rfl rfl hl.1 rfl (lv_room (Nat.le_of_ble_eq_true rfl)) dL_restIn_4 ⟨Nat.le_of_ble_eq_true rfl, Nat.le_of_ble_eq_true rfl⟩) hS (fun q _ h => hFc q h) hFc (fun r u t H1 locs ht hvm hw hB hz1 hk1 hS => ?_)
  clear h8
  obtain ⟨hP1, hD1⟩ := hB
  rw [ht] at hP1
  obtain ⟨hP, hD⟩ := va_joinP (X := [(o1, eL cy fo)]) (cx := []) (wr := [(o1, eL cy fo)]) (rx := []) (pl := WC cy ad ks g u0) (pl1 := WC cy ad ks g uz) hP hD [] [0] rfl rfl (by decide) (by decide) hk1 hFc hP1 hD1
  generalize H1 = H at hP hS ⊢
  have hP : va_P (dC, dI) vwCl ([(o1, eL cy fo)] ++ WC cy ad ks g uz) H := hP
  have hD : va_D A ([(o1, eL cy fo)] ++ WC cy ad ks g uz) := hD
  refine my_topi hw ?_
  refine W.widen (k := 0) (n := 0) (by omega) (by omega) ?_
  refine lv_i2l (v := ro.toInt64) hx hb dL_restIn_7 rfl ?_
  refine va_last hx hb hK hP hD hS 0 3 rfl rfl (vp_in_nI (n := 0) (by decide) (by decide)) dL_restIn_8 (fun H locs hP hD hS => ?_)
  have hP : va_P (dC, dI) vwCl ([(o1, eL cy (vp_updL fo ((0 : Int32).toNatClampNeg) (ro.toInt64)))] ++ WC cy ad ks g uz) H := hP
  have hD : va_D A ([(o1, eL cy (vp_updL fo ((0 : Int32).toNatClampNeg) (ro.toInt64)))] ++ WC cy ad ks g uz) := hD
  refine lv_goto (tgt := 15) hx hb dL_restIn_9 (by decide) ?_
  refine lv_iconst (v := 0) hx hb dL_restIn_15 (by decide) ?_
  refine vx_ret ?_
  exact W.iret (v := 0) hx hb hr (fun t ht hW => ⟨⟨0, (), rfl, rfl, by rw [ht]; exact hP, hD⟩, hS.F ht⟩) hS.2.2 dL_restIn_16
set_option maxHeartbeats 4000000 in
set_option maxRecDepth 100000 in
theorem ct_restIn (l : Launch) (hst : l.stackTraces = false) (dC : Nat → ClassId) (dI : Nat → Nat → Nat) (cy : Nat → ClassId) (nb : Nat → Nat) (ad : CK → Nat) (ks : List CK) (g : CG) (hk : GA nb ad g ks) (u0 : RS) (a1 : Int32) (o1 : Nat) (fo : Nat → Int64) (xc : Int32) (sz : Nat) (hxc : xc = 1) (hF : C7_restIn g u0 a1 = some (.inl xc)) : vx_Met l yL_restIn (wsgH yL_restIn cL_restIn 4 (some .int) [(0, 9, 12, 22)]) ({ frames := 14, cells := 1, slots := 6, locals := 900 }) (va_Pc [.ref (ad .cl), .int a1, .ref o1] (fun U => U.heap.size = sz ∧ va_P (dC, dI) vwCl ([(o1, eL cy fo)] ++ WC cy ad ks g u0) U.heap ∧ va_K (dC, dI) vwCl (tyL cy) U ∧ va_D (fun _ => True) ([(o1, eL cy fo)] ++ WC cy ad ks g u0) ∧ GE nb (va_A ([(o1, eL cy fo)] ++ WC cy ad ks g u0) sz) U)) (va_Qi (fun (r : Int32) (_ : Unit) => r = 1) (fun _ t => va_P (dC, dI) vwCl ([(o1, eL cy fo)] ++ WC cy ad ks g u0) t.heap ∧ va_D (va_A ([(o1, eL cy fo)] ++ WC cy ad ks g u0) sz) ([(o1, eL cy fo)] ++ WC cy ad ks g u0)) (va_A ([(o1, eL cy fo)] ++ WC cy ad ks g u0) sz)) (vx_X (fun (_ : Unit) => False) (fun _ _ _ => True) (va_A ([(o1, eL cy fo)] ++ WC cy ad ks g u0) sz)) 1 6 (va_A ([(o1, eL cy fo)] ++ WC cy ad ks g u0) sz) := by
  refine vx_ofWH (cc := cL_restIn) (maxL := 4) (ret := (some .int)) (hh := [(0, 9, 12, 22)]) pn_L rfl ?_
  intro p e s m args below meth c s₁ B hml hv
  obtain ⟨rfl, hsz, hP, hK, hD0, hE⟩ := hv
  have hx := B.exec
  have hb := B.bytes
  have hr := B.returns
  have hts0 := atoms_spec (ws := (wsgH yL_restIn cL_restIn 4 (some .int) [(0, 9, 12, 22)])) B.pre
  have hts : ∀ w ∈ wsL_law, w.before _ s = true := fun w h => hts0 w (List.mem_cons_of_mem _ h)
  have hown : s.vm.findClass RL = some m.cls := by have h9 := findClass_of_methodNamed B.named; exact h9
  have hlocks := B.notSynchronized
  subst hsz
  have hD := hD0.self (sz := s.heap.size)
  generalize hAe : va_A ([(o1, eL cy fo)] ++ WC cy ad ks g u0) s.heap.size = A at hD hE ⊢
  have hA : ∀ q : Nat, s.heap.size ≤ q → A q := fun q h => by rw [← hAe]; exact Or.inr h
  have hS : va_S A s.heap s.heap [] := va_S.rf
  have hl := lv_entry ([.ref (ad .cl), .int a1, .ref o1]) (n := 4) (Nat.le_of_ble_eq_true rfl)
  rw [lg_entry_eq]
  generalize (lg_sl ([.ref (ad .cl), .int a1, .ref o1]) ++ List.replicate (4 - (lg_sl ([.ref (ad .cl), .int a1, .ref o1])).length) Slot.unset).toArray = ls at hl ⊢
  have hl : lv_has ls 4 [(0, .ref (ad .cl)), (1, .int a1), (2, .ref o1)] := hl
  generalize hHe : s.heap = H at hP hS ⊢
  have hS : va_S A s.heap H [] := by rw [hHe]; exact hS
  have htab := vx_table (x := yL_restIn) B (hts0 (.codeWith yL_restIn cL_restIn 4 (some .int) [(0, 9, 12, 22)]) List.mem_cons_self)
  refine lv_aload_n hx hb dL_restIn_0 rfl (lv_at hl 2 rfl) ?_
  refine lv_iconst (v := 0) hx hb dL_restIn_1 (by decide) ?_
  refine lv_aload_n hx hb dL_restIn_2 rfl (lv_at hl 0 rfl) ?_
  refine lv_iload_n hx hb dL_restIn_3 rfl (lv_at hl 1 rfl) ?_
  have hPc : va_P (dC, dI) vwCl (WC cy ad ks g u0) H := hP.part (X := [(o1, eL cy fo)]) (cx := []) [] rfl
  have hDc : va_D A (WC cy ad ks g u0) := hD.part (X := [(o1, eL cy fo)]) (cx := []) [] (by decide) rfl
  have hFc : ∀ q, va_A (WC cy ad ks g u0) H.size q → A q := va_freeP (X := [(o1, eL cy fo)]) (cx := []) hD hS hA [] rfl
  obtain ⟨q8, h8⟩ := wc_at (cy := cy) (ad := ad) (ks := ks) (g := g) (u := u0) (κ := .cl) hk.1 True.intro
  refine vx_calli (vx_runV (As := [.int a1]) (rest := [.int 0, .ref o1]) ⟨hx, hb, hml, hown, hts⟩ (c_X7_restIn_y l hst dC dI cy nb ad ks g hk u0 a1 xc H.size hF) (cwV 1 hts (gV mw_1412 mw_1413 mw_1414 mw_2 mw_1415) rfl rfl rfl (by decide +kernel) ⟨Nat.le_of_ble_eq_true rfl, Nat.le_of_ble_eq_true rfl⟩) (my_preV hPc hK hDc hE hS hFc (va_recv (q := (RX7, TX7, 12)) hK hPc (ci := 7) (q0 := q8) rfl h8)) rfl rfl hl.1 rfl (lv_room (Nat.le_of_ble_eq_true rfl)) dL_restIn_4 ⟨Nat.le_of_ble_eq_true rfl, Nat.le_of_ble_eq_true rfl⟩) hS (fun q _ h => hFc q h) hFc (fun q _ h => hFc q h) (fun E9 ce9 q9 u9 t9 H1 locs1 ht9 hvm9 hp9 hB9 hz9 hk9 hS9 hc9 hv9 hcl9 => ?_) (fun r9 u9 t9 H1 locs1 ht9 hvm9 hp9 _ _ _ _ => hp9.elim)
  clear h8
  obtain ⟨hB8, hP1⟩ := hB9
  rw [ht9] at hP1
  obtain ⟨hP, hD⟩ := va_joinP (X := [(o1, eL cy fo)]) (cx := []) (wr := [(o1, eL cy fo)]) (rx := []) (pl := WC cy ad ks g u0) (pl1 := WC cy ad ks g u0) hP hD [] [0] rfl rfl (by decide) (by decide) hk9 hFc hP1 hDc.self
  have hP : va_P (dC, dI) vwCl ([(o1, eL cy fo)] ++ WC cy ad ks g u0) H1 := hP
  have hD : va_D A ([(o1, eL cy fo)] ++ WC cy ad ks g u0) := hD
  obtain rfl : E9 = xI := hB8.trans (if_pos hxc)
  refine vx_catch (own := RL) (name := xI) hown (tableOf []) _ (tableOf []) (htab.trans rfl) (fun z hz => nomatch hz) (by decide) (by decide) (hts _ mw_616) (va_Nw.use rfl hE.cI) hc9 hv9 hcl9 ?_
  generalize H1 = H at hP hS9 ⊢
  refine W.widen (k := 1) (n := 6) (by omega) (by omega) ?_
  refine lv_astore_n (lv' := [(3, .ref q9), (0, .ref (ad .cl)), (1, .int a1), (2, .ref o1)]) hx hb dL_restIn_12 rfl hl (by decide) rfl (fun ls hl => ?_)
  refine lv_iconst (v := 1) hx hb dL_restIn_13 (by decide) ?_
  refine vx_ret ?_
  exact W.iret (v := 1) hx hb hr (fun t ht hW => ⟨⟨1, (), rfl, rfl, by rw [ht]; exact hP, hD⟩, hS9.F ht⟩) hS9.2.2 dL_restIn_14
set_option maxHeartbeats 4000000 in
set_option maxRecDepth 100000 in
theorem cn_bestRank (l : Launch) (hst : l.stackTraces = false) (dC : Nat → ClassId) (dI : Nat → Nat → Nat) (cy : Nat → ClassId) (nb : Nat → Nat) (ad : CK → Nat) (ks : List CK) (g : CG) (hk : GA nb ad g ks) (u0 : RS) (a1 : Int32) (o1 : Nat) (fo : Nat → Int64) (ro : Int32) (uz : RS) (sz : Nat) (hF : C7_bestRank g u0 a1 = some (.inr (ro, uz))) : vx_Met l yL_bestRank (wsgH yL_bestRank cL_bestRank 4 (some .int) [(0, 9, 12, 22)]) ({ frames := 14, cells := 0, slots := 0, locals := 900 }) (va_Pc [.ref (ad .cl), .int a1, .ref o1] (fun U => U.heap.size = sz ∧ va_P (dC, dI) vwCl ([(o1, eL cy fo)] ++ WC cy ad ks g u0) U.heap ∧ va_K (dC, dI) vwCl (tyL cy) U ∧ va_D (fun _ => True) ([(o1, eL cy fo)] ++ WC cy ad ks g u0) ∧ GE nb (va_A ([(o1, eL cy fo)] ++ WC cy ad ks g u0) sz) U)) (va_Qi (fun (r : Int32) (_ : Unit) => r = 0) (fun _ t => va_P (dC, dI) vwCl ([(o1, eL cy (vp_updL fo ((0 : Int32).toNatClampNeg) (ro.toInt64)))] ++ WC cy ad ks g uz) t.heap ∧ va_D (va_A ([(o1, eL cy fo)] ++ WC cy ad ks g u0) sz) ([(o1, eL cy (vp_updL fo ((0 : Int32).toNatClampNeg) (ro.toInt64)))] ++ WC cy ad ks g uz)) (va_A ([(o1, eL cy fo)] ++ WC cy ad ks g u0) sz)) (vx_X (fun (_ : Unit) => False) (fun _ _ _ => True) (va_A ([(o1, eL cy fo)] ++ WC cy ad ks g u0) sz)) 0 0 (va_A ([(o1, eL cy fo)] ++ WC cy ad ks g u0) sz) := by
  refine vx_ofWH (cc := cL_bestRank) (maxL := 4) (ret := (some .int)) (hh := [(0, 9, 12, 22)]) pn_L rfl ?_
  intro p e s m args below meth c s₁ B hml hv
  obtain ⟨rfl, hsz, hP, hK, hD0, hE⟩ := hv
  have hx := B.exec
  have hb := B.bytes
  have hr := B.returns
  have hts0 := atoms_spec (ws := (wsgH yL_bestRank cL_bestRank 4 (some .int) [(0, 9, 12, 22)])) B.pre
  have hts : ∀ w ∈ wsL_law, w.before _ s = true := fun w h => hts0 w (List.mem_cons_of_mem _ h)
  have hown : s.vm.findClass RL = some m.cls := by have h9 := findClass_of_methodNamed B.named; exact h9
  have hlocks := B.notSynchronized
  subst hsz
  have hD := hD0.self (sz := s.heap.size)
  generalize hAe : va_A ([(o1, eL cy fo)] ++ WC cy ad ks g u0) s.heap.size = A at hD hE ⊢
  have hA : ∀ q : Nat, s.heap.size ≤ q → A q := fun q h => by rw [← hAe]; exact Or.inr h
  have hS : va_S A s.heap s.heap [] := va_S.rf
  have hl := lv_entry ([.ref (ad .cl), .int a1, .ref o1]) (n := 4) (Nat.le_of_ble_eq_true rfl)
  rw [lg_entry_eq]
  generalize (lg_sl ([.ref (ad .cl), .int a1, .ref o1]) ++ List.replicate (4 - (lg_sl ([.ref (ad .cl), .int a1, .ref o1])).length) Slot.unset).toArray = ls at hl ⊢
  have hl : lv_has ls 4 [(0, .ref (ad .cl)), (1, .int a1), (2, .ref o1)] := hl
  generalize hHe : s.heap = H at hP hS ⊢
  have hS : va_S A s.heap H [] := by rw [hHe]; exact hS
  have htab := vx_table (x := yL_bestRank) B (hts0 (.codeWith yL_bestRank cL_bestRank 4 (some .int) [(0, 9, 12, 22)]) List.mem_cons_self)
  refine lv_aload_n hx hb dL_bestRank_0 rfl (lv_at hl 2 rfl) ?_
  refine lv_iconst (v := 0) hx hb dL_bestRank_1 (by decide) ?_
  refine lv_aload_n hx hb dL_bestRank_2 rfl (lv_at hl 0 rfl) ?_
  refine lv_iload_n hx hb dL_bestRank_3 rfl (lv_at hl 1 rfl) ?_
  have hPc : va_P (dC, dI) vwCl (WC cy ad ks g u0) H := hP.part (X := [(o1, eL cy fo)]) (cx := []) [] rfl
  have hDc : va_D A (WC cy ad ks g u0) := hD.part (X := [(o1, eL cy fo)]) (cx := []) [] (by decide) rfl
  have hFc : ∀ q, va_A (WC cy ad ks g u0) H.size q → A q := va_freeP (X := [(o1, eL cy fo)]) (cx := []) hD hS hA [] rfl
  obtain ⟨q8, h8⟩ := wc_at (cy := cy) (ad := ad) (ks := ks) (g := g) (u := u0) (κ := .cl) hk.1 True.intro
  refine va_calli (va_runV (As := [.int a1]) (rest := [.int 0, .ref o1]) ⟨hx, hb, hml, hown, hts⟩ (c_X7_bestRank l dC dI cy nb ad ks g hk u0 a1 ro uz H.size hF) (cwV 1 hts (gV mw_1436 mw_1437 mw_1438 mw_2 mw_1439) rfl rfl rfl (by decide +kernel) ⟨Nat.le_of_ble_eq_true rfl, Nat.le_of_ble_eq_true rfl⟩) (my_preV hPc hK hDc hE hS hFc (va_recv (q := (RX7, TX7, 12)) hK hPc (ci := 7) (q0 := q8) rfl h8)) rfl rfl hl.1 rfl (lv_room (Nat.le_of_ble_eq_true rfl)) dL_bestRank_4 ⟨Nat.le_of_ble_eq_true rfl, Nat.le_of_ble_eq_true rfl⟩) hS (fun q _ h => hFc q h) hFc (fun r u t H1 locs ht hvm hw hB hz1 hk1 hS => ?_)
  clear h8
  obtain ⟨hP1, hD1⟩ := hB
  rw [ht] at hP1
  obtain ⟨hP, hD⟩ := va_joinP (X := [(o1, eL cy fo)]) (cx := []) (wr := [(o1, eL cy fo)]) (rx := []) (pl := WC cy ad ks g u0) (pl1 := WC cy ad ks g uz) hP hD [] [0] rfl rfl (by decide) (by decide) hk1 hFc hP1 hD1
  generalize H1 = H at hP hS ⊢
  have hP : va_P (dC, dI) vwCl ([(o1, eL cy fo)] ++ WC cy ad ks g uz) H := hP
  have hD : va_D A ([(o1, eL cy fo)] ++ WC cy ad ks g uz) := hD
  refine my_topi hw ?_
  refine W.widen (k := 0) (n := 0) (by omega) (by omega) ?_
  refine lv_i2l (v := ro.toInt64) hx hb dL_bestRank_7 rfl ?_
  refine va_last hx hb hK hP hD hS 0 3 rfl rfl (vp_in_nI (n := 0) (by decide) (by decide)) dL_bestRank_8 (fun H locs hP hD hS => ?_)
  have hP : va_P (dC, dI) vwCl ([(o1, eL cy (vp_updL fo ((0 : Int32).toNatClampNeg) (ro.toInt64)))] ++ WC cy ad ks g uz) H := hP
  have hD : va_D A ([(o1, eL cy (vp_updL fo ((0 : Int32).toNatClampNeg) (ro.toInt64)))] ++ WC cy ad ks g uz) := hD
  refine lv_goto (tgt := 15) hx hb dL_bestRank_9 (by decide) ?_
  refine lv_iconst (v := 0) hx hb dL_bestRank_15 (by decide) ?_
  refine vx_ret ?_
  exact W.iret (v := 0) hx hb hr (fun t ht hW => ⟨⟨0, (), rfl, rfl, by rw [ht]; exact hP, hD⟩, hS.F ht⟩) hS.2.2 dL_bestRank_16
set_option maxHeartbeats 4000000 in
set_option maxRecDepth 100000 in
theorem ct_bestRank (l : Launch) (hst : l.stackTraces = false) (dC : Nat → ClassId) (dI : Nat → Nat → Nat) (cy : Nat → ClassId) (nb : Nat → Nat) (ad : CK → Nat) (ks : List CK) (g : CG) (hk : GA nb ad g ks) (u0 : RS) (a1 : Int32) (o1 : Nat) (fo : Nat → Int64) (xc : Int32) (sz : Nat) (hxc : xc = 1) (hF : C7_bestRank g u0 a1 = some (.inl xc)) : vx_Met l yL_bestRank (wsgH yL_bestRank cL_bestRank 4 (some .int) [(0, 9, 12, 22)]) ({ frames := 14, cells := 1, slots := 6, locals := 900 }) (va_Pc [.ref (ad .cl), .int a1, .ref o1] (fun U => U.heap.size = sz ∧ va_P (dC, dI) vwCl ([(o1, eL cy fo)] ++ WC cy ad ks g u0) U.heap ∧ va_K (dC, dI) vwCl (tyL cy) U ∧ va_D (fun _ => True) ([(o1, eL cy fo)] ++ WC cy ad ks g u0) ∧ GE nb (va_A ([(o1, eL cy fo)] ++ WC cy ad ks g u0) sz) U)) (va_Qi (fun (r : Int32) (_ : Unit) => r = 1) (fun _ t => va_P (dC, dI) vwCl ([(o1, eL cy fo)] ++ WC cy ad ks g u0) t.heap ∧ va_D (va_A ([(o1, eL cy fo)] ++ WC cy ad ks g u0) sz) ([(o1, eL cy fo)] ++ WC cy ad ks g u0)) (va_A ([(o1, eL cy fo)] ++ WC cy ad ks g u0) sz)) (vx_X (fun (_ : Unit) => False) (fun _ _ _ => True) (va_A ([(o1, eL cy fo)] ++ WC cy ad ks g u0) sz)) 1 6 (va_A ([(o1, eL cy fo)] ++ WC cy ad ks g u0) sz) := by
  refine vx_ofWH (cc := cL_bestRank) (maxL := 4) (ret := (some .int)) (hh := [(0, 9, 12, 22)]) pn_L rfl ?_
  intro p e s m args below meth c s₁ B hml hv
  obtain ⟨rfl, hsz, hP, hK, hD0, hE⟩ := hv
  have hx := B.exec
  have hb := B.bytes
  have hr := B.returns
  have hts0 := atoms_spec (ws := (wsgH yL_bestRank cL_bestRank 4 (some .int) [(0, 9, 12, 22)])) B.pre
  have hts : ∀ w ∈ wsL_law, w.before _ s = true := fun w h => hts0 w (List.mem_cons_of_mem _ h)
  have hown : s.vm.findClass RL = some m.cls := by have h9 := findClass_of_methodNamed B.named; exact h9
  have hlocks := B.notSynchronized
  subst hsz
  have hD := hD0.self (sz := s.heap.size)
  generalize hAe : va_A ([(o1, eL cy fo)] ++ WC cy ad ks g u0) s.heap.size = A at hD hE ⊢
  have hA : ∀ q : Nat, s.heap.size ≤ q → A q := fun q h => by rw [← hAe]; exact Or.inr h
  have hS : va_S A s.heap s.heap [] := va_S.rf
  have hl := lv_entry ([.ref (ad .cl), .int a1, .ref o1]) (n := 4) (Nat.le_of_ble_eq_true rfl)
  rw [lg_entry_eq]
  generalize (lg_sl ([.ref (ad .cl), .int a1, .ref o1]) ++ List.replicate (4 - (lg_sl ([.ref (ad .cl), .int a1, .ref o1])).length) Slot.unset).toArray = ls at hl ⊢
  have hl : lv_has ls 4 [(0, .ref (ad .cl)), (1, .int a1), (2, .ref o1)] := hl
  generalize hHe : s.heap = H at hP hS ⊢
  have hS : va_S A s.heap H [] := by rw [hHe]; exact hS
  have htab := vx_table (x := yL_bestRank) B (hts0 (.codeWith yL_bestRank cL_bestRank 4 (some .int) [(0, 9, 12, 22)]) List.mem_cons_self)
  refine lv_aload_n hx hb dL_bestRank_0 rfl (lv_at hl 2 rfl) ?_
  refine lv_iconst (v := 0) hx hb dL_bestRank_1 (by decide) ?_
  refine lv_aload_n hx hb dL_bestRank_2 rfl (lv_at hl 0 rfl) ?_
  refine lv_iload_n hx hb dL_bestRank_3 rfl (lv_at hl 1 rfl) ?_
  have hPc : va_P (dC, dI) vwCl (WC cy ad ks g u0) H := hP.part (X := [(o1, eL cy fo)]) (cx := []) [] rfl
  have hDc : va_D A (WC cy ad ks g u0) := hD.part (X := [(o1, eL cy fo)]) (cx := []) [] (by decide) rfl
  have hFc : ∀ q, va_A (WC cy ad ks g u0) H.size q → A q := va_freeP (X := [(o1, eL cy fo)]) (cx := []) hD hS hA [] rfl
  obtain ⟨q8, h8⟩ := wc_at (cy := cy) (ad := ad) (ks := ks) (g := g) (u := u0) (κ := .cl) hk.1 True.intro
  refine vx_calli (vx_runV (As := [.int a1]) (rest := [.int 0, .ref o1]) ⟨hx, hb, hml, hown, hts⟩ (c_X7_bestRank_y l hst dC dI cy nb ad ks g hk u0 a1 xc H.size hF) (cwV 1 hts (gV mw_1436 mw_1437 mw_1438 mw_2 mw_1439) rfl rfl rfl (by decide +kernel) ⟨Nat.le_of_ble_eq_true rfl, Nat.le_of_ble_eq_true rfl⟩) (my_preV hPc hK hDc hE hS hFc (va_recv (q := (RX7, TX7, 12)) hK hPc (ci := 7) (q0 := q8) rfl h8)) rfl rfl hl.1 rfl (lv_room (Nat.le_of_ble_eq_true rfl)) dL_bestRank_4 ⟨Nat.le_of_ble_eq_true rfl, Nat.le_of_ble_eq_true rfl⟩) hS (fun q _ h => hFc q h) hFc (fun q _ h => hFc q h) (fun E9 ce9 q9 u9 t9 H1 locs1 ht9 hvm9 hp9 hB9 hz9 hk9 hS9 hc9 hv9 hcl9 => ?_) (fun r9 u9 t9 H1 locs1 ht9 hvm9 hp9 _ _ _ _ => hp9.elim)
  clear h8
  obtain ⟨hB8, hP1⟩ := hB9
  rw [ht9] at hP1
  obtain ⟨hP, hD⟩ := va_joinP (X := [(o1, eL cy fo)]) (cx := []) (wr := [(o1, eL cy fo)]) (rx := []) (pl := WC cy ad ks g u0) (pl1 := WC cy ad ks g u0) hP hD [] [0] rfl rfl (by decide) (by decide) hk9 hFc hP1 hDc.self
  have hP : va_P (dC, dI) vwCl ([(o1, eL cy fo)] ++ WC cy ad ks g u0) H1 := hP
  have hD : va_D A ([(o1, eL cy fo)] ++ WC cy ad ks g u0) := hD
  obtain rfl : E9 = xI := hB8.trans (if_pos hxc)
  refine vx_catch (own := RL) (name := xI) hown (tableOf []) _ (tableOf []) (htab.trans rfl) (fun z hz => nomatch hz) (by decide) (by decide) (hts _ mw_616) (va_Nw.use rfl hE.cI) hc9 hv9 hcl9 ?_
  generalize H1 = H at hP hS9 ⊢
  refine W.widen (k := 1) (n := 6) (by omega) (by omega) ?_
  refine lv_astore_n (lv' := [(3, .ref q9), (0, .ref (ad .cl)), (1, .int a1), (2, .ref o1)]) hx hb dL_bestRank_12 rfl hl (by decide) rfl (fun ls hl => ?_)
  refine lv_iconst (v := 1) hx hb dL_bestRank_13 (by decide) ?_
  refine vx_ret ?_
  exact W.iret (v := 1) hx hb hr (fun t ht hW => ⟨⟨1, (), rfl, rfl, by rw [ht]; exact hP, hD⟩, hS9.F ht⟩) hS9.2.2 dL_bestRank_14
set_option maxHeartbeats 4000000 in
set_option maxRecDepth 100000 in
theorem cn_writeCard (l : Launch) (hst : l.stackTraces = false) (dC : Nat → ClassId) (dI : Nat → Nat → Nat) (cy : Nat → ClassId) (nb : Nat → Nat) (ad : CK → Nat) (ks : List CK) (g : CG) (hk : GA nb ad g ks) (u0 : RS) (a1 : Int32) (o1 : Nat) (fo : Nat → Int64) (ro : Int32) (uz : RS) (sz : Nat) (hF : C7_writeCard g u0 a1 = some (.inr (ro, uz))) : vx_Met l yL_writeCard (wsgH yL_writeCard cL_writeCard 4 (some .int) [(0, 9, 12, 22)]) ({ frames := 9, cells := 0, slots := 0, locals := 400 }) (va_Pc [.ref (ad .cl), .int a1, .ref o1] (fun U => U.heap.size = sz ∧ va_P (dC, dI) vwCl ([(o1, eL cy fo)] ++ WC cy ad ks g u0) U.heap ∧ va_K (dC, dI) vwCl (tyL cy) U ∧ va_D (fun _ => True) ([(o1, eL cy fo)] ++ WC cy ad ks g u0) ∧ GE nb (va_A ([(o1, eL cy fo)] ++ WC cy ad ks g u0) sz) U)) (va_Qi (fun (r : Int32) (_ : Unit) => r = 0) (fun _ t => va_P (dC, dI) vwCl ([(o1, eL cy (vp_updL fo ((0 : Int32).toNatClampNeg) (ro.toInt64)))] ++ WC cy ad ks g uz) t.heap ∧ va_D (va_A ([(o1, eL cy fo)] ++ WC cy ad ks g u0) sz) ([(o1, eL cy (vp_updL fo ((0 : Int32).toNatClampNeg) (ro.toInt64)))] ++ WC cy ad ks g uz)) (va_A ([(o1, eL cy fo)] ++ WC cy ad ks g u0) sz)) (vx_X (fun (_ : Unit) => False) (fun _ _ _ => True) (va_A ([(o1, eL cy fo)] ++ WC cy ad ks g u0) sz)) 0 0 (va_A ([(o1, eL cy fo)] ++ WC cy ad ks g u0) sz) := by
  refine vx_ofWH (cc := cL_writeCard) (maxL := 4) (ret := (some .int)) (hh := [(0, 9, 12, 22)]) pn_L rfl ?_
  intro p e s m args below meth c s₁ B hml hv
  obtain ⟨rfl, hsz, hP, hK, hD0, hE⟩ := hv
  have hx := B.exec
  have hb := B.bytes
  have hr := B.returns
  have hts0 := atoms_spec (ws := (wsgH yL_writeCard cL_writeCard 4 (some .int) [(0, 9, 12, 22)])) B.pre
  have hts : ∀ w ∈ wsL_law, w.before _ s = true := fun w h => hts0 w (List.mem_cons_of_mem _ h)
  have hown : s.vm.findClass RL = some m.cls := by have h9 := findClass_of_methodNamed B.named; exact h9
  have hlocks := B.notSynchronized
  subst hsz
  have hD := hD0.self (sz := s.heap.size)
  generalize hAe : va_A ([(o1, eL cy fo)] ++ WC cy ad ks g u0) s.heap.size = A at hD hE ⊢
  have hA : ∀ q : Nat, s.heap.size ≤ q → A q := fun q h => by rw [← hAe]; exact Or.inr h
  have hS : va_S A s.heap s.heap [] := va_S.rf
  have hl := lv_entry ([.ref (ad .cl), .int a1, .ref o1]) (n := 4) (Nat.le_of_ble_eq_true rfl)
  rw [lg_entry_eq]
  generalize (lg_sl ([.ref (ad .cl), .int a1, .ref o1]) ++ List.replicate (4 - (lg_sl ([.ref (ad .cl), .int a1, .ref o1])).length) Slot.unset).toArray = ls at hl ⊢
  have hl : lv_has ls 4 [(0, .ref (ad .cl)), (1, .int a1), (2, .ref o1)] := hl
  generalize hHe : s.heap = H at hP hS ⊢
  have hS : va_S A s.heap H [] := by rw [hHe]; exact hS
  have htab := vx_table (x := yL_writeCard) B (hts0 (.codeWith yL_writeCard cL_writeCard 4 (some .int) [(0, 9, 12, 22)]) List.mem_cons_self)
  refine lv_aload_n hx hb dL_writeCard_0 rfl (lv_at hl 2 rfl) ?_
  refine lv_iconst (v := 0) hx hb dL_writeCard_1 (by decide) ?_
  refine lv_aload_n hx hb dL_writeCard_2 rfl (lv_at hl 0 rfl) ?_
  refine lv_iload_n hx hb dL_writeCard_3 rfl (lv_at hl 1 rfl) ?_
  have hPc : va_P (dC, dI) vwCl (WC cy ad ks g u0) H := hP.part (X := [(o1, eL cy fo)]) (cx := []) [] rfl
  have hDc : va_D A (WC cy ad ks g u0) := hD.part (X := [(o1, eL cy fo)]) (cx := []) [] (by decide) rfl
  have hFc : ∀ q, va_A (WC cy ad ks g u0) H.size q → A q := va_freeP (X := [(o1, eL cy fo)]) (cx := []) hD hS hA [] rfl
  obtain ⟨q8, h8⟩ := wc_at (cy := cy) (ad := ad) (ks := ks) (g := g) (u := u0) (κ := .cl) hk.1 True.intro
  refine va_calli (va_runV (As := [.int a1]) (rest := [.int 0, .ref o1]) ⟨hx, hb, hml, hown, hts⟩ (c_X7_writeCard l dC dI cy nb ad ks g hk u0 a1 ro uz H.size hF) (cwV 1 hts (gV mw_1459 mw_1460 mw_1461 mw_2 mw_1462) rfl rfl rfl (by decide +kernel) ⟨Nat.le_of_ble_eq_true rfl, Nat.le_of_ble_eq_true rfl⟩) (my_preV hPc hK hDc hE hS hFc (va_recv (q := (RX7, TX7, 12)) hK hPc (ci := 7) (q0 := q8) rfl h8)) rfl rfl hl.1 rfl (lv_room (Nat.le_of_ble_eq_true rfl)) dL_writeCard_4 ⟨Nat.le_of_ble_eq_true rfl, Nat.le_of_ble_eq_true rfl⟩) hS (fun q _ h => hFc q h) hFc (fun r u t H1 locs ht hvm hw hB hz1 hk1 hS => ?_)
  clear h8
  obtain ⟨hP1, hD1⟩ := hB
  rw [ht] at hP1
  obtain ⟨hP, hD⟩ := va_joinP (X := [(o1, eL cy fo)]) (cx := []) (wr := [(o1, eL cy fo)]) (rx := []) (pl := WC cy ad ks g u0) (pl1 := WC cy ad ks g uz) hP hD [] [0] rfl rfl (by decide) (by decide) hk1 hFc hP1 hD1
  generalize H1 = H at hP hS ⊢
  have hP : va_P (dC, dI) vwCl ([(o1, eL cy fo)] ++ WC cy ad ks g uz) H := hP
  have hD : va_D A ([(o1, eL cy fo)] ++ WC cy ad ks g uz) := hD
  refine my_topi hw ?_
  refine W.widen (k := 0) (n := 0) (by omega) (by omega) ?_
  refine lv_i2l (v := ro.toInt64) hx hb dL_writeCard_7 rfl ?_
  refine va_last hx hb hK hP hD hS 0 3 rfl rfl (vp_in_nI (n := 0) (by decide) (by decide)) dL_writeCard_8 (fun H locs hP hD hS => ?_)
  have hP : va_P (dC, dI) vwCl ([(o1, eL cy (vp_updL fo ((0 : Int32).toNatClampNeg) (ro.toInt64)))] ++ WC cy ad ks g uz) H := hP
  have hD : va_D A ([(o1, eL cy (vp_updL fo ((0 : Int32).toNatClampNeg) (ro.toInt64)))] ++ WC cy ad ks g uz) := hD
  refine lv_goto (tgt := 15) hx hb dL_writeCard_9 (by decide) ?_
  refine lv_iconst (v := 0) hx hb dL_writeCard_15 (by decide) ?_
  refine vx_ret ?_
  exact W.iret (v := 0) hx hb hr (fun t ht hW => ⟨⟨0, (), rfl, rfl, by rw [ht]; exact hP, hD⟩, hS.F ht⟩) hS.2.2 dL_writeCard_16
set_option maxHeartbeats 4000000 in
set_option maxRecDepth 100000 in
theorem ct_writeCard (l : Launch) (hst : l.stackTraces = false) (dC : Nat → ClassId) (dI : Nat → Nat → Nat) (cy : Nat → ClassId) (nb : Nat → Nat) (ad : CK → Nat) (ks : List CK) (g : CG) (hk : GA nb ad g ks) (u0 : RS) (a1 : Int32) (o1 : Nat) (fo : Nat → Int64) (xc : Int32) (sz : Nat) (hxc : xc = 1) (hF : C7_writeCard g u0 a1 = some (.inl xc)) : vx_Met l yL_writeCard (wsgH yL_writeCard cL_writeCard 4 (some .int) [(0, 9, 12, 22)]) ({ frames := 9, cells := 1, slots := 6, locals := 400 }) (va_Pc [.ref (ad .cl), .int a1, .ref o1] (fun U => U.heap.size = sz ∧ va_P (dC, dI) vwCl ([(o1, eL cy fo)] ++ WC cy ad ks g u0) U.heap ∧ va_K (dC, dI) vwCl (tyL cy) U ∧ va_D (fun _ => True) ([(o1, eL cy fo)] ++ WC cy ad ks g u0) ∧ GE nb (va_A ([(o1, eL cy fo)] ++ WC cy ad ks g u0) sz) U)) (va_Qi (fun (r : Int32) (_ : Unit) => r = 1) (fun _ t => va_P (dC, dI) vwCl ([(o1, eL cy fo)] ++ WC cy ad ks g u0) t.heap ∧ va_D (va_A ([(o1, eL cy fo)] ++ WC cy ad ks g u0) sz) ([(o1, eL cy fo)] ++ WC cy ad ks g u0)) (va_A ([(o1, eL cy fo)] ++ WC cy ad ks g u0) sz)) (vx_X (fun (_ : Unit) => False) (fun _ _ _ => True) (va_A ([(o1, eL cy fo)] ++ WC cy ad ks g u0) sz)) 1 6 (va_A ([(o1, eL cy fo)] ++ WC cy ad ks g u0) sz) := by
  refine vx_ofWH (cc := cL_writeCard) (maxL := 4) (ret := (some .int)) (hh := [(0, 9, 12, 22)]) pn_L rfl ?_
  intro p e s m args below meth c s₁ B hml hv
  obtain ⟨rfl, hsz, hP, hK, hD0, hE⟩ := hv
  have hx := B.exec
  have hb := B.bytes
  have hr := B.returns
  have hts0 := atoms_spec (ws := (wsgH yL_writeCard cL_writeCard 4 (some .int) [(0, 9, 12, 22)])) B.pre
  have hts : ∀ w ∈ wsL_law, w.before _ s = true := fun w h => hts0 w (List.mem_cons_of_mem _ h)
  have hown : s.vm.findClass RL = some m.cls := by have h9 := findClass_of_methodNamed B.named; exact h9
  have hlocks := B.notSynchronized
  subst hsz
  have hD := hD0.self (sz := s.heap.size)
  generalize hAe : va_A ([(o1, eL cy fo)] ++ WC cy ad ks g u0) s.heap.size = A at hD hE ⊢
  have hA : ∀ q : Nat, s.heap.size ≤ q → A q := fun q h => by rw [← hAe]; exact Or.inr h
  have hS : va_S A s.heap s.heap [] := va_S.rf
  have hl := lv_entry ([.ref (ad .cl), .int a1, .ref o1]) (n := 4) (Nat.le_of_ble_eq_true rfl)
  rw [lg_entry_eq]
  generalize (lg_sl ([.ref (ad .cl), .int a1, .ref o1]) ++ List.replicate (4 - (lg_sl ([.ref (ad .cl), .int a1, .ref o1])).length) Slot.unset).toArray = ls at hl ⊢
  have hl : lv_has ls 4 [(0, .ref (ad .cl)), (1, .int a1), (2, .ref o1)] := hl
  generalize hHe : s.heap = H at hP hS ⊢
  have hS : va_S A s.heap H [] := by rw [hHe]; exact hS
  have htab := vx_table (x := yL_writeCard) B (hts0 (.codeWith yL_writeCard cL_writeCard 4 (some .int) [(0, 9, 12, 22)]) List.mem_cons_self)
  refine lv_aload_n hx hb dL_writeCard_0 rfl (lv_at hl 2 rfl) ?_
  refine lv_iconst (v := 0) hx hb dL_writeCard_1 (by decide) ?_
  refine lv_aload_n hx hb dL_writeCard_2 rfl (lv_at hl 0 rfl) ?_
  refine lv_iload_n hx hb dL_writeCard_3 rfl (lv_at hl 1 rfl) ?_
  have hPc : va_P (dC, dI) vwCl (WC cy ad ks g u0) H := hP.part (X := [(o1, eL cy fo)]) (cx := []) [] rfl
  have hDc : va_D A (WC cy ad ks g u0) := hD.part (X := [(o1, eL cy fo)]) (cx := []) [] (by decide) rfl
  have hFc : ∀ q, va_A (WC cy ad ks g u0) H.size q → A q := va_freeP (X := [(o1, eL cy fo)]) (cx := []) hD hS hA [] rfl
  obtain ⟨q8, h8⟩ := wc_at (cy := cy) (ad := ad) (ks := ks) (g := g) (u := u0) (κ := .cl) hk.1 True.intro
  refine vx_calli (vx_runV (As := [.int a1]) (rest := [.int 0, .ref o1]) ⟨hx, hb, hml, hown, hts⟩ (c_X7_writeCard_y l hst dC dI cy nb ad ks g hk u0 a1 xc H.size hF) (cwV 1 hts (gV mw_1459 mw_1460 mw_1461 mw_2 mw_1462) rfl rfl rfl (by decide +kernel) ⟨Nat.le_of_ble_eq_true rfl, Nat.le_of_ble_eq_true rfl⟩) (my_preV hPc hK hDc hE hS hFc (va_recv (q := (RX7, TX7, 12)) hK hPc (ci := 7) (q0 := q8) rfl h8)) rfl rfl hl.1 rfl (lv_room (Nat.le_of_ble_eq_true rfl)) dL_writeCard_4 ⟨Nat.le_of_ble_eq_true rfl, Nat.le_of_ble_eq_true rfl⟩) hS (fun q _ h => hFc q h) hFc (fun q _ h => hFc q h) (fun E9 ce9 q9 u9 t9 H1 locs1 ht9 hvm9 hp9 hB9 hz9 hk9 hS9 hc9 hv9 hcl9 => ?_) (fun r9 u9 t9 H1 locs1 ht9 hvm9 hp9 _ _ _ _ => hp9.elim)
  clear h8
  obtain ⟨hB8, hP1⟩ := hB9
  rw [ht9] at hP1
  obtain ⟨hP, hD⟩ := va_joinP (X := [(o1, eL cy fo)]) (cx := []) (wr := [(o1, eL cy fo)]) (rx := []) (pl := WC cy ad ks g u0) (pl1 := WC cy ad ks g u0) hP hD [] [0] rfl rfl (by decide) (by decide) hk9 hFc hP1 hDc.self
  have hP : va_P (dC, dI) vwCl ([(o1, eL cy fo)] ++ WC cy ad ks g u0) H1 := hP
  have hD : va_D A ([(o1, eL cy fo)] ++ WC cy ad ks g u0) := hD
  obtain rfl : E9 = xI := hB8.trans (if_pos hxc)
  refine vx_catch (own := RL) (name := xI) hown (tableOf []) _ (tableOf []) (htab.trans rfl) (fun z hz => nomatch hz) (by decide) (by decide) (hts _ mw_616) (va_Nw.use rfl hE.cI) hc9 hv9 hcl9 ?_
  generalize H1 = H at hP hS9 ⊢
  refine W.widen (k := 1) (n := 6) (by omega) (by omega) ?_
  refine lv_astore_n (lv' := [(3, .ref q9), (0, .ref (ad .cl)), (1, .int a1), (2, .ref o1)]) hx hb dL_writeCard_12 rfl hl (by decide) rfl (fun ls hl => ?_)
  refine lv_iconst (v := 1) hx hb dL_writeCard_13 (by decide) ?_
  refine vx_ret ?_
  exact W.iret (v := 1) hx hb hr (fun t ht hW => ⟨⟨1, (), rfl, rfl, by rw [ht]; exact hP, hD⟩, hS9.F ht⟩) hS9.2.2 dL_writeCard_14
set_option maxHeartbeats 4000000 in
set_option maxRecDepth 100000 in
theorem cn_saveSnapshot (l : Launch) (hst : l.stackTraces = false) (dC : Nat → ClassId) (dI : Nat → Nat → Nat) (cy : Nat → ClassId) (nb : Nat → Nat) (ad : CK → Nat) (ks : List CK) (g : CG) (hk : GA nb ad g ks) (u0 : RS) (a1 : Int32) (o1 : Nat) (fo : Nat → Int64) (ro : Int32) (gz : CG) (uz : RS) (sz : Nat) (hF : C7_saveSnapshot g u0 a1 = some (.inr (ro, gz, uz))) : vx_Met l yL_saveSnapshot (wsgH yL_saveSnapshot cL_saveSnapshot 4 (some .int) [(0, 9, 12, 13)]) ({ frames := 11, cells := 67, slots := 831, locals := 600 }) (va_Pc [.ref (ad .cl), .int a1, .ref o1] (fun U => U.heap.size = sz ∧ va_P (dC, dI) vwCl ([(o1, eL cy fo)] ++ WC cy ad ks g u0) U.heap ∧ va_K (dC, dI) vwCl (tyL cy) U ∧ va_D (fun _ => True) ([(o1, eL cy fo)] ++ WC cy ad ks g u0) ∧ GE nb (va_A ([(o1, eL cy fo)] ++ WC cy ad ks g u0) sz) U)) (va_Qi (fun (r : Int32) (_ : Unit) => r = 0) (fun _ t => ∃ (ad' : CK → Nat) (ks' : List CK), GA nb ad' gz ks' ∧ AX g ad gz ad' ∧ va_P (dC, dI) vwCl ([(o1, eL cy (vp_updL fo ((0 : Int32).toNatClampNeg) (ro.toInt64)))] ++ WC cy ad' ks' gz uz) t.heap ∧ va_D (va_A ([(o1, eL cy fo)] ++ WC cy ad ks g u0) sz) ([(o1, eL cy (vp_updL fo ((0 : Int32).toNatClampNeg) (ro.toInt64)))] ++ WC cy ad' ks' gz uz)) (va_A ([(o1, eL cy fo)] ++ WC cy ad ks g u0) sz)) (vx_X (fun (_ : Unit) => False) (fun _ _ _ => True) (va_A ([(o1, eL cy fo)] ++ WC cy ad ks g u0) sz)) 67 831 (va_A ([(o1, eL cy fo)] ++ WC cy ad ks g u0) sz) := by
  refine vx_ofWH (cc := cL_saveSnapshot) (maxL := 4) (ret := (some .int)) (hh := [(0, 9, 12, 13)]) pn_L rfl ?_
  intro p e s m args below meth c s₁ B hml hv
  obtain ⟨rfl, hsz, hP, hK, hD0, hE⟩ := hv
  have hx := B.exec
  have hb := B.bytes
  have hr := B.returns
  have hts0 := atoms_spec (ws := (wsgH yL_saveSnapshot cL_saveSnapshot 4 (some .int) [(0, 9, 12, 13)])) B.pre
  have hts : ∀ w ∈ wsL_law, w.before _ s = true := fun w h => hts0 w (List.mem_cons_of_mem _ h)
  have hown : s.vm.findClass RL = some m.cls := by have h9 := findClass_of_methodNamed B.named; exact h9
  have hlocks := B.notSynchronized
  subst hsz
  have hD := hD0.self (sz := s.heap.size)
  generalize hAe : va_A ([(o1, eL cy fo)] ++ WC cy ad ks g u0) s.heap.size = A at hD hE ⊢
  have hA : ∀ q : Nat, s.heap.size ≤ q → A q := fun q h => by rw [← hAe]; exact Or.inr h
  have hS : va_S A s.heap s.heap [] := va_S.rf
  have hl := lv_entry ([.ref (ad .cl), .int a1, .ref o1]) (n := 4) (Nat.le_of_ble_eq_true rfl)
  rw [lg_entry_eq]
  generalize (lg_sl ([.ref (ad .cl), .int a1, .ref o1]) ++ List.replicate (4 - (lg_sl ([.ref (ad .cl), .int a1, .ref o1])).length) Slot.unset).toArray = ls at hl ⊢
  have hl : lv_has ls 4 [(0, .ref (ad .cl)), (1, .int a1), (2, .ref o1)] := hl
  generalize hHe : s.heap = H at hP hS ⊢
  have hS : va_S A s.heap H [] := by rw [hHe]; exact hS
  have htab := vx_table (x := yL_saveSnapshot) B (hts0 (.codeWith yL_saveSnapshot cL_saveSnapshot 4 (some .int) [(0, 9, 12, 13)]) List.mem_cons_self)
  refine lv_aload_n hx hb dL_saveSnapshot_0 rfl (lv_at hl 2 rfl) ?_
  refine lv_iconst (v := 0) hx hb dL_saveSnapshot_1 (by decide) ?_
  refine lv_aload_n hx hb dL_saveSnapshot_2 rfl (lv_at hl 0 rfl) ?_
  refine lv_iload_n hx hb dL_saveSnapshot_3 rfl (lv_at hl 1 rfl) ?_
  have hPc : va_P (dC, dI) vwCl (WC cy ad ks g u0) H := hP.part (X := [(o1, eL cy fo)]) (cx := []) [] rfl
  have hDc : va_D A (WC cy ad ks g u0) := hD.part (X := [(o1, eL cy fo)]) (cx := []) [] (by decide) rfl
  have hFc : ∀ q, va_A (WC cy ad ks g u0) H.size q → A q := va_freeP (X := [(o1, eL cy fo)]) (cx := []) hD hS hA [] rfl
  obtain ⟨q8, h8⟩ := wc_at (cy := cy) (ad := ad) (ks := ks) (g := g) (u := u0) (κ := .cl) hk.1 True.intro
  refine va_calli (va_runV (As := [.int a1]) (rest := [.int 0, .ref o1]) ⟨hx, hb, hml, hown, hts⟩ (c_X7_saveSnapshot l dC dI cy nb ad ks g hk u0 a1 ro gz uz H.size hF) (cwV 1 hts (gV mw_1488 mw_1489 mw_1490 mw_2 mw_1491) rfl rfl rfl (by decide +kernel) ⟨Nat.le_of_ble_eq_true rfl, Nat.le_of_ble_eq_true rfl⟩) (my_preV hPc hK hDc hE hS hFc (va_recv (q := (RX7, TX7, 12)) hK hPc (ci := 7) (q0 := q8) rfl h8)) rfl rfl hl.1 rfl (lv_room (Nat.le_of_ble_eq_true rfl)) dL_saveSnapshot_4 ⟨Nat.le_of_ble_eq_true rfl, Nat.le_of_ble_eq_true rfl⟩) hS (fun q _ h => hFc q h) hFc (fun r u t H1 locs ht hvm hw hB hz1 hk1 hS => ?_)
  clear h8
  obtain ⟨ad', ks', hkz, axz, hP1, hD1⟩ := hB
  rw [ht] at hP1
  obtain ⟨hP, hD⟩ := va_joinP (X := [(o1, eL cy fo)]) (cx := []) (wr := [(o1, eL cy fo)]) (rx := []) (pl := WC cy ad ks g u0) (pl1 := WC cy ad' ks' gz uz) hP hD [] [0] rfl rfl (by decide) (by decide) hk1 hFc hP1 hD1
  generalize H1 = H at hP hS ⊢
  have hP : va_P (dC, dI) vwCl ([(o1, eL cy fo)] ++ WC cy ad' ks' gz uz) H := hP
  have hD : va_D A ([(o1, eL cy fo)] ++ WC cy ad' ks' gz uz) := hD
  refine my_topi hw ?_
  refine W.widen (k := 67) (n := 831) (by omega) (by omega) ?_
  refine lv_i2l (v := ro.toInt64) hx hb dL_saveSnapshot_7 rfl ?_
  refine va_last hx hb hK hP hD hS 0 3 rfl rfl (vp_in_nI (n := 0) (by decide) (by decide)) dL_saveSnapshot_8 (fun H locs hP hD hS => ?_)
  have hP : va_P (dC, dI) vwCl ([(o1, eL cy (vp_updL fo ((0 : Int32).toNatClampNeg) (ro.toInt64)))] ++ WC cy ad' ks' gz uz) H := hP
  have hD : va_D A ([(o1, eL cy (vp_updL fo ((0 : Int32).toNatClampNeg) (ro.toInt64)))] ++ WC cy ad' ks' gz uz) := hD
  refine lv_goto (tgt := 15) hx hb dL_saveSnapshot_9 (by decide) ?_
  refine lv_iconst (v := 0) hx hb dL_saveSnapshot_15 (by decide) ?_
  refine vx_ret ?_
  exact W.iret (v := 0) hx hb hr (fun t ht hW => ⟨⟨0, (), rfl, rfl, ad', ks', hkz, axz, by rw [ht]; exact hP, hD⟩, hS.F ht⟩) hS.2.2 dL_saveSnapshot_16
set_option maxHeartbeats 4000000 in
set_option maxRecDepth 100000 in
theorem ct_saveSnapshot (l : Launch) (hst : l.stackTraces = false) (dC : Nat → ClassId) (dI : Nat → Nat → Nat) (cy : Nat → ClassId) (nb : Nat → Nat) (ad : CK → Nat) (ks : List CK) (g : CG) (hk : GA nb ad g ks) (u0 : RS) (a1 : Int32) (o1 : Nat) (fo : Nat → Int64) (xc : Int32) (sz : Nat) (hxc : ¬ xc = 1) (hF : C7_saveSnapshot g u0 a1 = some (.inl xc)) : vx_Met l yL_saveSnapshot (wsgH yL_saveSnapshot cL_saveSnapshot 4 (some .int) [(0, 9, 12, 13)]) ({ frames := 11, cells := 67, slots := 831, locals := 600 }) (va_Pc [.ref (ad .cl), .int a1, .ref o1] (fun U => U.heap.size = sz ∧ va_P (dC, dI) vwCl ([(o1, eL cy fo)] ++ WC cy ad ks g u0) U.heap ∧ va_K (dC, dI) vwCl (tyL cy) U ∧ va_D (fun _ => True) ([(o1, eL cy fo)] ++ WC cy ad ks g u0) ∧ GE nb (va_A ([(o1, eL cy fo)] ++ WC cy ad ks g u0) sz) U)) (va_Qi (fun (r : Int32) (_ : Unit) => r = 1) (fun _ t => va_P (dC, dI) vwCl ([(o1, eL cy fo)] ++ WC cy ad ks g u0) t.heap ∧ va_D (va_A ([(o1, eL cy fo)] ++ WC cy ad ks g u0) sz) ([(o1, eL cy fo)] ++ WC cy ad ks g u0)) (va_A ([(o1, eL cy fo)] ++ WC cy ad ks g u0) sz)) (vx_X (fun (_ : Unit) => False) (fun _ _ _ => True) (va_A ([(o1, eL cy fo)] ++ WC cy ad ks g u0) sz)) 67 831 (va_A ([(o1, eL cy fo)] ++ WC cy ad ks g u0) sz) := by
  refine vx_ofWH (cc := cL_saveSnapshot) (maxL := 4) (ret := (some .int)) (hh := [(0, 9, 12, 13)]) pn_L rfl ?_
  intro p e s m args below meth c s₁ B hml hv
  obtain ⟨rfl, hsz, hP, hK, hD0, hE⟩ := hv
  have hx := B.exec
  have hb := B.bytes
  have hr := B.returns
  have hts0 := atoms_spec (ws := (wsgH yL_saveSnapshot cL_saveSnapshot 4 (some .int) [(0, 9, 12, 13)])) B.pre
  have hts : ∀ w ∈ wsL_law, w.before _ s = true := fun w h => hts0 w (List.mem_cons_of_mem _ h)
  have hown : s.vm.findClass RL = some m.cls := by have h9 := findClass_of_methodNamed B.named; exact h9
  have hlocks := B.notSynchronized
  subst hsz
  have hD := hD0.self (sz := s.heap.size)
  generalize hAe : va_A ([(o1, eL cy fo)] ++ WC cy ad ks g u0) s.heap.size = A at hD hE ⊢
  have hA : ∀ q : Nat, s.heap.size ≤ q → A q := fun q h => by rw [← hAe]; exact Or.inr h
  have hS : va_S A s.heap s.heap [] := va_S.rf
  have hl := lv_entry ([.ref (ad .cl), .int a1, .ref o1]) (n := 4) (Nat.le_of_ble_eq_true rfl)
  rw [lg_entry_eq]
  generalize (lg_sl ([.ref (ad .cl), .int a1, .ref o1]) ++ List.replicate (4 - (lg_sl ([.ref (ad .cl), .int a1, .ref o1])).length) Slot.unset).toArray = ls at hl ⊢
  have hl : lv_has ls 4 [(0, .ref (ad .cl)), (1, .int a1), (2, .ref o1)] := hl
  generalize hHe : s.heap = H at hP hS ⊢
  have hS : va_S A s.heap H [] := by rw [hHe]; exact hS
  have htab := vx_table (x := yL_saveSnapshot) B (hts0 (.codeWith yL_saveSnapshot cL_saveSnapshot 4 (some .int) [(0, 9, 12, 13)]) List.mem_cons_self)
  refine lv_aload_n hx hb dL_saveSnapshot_0 rfl (lv_at hl 2 rfl) ?_
  refine lv_iconst (v := 0) hx hb dL_saveSnapshot_1 (by decide) ?_
  refine lv_aload_n hx hb dL_saveSnapshot_2 rfl (lv_at hl 0 rfl) ?_
  refine lv_iload_n hx hb dL_saveSnapshot_3 rfl (lv_at hl 1 rfl) ?_
  have hPc : va_P (dC, dI) vwCl (WC cy ad ks g u0) H := hP.part (X := [(o1, eL cy fo)]) (cx := []) [] rfl
  have hDc : va_D A (WC cy ad ks g u0) := hD.part (X := [(o1, eL cy fo)]) (cx := []) [] (by decide) rfl
  have hFc : ∀ q, va_A (WC cy ad ks g u0) H.size q → A q := va_freeP (X := [(o1, eL cy fo)]) (cx := []) hD hS hA [] rfl
  obtain ⟨q8, h8⟩ := wc_at (cy := cy) (ad := ad) (ks := ks) (g := g) (u := u0) (κ := .cl) hk.1 True.intro
  refine vx_calli (vx_runV (As := [.int a1]) (rest := [.int 0, .ref o1]) ⟨hx, hb, hml, hown, hts⟩ (c_X7_saveSnapshot_y l hst dC dI cy nb ad ks g hk u0 a1 xc H.size hF) (cwV 1 hts (gV mw_1488 mw_1489 mw_1490 mw_2 mw_1491) rfl rfl rfl (by decide +kernel) ⟨Nat.le_of_ble_eq_true rfl, Nat.le_of_ble_eq_true rfl⟩) (my_preV hPc hK hDc hE hS hFc (va_recv (q := (RX7, TX7, 12)) hK hPc (ci := 7) (q0 := q8) rfl h8)) rfl rfl hl.1 rfl (lv_room (Nat.le_of_ble_eq_true rfl)) dL_saveSnapshot_4 ⟨Nat.le_of_ble_eq_true rfl, Nat.le_of_ble_eq_true rfl⟩) hS (fun q _ h => hFc q h) hFc (fun q _ h => hFc q h) (fun E9 ce9 q9 u9 t9 H1 locs1 ht9 hvm9 hp9 hB9 hz9 hk9 hS9 hc9 hv9 hcl9 => ?_) (fun r9 u9 t9 H1 locs1 ht9 hvm9 hp9 _ _ _ _ => hp9.elim)
  clear h8
  obtain ⟨hB8, hP1⟩ := hB9
  rw [ht9] at hP1
  obtain ⟨hP, hD⟩ := va_joinP (X := [(o1, eL cy fo)]) (cx := []) (wr := [(o1, eL cy fo)]) (rx := []) (pl := WC cy ad ks g u0) (pl1 := WC cy ad ks g u0) hP hD [] [0] rfl rfl (by decide) (by decide) hk9 hFc hP1 hDc.self
  have hP : va_P (dC, dI) vwCl ([(o1, eL cy fo)] ++ WC cy ad ks g u0) H1 := hP
  have hD : va_D A ([(o1, eL cy fo)] ++ WC cy ad ks g u0) := hD
  obtain rfl : E9 = xA := hB8.trans (if_neg hxc)
  refine vx_catch (own := RL) (name := xA) hown (tableOf []) _ (tableOf []) (htab.trans rfl) (fun z hz => nomatch hz) (by decide) (by decide) (hts _ mw_564) (va_Nw.use rfl hE.cA) hc9 hv9 hcl9 ?_
  generalize H1 = H at hP hS9 ⊢
  refine W.widen (k := 67) (n := 831) (by omega) (by omega) ?_
  refine lv_astore_n (lv' := [(3, .ref q9), (0, .ref (ad .cl)), (1, .int a1), (2, .ref o1)]) hx hb dL_saveSnapshot_12 rfl hl (by decide) rfl (fun ls hl => ?_)
  refine lv_iconst (v := 1) hx hb dL_saveSnapshot_13 (by decide) ?_
  refine vx_ret ?_
  exact W.iret (v := 1) hx hb hr (fun t ht hW => ⟨⟨1, (), rfl, rfl, by rw [ht]; exact hP, hD⟩, hS9.F ht⟩) hS9.2.2 dL_saveSnapshot_14
set_option maxHeartbeats 4000000 in
set_option maxRecDepth 100000 in
theorem cn_restoreSnapshot (l : Launch) (hst : l.stackTraces = false) (dC : Nat → ClassId) (dI : Nat → Nat → Nat) (cy : Nat → ClassId) (nb : Nat → Nat) (ad : CK → Nat) (ks : List CK) (g : CG) (hk : GA nb ad g ks) (u0 : RS) (a1 : Int32) (o1 : Nat) (fo : Nat → Int64) (ro : Int32) (uz : RS) (sz : Nat) (hF : C7_restoreSnapshot g u0 a1 = some (.inr (ro, uz))) : vx_Met l yL_restoreSnapshot (wsgH yL_restoreSnapshot cL_restoreSnapshot 4 (some .int) [(0, 9, 12, 13)]) ({ frames := 10, cells := 0, slots := 0, locals := 500 }) (va_Pc [.ref (ad .cl), .int a1, .ref o1] (fun U => U.heap.size = sz ∧ va_P (dC, dI) vwCl ([(o1, eL cy fo)] ++ WC cy ad ks g u0) U.heap ∧ va_K (dC, dI) vwCl (tyL cy) U ∧ va_D (fun _ => True) ([(o1, eL cy fo)] ++ WC cy ad ks g u0) ∧ GE nb (va_A ([(o1, eL cy fo)] ++ WC cy ad ks g u0) sz) U)) (va_Qi (fun (r : Int32) (_ : Unit) => r = 0) (fun _ t => va_P (dC, dI) vwCl ([(o1, eL cy (vp_updL fo ((0 : Int32).toNatClampNeg) (ro.toInt64)))] ++ WC cy ad ks g uz) t.heap ∧ va_D (va_A ([(o1, eL cy fo)] ++ WC cy ad ks g u0) sz) ([(o1, eL cy (vp_updL fo ((0 : Int32).toNatClampNeg) (ro.toInt64)))] ++ WC cy ad ks g uz)) (va_A ([(o1, eL cy fo)] ++ WC cy ad ks g u0) sz)) (vx_X (fun (_ : Unit) => False) (fun _ _ _ => True) (va_A ([(o1, eL cy fo)] ++ WC cy ad ks g u0) sz)) 0 0 (va_A ([(o1, eL cy fo)] ++ WC cy ad ks g u0) sz) := by
  refine vx_ofWH (cc := cL_restoreSnapshot) (maxL := 4) (ret := (some .int)) (hh := [(0, 9, 12, 13)]) pn_L rfl ?_
  intro p e s m args below meth c s₁ B hml hv
  obtain ⟨rfl, hsz, hP, hK, hD0, hE⟩ := hv
  have hx := B.exec
  have hb := B.bytes
  have hr := B.returns
  have hts0 := atoms_spec (ws := (wsgH yL_restoreSnapshot cL_restoreSnapshot 4 (some .int) [(0, 9, 12, 13)])) B.pre
  have hts : ∀ w ∈ wsL_law, w.before _ s = true := fun w h => hts0 w (List.mem_cons_of_mem _ h)
  have hown : s.vm.findClass RL = some m.cls := by have h9 := findClass_of_methodNamed B.named; exact h9
  have hlocks := B.notSynchronized
  subst hsz
  have hD := hD0.self (sz := s.heap.size)
  generalize hAe : va_A ([(o1, eL cy fo)] ++ WC cy ad ks g u0) s.heap.size = A at hD hE ⊢
  have hA : ∀ q : Nat, s.heap.size ≤ q → A q := fun q h => by rw [← hAe]; exact Or.inr h
  have hS : va_S A s.heap s.heap [] := va_S.rf
  have hl := lv_entry ([.ref (ad .cl), .int a1, .ref o1]) (n := 4) (Nat.le_of_ble_eq_true rfl)
  rw [lg_entry_eq]
  generalize (lg_sl ([.ref (ad .cl), .int a1, .ref o1]) ++ List.replicate (4 - (lg_sl ([.ref (ad .cl), .int a1, .ref o1])).length) Slot.unset).toArray = ls at hl ⊢
  have hl : lv_has ls 4 [(0, .ref (ad .cl)), (1, .int a1), (2, .ref o1)] := hl
  generalize hHe : s.heap = H at hP hS ⊢
  have hS : va_S A s.heap H [] := by rw [hHe]; exact hS
  have htab := vx_table (x := yL_restoreSnapshot) B (hts0 (.codeWith yL_restoreSnapshot cL_restoreSnapshot 4 (some .int) [(0, 9, 12, 13)]) List.mem_cons_self)
  refine lv_aload_n hx hb dL_restoreSnapshot_0 rfl (lv_at hl 2 rfl) ?_
  refine lv_iconst (v := 0) hx hb dL_restoreSnapshot_1 (by decide) ?_
  refine lv_aload_n hx hb dL_restoreSnapshot_2 rfl (lv_at hl 0 rfl) ?_
  refine lv_iload_n hx hb dL_restoreSnapshot_3 rfl (lv_at hl 1 rfl) ?_
  have hPc : va_P (dC, dI) vwCl (WC cy ad ks g u0) H := hP.part (X := [(o1, eL cy fo)]) (cx := []) [] rfl
  have hDc : va_D A (WC cy ad ks g u0) := hD.part (X := [(o1, eL cy fo)]) (cx := []) [] (by decide) rfl
  have hFc : ∀ q, va_A (WC cy ad ks g u0) H.size q → A q := va_freeP (X := [(o1, eL cy fo)]) (cx := []) hD hS hA [] rfl
  obtain ⟨q8, h8⟩ := wc_at (cy := cy) (ad := ad) (ks := ks) (g := g) (u := u0) (κ := .cl) hk.1 True.intro
  refine va_calli (va_runV (As := [.int a1]) (rest := [.int 0, .ref o1]) ⟨hx, hb, hml, hown, hts⟩ (c_X7_restoreSnapshot l dC dI cy nb ad ks g hk u0 a1 ro uz H.size hF) (cwV 1 hts (gV mw_1499 mw_1500 mw_1501 mw_2 mw_1502) rfl rfl rfl (by decide +kernel) ⟨Nat.le_of_ble_eq_true rfl, Nat.le_of_ble_eq_true rfl⟩) (my_preV hPc hK hDc hE hS hFc (va_recv (q := (RX7, TX7, 12)) hK hPc (ci := 7) (q0 := q8) rfl h8)) rfl rfl hl.1 rfl (lv_room (Nat.le_of_ble_eq_true rfl)) dL_restoreSnapshot_4 ⟨Nat.le_of_ble_eq_true rfl, Nat.le_of_ble_eq_true rfl⟩) hS (fun q _ h => hFc q h) hFc (fun r u t H1 locs ht hvm hw hB hz1 hk1 hS => ?_)
  clear h8
  obtain ⟨hP1, hD1⟩ := hB
  rw [ht] at hP1
  obtain ⟨hP, hD⟩ := va_joinP (X := [(o1, eL cy fo)]) (cx := []) (wr := [(o1, eL cy fo)]) (rx := []) (pl := WC cy ad ks g u0) (pl1 := WC cy ad ks g uz) hP hD [] [0] rfl rfl (by decide) (by decide) hk1 hFc hP1 hD1
  generalize H1 = H at hP hS ⊢
  have hP : va_P (dC, dI) vwCl ([(o1, eL cy fo)] ++ WC cy ad ks g uz) H := hP
  have hD : va_D A ([(o1, eL cy fo)] ++ WC cy ad ks g uz) := hD
  refine my_topi hw ?_
  refine W.widen (k := 0) (n := 0) (by omega) (by omega) ?_
  refine lv_i2l (v := ro.toInt64) hx hb dL_restoreSnapshot_7 rfl ?_
  refine va_last hx hb hK hP hD hS 0 3 rfl rfl (vp_in_nI (n := 0) (by decide) (by decide)) dL_restoreSnapshot_8 (fun H locs hP hD hS => ?_)
  have hP : va_P (dC, dI) vwCl ([(o1, eL cy (vp_updL fo ((0 : Int32).toNatClampNeg) (ro.toInt64)))] ++ WC cy ad ks g uz) H := hP
  have hD : va_D A ([(o1, eL cy (vp_updL fo ((0 : Int32).toNatClampNeg) (ro.toInt64)))] ++ WC cy ad ks g uz) := hD
  refine lv_goto (tgt := 15) hx hb dL_restoreSnapshot_9 (by decide) ?_
  refine lv_iconst (v := 0) hx hb dL_restoreSnapshot_15 (by decide) ?_
  refine vx_ret ?_
  exact W.iret (v := 0) hx hb hr (fun t ht hW => ⟨⟨0, (), rfl, rfl, by rw [ht]; exact hP, hD⟩, hS.F ht⟩) hS.2.2 dL_restoreSnapshot_16
set_option maxHeartbeats 4000000 in
set_option maxRecDepth 100000 in
theorem ct_restoreSnapshot (l : Launch) (hst : l.stackTraces = false) (dC : Nat → ClassId) (dI : Nat → Nat → Nat) (cy : Nat → ClassId) (nb : Nat → Nat) (ad : CK → Nat) (ks : List CK) (g : CG) (hk : GA nb ad g ks) (u0 : RS) (a1 : Int32) (o1 : Nat) (fo : Nat → Int64) (xc : Int32) (sz : Nat) (hxc : ¬ xc = 1) (hF : C7_restoreSnapshot g u0 a1 = some (.inl xc)) : vx_Met l yL_restoreSnapshot (wsgH yL_restoreSnapshot cL_restoreSnapshot 4 (some .int) [(0, 9, 12, 13)]) ({ frames := 10, cells := 1, slots := 6, locals := 500 }) (va_Pc [.ref (ad .cl), .int a1, .ref o1] (fun U => U.heap.size = sz ∧ va_P (dC, dI) vwCl ([(o1, eL cy fo)] ++ WC cy ad ks g u0) U.heap ∧ va_K (dC, dI) vwCl (tyL cy) U ∧ va_D (fun _ => True) ([(o1, eL cy fo)] ++ WC cy ad ks g u0) ∧ GE nb (va_A ([(o1, eL cy fo)] ++ WC cy ad ks g u0) sz) U)) (va_Qi (fun (r : Int32) (_ : Unit) => r = 1) (fun _ t => va_P (dC, dI) vwCl ([(o1, eL cy fo)] ++ WC cy ad ks g u0) t.heap ∧ va_D (va_A ([(o1, eL cy fo)] ++ WC cy ad ks g u0) sz) ([(o1, eL cy fo)] ++ WC cy ad ks g u0)) (va_A ([(o1, eL cy fo)] ++ WC cy ad ks g u0) sz)) (vx_X (fun (_ : Unit) => False) (fun _ _ _ => True) (va_A ([(o1, eL cy fo)] ++ WC cy ad ks g u0) sz)) 1 6 (va_A ([(o1, eL cy fo)] ++ WC cy ad ks g u0) sz) := by
  refine vx_ofWH (cc := cL_restoreSnapshot) (maxL := 4) (ret := (some .int)) (hh := [(0, 9, 12, 13)]) pn_L rfl ?_
  intro p e s m args below meth c s₁ B hml hv
  obtain ⟨rfl, hsz, hP, hK, hD0, hE⟩ := hv
  have hx := B.exec
  have hb := B.bytes
  have hr := B.returns
  have hts0 := atoms_spec (ws := (wsgH yL_restoreSnapshot cL_restoreSnapshot 4 (some .int) [(0, 9, 12, 13)])) B.pre
  have hts : ∀ w ∈ wsL_law, w.before _ s = true := fun w h => hts0 w (List.mem_cons_of_mem _ h)
  have hown : s.vm.findClass RL = some m.cls := by have h9 := findClass_of_methodNamed B.named; exact h9
  have hlocks := B.notSynchronized
  subst hsz
  have hD := hD0.self (sz := s.heap.size)
  generalize hAe : va_A ([(o1, eL cy fo)] ++ WC cy ad ks g u0) s.heap.size = A at hD hE ⊢
  have hA : ∀ q : Nat, s.heap.size ≤ q → A q := fun q h => by rw [← hAe]; exact Or.inr h
  have hS : va_S A s.heap s.heap [] := va_S.rf
  have hl := lv_entry ([.ref (ad .cl), .int a1, .ref o1]) (n := 4) (Nat.le_of_ble_eq_true rfl)
  rw [lg_entry_eq]
  generalize (lg_sl ([.ref (ad .cl), .int a1, .ref o1]) ++ List.replicate (4 - (lg_sl ([.ref (ad .cl), .int a1, .ref o1])).length) Slot.unset).toArray = ls at hl ⊢
  have hl : lv_has ls 4 [(0, .ref (ad .cl)), (1, .int a1), (2, .ref o1)] := hl
  generalize hHe : s.heap = H at hP hS ⊢
  have hS : va_S A s.heap H [] := by rw [hHe]; exact hS
  have htab := vx_table (x := yL_restoreSnapshot) B (hts0 (.codeWith yL_restoreSnapshot cL_restoreSnapshot 4 (some .int) [(0, 9, 12, 13)]) List.mem_cons_self)
  refine lv_aload_n hx hb dL_restoreSnapshot_0 rfl (lv_at hl 2 rfl) ?_
  refine lv_iconst (v := 0) hx hb dL_restoreSnapshot_1 (by decide) ?_
  refine lv_aload_n hx hb dL_restoreSnapshot_2 rfl (lv_at hl 0 rfl) ?_
  refine lv_iload_n hx hb dL_restoreSnapshot_3 rfl (lv_at hl 1 rfl) ?_
  have hPc : va_P (dC, dI) vwCl (WC cy ad ks g u0) H := hP.part (X := [(o1, eL cy fo)]) (cx := []) [] rfl
  have hDc : va_D A (WC cy ad ks g u0) := hD.part (X := [(o1, eL cy fo)]) (cx := []) [] (by decide) rfl
  have hFc : ∀ q, va_A (WC cy ad ks g u0) H.size q → A q := va_freeP (X := [(o1, eL cy fo)]) (cx := []) hD hS hA [] rfl
  obtain ⟨q8, h8⟩ := wc_at (cy := cy) (ad := ad) (ks := ks) (g := g) (u := u0) (κ := .cl) hk.1 True.intro
  refine vx_calli (vx_runV (As := [.int a1]) (rest := [.int 0, .ref o1]) ⟨hx, hb, hml, hown, hts⟩ (c_X7_restoreSnapshot_y l hst dC dI cy nb ad ks g hk u0 a1 xc H.size hF) (cwV 1 hts (gV mw_1499 mw_1500 mw_1501 mw_2 mw_1502) rfl rfl rfl (by decide +kernel) ⟨Nat.le_of_ble_eq_true rfl, Nat.le_of_ble_eq_true rfl⟩) (my_preV hPc hK hDc hE hS hFc (va_recv (q := (RX7, TX7, 12)) hK hPc (ci := 7) (q0 := q8) rfl h8)) rfl rfl hl.1 rfl (lv_room (Nat.le_of_ble_eq_true rfl)) dL_restoreSnapshot_4 ⟨Nat.le_of_ble_eq_true rfl, Nat.le_of_ble_eq_true rfl⟩) hS (fun q _ h => hFc q h) hFc (fun q _ h => hFc q h) (fun E9 ce9 q9 u9 t9 H1 locs1 ht9 hvm9 hp9 hB9 hz9 hk9 hS9 hc9 hv9 hcl9 => ?_) (fun r9 u9 t9 H1 locs1 ht9 hvm9 hp9 _ _ _ _ => hp9.elim)
  clear h8
  obtain ⟨hB8, hP1⟩ := hB9
  rw [ht9] at hP1
  obtain ⟨hP, hD⟩ := va_joinP (X := [(o1, eL cy fo)]) (cx := []) (wr := [(o1, eL cy fo)]) (rx := []) (pl := WC cy ad ks g u0) (pl1 := WC cy ad ks g u0) hP hD [] [0] rfl rfl (by decide) (by decide) hk9 hFc hP1 hDc.self
  have hP : va_P (dC, dI) vwCl ([(o1, eL cy fo)] ++ WC cy ad ks g u0) H1 := hP
  have hD : va_D A ([(o1, eL cy fo)] ++ WC cy ad ks g u0) := hD
  obtain rfl : E9 = xA := hB8.trans (if_neg hxc)
  refine vx_catch (own := RL) (name := xA) hown (tableOf []) _ (tableOf []) (htab.trans rfl) (fun z hz => nomatch hz) (by decide) (by decide) (hts _ mw_564) (va_Nw.use rfl hE.cA) hc9 hv9 hcl9 ?_
  generalize H1 = H at hP hS9 ⊢
  refine W.widen (k := 1) (n := 6) (by omega) (by omega) ?_
  refine lv_astore_n (lv' := [(3, .ref q9), (0, .ref (ad .cl)), (1, .int a1), (2, .ref o1)]) hx hb dL_restoreSnapshot_12 rfl hl (by decide) rfl (fun ls hl => ?_)
  refine lv_iconst (v := 1) hx hb dL_restoreSnapshot_13 (by decide) ?_
  refine vx_ret ?_
  exact W.iret (v := 1) hx hb hr (fun t ht hW => ⟨⟨1, (), rfl, rfl, by rw [ht]; exact hP, hD⟩, hS9.F ht⟩) hS9.2.2 dL_restoreSnapshot_14
