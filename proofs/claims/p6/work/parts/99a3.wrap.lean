set_option maxHeartbeats 4000000 in
set_option maxRecDepth 100000 in
theorem cn_busyPart (l : Launch) (hst : l.stackTraces = false) (dC : Nat → ClassId) (dI : Nat → Nat → Nat) (cy : Nat → ClassId) (nb : Nat → Nat) (ad : CK → Nat) (ks : List CK) (g : CG) (hk : GA nb ad g ks) (u0 : RS) (a1 : Int32) (o1 : Nat) (fo : Nat → UInt64) (ro : UInt32) (sz : Nat) (hne : vf_n64 (FP.f2d ro)) (hF : C7_busyPart g u0 a1 = some (.inr ro)) : vx_Met l yL_busyPart (wsgH yL_busyPart cL_busyPart 4 (some .int) [(0, 9, 12, 22)]) ({ frames := 9, cells := 0, slots := 0, locals := 400 }) (va_Pc [.ref (ad .cl), .int a1, .ref o1] (fun U => U.heap.size = sz ∧ va_P (dC, dI) vwCl ([(o1, eD cy fo)] ++ WC cy ad ks g u0) U.heap ∧ va_K (dC, dI) vwCl (tyL cy) U ∧ va_D (fun _ => True) ([(o1, eD cy fo)] ++ WC cy ad ks g u0) ∧ GE nb (va_A ([(o1, eD cy fo)] ++ WC cy ad ks g u0) sz) U)) (va_Qi (fun (r : Int32) (_ : Unit) => r = 0) (fun _ t => va_P (dC, dI) vwCl ([(o1, eD cy (vf_upd fo ((0 : Int32).toNatClampNeg) (FP.f2d ro)))] ++ WC cy ad ks g u0) t.heap ∧ va_D (va_A ([(o1, eD cy fo)] ++ WC cy ad ks g u0) sz) ([(o1, eD cy (vf_upd fo ((0 : Int32).toNatClampNeg) (FP.f2d ro)))] ++ WC cy ad ks g u0)) (va_A ([(o1, eD cy fo)] ++ WC cy ad ks g u0) sz)) (vx_X (fun (_ : Unit) => False) (fun _ _ _ => True) (va_A ([(o1, eD cy fo)] ++ WC cy ad ks g u0) sz)) 0 0 (va_A ([(o1, eD cy fo)] ++ WC cy ad ks g u0) sz) := by
  refine vx_ofWH (cc := cL_busyPart) (maxL := 4) (ret := (some .int)) (hh := [(0, 9, 12, 22)]) pn_L rfl ?_
  intro p e s m args below meth c s₁ B hml hv
  obtain ⟨rfl, hsz, hP, hK, hD0, hE⟩ := hv
  have hx := B.exec
  have hb := B.bytes
  have hr := B.returns
  have hts0 := atoms_spec (ws := (wsgH yL_busyPart cL_busyPart 4 (some .int) [(0, 9, 12, 22)])) B.pre
  have hts : ∀ w ∈ wsL_law, w.before _ s = true := fun w h => hts0 w (List.mem_cons_of_mem _ h)
  have hown : s.vm.findClass RL = some m.cls := by have h9 := findClass_of_methodNamed B.named; exact h9
  have hlocks := B.notSynchronized
  subst hsz
  have hD := hD0.self (sz := s.heap.size)
  generalize hAe : va_A ([(o1, eD cy fo)] ++ WC cy ad ks g u0) s.heap.size = A at hD hE ⊢
  have hA : ∀ q : Nat, s.heap.size ≤ q → A q := fun q h => by rw [← hAe]; exact Or.inr h
  have hS : va_S A s.heap s.heap [] := va_S.rf
  have hl := lv_entry ([.ref (ad .cl), .int a1, .ref o1]) (n := 4) (Nat.le_of_ble_eq_true rfl)
  rw [lg_entry_eq]
  generalize (lg_sl ([.ref (ad .cl), .int a1, .ref o1]) ++ List.replicate (4 - (lg_sl ([.ref (ad .cl), .int a1, .ref o1])).length) Slot.unset).toArray = ls at hl ⊢
  have hl : lv_has ls 4 [(0, .ref (ad .cl)), (1, .int a1), (2, .ref o1)] := hl
  generalize hHe : s.heap = H at hP hS ⊢
  have hS : va_S A s.heap H [] := by rw [hHe]; exact hS
  have htab := vx_table (x := yL_busyPart) B (hts0 (.codeWith yL_busyPart cL_busyPart 4 (some .int) [(0, 9, 12, 22)]) List.mem_cons_self)
  refine lv_aload_n hx hb dL_busyPart_0 rfl (lv_at hl 2 rfl) ?_
  refine lv_iconst (v := 0) hx hb dL_busyPart_1 (by decide) ?_
  refine lv_aload_n hx hb dL_busyPart_2 rfl (lv_at hl 0 rfl) ?_
  refine lv_iload_n hx hb dL_busyPart_3 rfl (lv_at hl 1 rfl) ?_
  have hPc : va_P (dC, dI) vwCl (WC cy ad ks g u0) H := hP.part (X := [(o1, eD cy fo)]) (cx := []) [] rfl
  have hDc : va_D A (WC cy ad ks g u0) := hD.part (X := [(o1, eD cy fo)]) (cx := []) [] (by decide) rfl
  have hFc : ∀ q, va_A (WC cy ad ks g u0) H.size q → A q := va_freeP (X := [(o1, eD cy fo)]) (cx := []) hD hS hA [] rfl
  obtain ⟨q8, h8⟩ := wc_at (cy := cy) (ad := ad) (ks := ks) (g := g) (u := u0) (κ := .cl) hk.1 True.intro
  refine va_callf (va_runV (As := [.int a1]) (rest := [.int 0, .ref o1]) ⟨hx, hb, hml, hown, hts⟩ (c_X7_busyPart l dC dI cy nb ad ks g hk u0 a1 ro H.size hF) (cwV 1 hts (gV mw_937 mw_938 mw_939 mw_2 mw_940) rfl rfl rfl (by decide +kernel) ⟨Nat.le_of_ble_eq_true rfl, Nat.le_of_ble_eq_true rfl⟩) (my_preV hPc hK hDc hE hS hFc (va_recv (q := (RX7, TX7, 12)) hK hPc (ci := 7) (q0 := q8) rfl h8)) rfl rfl hl.1 rfl (lv_room (Nat.le_of_ble_eq_true rfl)) dL_busyPart_4 ⟨Nat.le_of_ble_eq_true rfl, Nat.le_of_ble_eq_true rfl⟩) hS (fun q _ h => hFc q h) hFc (fun r u t H1 locs ht hvm hw hB hz1 hk1 hS => ?_)
  clear h8
  obtain ⟨hP1, hD1⟩ := hB
  rw [ht] at hP1
  obtain ⟨hP, hD⟩ := va_joinP (X := [(o1, eD cy fo)]) (cx := []) (wr := [(o1, eD cy fo)]) (rx := []) (pl := WC cy ad ks g u0) (pl1 := WC cy ad ks g u0) hP hD [] [0] rfl rfl (by decide) (by decide) hk1 hFc hP1 hD1
  generalize H1 = H at hP hS ⊢
  have hP : va_P (dC, dI) vwCl ([(o1, eD cy fo)] ++ WC cy ad ks g u0) H := hP
  have hD : va_D A ([(o1, eD cy fo)] ++ WC cy ad ks g u0) := hD
  refine my_topf hw ?_
  refine W.widen (k := 0) (n := 0) (by omega) (by omega) ?_
  refine lv_f2d hx hb dL_busyPart_7 hne ?_
  refine va_dast hx hb hK hP hD hS 0 4 rfl rfl (vp_in_nI (n := 0) (by decide) (by decide)) dL_busyPart_8 (fun H locs hP hD hS => ?_)
  have hP : va_P (dC, dI) vwCl ([(o1, eD cy (vf_upd fo ((0 : Int32).toNatClampNeg) (FP.f2d ro)))] ++ WC cy ad ks g u0) H := hP
  have hD : va_D A ([(o1, eD cy (vf_upd fo ((0 : Int32).toNatClampNeg) (FP.f2d ro)))] ++ WC cy ad ks g u0) := hD
  refine lv_goto (tgt := 15) hx hb dL_busyPart_9 (by decide) ?_
  refine lv_iconst (v := 0) hx hb dL_busyPart_15 (by decide) ?_
  refine vx_ret ?_
  exact W.iret (v := 0) hx hb hr (fun t ht hW => ⟨⟨0, (), rfl, rfl, by rw [ht]; exact hP, hD⟩, hS.F ht⟩) hS.2.2 dL_busyPart_16
set_option maxHeartbeats 4000000 in
set_option maxRecDepth 100000 in
theorem ct_busyPart (l : Launch) (hst : l.stackTraces = false) (dC : Nat → ClassId) (dI : Nat → Nat → Nat) (cy : Nat → ClassId) (nb : Nat → Nat) (ad : CK → Nat) (ks : List CK) (g : CG) (hk : GA nb ad g ks) (u0 : RS) (a1 : Int32) (o1 : Nat) (fo : Nat → UInt64) (xc : Int32) (sz : Nat) (hxc : xc = 1) (hF : C7_busyPart g u0 a1 = some (.inl xc)) : vx_Met l yL_busyPart (wsgH yL_busyPart cL_busyPart 4 (some .int) [(0, 9, 12, 22)]) ({ frames := 9, cells := 1, slots := 6, locals := 400 }) (va_Pc [.ref (ad .cl), .int a1, .ref o1] (fun U => U.heap.size = sz ∧ va_P (dC, dI) vwCl ([(o1, eD cy fo)] ++ WC cy ad ks g u0) U.heap ∧ va_K (dC, dI) vwCl (tyL cy) U ∧ va_D (fun _ => True) ([(o1, eD cy fo)] ++ WC cy ad ks g u0) ∧ GE nb (va_A ([(o1, eD cy fo)] ++ WC cy ad ks g u0) sz) U)) (va_Qi (fun (r : Int32) (_ : Unit) => r = 1) (fun _ t => va_P (dC, dI) vwCl ([(o1, eD cy fo)] ++ WC cy ad ks g u0) t.heap ∧ va_D (va_A ([(o1, eD cy fo)] ++ WC cy ad ks g u0) sz) ([(o1, eD cy fo)] ++ WC cy ad ks g u0)) (va_A ([(o1, eD cy fo)] ++ WC cy ad ks g u0) sz)) (vx_X (fun (_ : Unit) => False) (fun _ _ _ => True) (va_A ([(o1, eD cy fo)] ++ WC cy ad ks g u0) sz)) 1 6 (va_A ([(o1, eD cy fo)] ++ WC cy ad ks g u0) sz) := by
  refine vx_ofWH (cc := cL_busyPart) (maxL := 4) (ret := (some .int)) (hh := [(0, 9, 12, 22)]) pn_L rfl ?_
  intro p e s m args below meth c s₁ B hml hv
  obtain ⟨rfl, hsz, hP, hK, hD0, hE⟩ := hv
  have hx := B.exec
  have hb := B.bytes
  have hr := B.returns
  have hts0 := atoms_spec (ws := (wsgH yL_busyPart cL_busyPart 4 (some .int) [(0, 9, 12, 22)])) B.pre
  have hts : ∀ w ∈ wsL_law, w.before _ s = true := fun w h => hts0 w (List.mem_cons_of_mem _ h)
  have hown : s.vm.findClass RL = some m.cls := by have h9 := findClass_of_methodNamed B.named; exact h9
  have hlocks := B.notSynchronized
  subst hsz
  have hD := hD0.self (sz := s.heap.size)
  generalize hAe : va_A ([(o1, eD cy fo)] ++ WC cy ad ks g u0) s.heap.size = A at hD hE ⊢
  have hA : ∀ q : Nat, s.heap.size ≤ q → A q := fun q h => by rw [← hAe]; exact Or.inr h
  have hS : va_S A s.heap s.heap [] := va_S.rf
  have hl := lv_entry ([.ref (ad .cl), .int a1, .ref o1]) (n := 4) (Nat.le_of_ble_eq_true rfl)
  rw [lg_entry_eq]
  generalize (lg_sl ([.ref (ad .cl), .int a1, .ref o1]) ++ List.replicate (4 - (lg_sl ([.ref (ad .cl), .int a1, .ref o1])).length) Slot.unset).toArray = ls at hl ⊢
  have hl : lv_has ls 4 [(0, .ref (ad .cl)), (1, .int a1), (2, .ref o1)] := hl
  generalize hHe : s.heap = H at hP hS ⊢
  have hS : va_S A s.heap H [] := by rw [hHe]; exact hS
  have htab := vx_table (x := yL_busyPart) B (hts0 (.codeWith yL_busyPart cL_busyPart 4 (some .int) [(0, 9, 12, 22)]) List.mem_cons_self)
  refine lv_aload_n hx hb dL_busyPart_0 rfl (lv_at hl 2 rfl) ?_
  refine lv_iconst (v := 0) hx hb dL_busyPart_1 (by decide) ?_
  refine lv_aload_n hx hb dL_busyPart_2 rfl (lv_at hl 0 rfl) ?_
  refine lv_iload_n hx hb dL_busyPart_3 rfl (lv_at hl 1 rfl) ?_
  have hPc : va_P (dC, dI) vwCl (WC cy ad ks g u0) H := hP.part (X := [(o1, eD cy fo)]) (cx := []) [] rfl
  have hDc : va_D A (WC cy ad ks g u0) := hD.part (X := [(o1, eD cy fo)]) (cx := []) [] (by decide) rfl
  have hFc : ∀ q, va_A (WC cy ad ks g u0) H.size q → A q := va_freeP (X := [(o1, eD cy fo)]) (cx := []) hD hS hA [] rfl
  obtain ⟨q8, h8⟩ := wc_at (cy := cy) (ad := ad) (ks := ks) (g := g) (u := u0) (κ := .cl) hk.1 True.intro
  refine vx_callf (vx_runV (As := [.int a1]) (rest := [.int 0, .ref o1]) ⟨hx, hb, hml, hown, hts⟩ (c_X7_busyPart_y l hst dC dI cy nb ad ks g hk u0 a1 xc H.size hF) (cwV 1 hts (gV mw_937 mw_938 mw_939 mw_2 mw_940) rfl rfl rfl (by decide +kernel) ⟨Nat.le_of_ble_eq_true rfl, Nat.le_of_ble_eq_true rfl⟩) (my_preV hPc hK hDc hE hS hFc (va_recv (q := (RX7, TX7, 12)) hK hPc (ci := 7) (q0 := q8) rfl h8)) rfl rfl hl.1 rfl (lv_room (Nat.le_of_ble_eq_true rfl)) dL_busyPart_4 ⟨Nat.le_of_ble_eq_true rfl, Nat.le_of_ble_eq_true rfl⟩) hS (fun q _ h => hFc q h) hFc (fun q _ h => hFc q h) (fun E9 ce9 q9 u9 t9 H1 locs1 ht9 hvm9 hp9 hB9 hz9 hk9 hS9 hc9 hv9 hcl9 => ?_) (fun r9 u9 t9 H1 locs1 ht9 hvm9 hp9 _ _ _ _ => hp9.elim)
  clear h8
  obtain ⟨hB8, hP1⟩ := hB9
  rw [ht9] at hP1
  obtain ⟨hP, hD⟩ := va_joinP (X := [(o1, eD cy fo)]) (cx := []) (wr := [(o1, eD cy fo)]) (rx := []) (pl := WC cy ad ks g u0) (pl1 := WC cy ad ks g u0) hP hD [] [0] rfl rfl (by decide) (by decide) hk9 hFc hP1 hDc.self
  have hP : va_P (dC, dI) vwCl ([(o1, eD cy fo)] ++ WC cy ad ks g u0) H1 := hP
  have hD : va_D A ([(o1, eD cy fo)] ++ WC cy ad ks g u0) := hD
  obtain rfl : E9 = xI := hB8.trans (if_pos hxc)
  refine vx_catch (own := RL) (name := xI) hown (tableOf []) _ (tableOf []) (htab.trans rfl) (fun z hz => nomatch hz) (by decide) (by decide) (hts _ mw_616) (va_Nw.use rfl hE.cI) hc9 hv9 hcl9 ?_
  generalize H1 = H at hP hS9 ⊢
  refine W.widen (k := 1) (n := 6) (by omega) (by omega) ?_
  refine lv_astore_n (lv' := [(3, .ref q9), (0, .ref (ad .cl)), (1, .int a1), (2, .ref o1)]) hx hb dL_busyPart_12 rfl hl (by decide) rfl (fun ls hl => ?_)
  refine lv_iconst (v := 1) hx hb dL_busyPart_13 (by decide) ?_
  refine vx_ret ?_
  exact W.iret (v := 1) hx hb hr (fun t ht hW => ⟨⟨1, (), rfl, rfl, by rw [ht]; exact hP, hD⟩, hS9.F ht⟩) hS9.2.2 dL_busyPart_14
set_option maxHeartbeats 4000000 in
set_option maxRecDepth 100000 in
theorem cn_order (l : Launch) (hst : l.stackTraces = false) (dC : Nat → ClassId) (dI : Nat → Nat → Nat) (cy : Nat → ClassId) (nb : Nat → Nat) (ad : CK → Nat) (ks : List CK) (g : CG) (hk : GA nb ad g ks) (u0 : RS) (a1 : Int32) (o1 : Nat) (fo : Nat → Int64) (ro : Int32) (gz : CG) (uz : RS) (sz : Nat) (hF : C7_order g u0 a1 = some (.inr (ro, gz, uz))) : vx_Met l yL_order (wsgH yL_order cL_order 4 (some .int) [(0, 9, 12, 22)]) ({ frames := 12, cells := 68, slots := 847, locals := 700 }) (va_Pc [.ref (ad .cl), .int a1, .ref o1] (fun U => U.heap.size = sz ∧ va_P (dC, dI) vwCl ([(o1, eL cy fo)] ++ WC cy ad ks g u0) U.heap ∧ va_K (dC, dI) vwCl (tyL cy) U ∧ va_D (fun _ => True) ([(o1, eL cy fo)] ++ WC cy ad ks g u0) ∧ GE nb (va_A ([(o1, eL cy fo)] ++ WC cy ad ks g u0) sz) U)) (va_Qi (fun (r : Int32) (_ : Unit) => r = 0) (fun _ t => ∃ (ad' : CK → Nat) (ks' : List CK), GA nb ad' gz ks' ∧ AX g ad gz ad' ∧ va_P (dC, dI) vwCl ([(o1, eL cy (vp_updL fo ((0 : Int32).toNatClampNeg) (ro.toInt64)))] ++ WC cy ad' ks' gz uz) t.heap ∧ va_D (va_A ([(o1, eL cy fo)] ++ WC cy ad ks g u0) sz) ([(o1, eL cy (vp_updL fo ((0 : Int32).toNatClampNeg) (ro.toInt64)))] ++ WC cy ad' ks' gz uz)) (va_A ([(o1, eL cy fo)] ++ WC cy ad ks g u0) sz)) (vx_X (fun (_ : Unit) => False) (fun _ _ _ => True) (va_A ([(o1, eL cy fo)] ++ WC cy ad ks g u0) sz)) 68 847 (va_A ([(o1, eL cy fo)] ++ WC cy ad ks g u0) sz) := by
  refine vx_ofWH (cc := cL_order) (maxL := 4) (ret := (some .int)) (hh := [(0, 9, 12, 22)]) pn_L rfl ?_
  intro p e s m args below meth c s₁ B hml hv
  obtain ⟨rfl, hsz, hP, hK, hD0, hE⟩ := hv
  have hx := B.exec
  have hb := B.bytes
  have hr := B.returns
  have hts0 := atoms_spec (ws := (wsgH yL_order cL_order 4 (some .int) [(0, 9, 12, 22)])) B.pre
  have hts : ∀ w ∈ wsL_law, w.before _ s = true := fun w h => hts0 w (List.mem_cons_of_mem _ h)
  have hown : s.vm.findClass RL = some m.cls := by have h9 := findClass_of_methodNamed B.named; exact h9
  have hlocks := B.notSynchronized
  subst hsz
  have hD := hD0.self (sz := s.heap.size)
  generalize hAe : va_A ([(o1, eL cy fo)] ++ WC cy ad ks g u0) s.heap.size = A at hD hE ⊢
  have hA : ∀ q : Nat, s.heap.size ≤ q → A q := fun q h => by rw [← hAe]; exact Or.inr h
  have hS : va_S A s.heap s.heap [] := va_S.rf
  have hl := lv_entry ([.ref (ad .cl), .int a1, .ref o1]) (n := 4) (Nat.le_of_ble_eq_true rfl)
  rw [lg_entry_eq]
  generalize (lg_sl ([.ref (ad .cl), .int a1, .ref o1]) ++ List.replicate (4 - (lg_sl ([.ref (ad .cl), .int a1, .ref o1])).length) Slot.unset).toArray = ls at hl ⊢
  have hl : lv_has ls 4 [(0, .ref (ad .cl)), (1, .int a1), (2, .ref o1)] := hl
  generalize hHe : s.heap = H at hP hS ⊢
  have hS : va_S A s.heap H [] := by rw [hHe]; exact hS
  have htab := vx_table (x := yL_order) B (hts0 (.codeWith yL_order cL_order 4 (some .int) [(0, 9, 12, 22)]) List.mem_cons_self)
  refine lv_aload_n hx hb dL_order_0 rfl (lv_at hl 2 rfl) ?_
  refine lv_iconst (v := 0) hx hb dL_order_1 (by decide) ?_
  refine lv_aload_n hx hb dL_order_2 rfl (lv_at hl 0 rfl) ?_
  refine lv_iload_n hx hb dL_order_3 rfl (lv_at hl 1 rfl) ?_
  have hPc : va_P (dC, dI) vwCl (WC cy ad ks g u0) H := hP.part (X := [(o1, eL cy fo)]) (cx := []) [] rfl
  have hDc : va_D A (WC cy ad ks g u0) := hD.part (X := [(o1, eL cy fo)]) (cx := []) [] (by decide) rfl
  have hFc : ∀ q, va_A (WC cy ad ks g u0) H.size q → A q := va_freeP (X := [(o1, eL cy fo)]) (cx := []) hD hS hA [] rfl
  obtain ⟨q8, h8⟩ := wc_at (cy := cy) (ad := ad) (ks := ks) (g := g) (u := u0) (κ := .cl) hk.1 True.intro
  refine va_calli (va_runV (As := [.int a1]) (rest := [.int 0, .ref o1]) ⟨hx, hb, hml, hown, hts⟩ (c_X7_order l dC dI cy nb ad ks g hk u0 a1 ro gz uz H.size hF) (cwV 1 hts (gV mw_969 mw_970 mw_971 mw_2 mw_972) rfl rfl rfl (by decide +kernel) ⟨Nat.le_of_ble_eq_true rfl, Nat.le_of_ble_eq_true rfl⟩) (my_preV hPc hK hDc hE hS hFc (va_recv (q := (RX7, TX7, 12)) hK hPc (ci := 7) (q0 := q8) rfl h8)) rfl rfl hl.1 rfl (lv_room (Nat.le_of_ble_eq_true rfl)) dL_order_4 ⟨Nat.le_of_ble_eq_true rfl, Nat.le_of_ble_eq_true rfl⟩) hS (fun q _ h => hFc q h) hFc (fun r u t H1 locs ht hvm hw hB hz1 hk1 hS => ?_)
  clear h8
  obtain ⟨ad', ks', hkz, axz, hP1, hD1⟩ := hB
  rw [ht] at hP1
  obtain ⟨hP, hD⟩ := va_joinP (X := [(o1, eL cy fo)]) (cx := []) (wr := [(o1, eL cy fo)]) (rx := []) (pl := WC cy ad ks g u0) (pl1 := WC cy ad' ks' gz uz) hP hD [] [0] rfl rfl (by decide) (by decide) hk1 hFc hP1 hD1
  generalize H1 = H at hP hS ⊢
  have hP : va_P (dC, dI) vwCl ([(o1, eL cy fo)] ++ WC cy ad' ks' gz uz) H := hP
  have hD : va_D A ([(o1, eL cy fo)] ++ WC cy ad' ks' gz uz) := hD
  refine my_topi hw ?_
  refine W.widen (k := 68) (n := 847) (by omega) (by omega) ?_
  refine lv_i2l (v := ro.toInt64) hx hb dL_order_7 rfl ?_
  refine va_last hx hb hK hP hD hS 0 3 rfl rfl (vp_in_nI (n := 0) (by decide) (by decide)) dL_order_8 (fun H locs hP hD hS => ?_)
  have hP : va_P (dC, dI) vwCl ([(o1, eL cy (vp_updL fo ((0 : Int32).toNatClampNeg) (ro.toInt64)))] ++ WC cy ad' ks' gz uz) H := hP
  have hD : va_D A ([(o1, eL cy (vp_updL fo ((0 : Int32).toNatClampNeg) (ro.toInt64)))] ++ WC cy ad' ks' gz uz) := hD
  refine lv_goto (tgt := 15) hx hb dL_order_9 (by decide) ?_
  refine lv_iconst (v := 0) hx hb dL_order_15 (by decide) ?_
  refine vx_ret ?_
  exact W.iret (v := 0) hx hb hr (fun t ht hW => ⟨⟨0, (), rfl, rfl, ad', ks', hkz, axz, by rw [ht]; exact hP, hD⟩, hS.F ht⟩) hS.2.2 dL_order_16
set_option maxHeartbeats 4000000 in
set_option maxRecDepth 100000 in
theorem ct_order (l : Launch) (hst : l.stackTraces = false) (dC : Nat → ClassId) (dI : Nat → Nat → Nat) (cy : Nat → ClassId) (nb : Nat → Nat) (ad : CK → Nat) (ks : List CK) (g : CG) (hk : GA nb ad g ks) (u0 : RS) (a1 : Int32) (o1 : Nat) (fo : Nat → Int64) (xc : Int32) (sz : Nat) (hxc : xc = 1) (hF : C7_order g u0 a1 = some (.inl xc)) : vx_Met l yL_order (wsgH yL_order cL_order 4 (some .int) [(0, 9, 12, 22)]) ({ frames := 12, cells := 68, slots := 847, locals := 700 }) (va_Pc [.ref (ad .cl), .int a1, .ref o1] (fun U => U.heap.size = sz ∧ va_P (dC, dI) vwCl ([(o1, eL cy fo)] ++ WC cy ad ks g u0) U.heap ∧ va_K (dC, dI) vwCl (tyL cy) U ∧ va_D (fun _ => True) ([(o1, eL cy fo)] ++ WC cy ad ks g u0) ∧ GE nb (va_A ([(o1, eL cy fo)] ++ WC cy ad ks g u0) sz) U)) (va_Qi (fun (r : Int32) (_ : Unit) => r = 1) (fun _ t => va_P (dC, dI) vwCl ([(o1, eL cy fo)] ++ WC cy ad ks g u0) t.heap ∧ va_D (va_A ([(o1, eL cy fo)] ++ WC cy ad ks g u0) sz) ([(o1, eL cy fo)] ++ WC cy ad ks g u0)) (va_A ([(o1, eL cy fo)] ++ WC cy ad ks g u0) sz)) (vx_X (fun (_ : Unit) => False) (fun _ _ _ => True) (va_A ([(o1, eL cy fo)] ++ WC cy ad ks g u0) sz)) 68 847 (va_A ([(o1, eL cy fo)] ++ WC cy ad ks g u0) sz) := by
  refine vx_ofWH (cc := cL_order) (maxL := 4) (ret := (some .int)) (hh := [(0, 9, 12, 22)]) pn_L rfl ?_
  intro p e s m args below meth c s₁ B hml hv
  obtain ⟨rfl, hsz, hP, hK, hD0, hE⟩ := hv
  have hx := B.exec
  have hb := B.bytes
  have hr := B.returns
  have hts0 := atoms_spec (ws := (wsgH yL_order cL_order 4 (some .int) [(0, 9, 12, 22)])) B.pre
  have hts : ∀ w ∈ wsL_law, w.before _ s = true := fun w h => hts0 w (List.mem_cons_of_mem _ h)
  have hown : s.vm.findClass RL = some m.cls := by have h9 := findClass_of_methodNamed B.named; exact h9
  have hlocks := B.notSynchronized
  subst hsz
  have hD := hD0.self (sz := s.heap.size)
  generalize hAe : va_A ([(o1, eL cy fo)] ++ WC cy ad ks g u0) s.heap.size = A at hD hE ⊢
  have hA : ∀ q : Nat, s.heap.size ≤ q → A q := fun q h => by rw [← hAe]; exact Or.inr h
  have hS : va_S A s.heap s.heap [] := va_S.rf
  have hl := lv_entry ([.ref (ad .cl), .int a1, .ref o1]) (n := 4) (Nat.le_of_ble_eq_true rfl)
  rw [lg_entry_eq]
  generalize (lg_sl ([.ref (ad .cl), .int a1, .ref o1]) ++ List.replicate (4 - (lg_sl ([.ref (ad .cl), .int a1, .ref o1])).length) Slot.unset).toArray = ls at hl ⊢
  have hl : lv_has ls 4 [(0, .ref (ad .cl)), (1, .int a1), (2, .ref o1)] := hl
  generalize hHe : s.heap = H at hP hS ⊢
  have hS : va_S A s.heap H [] := by rw [hHe]; exact hS
  have htab := vx_table (x := yL_order) B (hts0 (.codeWith yL_order cL_order 4 (some .int) [(0, 9, 12, 22)]) List.mem_cons_self)
  refine lv_aload_n hx hb dL_order_0 rfl (lv_at hl 2 rfl) ?_
  refine lv_iconst (v := 0) hx hb dL_order_1 (by decide) ?_
  refine lv_aload_n hx hb dL_order_2 rfl (lv_at hl 0 rfl) ?_
  refine lv_iload_n hx hb dL_order_3 rfl (lv_at hl 1 rfl) ?_
  have hPc : va_P (dC, dI) vwCl (WC cy ad ks g u0) H := hP.part (X := [(o1, eL cy fo)]) (cx := []) [] rfl
  have hDc : va_D A (WC cy ad ks g u0) := hD.part (X := [(o1, eL cy fo)]) (cx := []) [] (by decide) rfl
  have hFc : ∀ q, va_A (WC cy ad ks g u0) H.size q → A q := va_freeP (X := [(o1, eL cy fo)]) (cx := []) hD hS hA [] rfl
  obtain ⟨q8, h8⟩ := wc_at (cy := cy) (ad := ad) (ks := ks) (g := g) (u := u0) (κ := .cl) hk.1 True.intro
  refine vx_calli (vx_runV (As := [.int a1]) (rest := [.int 0, .ref o1]) ⟨hx, hb, hml, hown, hts⟩ (c_X7_order_y l hst dC dI cy nb ad ks g hk u0 a1 xc H.size hF) (cwV 1 hts (gV mw_969 mw_970 mw_971 mw_2 mw_972) rfl rfl rfl (by decide +kernel) ⟨Nat.le_of_ble_eq_true rfl, Nat.le_of_ble_eq_true rfl⟩) (my_preV hPc hK hDc hE hS hFc (va_recv (q := (RX7, TX7, 12)) hK hPc (ci := 7) (q0 := q8) rfl h8)) rfl rfl hl.1 rfl (lv_room (Nat.le_of_ble_eq_true rfl)) dL_order_4 ⟨Nat.le_of_ble_eq_true rfl, Nat.le_of_ble_eq_true rfl⟩) hS (fun q _ h => hFc q h) hFc (fun q _ h => hFc q h) (fun E9 ce9 q9 u9 t9 H1 locs1 ht9 hvm9 hp9 hB9 hz9 hk9 hS9 hc9 hv9 hcl9 => ?_) (fun r9 u9 t9 H1 locs1 ht9 hvm9 hp9 _ _ _ _ => hp9.elim)
  clear h8
  obtain ⟨hB8, hP1⟩ := hB9
  rw [ht9] at hP1
  obtain ⟨hP, hD⟩ := va_joinP (X := [(o1, eL cy fo)]) (cx := []) (wr := [(o1, eL cy fo)]) (rx := []) (pl := WC cy ad ks g u0) (pl1 := WC cy ad ks g u0) hP hD [] [0] rfl rfl (by decide) (by decide) hk9 hFc hP1 hDc.self
  have hP : va_P (dC, dI) vwCl ([(o1, eL cy fo)] ++ WC cy ad ks g u0) H1 := hP
  have hD : va_D A ([(o1, eL cy fo)] ++ WC cy ad ks g u0) := hD
  obtain rfl : E9 = xI := hB8.trans (if_pos hxc)
  refine vx_catch (own := RL) (name := xI) hown (tableOf []) _ (tableOf []) (htab.trans rfl) (fun z hz => nomatch hz) (by decide) (by decide) (hts _ mw_616) (va_Nw.use rfl hE.cI) hc9 hv9 hcl9 ?_
  generalize H1 = H at hP hS9 ⊢
  refine W.widen (k := 68) (n := 847) (by omega) (by omega) ?_
  refine lv_astore_n (lv' := [(3, .ref q9), (0, .ref (ad .cl)), (1, .int a1), (2, .ref o1)]) hx hb dL_order_12 rfl hl (by decide) rfl (fun ls hl => ?_)
  refine lv_iconst (v := 1) hx hb dL_order_13 (by decide) ?_
  refine vx_ret ?_
  exact W.iret (v := 1) hx hb hr (fun t ht hW => ⟨⟨1, (), rfl, rfl, by rw [ht]; exact hP, hD⟩, hS9.F ht⟩) hS9.2.2 dL_order_14
set_option maxHeartbeats 4000000 in
set_option maxRecDepth 100000 in
theorem cn_giveUp (l : Launch) (hst : l.stackTraces = false) (dC : Nat → ClassId) (dI : Nat → Nat → Nat) (cy : Nat → ClassId) (nb : Nat → Nat) (ad : CK → Nat) (ks : List CK) (g : CG) (hk : GA nb ad g ks) (u0 : RS) (a1 : Int32) (o1 : Nat) (fo : Nat → Int64) (ro : Int32) (gz : CG) (uz : RS) (sz : Nat) (hF : C7_giveUp g u0 a1 = some (.inr (ro, gz, uz))) : vx_Met l yL_giveUp (wsgH yL_giveUp cL_giveUp 4 (some .int) [(0, 9, 12, 22)]) ({ frames := 12, cells := 67, slots := 831, locals := 700 }) (va_Pc [.ref (ad .cl), .int a1, .ref o1] (fun U => U.heap.size = sz ∧ va_P (dC, dI) vwCl ([(o1, eL cy fo)] ++ WC cy ad ks g u0) U.heap ∧ va_K (dC, dI) vwCl (tyL cy) U ∧ va_D (fun _ => True) ([(o1, eL cy fo)] ++ WC cy ad ks g u0) ∧ GE nb (va_A ([(o1, eL cy fo)] ++ WC cy ad ks g u0) sz) U)) (va_Qi (fun (r : Int32) (_ : Unit) => r = 0) (fun _ t => ∃ (ad' : CK → Nat) (ks' : List CK), GA nb ad' gz ks' ∧ AX g ad gz ad' ∧ va_P (dC, dI) vwCl ([(o1, eL cy (vp_updL fo ((0 : Int32).toNatClampNeg) (ro.toInt64)))] ++ WC cy ad' ks' gz uz) t.heap ∧ va_D (va_A ([(o1, eL cy fo)] ++ WC cy ad ks g u0) sz) ([(o1, eL cy (vp_updL fo ((0 : Int32).toNatClampNeg) (ro.toInt64)))] ++ WC cy ad' ks' gz uz)) (va_A ([(o1, eL cy fo)] ++ WC cy ad ks g u0) sz)) (vx_X (fun (_ : Unit) => False) (fun _ _ _ => True) (va_A ([(o1, eL cy fo)] ++ WC cy ad ks g u0) sz)) 67 831 (va_A ([(o1, eL cy fo)] ++ WC cy ad ks g u0) sz) := by
  refine vx_ofWH (cc := cL_giveUp) (maxL := 4) (ret := (some .int)) (hh := [(0, 9, 12, 22)]) pn_L rfl ?_
  intro p e s m args below meth c s₁ B hml hv
  obtain ⟨rfl, hsz, hP, hK, hD0, hE⟩ := hv
  have hx := B.exec
  have hb := B.bytes
  have hr := B.returns
  have hts0 := atoms_spec (ws := (wsgH yL_giveUp cL_giveUp 4 (some .int) [(0, 9, 12, 22)])) B.pre
  have hts : ∀ w ∈ wsL_law, w.before _ s = true := fun w h => hts0 w (List.mem_cons_of_mem _ h)
  have hown : s.vm.findClass RL = some m.cls := by have h9 := findClass_of_methodNamed B.named; exact h9
  have hlocks := B.notSynchronized
  subst hsz
  have hD := hD0.self (sz := s.heap.size)
  generalize hAe : va_A ([(o1, eL cy fo)] ++ WC cy ad ks g u0) s.heap.size = A at hD hE ⊢
  have hA : ∀ q : Nat, s.heap.size ≤ q → A q := fun q h => by rw [← hAe]; exact Or.inr h
  have hS : va_S A s.heap s.heap [] := va_S.rf
  have hl := lv_entry ([.ref (ad .cl), .int a1, .ref o1]) (n := 4) (Nat.le_of_ble_eq_true rfl)
  rw [lg_entry_eq]
  generalize (lg_sl ([.ref (ad .cl), .int a1, .ref o1]) ++ List.replicate (4 - (lg_sl ([.ref (ad .cl), .int a1, .ref o1])).length) Slot.unset).toArray = ls at hl ⊢
  have hl : lv_has ls 4 [(0, .ref (ad .cl)), (1, .int a1), (2, .ref o1)] := hl
  generalize hHe : s.heap = H at hP hS ⊢
  have hS : va_S A s.heap H [] := by rw [hHe]; exact hS
  have htab := vx_table (x := yL_giveUp) B (hts0 (.codeWith yL_giveUp cL_giveUp 4 (some .int) [(0, 9, 12, 22)]) List.mem_cons_self)
  refine lv_aload_n hx hb dL_giveUp_0 rfl (lv_at hl 2 rfl) ?_
  refine lv_iconst (v := 0) hx hb dL_giveUp_1 (by decide) ?_
  refine lv_aload_n hx hb dL_giveUp_2 rfl (lv_at hl 0 rfl) ?_
  refine lv_iload_n hx hb dL_giveUp_3 rfl (lv_at hl 1 rfl) ?_
  have hPc : va_P (dC, dI) vwCl (WC cy ad ks g u0) H := hP.part (X := [(o1, eL cy fo)]) (cx := []) [] rfl
  have hDc : va_D A (WC cy ad ks g u0) := hD.part (X := [(o1, eL cy fo)]) (cx := []) [] (by decide) rfl
  have hFc : ∀ q, va_A (WC cy ad ks g u0) H.size q → A q := va_freeP (X := [(o1, eL cy fo)]) (cx := []) hD hS hA [] rfl
  obtain ⟨q8, h8⟩ := wc_at (cy := cy) (ad := ad) (ks := ks) (g := g) (u := u0) (κ := .cl) hk.1 True.intro
  refine va_calli (va_runV (As := [.int a1]) (rest := [.int 0, .ref o1]) ⟨hx, hb, hml, hown, hts⟩ (c_X7_giveUp l dC dI cy nb ad ks g hk u0 a1 ro gz uz H.size hF) (cwV 1 hts (gV mw_994 mw_995 mw_996 mw_2 mw_997) rfl rfl rfl (by decide +kernel) ⟨Nat.le_of_ble_eq_true rfl, Nat.le_of_ble_eq_true rfl⟩) (my_preV hPc hK hDc hE hS hFc (va_recv (q := (RX7, TX7, 12)) hK hPc (ci := 7) (q0 := q8) rfl h8)) rfl rfl hl.1 rfl (lv_room (Nat.le_of_ble_eq_true rfl)) dL_giveUp_4 ⟨Nat.le_of_ble_eq_true rfl, Nat.le_of_ble_eq_true rfl⟩) hS (fun q _ h => hFc q h) hFc (fun r u t H1 locs ht hvm hw hB hz1 hk1 hS => ?_)
  clear h8
  obtain ⟨ad', ks', hkz, axz, hP1, hD1⟩ := hB
  rw [ht] at hP1
  obtain ⟨hP, hD⟩ := va_joinP (X := [(o1, eL cy fo)]) (cx := []) (wr := [(o1, eL cy fo)]) (rx := []) (pl := WC cy ad ks g u0) (pl1 := WC cy ad' ks' gz uz) hP hD [] [0] rfl rfl (by decide) (by decide) hk1 hFc hP1 hD1
  generalize H1 = H at hP hS ⊢
  have hP : va_P (dC, dI) vwCl ([(o1, eL cy fo)] ++ WC cy ad' ks' gz uz) H := hP
  have hD : va_D A ([(o1, eL cy fo)] ++ WC cy ad' ks' gz uz) := hD
  refine my_topi hw ?_
  refine W.widen (k := 67) (n := 831) (by omega) (by omega) ?_
  refine lv_i2l (v := ro.toInt64) hx hb dL_giveUp_7 rfl ?_
  refine va_last hx hb hK hP hD hS 0 3 rfl rfl (vp_in_nI (n := 0) (by decide) (by decide)) dL_giveUp_8 (fun H locs hP hD hS => ?_)
  have hP : va_P (dC, dI) vwCl ([(o1, eL cy (vp_updL fo ((0 : Int32).toNatClampNeg) (ro.toInt64)))] ++ WC cy ad' ks' gz uz) H := hP
  have hD : va_D A ([(o1, eL cy (vp_updL fo ((0 : Int32).toNatClampNeg) (ro.toInt64)))] ++ WC cy ad' ks' gz uz) := hD
  refine lv_goto (tgt := 15) hx hb dL_giveUp_9 (by decide) ?_
  refine lv_iconst (v := 0) hx hb dL_giveUp_15 (by decide) ?_
  refine vx_ret ?_
  exact W.iret (v := 0) hx hb hr (fun t ht hW => ⟨⟨0, (), rfl, rfl, ad', ks', hkz, axz, by rw [ht]; exact hP, hD⟩, hS.F ht⟩) hS.2.2 dL_giveUp_16
set_option maxHeartbeats 4000000 in
set_option maxRecDepth 100000 in
theorem ct_giveUp (l : Launch) (hst : l.stackTraces = false) (dC : Nat → ClassId) (dI : Nat → Nat → Nat) (cy : Nat → ClassId) (nb : Nat → Nat) (ad : CK → Nat) (ks : List CK) (g : CG) (hk : GA nb ad g ks) (u0 : RS) (a1 : Int32) (o1 : Nat) (fo : Nat → Int64) (xc : Int32) (sz : Nat) (hxc : xc = 1) (hF : C7_giveUp g u0 a1 = some (.inl xc)) : vx_Met l yL_giveUp (wsgH yL_giveUp cL_giveUp 4 (some .int) [(0, 9, 12, 22)]) ({ frames := 12, cells := 67, slots := 831, locals := 700 }) (va_Pc [.ref (ad .cl), .int a1, .ref o1] (fun U => U.heap.size = sz ∧ va_P (dC, dI) vwCl ([(o1, eL cy fo)] ++ WC cy ad ks g u0) U.heap ∧ va_K (dC, dI) vwCl (tyL cy) U ∧ va_D (fun _ => True) ([(o1, eL cy fo)] ++ WC cy ad ks g u0) ∧ GE nb (va_A ([(o1, eL cy fo)] ++ WC cy ad ks g u0) sz) U)) (va_Qi (fun (r : Int32) (_ : Unit) => r = 1) (fun _ t => va_P (dC, dI) vwCl ([(o1, eL cy fo)] ++ WC cy ad ks g u0) t.heap ∧ va_D (va_A ([(o1, eL cy fo)] ++ WC cy ad ks g u0) sz) ([(o1, eL cy fo)] ++ WC cy ad ks g u0)) (va_A ([(o1, eL cy fo)] ++ WC cy ad ks g u0) sz)) (vx_X (fun (_ : Unit) => False) (fun _ _ _ => True) (va_A ([(o1, eL cy fo)] ++ WC cy ad ks g u0) sz)) 67 831 (va_A ([(o1, eL cy fo)] ++ WC cy ad ks g u0) sz) := by
  refine vx_ofWH (cc := cL_giveUp) (maxL := 4) (ret := (some .int)) (hh := [(0, 9, 12, 22)]) pn_L rfl ?_
  intro p e s m args below meth c s₁ B hml hv
  obtain ⟨rfl, hsz, hP, hK, hD0, hE⟩ := hv
  have hx := B.exec
  have hb := B.bytes
  have hr := B.returns
  have hts0 := atoms_spec (ws := (wsgH yL_giveUp cL_giveUp 4 (some .int) [(0, 9, 12, 22)])) B.pre
  have hts : ∀ w ∈ wsL_law, w.before _ s = true := fun w h => hts0 w (List.mem_cons_of_mem _ h)
  have hown : s.vm.findClass RL = some m.cls := by have h9 := findClass_of_methodNamed B.named; exact h9
  have hlocks := B.notSynchronized
  subst hsz
  have hD := hD0.self (sz := s.heap.size)
  generalize hAe : va_A ([(o1, eL cy fo)] ++ WC cy ad ks g u0) s.heap.size = A at hD hE ⊢
  have hA : ∀ q : Nat, s.heap.size ≤ q → A q := fun q h => by rw [← hAe]; exact Or.inr h
  have hS : va_S A s.heap s.heap [] := va_S.rf
  have hl := lv_entry ([.ref (ad .cl), .int a1, .ref o1]) (n := 4) (Nat.le_of_ble_eq_true rfl)
  rw [lg_entry_eq]
  generalize (lg_sl ([.ref (ad .cl), .int a1, .ref o1]) ++ List.replicate (4 - (lg_sl ([.ref (ad .cl), .int a1, .ref o1])).length) Slot.unset).toArray = ls at hl ⊢
  have hl : lv_has ls 4 [(0, .ref (ad .cl)), (1, .int a1), (2, .ref o1)] := hl
  generalize hHe : s.heap = H at hP hS ⊢
  have hS : va_S A s.heap H [] := by rw [hHe]; exact hS
  have htab := vx_table (x := yL_giveUp) B (hts0 (.codeWith yL_giveUp cL_giveUp 4 (some .int) [(0, 9, 12, 22)]) List.mem_cons_self)
  refine lv_aload_n hx hb dL_giveUp_0 rfl (lv_at hl 2 rfl) ?_
  refine lv_iconst (v := 0) hx hb dL_giveUp_1 (by decide) ?_
  refine lv_aload_n hx hb dL_giveUp_2 rfl (lv_at hl 0 rfl) ?_
  refine lv_iload_n hx hb dL_giveUp_3 rfl (lv_at hl 1 rfl) ?_
  have hPc : va_P (dC, dI) vwCl (WC cy ad ks g u0) H := hP.part (X := [(o1, eL cy fo)]) (cx := []) [] rfl
  have hDc : va_D A (WC cy ad ks g u0) := hD.part (X := [(o1, eL cy fo)]) (cx := []) [] (by decide) rfl
  have hFc : ∀ q, va_A (WC cy ad ks g u0) H.size q → A q := va_freeP (X := [(o1, eL cy fo)]) (cx := []) hD hS hA [] rfl
  obtain ⟨q8, h8⟩ := wc_at (cy := cy) (ad := ad) (ks := ks) (g := g) (u := u0) (κ := .cl) hk.1 True.intro
  refine vx_calli (vx_runV (As := [.int a1]) (rest := [.int 0, .ref o1]) ⟨hx, hb, hml, hown, hts⟩ (c_X7_giveUp_y l hst dC dI cy nb ad ks g hk u0 a1 xc H.size hF) (cwV 1 hts (gV mw_994 mw_995 mw_996 mw_2 mw_997) rfl rfl rfl (by decide +kernel) ⟨Nat.le_of_ble_eq_true rfl, Nat.le_of_ble_eq_true rfl⟩) (my_preV hPc hK hDc hE hS hFc (va_recv (q := (RX7, TX7, 12)) hK hPc (ci := 7) (q0 := q8) rfl h8)) rfl rfl hl.1 rfl (lv_room (Nat.le_of_ble_eq_true rfl)) dL_giveUp_4 ⟨Nat.le_of_ble_eq_true rfl, Nat.le_of_ble_eq_true rfl⟩) hS (fun q _ h => hFc q h) hFc (fun q _ h => hFc q h) (fun E9 ce9 q9 u9 t9 H1 locs1 ht9 hvm9 hp9 hB9 hz9 hk9 hS9 hc9 hv9 hcl9 => ?_) (fun r9 u9 t9 H1 locs1 ht9 hvm9 hp9 _ _ _ _ => hp9.elim)
  clear h8
  obtain ⟨hB8, hP1⟩ := hB9
  rw [ht9] at hP1
  obtain ⟨hP, hD⟩ := va_joinP (X := [(o1, eL cy fo)]) (cx := []) (wr := [(o1, eL cy fo)]) (rx := []) (pl := WC cy ad ks g u0) (pl1 := WC cy ad ks g u0) hP hD [] [0] rfl rfl (by decide) (by decide) hk9 hFc hP1 hDc.self
  have hP : va_P (dC, dI) vwCl ([(o1, eL cy fo)] ++ WC cy ad ks g u0) H1 := hP
  have hD : va_D A ([(o1, eL cy fo)] ++ WC cy ad ks g u0) := hD
  obtain rfl : E9 = xI := hB8.trans (if_pos hxc)
  refine vx_catch (own := RL) (name := xI) hown (tableOf []) _ (tableOf []) (htab.trans rfl) (fun z hz => nomatch hz) (by decide) (by decide) (hts _ mw_616) (va_Nw.use rfl hE.cI) hc9 hv9 hcl9 ?_
  generalize H1 = H at hP hS9 ⊢
  refine W.widen (k := 67) (n := 831) (by omega) (by omega) ?_
  refine lv_astore_n (lv' := [(3, .ref q9), (0, .ref (ad .cl)), (1, .int a1), (2, .ref o1)]) hx hb dL_giveUp_12 rfl hl (by decide) rfl (fun ls hl => ?_)
  refine lv_iconst (v := 1) hx hb dL_giveUp_13 (by decide) ?_
  refine vx_ret ?_
  exact W.iret (v := 1) hx hb hr (fun t ht hW => ⟨⟨1, (), rfl, rfl, by rw [ht]; exact hP, hD⟩, hS9.F ht⟩) hS9.2.2 dL_giveUp_14
set_option maxHeartbeats 4000000 in
set_option maxRecDepth 100000 in
theorem cn_setRank (l : Launch) (hst : l.stackTraces = false) (dC : Nat → ClassId) (dI : Nat → Nat → Nat) (cy : Nat → ClassId) (nb : Nat → Nat) (ad : CK → Nat) (ks : List CK) (g : CG) (hk : GA nb ad g ks) (u0 : RS) (a1 : Int32) (a2 : Int32) (o1 : Nat) (fo : Nat → Int64) (ro : Int32) (gz : CG) (uz : RS) (sz : Nat) (hF : C7_setRank g u0 a1 a2 = some (.inr (ro, gz, uz))) : vx_Met l yL_setRank (wsgH yL_setRank cL_setRank 5 (some .int) [(0, 10, 13, 22), (0, 10, 17, 13)]) ({ frames := 12, cells := 67, slots := 831, locals := 700 }) (va_Pc [.ref (ad .cl), .int a1, .int a2, .ref o1] (fun U => U.heap.size = sz ∧ va_P (dC, dI) vwCl ([(o1, eL cy fo)] ++ WC cy ad ks g u0) U.heap ∧ va_K (dC, dI) vwCl (tyL cy) U ∧ va_D (fun _ => True) ([(o1, eL cy fo)] ++ WC cy ad ks g u0) ∧ GE nb (va_A ([(o1, eL cy fo)] ++ WC cy ad ks g u0) sz) U)) (va_Qi (fun (r : Int32) (_ : Unit) => r = 0) (fun _ t => ∃ (ad' : CK → Nat) (ks' : List CK), GA nb ad' gz ks' ∧ AX g ad gz ad' ∧ va_P (dC, dI) vwCl ([(o1, eL cy (vp_updL fo ((0 : Int32).toNatClampNeg) (ro.toInt64)))] ++ WC cy ad' ks' gz uz) t.heap ∧ va_D (va_A ([(o1, eL cy fo)] ++ WC cy ad ks g u0) sz) ([(o1, eL cy (vp_updL fo ((0 : Int32).toNatClampNeg) (ro.toInt64)))] ++ WC cy ad' ks' gz uz)) (va_A ([(o1, eL cy fo)] ++ WC cy ad ks g u0) sz)) (vx_X (fun (_ : Unit) => False) (fun _ _ _ => True) (va_A ([(o1, eL cy fo)] ++ WC cy ad ks g u0) sz)) 67 831 (va_A ([(o1, eL cy fo)] ++ WC cy ad ks g u0) sz) := by
  refine vx_ofWH (cc := cL_setRank) (maxL := 5) (ret := (some .int)) (hh := [(0, 10, 13, 22), (0, 10, 17, 13)]) pn_L rfl ?_
  intro p e s m args below meth c s₁ B hml hv
  obtain ⟨rfl, hsz, hP, hK, hD0, hE⟩ := hv
  have hx := B.exec
  have hb := B.bytes
  have hr := B.returns
  have hts0 := atoms_spec (ws := (wsgH yL_setRank cL_setRank 5 (some .int) [(0, 10, 13, 22), (0, 10, 17, 13)])) B.pre
  have hts : ∀ w ∈ wsL_law, w.before _ s = true := fun w h => hts0 w (List.mem_cons_of_mem _ h)
  have hown : s.vm.findClass RL = some m.cls := by have h9 := findClass_of_methodNamed B.named; exact h9
  have hlocks := B.notSynchronized
  subst hsz
  have hD := hD0.self (sz := s.heap.size)
  generalize hAe : va_A ([(o1, eL cy fo)] ++ WC cy ad ks g u0) s.heap.size = A at hD hE ⊢
  have hA : ∀ q : Nat, s.heap.size ≤ q → A q := fun q h => by rw [← hAe]; exact Or.inr h
  have hS : va_S A s.heap s.heap [] := va_S.rf
  have hl := lv_entry ([.ref (ad .cl), .int a1, .int a2, .ref o1]) (n := 5) (Nat.le_of_ble_eq_true rfl)
  rw [lg_entry_eq]
  generalize (lg_sl ([.ref (ad .cl), .int a1, .int a2, .ref o1]) ++ List.replicate (5 - (lg_sl ([.ref (ad .cl), .int a1, .int a2, .ref o1])).length) Slot.unset).toArray = ls at hl ⊢
  have hl : lv_has ls 5 [(0, .ref (ad .cl)), (1, .int a1), (2, .int a2), (3, .ref o1)] := hl
  generalize hHe : s.heap = H at hP hS ⊢
  have hS : va_S A s.heap H [] := by rw [hHe]; exact hS
  have htab := vx_table (x := yL_setRank) B (hts0 (.codeWith yL_setRank cL_setRank 5 (some .int) [(0, 10, 13, 22), (0, 10, 17, 13)]) List.mem_cons_self)
  refine lv_aload_n hx hb dL_setRank_0 rfl (lv_at hl 3 rfl) ?_
  refine lv_iconst (v := 0) hx hb dL_setRank_1 (by decide) ?_
  refine lv_aload_n hx hb dL_setRank_2 rfl (lv_at hl 0 rfl) ?_
  refine lv_iload_n hx hb dL_setRank_3 rfl (lv_at hl 1 rfl) ?_
  refine lv_iload_n hx hb dL_setRank_4 rfl (lv_at hl 2 rfl) ?_
  have hPc : va_P (dC, dI) vwCl (WC cy ad ks g u0) H := hP.part (X := [(o1, eL cy fo)]) (cx := []) [] rfl
  have hDc : va_D A (WC cy ad ks g u0) := hD.part (X := [(o1, eL cy fo)]) (cx := []) [] (by decide) rfl
  have hFc : ∀ q, va_A (WC cy ad ks g u0) H.size q → A q := va_freeP (X := [(o1, eL cy fo)]) (cx := []) hD hS hA [] rfl
  obtain ⟨q8, h8⟩ := wc_at (cy := cy) (ad := ad) (ks := ks) (g := g) (u := u0) (κ := .cl) hk.1 True.intro
  refine va_calli (va_runV (As := [.int a1, .int a2]) (rest := [.int 0, .ref o1]) ⟨hx, hb, hml, hown, hts⟩ (c_X7_setRank l dC dI cy nb ad ks g hk u0 a1 a2 ro gz uz H.size hF) (cwV 2 hts (gV mw_1024 mw_1025 mw_1026 mw_2 mw_1027) rfl rfl rfl (by decide +kernel) ⟨Nat.le_of_ble_eq_true rfl, Nat.le_of_ble_eq_true rfl⟩) (my_preV hPc hK hDc hE hS hFc (va_recv (q := (RX7, TX7, 12)) hK hPc (ci := 7) (q0 := q8) rfl h8)) rfl rfl hl.1 rfl (lv_room (Nat.le_of_ble_eq_true rfl)) dL_setRank_5 ⟨Nat.le_of_ble_eq_true rfl, Nat.le_of_ble_eq_true rfl⟩) hS (fun q _ h => hFc q h) hFc (fun r u t H1 locs ht hvm hw hB hz1 hk1 hS => ?_)
  clear h8
  obtain ⟨ad', ks', hkz, axz, hP1, hD1⟩ := hB
  rw [ht] at hP1
  obtain ⟨hP, hD⟩ := va_joinP (X := [(o1, eL cy fo)]) (cx := []) (wr := [(o1, eL cy fo)]) (rx := []) (pl := WC cy ad ks g u0) (pl1 := WC cy ad' ks' gz uz) hP hD [] [0] rfl rfl (by decide) (by decide) hk1 hFc hP1 hD1
  generalize H1 = H at hP hS ⊢
  have hP : va_P (dC, dI) vwCl ([(o1, eL cy fo)] ++ WC cy ad' ks' gz uz) H := hP
  have hD : va_D A ([(o1, eL cy fo)] ++ WC cy ad' ks' gz uz) := hD
  refine my_topi hw ?_
  refine W.widen (k := 67) (n := 831) (by omega) (by omega) ?_
  refine lv_i2l (v := ro.toInt64) hx hb dL_setRank_8 rfl ?_
  refine va_last hx hb hK hP hD hS 0 3 rfl rfl (vp_in_nI (n := 0) (by decide) (by decide)) dL_setRank_9 (fun H locs hP hD hS => ?_)
  have hP : va_P (dC, dI) vwCl ([(o1, eL cy (vp_updL fo ((0 : Int32).toNatClampNeg) (ro.toInt64)))] ++ WC cy ad' ks' gz uz) H := hP
  have hD : va_D A ([(o1, eL cy (vp_updL fo ((0 : Int32).toNatClampNeg) (ro.toInt64)))] ++ WC cy ad' ks' gz uz) := hD
  refine lv_goto (tgt := 21) hx hb dL_setRank_10 (by decide) ?_
  refine lv_iconst (v := 0) hx hb dL_setRank_21 (by decide) ?_
  refine vx_ret ?_
  exact W.iret (v := 0) hx hb hr (fun t ht hW => ⟨⟨0, (), rfl, rfl, ad', ks', hkz, axz, by rw [ht]; exact hP, hD⟩, hS.F ht⟩) hS.2.2 dL_setRank_22
set_option maxHeartbeats 4000000 in
set_option maxRecDepth 100000 in
theorem ct_setRank (l : Launch) (hst : l.stackTraces = false) (dC : Nat → ClassId) (dI : Nat → Nat → Nat) (cy : Nat → ClassId) (nb : Nat → Nat) (ad : CK → Nat) (ks : List CK) (g : CG) (hk : GA nb ad g ks) (u0 : RS) (a1 : Int32) (a2 : Int32) (o1 : Nat) (fo : Nat → Int64) (xc : Int32) (sz : Nat) (hF : C7_setRank g u0 a1 a2 = some (.inl xc)) : vx_Met l yL_setRank (wsgH yL_setRank cL_setRank 5 (some .int) [(0, 10, 13, 22), (0, 10, 17, 13)]) ({ frames := 12, cells := 67, slots := 831, locals := 700 }) (va_Pc [.ref (ad .cl), .int a1, .int a2, .ref o1] (fun U => U.heap.size = sz ∧ va_P (dC, dI) vwCl ([(o1, eL cy fo)] ++ WC cy ad ks g u0) U.heap ∧ va_K (dC, dI) vwCl (tyL cy) U ∧ va_D (fun _ => True) ([(o1, eL cy fo)] ++ WC cy ad ks g u0) ∧ GE nb (va_A ([(o1, eL cy fo)] ++ WC cy ad ks g u0) sz) U)) (va_Qi (fun (r : Int32) (_ : Unit) => r = if xc = 1 then 1 else 2) (fun _ t => va_P (dC, dI) vwCl ([(o1, eL cy fo)] ++ WC cy ad ks g u0) t.heap ∧ va_D (va_A ([(o1, eL cy fo)] ++ WC cy ad ks g u0) sz) ([(o1, eL cy fo)] ++ WC cy ad ks g u0)) (va_A ([(o1, eL cy fo)] ++ WC cy ad ks g u0) sz)) (vx_X (fun (_ : Unit) => False) (fun _ _ _ => True) (va_A ([(o1, eL cy fo)] ++ WC cy ad ks g u0) sz)) 67 831 (va_A ([(o1, eL cy fo)] ++ WC cy ad ks g u0) sz) := by
  refine vx_ofWH (cc := cL_setRank) (maxL := 5) (ret := (some .int)) (hh := [(0, 10, 13, 22), (0, 10, 17, 13)]) pn_L rfl ?_
  intro p e s m args below meth c s₁ B hml hv
  obtain ⟨rfl, hsz, hP, hK, hD0, hE⟩ := hv
  have hx := B.exec
  have hb := B.bytes
  have hr := B.returns
  have hts0 := atoms_spec (ws := (wsgH yL_setRank cL_setRank 5 (some .int) [(0, 10, 13, 22), (0, 10, 17, 13)])) B.pre
  have hts : ∀ w ∈ wsL_law, w.before _ s = true := fun w h => hts0 w (List.mem_cons_of_mem _ h)
  have hown : s.vm.findClass RL = some m.cls := by have h9 := findClass_of_methodNamed B.named; exact h9
  have hlocks := B.notSynchronized
  subst hsz
  have hD := hD0.self (sz := s.heap.size)
  generalize hAe : va_A ([(o1, eL cy fo)] ++ WC cy ad ks g u0) s.heap.size = A at hD hE ⊢
  have hA : ∀ q : Nat, s.heap.size ≤ q → A q := fun q h => by rw [← hAe]; exact Or.inr h
  have hS : va_S A s.heap s.heap [] := va_S.rf
  have hl := lv_entry ([.ref (ad .cl), .int a1, .int a2, .ref o1]) (n := 5) (Nat.le_of_ble_eq_true rfl)
  rw [lg_entry_eq]
  generalize (lg_sl ([.ref (ad .cl), .int a1, .int a2, .ref o1]) ++ List.replicate (5 - (lg_sl ([.ref (ad .cl), .int a1, .int a2, .ref o1])).length) Slot.unset).toArray = ls at hl ⊢
  have hl : lv_has ls 5 [(0, .ref (ad .cl)), (1, .int a1), (2, .int a2), (3, .ref o1)] := hl
  generalize hHe : s.heap = H at hP hS ⊢
  have hS : va_S A s.heap H [] := by rw [hHe]; exact hS
  have htab := vx_table (x := yL_setRank) B (hts0 (.codeWith yL_setRank cL_setRank 5 (some .int) [(0, 10, 13, 22), (0, 10, 17, 13)]) List.mem_cons_self)
  refine lv_aload_n hx hb dL_setRank_0 rfl (lv_at hl 3 rfl) ?_
  refine lv_iconst (v := 0) hx hb dL_setRank_1 (by decide) ?_
  refine lv_aload_n hx hb dL_setRank_2 rfl (lv_at hl 0 rfl) ?_
  refine lv_iload_n hx hb dL_setRank_3 rfl (lv_at hl 1 rfl) ?_
  refine lv_iload_n hx hb dL_setRank_4 rfl (lv_at hl 2 rfl) ?_
  have hPc : va_P (dC, dI) vwCl (WC cy ad ks g u0) H := hP.part (X := [(o1, eL cy fo)]) (cx := []) [] rfl
  have hDc : va_D A (WC cy ad ks g u0) := hD.part (X := [(o1, eL cy fo)]) (cx := []) [] (by decide) rfl
  have hFc : ∀ q, va_A (WC cy ad ks g u0) H.size q → A q := va_freeP (X := [(o1, eL cy fo)]) (cx := []) hD hS hA [] rfl
  obtain ⟨q8, h8⟩ := wc_at (cy := cy) (ad := ad) (ks := ks) (g := g) (u := u0) (κ := .cl) hk.1 True.intro
  refine vx_calli (vx_runV (As := [.int a1, .int a2]) (rest := [.int 0, .ref o1]) ⟨hx, hb, hml, hown, hts⟩ (c_X7_setRank_y l hst dC dI cy nb ad ks g hk u0 a1 a2 xc H.size hF) (cwV 2 hts (gV mw_1024 mw_1025 mw_1026 mw_2 mw_1027) rfl rfl rfl (by decide +kernel) ⟨Nat.le_of_ble_eq_true rfl, Nat.le_of_ble_eq_true rfl⟩) (my_preV hPc hK hDc hE hS hFc (va_recv (q := (RX7, TX7, 12)) hK hPc (ci := 7) (q0 := q8) rfl h8)) rfl rfl hl.1 rfl (lv_room (Nat.le_of_ble_eq_true rfl)) dL_setRank_5 ⟨Nat.le_of_ble_eq_true rfl, Nat.le_of_ble_eq_true rfl⟩) hS (fun q _ h => hFc q h) hFc (fun q _ h => hFc q h) (fun E9 ce9 q9 u9 t9 H1 locs1 ht9 hvm9 hp9 hB9 hz9 hk9 hS9 hc9 hv9 hcl9 => ?_) (fun r9 u9 t9 H1 locs1 ht9 hvm9 hp9 _ _ _ _ => hp9.elim)
  clear h8
  obtain ⟨hB8, hP1⟩ := hB9
  rw [ht9] at hP1
  obtain ⟨hP, hD⟩ := va_joinP (X := [(o1, eL cy fo)]) (cx := []) (wr := [(o1, eL cy fo)]) (rx := []) (pl := WC cy ad ks g u0) (pl1 := WC cy ad ks g u0) hP hD [] [0] rfl rfl (by decide) (by decide) hk9 hFc hP1 hDc.self
  have hP : va_P (dC, dI) vwCl ([(o1, eL cy fo)] ++ WC cy ad ks g u0) H1 := hP
  have hD : va_D A ([(o1, eL cy fo)] ++ WC cy ad ks g u0) := hD
  by_cases hxc : xc = 1
  · obtain rfl : E9 = xI := hB8.trans (if_pos hxc)
    refine vx_catch (own := RL) (name := xI) hown (tableOf []) _ (tableOf [(0, 10, 17, 13)]) (htab.trans rfl) (fun z hz => nomatch hz) (by decide) (by decide) (hts _ mw_616) (va_Nw.use rfl hE.cI) hc9 hv9 hcl9 ?_
    generalize H1 = H at hP hS9 ⊢
    refine W.widen (k := 67) (n := 831) (by omega) (by omega) ?_
    refine lv_astore (lv' := [(4, .ref q9), (0, .ref (ad .cl)), (1, .int a1), (2, .int a2), (3, .ref o1)]) hx hb dL_setRank_13 hl (by decide) rfl (fun ls hl => ?_)
    refine lv_iconst (v := 1) hx hb dL_setRank_15 (by decide) ?_
    refine vx_ret ?_
    exact W.iret (v := 1) hx hb hr (fun t ht hW => ⟨⟨1, (), rfl, (if_pos hxc).symm, by rw [ht]; exact hP, hD⟩, hS9.F ht⟩) hS9.2.2 dL_setRank_16
  · obtain rfl : E9 = xA := hB8.trans (if_neg hxc)
    refine vx_catch (own := RL) (name := xA) hown (tableOf [(0, 10, 13, 22)]) _ (tableOf []) (htab.trans rfl) (fun z hz => by obtain rfl := List.mem_singleton.mp hz; exact Or.inr ⟨by decide, xI, hts _ mw_616, hE.nc⟩) (by decide) (by decide) (hts _ mw_564) (va_Nw.use rfl hE.cA) hc9 hv9 hcl9 ?_
    generalize H1 = H at hP hS9 ⊢
    refine W.widen (k := 67) (n := 831) (by omega) (by omega) ?_
    refine lv_astore (lv' := [(4, .ref q9), (0, .ref (ad .cl)), (1, .int a1), (2, .int a2), (3, .ref o1)]) hx hb dL_setRank_17 hl (by decide) rfl (fun ls hl => ?_)
    refine lv_iconst (v := 2) hx hb dL_setRank_19 (by decide) ?_
    refine vx_ret ?_
    exact W.iret (v := 2) hx hb hr (fun t ht hW => ⟨⟨2, (), rfl, (if_neg hxc).symm, by rw [ht]; exact hP, hD⟩, hS9.F ht⟩) hS9.2.2 dL_setRank_20
set_option maxHeartbeats 4000000 in
set_option maxRecDepth 100000 in
theorem cn_refill (l : Launch) (hst : l.stackTraces = false) (dC : Nat → ClassId) (dI : Nat → Nat → Nat) (cy : Nat → ClassId) (nb : Nat → Nat) (ad : CK → Nat) (ks : List CK) (g : CG) (hk : GA nb ad g ks) (u0 : RS) (a1 : Int32) (o1 : Nat) (fo : Nat → Int64) (ro : Int32) (gz : CG) (uz : RS) (sz : Nat) (hF : C7_refill g u0 a1 = some (.inr (ro, gz, uz))) : vx_Met l yL_refill (wsgH yL_refill cL_refill 4 (some .int) [(0, 9, 12, 13)]) ({ frames := 12, cells := 67, slots := 831, locals := 700 }) (va_Pc [.ref (ad .cl), .int a1, .ref o1] (fun U => U.heap.size = sz ∧ va_P (dC, dI) vwCl ([(o1, eL cy fo)] ++ WC cy ad ks g u0) U.heap ∧ va_K (dC, dI) vwCl (tyL cy) U ∧ va_D (fun _ => True) ([(o1, eL cy fo)] ++ WC cy ad ks g u0) ∧ GE nb (va_A ([(o1, eL cy fo)] ++ WC cy ad ks g u0) sz) U)) (va_Qi (fun (r : Int32) (_ : Unit) => r = 0) (fun _ t => ∃ (ad' : CK → Nat) (ks' : List CK), GA nb ad' gz ks' ∧ AX g ad gz ad' ∧ va_P (dC, dI) vwCl ([(o1, eL cy (vp_updL fo ((0 : Int32).toNatClampNeg) (ro.toInt64)))] ++ WC cy ad' ks' gz uz) t.heap ∧ va_D (va_A ([(o1, eL cy fo)] ++ WC cy ad ks g u0) sz) ([(o1, eL cy (vp_updL fo ((0 : Int32).toNatClampNeg) (ro.toInt64)))] ++ WC cy ad' ks' gz uz)) (va_A ([(o1, eL cy fo)] ++ WC cy ad ks g u0) sz)) (vx_X (fun (_ : Unit) => False) (fun _ _ _ => True) (va_A ([(o1, eL cy fo)] ++ WC cy ad ks g u0) sz)) 67 831 (va_A ([(o1, eL cy fo)] ++ WC cy ad ks g u0) sz) := by
  refine vx_ofWH (cc := cL_refill) (maxL := 4) (ret := (some .int)) (hh := [(0, 9, 12, 13)]) pn_L rfl ?_
  intro p e s m args below meth c s₁ B hml hv
  obtain ⟨rfl, hsz, hP, hK, hD0, hE⟩ := hv
  have hx := B.exec
  have hb := B.bytes
  have hr := B.returns
  have hts0 := atoms_spec (ws := (wsgH yL_refill cL_refill 4 (some .int) [(0, 9, 12, 13)])) B.pre
  have hts : ∀ w ∈ wsL_law, w.before _ s = true := fun w h => hts0 w (List.mem_cons_of_mem _ h)
  have hown : s.vm.findClass RL = some m.cls := by have h9 := findClass_of_methodNamed B.named; exact h9
  have hlocks := B.notSynchronized
  subst hsz
  have hD := hD0.self (sz := s.heap.size)
  generalize hAe : va_A ([(o1, eL cy fo)] ++ WC cy ad ks g u0) s.heap.size = A at hD hE ⊢
  have hA : ∀ q : Nat, s.heap.size ≤ q → A q := fun q h => by rw [← hAe]; exact Or.inr h
  have hS : va_S A s.heap s.heap [] := va_S.rf
  have hl := lv_entry ([.ref (ad .cl), .int a1, .ref o1]) (n := 4) (Nat.le_of_ble_eq_true rfl)
  rw [lg_entry_eq]
  generalize (lg_sl ([.ref (ad .cl), .int a1, .ref o1]) ++ List.replicate (4 - (lg_sl ([.ref (ad .cl), .int a1, .ref o1])).length) Slot.unset).toArray = ls at hl ⊢
  have hl : lv_has ls 4 [(0, .ref (ad .cl)), (1, .int a1), (2, .ref o1)] := hl
  generalize hHe : s.heap = H at hP hS ⊢
  have hS : va_S A s.heap H [] := by rw [hHe]; exact hS
  have htab := vx_table (x := yL_refill) B (hts0 (.codeWith yL_refill cL_refill 4 (some .int) [(0, 9, 12, 13)]) List.mem_cons_self)
  refine lv_aload_n hx hb dL_refill_0 rfl (lv_at hl 2 rfl) ?_
  refine lv_iconst (v := 0) hx hb dL_refill_1 (by decide) ?_
  refine lv_aload_n hx hb dL_refill_2 rfl (lv_at hl 0 rfl) ?_
  refine lv_iload_n hx hb dL_refill_3 rfl (lv_at hl 1 rfl) ?_
  have hPc : va_P (dC, dI) vwCl (WC cy ad ks g u0) H := hP.part (X := [(o1, eL cy fo)]) (cx := []) [] rfl
  have hDc : va_D A (WC cy ad ks g u0) := hD.part (X := [(o1, eL cy fo)]) (cx := []) [] (by decide) rfl
  have hFc : ∀ q, va_A (WC cy ad ks g u0) H.size q → A q := va_freeP (X := [(o1, eL cy fo)]) (cx := []) hD hS hA [] rfl
  obtain ⟨q8, h8⟩ := wc_at (cy := cy) (ad := ad) (ks := ks) (g := g) (u := u0) (κ := .cl) hk.1 True.intro
  refine va_calli (va_runV (As := [.int a1]) (rest := [.int 0, .ref o1]) ⟨hx, hb, hml, hown, hts⟩ (c_X7_refill l dC dI cy nb ad ks g hk u0 a1 ro gz uz H.size hF) (cwV 1 hts (gV mw_1039 mw_1040 mw_1041 mw_2 mw_1042) rfl rfl rfl (by decide +kernel) ⟨Nat.le_of_ble_eq_true rfl, Nat.le_of_ble_eq_true rfl⟩) (my_preV hPc hK hDc hE hS hFc (va_recv (q := (RX7, TX7, 12)) hK hPc (ci := 7) (q0 := q8) rfl h8)) rfl rfl hl.1 rfl (lv_room (Nat.le_of_ble_eq_true rfl)) dL_refill_4 ⟨Nat.le_of_ble_eq_true rfl, Nat.le_of_ble_eq_true rfl⟩) hS (fun q _ h => hFc q h) hFc (fun r u t H1 locs ht hvm hw hB hz1 hk1 hS => ?_)
  clear h8
  obtain ⟨ad', ks', hkz, axz, hP1, hD1⟩ := hB
  rw [ht] at hP1
  obtain ⟨hP, hD⟩ := va_joinP (X := [(o1, eL cy fo)]) (cx := []) (wr := [(o1, eL cy fo)]) (rx := []) (pl := WC cy ad ks g u0) (pl1 := WC cy ad' ks' gz uz) hP hD [] [0] rfl rfl (by decide) (by decide) hk1 hFc hP1 hD1
  generalize H1 = H at hP hS ⊢
  have hP : va_P (dC, dI) vwCl ([(o1, eL cy fo)] ++ WC cy ad' ks' gz uz) H := hP
  have hD : va_D A ([(o1, eL cy fo)] ++ WC cy ad' ks' gz uz) := hD
  refine my_topi hw ?_
  refine W.widen (k := 67) (n := 831) (by omega) (by omega) ?_
  refine lv_i2l (v := ro.toInt64) hx hb dL_refill_7 rfl ?_
  refine va_last hx hb hK hP hD hS 0 3 rfl rfl (vp_in_nI (n := 0) (by decide) (by decide)) dL_refill_8 (fun H locs hP hD hS => ?_)
  have hP : va_P (dC, dI) vwCl ([(o1, eL cy (vp_updL fo ((0 : Int32).toNatClampNeg) (ro.toInt64)))] ++ WC cy ad' ks' gz uz) H := hP
  have hD : va_D A ([(o1, eL cy (vp_updL fo ((0 : Int32).toNatClampNeg) (ro.toInt64)))] ++ WC cy ad' ks' gz uz) := hD
  refine lv_goto (tgt := 15) hx hb dL_refill_9 (by decide) ?_
  refine lv_iconst (v := 0) hx hb dL_refill_15 (by decide) ?_
  refine vx_ret ?_
  exact W.iret (v := 0) hx hb hr (fun t ht hW => ⟨⟨0, (), rfl, rfl, ad', ks', hkz, axz, by rw [ht]; exact hP, hD⟩, hS.F ht⟩) hS.2.2 dL_refill_16
set_option maxHeartbeats 4000000 in
set_option maxRecDepth 100000 in
theorem ct_refill (l : Launch) (hst : l.stackTraces = false) (dC : Nat → ClassId) (dI : Nat → Nat → Nat) (cy : Nat → ClassId) (nb : Nat → Nat) (ad : CK → Nat) (ks : List CK) (g : CG) (hk : GA nb ad g ks) (u0 : RS) (a1 : Int32) (o1 : Nat) (fo : Nat → Int64) (xc : Int32) (sz : Nat) (hxc : ¬ xc = 1) (hF : C7_refill g u0 a1 = some (.inl xc)) : vx_Met l yL_refill (wsgH yL_refill cL_refill 4 (some .int) [(0, 9, 12, 13)]) ({ frames := 12, cells := 67, slots := 831, locals := 700 }) (va_Pc [.ref (ad .cl), .int a1, .ref o1] (fun U => U.heap.size = sz ∧ va_P (dC, dI) vwCl ([(o1, eL cy fo)] ++ WC cy ad ks g u0) U.heap ∧ va_K (dC, dI) vwCl (tyL cy) U ∧ va_D (fun _ => True) ([(o1, eL cy fo)] ++ WC cy ad ks g u0) ∧ GE nb (va_A ([(o1, eL cy fo)] ++ WC cy ad ks g u0) sz) U)) (va_Qi (fun (r : Int32) (_ : Unit) => r = 1) (fun _ t => va_P (dC, dI) vwCl ([(o1, eL cy fo)] ++ WC cy ad ks g u0) t.heap ∧ va_D (va_A ([(o1, eL cy fo)] ++ WC cy ad ks g u0) sz) ([(o1, eL cy fo)] ++ WC cy ad ks g u0)) (va_A ([(o1, eL cy fo)] ++ WC cy ad ks g u0) sz)) (vx_X (fun (_ : Unit) => False) (fun _ _ _ => True) (va_A ([(o1, eL cy fo)] ++ WC cy ad ks g u0) sz)) 67 831 (va_A ([(o1, eL cy fo)] ++ WC cy ad ks g u0) sz) := by
  refine vx_ofWH (cc := cL_refill) (maxL := 4) (ret := (some .int)) (hh := [(0, 9, 12, 13)]) pn_L rfl ?_
  intro p e s m args below meth c s₁ B hml hv
  obtain ⟨rfl, hsz, hP, hK, hD0, hE⟩ := hv
  have hx := B.exec
  have hb := B.bytes
  have hr := B.returns
  have hts0 := atoms_spec (ws := (wsgH yL_refill cL_refill 4 (some .int) [(0, 9, 12, 13)])) B.pre
  have hts : ∀ w ∈ wsL_law, w.before _ s = true := fun w h => hts0 w (List.mem_cons_of_mem _ h)
  have hown : s.vm.findClass RL = some m.cls := by have h9 := findClass_of_methodNamed B.named; exact h9
  have hlocks := B.notSynchronized
  subst hsz
  have hD := hD0.self (sz := s.heap.size)
  generalize hAe : va_A ([(o1, eL cy fo)] ++ WC cy ad ks g u0) s.heap.size = A at hD hE ⊢
  have hA : ∀ q : Nat, s.heap.size ≤ q → A q := fun q h => by rw [← hAe]; exact Or.inr h
  have hS : va_S A s.heap s.heap [] := va_S.rf
  have hl := lv_entry ([.ref (ad .cl), .int a1, .ref o1]) (n := 4) (Nat.le_of_ble_eq_true rfl)
  rw [lg_entry_eq]
  generalize (lg_sl ([.ref (ad .cl), .int a1, .ref o1]) ++ List.replicate (4 - (lg_sl ([.ref (ad .cl), .int a1, .ref o1])).length) Slot.unset).toArray = ls at hl ⊢
  have hl : lv_has ls 4 [(0, .ref (ad .cl)), (1, .int a1), (2, .ref o1)] := hl
  generalize hHe : s.heap = H at hP hS ⊢
  have hS : va_S A s.heap H [] := by rw [hHe]; exact hS
  have htab := vx_table (x := yL_refill) B (hts0 (.codeWith yL_refill cL_refill 4 (some .int) [(0, 9, 12, 13)]) List.mem_cons_self)
  refine lv_aload_n hx hb dL_refill_0 rfl (lv_at hl 2 rfl) ?_
  refine lv_iconst (v := 0) hx hb dL_refill_1 (by decide) ?_
  refine lv_aload_n hx hb dL_refill_2 rfl (lv_at hl 0 rfl) ?_
  refine lv_iload_n hx hb dL_refill_3 rfl (lv_at hl 1 rfl) ?_
  have hPc : va_P (dC, dI) vwCl (WC cy ad ks g u0) H := hP.part (X := [(o1, eL cy fo)]) (cx := []) [] rfl
  have hDc : va_D A (WC cy ad ks g u0) := hD.part (X := [(o1, eL cy fo)]) (cx := []) [] (by decide) rfl
  have hFc : ∀ q, va_A (WC cy ad ks g u0) H.size q → A q := va_freeP (X := [(o1, eL cy fo)]) (cx := []) hD hS hA [] rfl
  obtain ⟨q8, h8⟩ := wc_at (cy := cy) (ad := ad) (ks := ks) (g := g) (u := u0) (κ := .cl) hk.1 True.intro
  refine vx_calli (vx_runV (As := [.int a1]) (rest := [.int 0, .ref o1]) ⟨hx, hb, hml, hown, hts⟩ (c_X7_refill_y l hst dC dI cy nb ad ks g hk u0 a1 xc H.size hF) (cwV 1 hts (gV mw_1039 mw_1040 mw_1041 mw_2 mw_1042) rfl rfl rfl (by decide +kernel) ⟨Nat.le_of_ble_eq_true rfl, Nat.le_of_ble_eq_true rfl⟩) (my_preV hPc hK hDc hE hS hFc (va_recv (q := (RX7, TX7, 12)) hK hPc (ci := 7) (q0 := q8) rfl h8)) rfl rfl hl.1 rfl (lv_room (Nat.le_of_ble_eq_true rfl)) dL_refill_4 ⟨Nat.le_of_ble_eq_true rfl, Nat.le_of_ble_eq_true rfl⟩) hS (fun q _ h => hFc q h) hFc (fun q _ h => hFc q h) (fun E9 ce9 q9 u9 t9 H1 locs1 ht9 hvm9 hp9 hB9 hz9 hk9 hS9 hc9 hv9 hcl9 => ?_) (fun r9 u9 t9 H1 locs1 ht9 hvm9 hp9 _ _ _ _ => hp9.elim)
  clear h8
  obtain ⟨hB8, hP1⟩ := hB9
  rw [ht9] at hP1
  obtain ⟨hP, hD⟩ := va_joinP (X := [(o1, eL cy fo)]) (cx := []) (wr := [(o1, eL cy fo)]) (rx := []) (pl := WC cy ad ks g u0) (pl1 := WC cy ad ks g u0) hP hD [] [0] rfl rfl (by decide) (by decide) hk9 hFc hP1 hDc.self
  have hP : va_P (dC, dI) vwCl ([(o1, eL cy fo)] ++ WC cy ad ks g u0) H1 := hP
  have hD : va_D A ([(o1, eL cy fo)] ++ WC cy ad ks g u0) := hD
  obtain rfl : E9 = xA := hB8.trans (if_neg hxc)
  refine vx_catch (own := RL) (name := xA) hown (tableOf []) _ (tableOf []) (htab.trans rfl) (fun z hz => nomatch hz) (by decide) (by decide) (hts _ mw_564) (va_Nw.use rfl hE.cA) hc9 hv9 hcl9 ?_
  generalize H1 = H at hP hS9 ⊢
  refine W.widen (k := 67) (n := 831) (by omega) (by omega) ?_
  refine lv_astore_n (lv' := [(3, .ref q9), (0, .ref (ad .cl)), (1, .int a1), (2, .ref o1)]) hx hb dL_refill_12 rfl hl (by decide) rfl (fun ls hl => ?_)
  refine lv_iconst (v := 1) hx hb dL_refill_13 (by decide) ?_
  refine vx_ret ?_
  exact W.iret (v := 1) hx hb hr (fun t ht hW => ⟨⟨1, (), rfl, rfl, by rw [ht]; exact hP, hD⟩, hS9.F ht⟩) hS9.2.2 dL_refill_14
set_option maxHeartbeats 4000000 in
set_option maxRecDepth 100000 in
theorem cn_setPace (l : Launch) (hst : l.stackTraces = false) (dC : Nat → ClassId) (dI : Nat → Nat → Nat) (cy : Nat → ClassId) (nb : Nat → Nat) (ad : CK → Nat) (ks : List CK) (g : CG) (hk : GA nb ad g ks) (u0 : RS) (a1 : Int32) (a2 : Int32) (o1 : Nat) (fo : Nat → Int64) (ro : Int32) (gz : CG) (uz : RS) (sz : Nat) (hF : C7_setPace g u0 a1 a2 = some (.inr (ro, gz, uz))) : vx_Met l yL_setPace (wsgH yL_setPace cL_setPace 5 (some .int) [(0, 10, 13, 22), (0, 10, 17, 13)]) ({ frames := 12, cells := 67, slots := 831, locals := 700 }) (va_Pc [.ref (ad .cl), .int a1, .int a2, .ref o1] (fun U => U.heap.size = sz ∧ va_P (dC, dI) vwCl ([(o1, eL cy fo)] ++ WC cy ad ks g u0) U.heap ∧ va_K (dC, dI) vwCl (tyL cy) U ∧ va_D (fun _ => True) ([(o1, eL cy fo)] ++ WC cy ad ks g u0) ∧ GE nb (va_A ([(o1, eL cy fo)] ++ WC cy ad ks g u0) sz) U)) (va_Qi (fun (r : Int32) (_ : Unit) => r = 0) (fun _ t => ∃ (ad' : CK → Nat) (ks' : List CK), GA nb ad' gz ks' ∧ AX g ad gz ad' ∧ va_P (dC, dI) vwCl ([(o1, eL cy (vp_updL fo ((0 : Int32).toNatClampNeg) (ro.toInt64)))] ++ WC cy ad' ks' gz uz) t.heap ∧ va_D (va_A ([(o1, eL cy fo)] ++ WC cy ad ks g u0) sz) ([(o1, eL cy (vp_updL fo ((0 : Int32).toNatClampNeg) (ro.toInt64)))] ++ WC cy ad' ks' gz uz)) (va_A ([(o1, eL cy fo)] ++ WC cy ad ks g u0) sz)) (vx_X (fun (_ : Unit) => False) (fun _ _ _ => True) (va_A ([(o1, eL cy fo)] ++ WC cy ad ks g u0) sz)) 67 831 (va_A ([(o1, eL cy fo)] ++ WC cy ad ks g u0) sz) := by
  refine vx_ofWH (cc := cL_setPace) (maxL := 5) (ret := (some .int)) (hh := [(0, 10, 13, 22), (0, 10, 17, 13)]) pn_L rfl ?_
  intro p e s m args below meth c s₁ B hml hv
  obtain ⟨rfl, hsz, hP, hK, hD0, hE⟩ := hv
  have hx := B.exec
  have hb := B.bytes
  have hr := B.returns
  have hts0 := atoms_spec (ws := (wsgH yL_setPace cL_setPace 5 (some .int) [(0, 10, 13, 22), (0, 10, 17, 13)])) B.pre
  have hts : ∀ w ∈ wsL_law, w.before _ s = true := fun w h => hts0 w (List.mem_cons_of_mem _ h)
  have hown : s.vm.findClass RL = some m.cls := by have h9 := findClass_of_methodNamed B.named; exact h9
  have hlocks := B.notSynchronized
  subst hsz
  have hD := hD0.self (sz := s.heap.size)
  generalize hAe : va_A ([(o1, eL cy fo)] ++ WC cy ad ks g u0) s.heap.size = A at hD hE ⊢
  have hA : ∀ q : Nat, s.heap.size ≤ q → A q := fun q h => by rw [← hAe]; exact Or.inr h
  have hS : va_S A s.heap s.heap [] := va_S.rf
  have hl := lv_entry ([.ref (ad .cl), .int a1, .int a2, .ref o1]) (n := 5) (Nat.le_of_ble_eq_true rfl)
  rw [lg_entry_eq]
  generalize (lg_sl ([.ref (ad .cl), .int a1, .int a2, .ref o1]) ++ List.replicate (5 - (lg_sl ([.ref (ad .cl), .int a1, .int a2, .ref o1])).length) Slot.unset).toArray = ls at hl ⊢
  have hl : lv_has ls 5 [(0, .ref (ad .cl)), (1, .int a1), (2, .int a2), (3, .ref o1)] := hl
  generalize hHe : s.heap = H at hP hS ⊢
  have hS : va_S A s.heap H [] := by rw [hHe]; exact hS
  have htab := vx_table (x := yL_setPace) B (hts0 (.codeWith yL_setPace cL_setPace 5 (some .int) [(0, 10, 13, 22), (0, 10, 17, 13)]) List.mem_cons_self)
  refine lv_aload_n hx hb dL_setPace_0 rfl (lv_at hl 3 rfl) ?_
  refine lv_iconst (v := 0) hx hb dL_setPace_1 (by decide) ?_
  refine lv_aload_n hx hb dL_setPace_2 rfl (lv_at hl 0 rfl) ?_
  refine lv_iload_n hx hb dL_setPace_3 rfl (lv_at hl 1 rfl) ?_
  refine lv_iload_n hx hb dL_setPace_4 rfl (lv_at hl 2 rfl) ?_
  have hPc : va_P (dC, dI) vwCl (WC cy ad ks g u0) H := hP.part (X := [(o1, eL cy fo)]) (cx := []) [] rfl
  have hDc : va_D A (WC cy ad ks g u0) := hD.part (X := [(o1, eL cy fo)]) (cx := []) [] (by decide) rfl
  have hFc : ∀ q, va_A (WC cy ad ks g u0) H.size q → A q := va_freeP (X := [(o1, eL cy fo)]) (cx := []) hD hS hA [] rfl
  obtain ⟨q8, h8⟩ := wc_at (cy := cy) (ad := ad) (ks := ks) (g := g) (u := u0) (κ := .cl) hk.1 True.intro
  refine va_calli (va_runV (As := [.int a1, .int a2]) (rest := [.int 0, .ref o1]) ⟨hx, hb, hml, hown, hts⟩ (c_X7_setPace l dC dI cy nb ad ks g hk u0 a1 a2 ro gz uz H.size hF) (cwV 2 hts (gV mw_1051 mw_1052 mw_1053 mw_2 mw_1054) rfl rfl rfl (by decide +kernel) ⟨Nat.le_of_ble_eq_true rfl, Nat.le_of_ble_eq_true rfl⟩) (my_preV hPc hK hDc hE hS hFc (va_recv (q := (RX7, TX7, 12)) hK hPc (ci := 7) (q0 := q8) rfl h8)) rfl rfl hl.1 rfl (lv_room (Nat.le_of_ble_eq_true rfl)) dL_setPace_5 ⟨Nat.le_of_ble_eq_true rfl, Nat.le_of_ble_eq_true rfl⟩) hS (fun q _ h => hFc q h) hFc (fun r u t H1 locs ht hvm hw hB hz1 hk1 hS => ?_)
  clear h8
  obtain ⟨ad', ks', hkz, axz, hP1, hD1⟩ := hB
  rw [ht] at hP1
  obtain ⟨hP, hD⟩ := va_joinP (X := [(o1, eL cy fo)]) (cx := []) (wr := [(o1, eL cy fo)]) (rx := []) (pl := WC cy ad ks g u0) (pl1 := WC cy ad' ks' gz uz) hP hD [] [0] rfl rfl (by decide) (by decide) hk1 hFc hP1 hD1
  generalize H1 = H at hP hS ⊢
  have hP : va_P (dC, dI) vwCl ([(o1, eL cy fo)] ++ WC cy ad' ks' gz uz) H := hP
  have hD : va_D A ([(o1, eL cy fo)] ++ WC cy ad' ks' gz uz) := hD
  refine my_topi hw ?_
  refine W.widen (k := 67) (n := 831) (by omega) (by omega) ?_
  refine lv_i2l (v := ro.toInt64) hx hb dL_setPace_8 rfl ?_
  refine va_last hx hb hK hP hD hS 0 3 rfl rfl (vp_in_nI (n := 0) (by decide) (by decide)) dL_setPace_9 (fun H locs hP hD hS => ?_)
  have hP : va_P (dC, dI) vwCl ([(o1, eL cy (vp_updL fo ((0 : Int32).toNatClampNeg) (ro.toInt64)))] ++ WC cy ad' ks' gz uz) H := hP
  have hD : va_D A ([(o1, eL cy (vp_updL fo ((0 : Int32).toNatClampNeg) (ro.toInt64)))] ++ WC cy ad' ks' gz uz) := hD
  refine lv_goto (tgt := 21) hx hb dL_setPace_10 (by decide) ?_
  refine lv_iconst (v := 0) hx hb dL_setPace_21 (by decide) ?_
  refine vx_ret ?_
  exact W.iret (v := 0) hx hb hr (fun t ht hW => ⟨⟨0, (), rfl, rfl, ad', ks', hkz, axz, by rw [ht]; exact hP, hD⟩, hS.F ht⟩) hS.2.2 dL_setPace_22
set_option maxHeartbeats 4000000 in
set_option maxRecDepth 100000 in
theorem ct_setPace (l : Launch) (hst : l.stackTraces = false) (dC : Nat → ClassId) (dI : Nat → Nat → Nat) (cy : Nat → ClassId) (nb : Nat → Nat) (ad : CK → Nat) (ks : List CK) (g : CG) (hk : GA nb ad g ks) (u0 : RS) (a1 : Int32) (a2 : Int32) (o1 : Nat) (fo : Nat → Int64) (xc : Int32) (sz : Nat) (hF : C7_setPace g u0 a1 a2 = some (.inl xc)) : vx_Met l yL_setPace (wsgH yL_setPace cL_setPace 5 (some .int) [(0, 10, 13, 22), (0, 10, 17, 13)]) ({ frames := 12, cells := 67, slots := 831, locals := 700 }) (va_Pc [.ref (ad .cl), .int a1, .int a2, .ref o1] (fun U => U.heap.size = sz ∧ va_P (dC, dI) vwCl ([(o1, eL cy fo)] ++ WC cy ad ks g u0) U.heap ∧ va_K (dC, dI) vwCl (tyL cy) U ∧ va_D (fun _ => True) ([(o1, eL cy fo)] ++ WC cy ad ks g u0) ∧ GE nb (va_A ([(o1, eL cy fo)] ++ WC cy ad ks g u0) sz) U)) (va_Qi (fun (r : Int32) (_ : Unit) => r = if xc = 1 then 1 else 2) (fun _ t => va_P (dC, dI) vwCl ([(o1, eL cy fo)] ++ WC cy ad ks g u0) t.heap ∧ va_D (va_A ([(o1, eL cy fo)] ++ WC cy ad ks g u0) sz) ([(o1, eL cy fo)] ++ WC cy ad ks g u0)) (va_A ([(o1, eL cy fo)] ++ WC cy ad ks g u0) sz)) (vx_X (fun (_ : Unit) => False) (fun _ _ _ => True) (va_A ([(o1, eL cy fo)] ++ WC cy ad ks g u0) sz)) 67 831 (va_A ([(o1, eL cy fo)] ++ WC cy ad ks g u0) sz) := by
  refine vx_ofWH (cc := cL_setPace) (maxL := 5) (ret := (some .int)) (hh := [(0, 10, 13, 22), (0, 10, 17, 13)]) pn_L rfl ?_
  intro p e s m args below meth c s₁ B hml hv
  obtain ⟨rfl, hsz, hP, hK, hD0, hE⟩ := hv
  have hx := B.exec
  have hb := B.bytes
  have hr := B.returns
  have hts0 := atoms_spec (ws := (wsgH yL_setPace cL_setPace 5 (some .int) [(0, 10, 13, 22), (0, 10, 17, 13)])) B.pre
  have hts : ∀ w ∈ wsL_law, w.before _ s = true := fun w h => hts0 w (List.mem_cons_of_mem _ h)
  have hown : s.vm.findClass RL = some m.cls := by have h9 := findClass_of_methodNamed B.named; exact h9
  have hlocks := B.notSynchronized
  subst hsz
  have hD := hD0.self (sz := s.heap.size)
  generalize hAe : va_A ([(o1, eL cy fo)] ++ WC cy ad ks g u0) s.heap.size = A at hD hE ⊢
  have hA : ∀ q : Nat, s.heap.size ≤ q → A q := fun q h => by rw [← hAe]; exact Or.inr h
  have hS : va_S A s.heap s.heap [] := va_S.rf
  have hl := lv_entry ([.ref (ad .cl), .int a1, .int a2, .ref o1]) (n := 5) (Nat.le_of_ble_eq_true rfl)
  rw [lg_entry_eq]
  generalize (lg_sl ([.ref (ad .cl), .int a1, .int a2, .ref o1]) ++ List.replicate (5 - (lg_sl ([.ref (ad .cl), .int a1, .int a2, .ref o1])).length) Slot.unset).toArray = ls at hl ⊢
  have hl : lv_has ls 5 [(0, .ref (ad .cl)), (1, .int a1), (2, .int a2), (3, .ref o1)] := hl
  generalize hHe : s.heap = H at hP hS ⊢
  have hS : va_S A s.heap H [] := by rw [hHe]; exact hS
  have htab := vx_table (x := yL_setPace) B (hts0 (.codeWith yL_setPace cL_setPace 5 (some .int) [(0, 10, 13, 22), (0, 10, 17, 13)]) List.mem_cons_self)
  refine lv_aload_n hx hb dL_setPace_0 rfl (lv_at hl 3 rfl) ?_
  refine lv_iconst (v := 0) hx hb dL_setPace_1 (by decide) ?_
  refine lv_aload_n hx hb dL_setPace_2 rfl (lv_at hl 0 rfl) ?_
  refine lv_iload_n hx hb dL_setPace_3 rfl (lv_at hl 1 rfl) ?_
  refine lv_iload_n hx hb dL_setPace_4 rfl (lv_at hl 2 rfl) ?_
  have hPc : va_P (dC, dI) vwCl (WC cy ad ks g u0) H := hP.part (X := [(o1, eL cy fo)]) (cx := []) [] rfl
  have hDc : va_D A (WC cy ad ks g u0) := hD.part (X := [(o1, eL cy fo)]) (cx := []) [] (by decide) rfl
  have hFc : ∀ q, va_A (WC cy ad ks g u0) H.size q → A q := va_freeP (X := [(o1, eL cy fo)]) (cx := []) hD hS hA [] rfl
  obtain ⟨q8, h8⟩ := wc_at (cy := cy) (ad := ad) (ks := ks) (g := g) (u := u0) (κ := .cl) hk.1 True.intro
  refine vx_calli (vx_runV (As := [.int a1, .int a2]) (rest := [.int 0, .ref o1]) ⟨hx, hb, hml, hown, hts⟩ (c_X7_setPace_y l hst dC dI cy nb ad ks g hk u0 a1 a2 xc H.size hF) (cwV 2 hts (gV mw_1051 mw_1052 mw_1053 mw_2 mw_1054) rfl rfl rfl (by decide +kernel) ⟨Nat.le_of_ble_eq_true rfl, Nat.le_of_ble_eq_true rfl⟩) (my_preV hPc hK hDc hE hS hFc (va_recv (q := (RX7, TX7, 12)) hK hPc (ci := 7) (q0 := q8) rfl h8)) rfl rfl hl.1 rfl (lv_room (Nat.le_of_ble_eq_true rfl)) dL_setPace_5 ⟨Nat.le_of_ble_eq_true rfl, Nat.le_of_ble_eq_true rfl⟩) hS (fun q _ h => hFc q h) hFc (fun q _ h => hFc q h) (fun E9 ce9 q9 u9 t9 H1 locs1 ht9 hvm9 hp9 hB9 hz9 hk9 hS9 hc9 hv9 hcl9 => ?_) (fun r9 u9 t9 H1 locs1 ht9 hvm9 hp9 _ _ _ _ => hp9.elim)
  clear h8
  obtain ⟨hB8, hP1⟩ := hB9
  rw [ht9] at hP1
  obtain ⟨hP, hD⟩ := va_joinP (X := [(o1, eL cy fo)]) (cx := []) (wr := [(o1, eL cy fo)]) (rx := []) (pl := WC cy ad ks g u0) (pl1 := WC cy ad ks g u0) hP hD [] [0] rfl rfl (by decide) (by decide) hk9 hFc hP1 hDc.self
  have hP : va_P (dC, dI) vwCl ([(o1, eL cy fo)] ++ WC cy ad ks g u0) H1 := hP
  have hD : va_D A ([(o1, eL cy fo)] ++ WC cy ad ks g u0) := hD
  by_cases hxc : xc = 1
  · obtain rfl : E9 = xI := hB8.trans (if_pos hxc)
    refine vx_catch (own := RL) (name := xI) hown (tableOf []) _ (tableOf [(0, 10, 17, 13)]) (htab.trans rfl) (fun z hz => nomatch hz) (by decide) (by decide) (hts _ mw_616) (va_Nw.use rfl hE.cI) hc9 hv9 hcl9 ?_
    generalize H1 = H at hP hS9 ⊢
    refine W.widen (k := 67) (n := 831) (by omega) (by omega) ?_
    refine lv_astore (lv' := [(4, .ref q9), (0, .ref (ad .cl)), (1, .int a1), (2, .int a2), (3, .ref o1)]) hx hb dL_setPace_13 hl (by decide) rfl (fun ls hl => ?_)
    refine lv_iconst (v := 1) hx hb dL_setPace_15 (by decide) ?_
    refine vx_ret ?_
    exact W.iret (v := 1) hx hb hr (fun t ht hW => ⟨⟨1, (), rfl, (if_pos hxc).symm, by rw [ht]; exact hP, hD⟩, hS9.F ht⟩) hS9.2.2 dL_setPace_16
  · obtain rfl : E9 = xA := hB8.trans (if_neg hxc)
    refine vx_catch (own := RL) (name := xA) hown (tableOf [(0, 10, 13, 22)]) _ (tableOf []) (htab.trans rfl) (fun z hz => by obtain rfl := List.mem_singleton.mp hz; exact Or.inr ⟨by decide, xI, hts _ mw_616, hE.nc⟩) (by decide) (by decide) (hts _ mw_564) (va_Nw.use rfl hE.cA) hc9 hv9 hcl9 ?_
    generalize H1 = H at hP hS9 ⊢
    refine W.widen (k := 67) (n := 831) (by omega) (by omega) ?_
    refine lv_astore (lv' := [(4, .ref q9), (0, .ref (ad .cl)), (1, .int a1), (2, .int a2), (3, .ref o1)]) hx hb dL_setPace_17 hl (by decide) rfl (fun ls hl => ?_)
    refine lv_iconst (v := 2) hx hb dL_setPace_19 (by decide) ?_
    refine vx_ret ?_
    exact W.iret (v := 2) hx hb hr (fun t ht hW => ⟨⟨2, (), rfl, (if_neg hxc).symm, by rw [ht]; exact hP, hD⟩, hS9.F ht⟩) hS9.2.2 dL_setPace_20
