set_option maxHeartbeats 8000000 in
set_option maxRecDepth 100000 in
theorem law_c35 {p : Program} {e : Env} {s : State} {m : MethodId} {below : List Frame} {meth : Method} {c : Code} (l : Launch) (hst : l.stackTraces = false) {b L : Nat} {xs : Nat → Int32} (dC : Nat → ClassId) (dI : Nat → Nat → Nat) (cy : Nat → ClassId) (nb : Nat → Nat) (o3 o4 : Nat) (am : Nat → Nat) {n : Nat} (hn : n < 512) (hL : 4 * n + 4 ≤ L) (hL2 : L ≤ 2048) (C0 : LX p s m meth c b L xs dC dI cy nb) {Q : State → Prop} {H : Heap} {locs : List Loc} {ls : Array Slot} {cells slots : Nat} (hc : cells ≤ 400000) (hs : slots ≤ 6000000) (h : LSt s dC dI cy nb b o3 o4 am n (4 * n) H locs ls) (K : ∀ (H : Heap) (locs : List Loc) (ls : Array Slot), LSt s dC dI cy nb b o3 o4 am (n + 1) (4 * n) H locs ls → W p l e room_1 s m #[Value.ref b] below meth c H locs (cells + 603) (slots + 9640) Q (F0 m 1819 ls [])) : W p l e room_1 s m #[Value.ref b] below meth c H locs cells slots Q (F0 m 1394 ls []) := by
  obtain ⟨hx, hb, hr, hml, hown, hts, hX, hbl, hlocks, hK, hE⟩ := C0
  have hA : ∀ q : Nat, s.heap.size ≤ q → (fun q : Nat => s.heap.size ≤ q) q := fun _ h => h
  have hbA : ¬ (fun q : Nat => s.heap.size ≤ q) b := Nat.not_le.mpr hbl
  obtain ⟨ad, ks, g, u, r, f3, f4, hk, hGI, hP, hD, hS, hl⟩ := h
  have h9 : AT (F8_run r (xs (4 * n + 1))) (C7_run g u (xs (4 * n + 1))) r 1 (2001 * n + 2000) (602 * n) := a_run hGI (by omega) (by omega)
  rcases h9 with ⟨x, r2, c2, c2g, e1, e2, e3, e6⟩ | ⟨k, k1, k2, e1, e2⟩
  · refine lv_aload_n hx hb dL_law_1394 rfl (lv_at hl 4 rfl) ?_
    refine lv_aload_n hx hb dL_law_1395 rfl (lv_at hl 5 rfl) ?_
    refine lv_iload hx hb dL_law_1396 (lv_at hl 0 rfl) ?_
    refine lv_iconst (v := 1) hx hb dL_law_1398 (by decide) ?_
    refine lv_iadd hx hb dL_law_1399 ?_
    refine my_topi (y := nI (4 * n + 1)) (nI_add (4 * n) 1) ?_
    refine va_sld hx hb hX hbl hbA hS (vp_in_nI (n := 4 * n + 1) (by omega) (by omega)) dL_law_1400 ?_
    refine my_topi (y := xs (4 * n + 1)) (congrArg xs (nI_clamp (by omega))) ?_
    refine lv_aload_n hx hb dL_law_1401 rfl (lv_at hl 2 rfl) ?_
    have hPc : va_P (dC, dI) vwCl ([(o3, eL cy f3)] ++ WC cy ad ks g u) H := hP.part (X := XLW cy o3 o4 am f3 f4 r) (cx := [(o3, eL cy f3)]) [0] rfl
    have hDc : va_D (fun q : Nat => s.heap.size ≤ q) ([(o3, eL cy f3)] ++ WC cy ad ks g u) := hD.part (X := XLW cy o3 o4 am f3 f4 r) (cx := [(o3, eL cy f3)]) [0] (by decide) rfl
    have hFc : ∀ q, va_A ([(o3, eL cy f3)] ++ WC cy ad ks g u) H.size q → s.heap.size ≤ q := va_freeP (X := XLW cy o3 o4 am f3 f4 r) (cx := [(o3, eL cy f3)]) hD hS hA [0] rfl
    refine vx_calli (vx_runSX (As := [.ref (ad .cl), .int (xs (4 * n + 1)), .ref o3]) (rest := []) ⟨hx, hb, hml, hown, hts⟩ (cn_run l hst dC dI cy nb ad ks g hk u ((xs (4 * n + 1))) o3 f3 x c2g c2 H.size e2) (vx_cwSW 3 hts (gSH mw_1134 mw_1135 mw_562 mw_1136) rfl rfl rfl (by decide +kernel) ⟨Nat.le_of_ble_eq_true rfl, Nat.le_of_ble_eq_true rfl⟩) (my_preS hPc hK hDc hE hS hFc) rfl rfl hl.1 rfl (lv_room (Nat.le_of_ble_eq_true rfl)) dL_law_1402 ⟨by show _ ≤ 601024; omega, by show _ ≤ 7293034; omega⟩) hS (fun q _ h => hFc q h) hFc (fun q _ h => hFc q h) (fun E9 ce9 q9 u9 t9 H1 locs1 ht9 hvm9 hp9 _ _ _ _ _ _ _ => hp9.elim) (fun rw9 u9 t9 H1 locs ht hvm hw hB hz1 hk1 hS => ?_)
    obtain ⟨ad', ks', hkz, axz, hP1, hD1⟩ := hB
    rw [ht] at hP1
    obtain ⟨hP, hD⟩ := va_joinP (X := XLW cy o3 o4 am f3 f4 r) (cx := [(o3, eL cy f3)]) (wr := ((o4, eD cy f4) :: WM cy am r)) (rx := [(o3, eL cy (vp_updL f3 ((0 : Int32).toNatClampNeg) (x.toInt64)))]) (pl := WC cy ad ks g u) (pl1 := WC cy ad' ks' c2g c2) hP hD [0] [1, 2, 3, 4, 5, 6, 7, 8, 9, 10, 11, 12] rfl rfl (by decide) (by decide) hk1 hFc hP1 hD1
    have hP : va_P (dC, dI) vwCl (XLW cy o3 o4 am (vp_updL f3 ((0 : Int32).toNatClampNeg) (x.toInt64)) f4 r ++ WC cy ad' ks' c2g c2) H1 := hP.part (X := ((o4, eD cy f4) :: WM cy am r) ++ [(o3, eL cy (vp_updL f3 ((0 : Int32).toNatClampNeg) (x.toInt64)))]) (cx := XLW cy o3 o4 am (vp_updL f3 ((0 : Int32).toNatClampNeg) (x.toInt64)) f4 r) [12, 0, 1, 2, 3, 4, 5, 6, 7, 8, 9, 10, 11] rfl
    have hD : va_D (fun q : Nat => s.heap.size ≤ q) (XLW cy o3 o4 am (vp_updL f3 ((0 : Int32).toNatClampNeg) (x.toInt64)) f4 r ++ WC cy ad' ks' c2g c2) := hD.part (X := ((o4, eD cy f4) :: WM cy am r) ++ [(o3, eL cy (vp_updL f3 ((0 : Int32).toNatClampNeg) (x.toInt64)))]) (cx := XLW cy o3 o4 am (vp_updL f3 ((0 : Int32).toNatClampNeg) (x.toInt64)) f4 r) [12, 0, 1, 2, 3, 4, 5, 6, 7, 8, 9, 10, 11] (by decide) rfl
    generalize H1 = H at hP hS ⊢
    have hl : lv_has ls 10 [(5, .int (nI (4 * n))), (4, .ref o4), (3, .ref o3), (2, .ref (am 0)), (1, .ref (ad' .cl)), (0, .ref b)] := by rw [(axz .cl True.intro).2]; exact hl
    clear hP1 hD1 hPc hDc hFc hk1 hz1 hvm ht
    refine lv_istore (lv' := [(6, .int rw9), (5, .int (nI (4 * n))), (4, .ref o4), (3, .ref o3), (2, .ref (am 0)), (1, .ref (ad' .cl)), (0, .ref b)]) hx hb dL_law_1405 hl (by decide) rfl (fun ls hl => ?_)
    refine lv_aload_n hx hb dL_law_1407 rfl (lv_at hl 4 rfl) ?_
    refine lv_aload_n hx hb dL_law_1408 rfl (lv_at hl 6 rfl) ?_
    refine lv_iload hx hb dL_law_1409 (lv_at hl 1 rfl) ?_
    refine lv_iconst (v := 1) hx hb dL_law_1411 (by decide) ?_
    refine lv_iadd hx hb dL_law_1412 ?_
    refine my_topi (y := nI (4 * n + 1)) (nI_add (4 * n) 1) ?_
    refine va_sld hx hb hX hbl hbA hS (vp_in_nI (n := 4 * n + 1) (by omega) (by omega)) dL_law_1413 ?_
    refine my_topi (y := xs (4 * n + 1)) (congrArg xs (nI_clamp (by omega))) ?_
    have hPc := hP.sub (ws' := (WM cy am r)) [2, 3, 4, 5, 6, 7, 8, 9, 10, 11, 12] rfl
    have hDc := hD.sub (ws' := (WM cy am r)) [2, 3, 4, 5, 6, 7, 8, 9, 10, 11, 12] (by decide) rfl
    have hFc := va_free (wc := (WM cy am r)) hD hS hA [2, 3, 4, 5, 6, 7, 8, 9, 10, 11, 12] rfl
    refine va_calli (va_runV (As := [.int (xs (4 * n + 1))]) (rest := []) ⟨hx, hb, hml, hown, hts⟩ (k_X8_run l dC dI cy nb am r ((xs (4 * n + 1))) x (r2) H.size e1) (cwV 1 hts (gV mw_1226 mw_1227 mw_1228 mw_5 mw_1229) rfl rfl rfl (by decide +kernel) ⟨Nat.le_of_ble_eq_true rfl, Nat.le_of_ble_eq_true rfl⟩) (my_preV hPc hK hDc hE hS hFc (va_recv (q := (RX8, TX8, 23)) hK hP (ci := 8) (q0 := 2) rfl rfl)) rfl rfl hl.1 rfl (lv_room (Nat.le_of_ble_eq_true rfl)) dL_law_1414 ⟨by show _ ≤ 601024; omega, by show _ ≤ 7293034; omega⟩) hS (fun q _ h => hFc q h) hFc (fun rm9 u9 t9 H1 locs ht hvm hwm hB hz1 hk1 hS => ?_)
    obtain ⟨hP1, hD1⟩ := hB
    rw [ht] at hP1
    obtain ⟨hP, hD⟩ := va_joinQ (X := XLW cy o3 o4 am (vp_updL f3 ((0 : Int32).toNatClampNeg) (x.toInt64)) f4 r) (cx := (WM cy am r)) (wr := [(o3, eL cy (vp_updL f3 ((0 : Int32).toNatClampNeg) (x.toInt64))), (o4, eD cy f4)]) (w1 := (WM cy am (r2))) (pl := WC cy ad' ks' c2g c2) hP hD [2, 3, 4, 5, 6, 7, 8, 9, 10, 11, 12] [0, 1] rfl rfl (by decide) (by decide) hk1 hFc hP1 hD1
    have hP : va_P (dC, dI) vwCl (XLW cy o3 o4 am (vp_updL f3 ((0 : Int32).toNatClampNeg) (x.toInt64)) f4 r2 ++ WC cy ad' ks' c2g c2) H1 := hP
    have hD : va_D (fun q : Nat => s.heap.size ≤ q) (XLW cy o3 o4 am (vp_updL f3 ((0 : Int32).toNatClampNeg) (x.toInt64)) f4 r2 ++ WC cy ad' ks' c2g c2) := hD
    generalize H1 = H at hP hS ⊢
    clear hP1 hD1 hPc hDc hFc hk1 hz1 hvm ht
    refine my_topi hwm ?_
    refine lv_istore (lv' := [(7, .int x), (6, .int rw9), (5, .int (nI (4 * n))), (4, .ref o4), (3, .ref o3), (2, .ref (am 0)), (1, .ref (ad' .cl)), (0, .ref b)]) hx hb dL_law_1417 hl (by decide) rfl (fun ls hl => ?_)
    refine lv_goto (tgt := 1819) hx hb dL_law_1419 (by decide) ?_
    refine W.widen (k := cells + 603) (n := slots + 9640) (by omega) (by omega) ?_
    exact K H locs ls ⟨ad', ks', c2g, c2, r2, (vp_updL f3 ((0 : Int32).toNatClampNeg) (x.toInt64)), f4, hkz, e3.mono (by omega) (by omega) (by omega), hP, hD, hS, lv_sub hl [2, 3, 4, 5, 6, 7] rfl⟩
  · have e2 : C7_run g u (xs (4 * n + 1)) = some (.inl (nI (k + 1))) := e2
    generalize hxx : (nI (k + 1)) = xk at e2
    have hxk : ¬ xk = 1 := by rw [← hxx]; exact nI_ne (b := 1) (by omega) (by omega) (by omega)
    refine lv_aload_n hx hb dL_law_1394 rfl (lv_at hl 4 rfl) ?_
    refine lv_aload_n hx hb dL_law_1395 rfl (lv_at hl 5 rfl) ?_
    refine lv_iload hx hb dL_law_1396 (lv_at hl 0 rfl) ?_
    refine lv_iconst (v := 1) hx hb dL_law_1398 (by decide) ?_
    refine lv_iadd hx hb dL_law_1399 ?_
    refine my_topi (y := nI (4 * n + 1)) (nI_add (4 * n) 1) ?_
    refine va_sld hx hb hX hbl hbA hS (vp_in_nI (n := 4 * n + 1) (by omega) (by omega)) dL_law_1400 ?_
    refine my_topi (y := xs (4 * n + 1)) (congrArg xs (nI_clamp (by omega))) ?_
    refine lv_aload_n hx hb dL_law_1401 rfl (lv_at hl 2 rfl) ?_
    have hPc : va_P (dC, dI) vwCl ([(o3, eL cy f3)] ++ WC cy ad ks g u) H := hP.part (X := XLW cy o3 o4 am f3 f4 r) (cx := [(o3, eL cy f3)]) [0] rfl
    have hDc : va_D (fun q : Nat => s.heap.size ≤ q) ([(o3, eL cy f3)] ++ WC cy ad ks g u) := hD.part (X := XLW cy o3 o4 am f3 f4 r) (cx := [(o3, eL cy f3)]) [0] (by decide) rfl
    have hFc : ∀ q, va_A ([(o3, eL cy f3)] ++ WC cy ad ks g u) H.size q → s.heap.size ≤ q := va_freeP (X := XLW cy o3 o4 am f3 f4 r) (cx := [(o3, eL cy f3)]) hD hS hA [0] rfl
    refine vx_calli (vx_runSX (As := [.ref (ad .cl), .int (xs (4 * n + 1)), .ref o3]) (rest := []) ⟨hx, hb, hml, hown, hts⟩ (ct_run l hst dC dI cy nb ad ks g hk u ((xs (4 * n + 1))) o3 f3 xk H.size hxk e2) (vx_cwSW 3 hts (gSH mw_1134 mw_1135 mw_562 mw_1136) rfl rfl rfl (by decide +kernel) ⟨Nat.le_of_ble_eq_true rfl, Nat.le_of_ble_eq_true rfl⟩) (my_preS hPc hK hDc hE hS hFc) rfl rfl hl.1 rfl (lv_room (Nat.le_of_ble_eq_true rfl)) dL_law_1402 ⟨by show _ ≤ 601024; omega, by show _ ≤ 7293034; omega⟩) hS (fun q _ h => hFc q h) hFc (fun q _ h => hFc q h) (fun E9 ce9 q9 u9 t9 H1 locs1 ht9 hvm9 hp9 _ _ _ _ _ _ _ => hp9.elim) (fun rw9 u9 t9 H1 locs ht hvm hw hB hz1 hk1 hS => ?_)
    obtain ⟨hP1, hD1⟩ := hB
    rw [ht] at hP1
    obtain ⟨hP, hD⟩ := va_joinP (X := XLW cy o3 o4 am f3 f4 r) (cx := [(o3, eL cy f3)]) (wr := ((o4, eD cy f4) :: WM cy am r)) (rx := [(o3, eL cy f3)]) (pl := WC cy ad ks g u) (pl1 := WC cy ad ks g u) hP hD [0] [1, 2, 3, 4, 5, 6, 7, 8, 9, 10, 11, 12] rfl rfl (by decide) (by decide) hk1 hFc hP1 hD1
    have hP : va_P (dC, dI) vwCl (XLW cy o3 o4 am f3 f4 r ++ WC cy ad ks g u) H1 := hP.part (X := ((o4, eD cy f4) :: WM cy am r) ++ [(o3, eL cy f3)]) (cx := XLW cy o3 o4 am f3 f4 r) [12, 0, 1, 2, 3, 4, 5, 6, 7, 8, 9, 10, 11] rfl
    have hD : va_D (fun q : Nat => s.heap.size ≤ q) (XLW cy o3 o4 am f3 f4 r ++ WC cy ad ks g u) := hD.part (X := ((o4, eD cy f4) :: WM cy am r) ++ [(o3, eL cy f3)]) (cx := XLW cy o3 o4 am f3 f4 r) [12, 0, 1, 2, 3, 4, 5, 6, 7, 8, 9, 10, 11] (by decide) rfl
    generalize H1 = H at hP hS ⊢
    clear hP1 hD1 hPc hDc hFc hk1 hz1 hvm ht
    refine lv_istore (lv' := [(6, .int rw9), (5, .int (nI (4 * n))), (4, .ref o4), (3, .ref o3), (2, .ref (am 0)), (1, .ref (ad .cl)), (0, .ref b)]) hx hb dL_law_1405 hl (by decide) rfl (fun ls hl => ?_)
    refine lv_aload_n hx hb dL_law_1407 rfl (lv_at hl 4 rfl) ?_
    refine lv_aload_n hx hb dL_law_1408 rfl (lv_at hl 6 rfl) ?_
    refine lv_iload hx hb dL_law_1409 (lv_at hl 1 rfl) ?_
    refine lv_iconst (v := 1) hx hb dL_law_1411 (by decide) ?_
    refine lv_iadd hx hb dL_law_1412 ?_
    refine my_topi (y := nI (4 * n + 1)) (nI_add (4 * n) 1) ?_
    refine va_sld hx hb hX hbl hbA hS (vp_in_nI (n := 4 * n + 1) (by omega) (by omega)) dL_law_1413 ?_
    refine my_topi (y := xs (4 * n + 1)) (congrArg xs (nI_clamp (by omega))) ?_
    have hPc := hP.sub (ws' := (WM cy am r)) [2, 3, 4, 5, 6, 7, 8, 9, 10, 11, 12] rfl
    have hDc := hD.sub (ws' := (WM cy am r)) [2, 3, 4, 5, 6, 7, 8, 9, 10, 11, 12] (by decide) rfl
    have hFc := va_free (wc := (WM cy am r)) hD hS hA [2, 3, 4, 5, 6, 7, 8, 9, 10, 11, 12] rfl
    refine va_calli (va_runV (As := [.int (xs (4 * n + 1))]) (rest := []) ⟨hx, hb, hml, hown, hts⟩ (k_X8_run l dC dI cy nb am r ((xs (4 * n + 1))) (nI 0) (th r k) H.size e1) (cwV 1 hts (gV mw_1226 mw_1227 mw_1228 mw_5 mw_1229) rfl rfl rfl (by decide +kernel) ⟨Nat.le_of_ble_eq_true rfl, Nat.le_of_ble_eq_true rfl⟩) (my_preV hPc hK hDc hE hS hFc (va_recv (q := (RX8, TX8, 23)) hK hP (ci := 8) (q0 := 2) rfl rfl)) rfl rfl hl.1 rfl (lv_room (Nat.le_of_ble_eq_true rfl)) dL_law_1414 ⟨by show _ ≤ 601024; omega, by show _ ≤ 7293034; omega⟩) hS (fun q _ h => hFc q h) hFc (fun rm9 u9 t9 H1 locs ht hvm hwm hB hz1 hk1 hS => ?_)
    obtain ⟨hP1, hD1⟩ := hB
    rw [ht] at hP1
    obtain ⟨hP, hD⟩ := va_joinQ (X := XLW cy o3 o4 am f3 f4 r) (cx := (WM cy am r)) (wr := [(o3, eL cy f3), (o4, eD cy f4)]) (w1 := (WM cy am (th r k))) (pl := WC cy ad ks g u) hP hD [2, 3, 4, 5, 6, 7, 8, 9, 10, 11, 12] [0, 1] rfl rfl (by decide) (by decide) hk1 hFc hP1 hD1
    have hP : va_P (dC, dI) vwCl (XLW cy o3 o4 am f3 f4 (th r k) ++ WC cy ad ks g u) H1 := hP
    have hD : va_D (fun q : Nat => s.heap.size ≤ q) (XLW cy o3 o4 am f3 f4 (th r k) ++ WC cy ad ks g u) := hD
    generalize H1 = H at hP hS ⊢
    clear hP1 hD1 hPc hDc hFc hk1 hz1 hvm ht
    refine my_topi hwm ?_
    refine lv_istore (lv' := [(7, .int (nI 0)), (6, .int rw9), (5, .int (nI (4 * n))), (4, .ref o4), (3, .ref o3), (2, .ref (am 0)), (1, .ref (ad .cl)), (0, .ref b)]) hx hb dL_law_1417 hl (by decide) rfl (fun ls hl => ?_)
    refine lv_goto (tgt := 1819) hx hb dL_law_1419 (by decide) ?_
    refine W.widen (k := cells + 603) (n := slots + 9640) (by omega) (by omega) ?_
    exact K H locs ls ⟨ad, ks, g, u, (th r k), f3, f4, hk, (hGI.thr).mono (by omega) (by omega) (by omega), hP, hD, hS, lv_sub hl [2, 3, 4, 5, 6, 7] rfl⟩
set_option maxHeartbeats 8000000 in
set_option maxRecDepth 100000 in
theorem law_c36 {p : Program} {e : Env} {s : State} {m : MethodId} {below : List Frame} {meth : Method} {c : Code} (l : Launch) (hst : l.stackTraces = false) {b L : Nat} {xs : Nat → Int32} (dC : Nat → ClassId) (dI : Nat → Nat → Nat) (cy : Nat → ClassId) (nb : Nat → Nat) (o3 o4 : Nat) (am : Nat → Nat) {n : Nat} (hn : n < 512) (hL : 4 * n + 4 ≤ L) (hL2 : L ≤ 2048) (C0 : LX p s m meth c b L xs dC dI cy nb) {Q : State → Prop} {H : Heap} {locs : List Loc} {ls : Array Slot} {cells slots : Nat} (hc : cells ≤ 400000) (hs : slots ≤ 6000000) (h : LSt s dC dI cy nb b o3 o4 am n (4 * n) H locs ls) (K : ∀ (H : Heap) (locs : List Loc) (ls : Array Slot), LSt s dC dI cy nb b o3 o4 am (n + 1) (4 * n) H locs ls → W p l e room_1 s m #[Value.ref b] below meth c H locs (cells + 603) (slots + 9640) Q (F0 m 1819 ls [])) : W p l e room_1 s m #[Value.ref b] below meth c H locs cells slots Q (F0 m 1422 ls []) := by
  obtain ⟨hx, hb, hr, hml, hown, hts, hX, hbl, hlocks, hK, hE⟩ := C0
  have hA : ∀ q : Nat, s.heap.size ≤ q → (fun q : Nat => s.heap.size ≤ q) q := fun _ h => h
  have hbA : ¬ (fun q : Nat => s.heap.size ≤ q) b := Nat.not_le.mpr hbl
  obtain ⟨ad, ks, g, u, r, f3, f4, hk, hGI, hP, hD, hS, hl⟩ := h
  have h9 : AT (F8_runToLeave r (xs (4 * n + 1))) (C7_runToLeave g u (xs (4 * n + 1))) r 1 (2001 * n + 2000) (602 * n) := a_runToLeave hGI (by omega) (by omega)
  rcases h9 with ⟨x, r2, c2, c2g, e1, e2, e3, e6⟩ | ⟨k, k1, k2, e1, e2⟩
  · refine lv_aload_n hx hb dL_law_1422 rfl (lv_at hl 4 rfl) ?_
    refine lv_aload_n hx hb dL_law_1423 rfl (lv_at hl 5 rfl) ?_
    refine lv_iload hx hb dL_law_1424 (lv_at hl 0 rfl) ?_
    refine lv_iconst (v := 1) hx hb dL_law_1426 (by decide) ?_
    refine lv_iadd hx hb dL_law_1427 ?_
    refine my_topi (y := nI (4 * n + 1)) (nI_add (4 * n) 1) ?_
    refine va_sld hx hb hX hbl hbA hS (vp_in_nI (n := 4 * n + 1) (by omega) (by omega)) dL_law_1428 ?_
    refine my_topi (y := xs (4 * n + 1)) (congrArg xs (nI_clamp (by omega))) ?_
    refine lv_aload_n hx hb dL_law_1429 rfl (lv_at hl 2 rfl) ?_
    have hPc : va_P (dC, dI) vwCl ([(o3, eL cy f3)] ++ WC cy ad ks g u) H := hP.part (X := XLW cy o3 o4 am f3 f4 r) (cx := [(o3, eL cy f3)]) [0] rfl
    have hDc : va_D (fun q : Nat => s.heap.size ≤ q) ([(o3, eL cy f3)] ++ WC cy ad ks g u) := hD.part (X := XLW cy o3 o4 am f3 f4 r) (cx := [(o3, eL cy f3)]) [0] (by decide) rfl
    have hFc : ∀ q, va_A ([(o3, eL cy f3)] ++ WC cy ad ks g u) H.size q → s.heap.size ≤ q := va_freeP (X := XLW cy o3 o4 am f3 f4 r) (cx := [(o3, eL cy f3)]) hD hS hA [0] rfl
    refine vx_calli (vx_runSX (As := [.ref (ad .cl), .int (xs (4 * n + 1)), .ref o3]) (rest := []) ⟨hx, hb, hml, hown, hts⟩ (cn_runToLeave l hst dC dI cy nb ad ks g hk u ((xs (4 * n + 1))) o3 f3 x c2g c2 H.size e2) (vx_cwSW 3 hts (gSH mw_1283 mw_1284 mw_562 mw_1285) rfl rfl rfl (by decide +kernel) ⟨Nat.le_of_ble_eq_true rfl, Nat.le_of_ble_eq_true rfl⟩) (my_preS hPc hK hDc hE hS hFc) rfl rfl hl.1 rfl (lv_room (Nat.le_of_ble_eq_true rfl)) dL_law_1430 ⟨by show _ ≤ 601024; omega, by show _ ≤ 7293034; omega⟩) hS (fun q _ h => hFc q h) hFc (fun q _ h => hFc q h) (fun E9 ce9 q9 u9 t9 H1 locs1 ht9 hvm9 hp9 _ _ _ _ _ _ _ => hp9.elim) (fun rw9 u9 t9 H1 locs ht hvm hw hB hz1 hk1 hS => ?_)
    obtain ⟨ad', ks', hkz, axz, hP1, hD1⟩ := hB
    rw [ht] at hP1
    obtain ⟨hP, hD⟩ := va_joinP (X := XLW cy o3 o4 am f3 f4 r) (cx := [(o3, eL cy f3)]) (wr := ((o4, eD cy f4) :: WM cy am r)) (rx := [(o3, eL cy (vp_updL f3 ((0 : Int32).toNatClampNeg) (x.toInt64)))]) (pl := WC cy ad ks g u) (pl1 := WC cy ad' ks' c2g c2) hP hD [0] [1, 2, 3, 4, 5, 6, 7, 8, 9, 10, 11, 12] rfl rfl (by decide) (by decide) hk1 hFc hP1 hD1
    have hP : va_P (dC, dI) vwCl (XLW cy o3 o4 am (vp_updL f3 ((0 : Int32).toNatClampNeg) (x.toInt64)) f4 r ++ WC cy ad' ks' c2g c2) H1 := hP.part (X := ((o4, eD cy f4) :: WM cy am r) ++ [(o3, eL cy (vp_updL f3 ((0 : Int32).toNatClampNeg) (x.toInt64)))]) (cx := XLW cy o3 o4 am (vp_updL f3 ((0 : Int32).toNatClampNeg) (x.toInt64)) f4 r) [12, 0, 1, 2, 3, 4, 5, 6, 7, 8, 9, 10, 11] rfl
    have hD : va_D (fun q : Nat => s.heap.size ≤ q) (XLW cy o3 o4 am (vp_updL f3 ((0 : Int32).toNatClampNeg) (x.toInt64)) f4 r ++ WC cy ad' ks' c2g c2) := hD.part (X := ((o4, eD cy f4) :: WM cy am r) ++ [(o3, eL cy (vp_updL f3 ((0 : Int32).toNatClampNeg) (x.toInt64)))]) (cx := XLW cy o3 o4 am (vp_updL f3 ((0 : Int32).toNatClampNeg) (x.toInt64)) f4 r) [12, 0, 1, 2, 3, 4, 5, 6, 7, 8, 9, 10, 11] (by decide) rfl
    generalize H1 = H at hP hS ⊢
    have hl : lv_has ls 10 [(5, .int (nI (4 * n))), (4, .ref o4), (3, .ref o3), (2, .ref (am 0)), (1, .ref (ad' .cl)), (0, .ref b)] := by rw [(axz .cl True.intro).2]; exact hl
    clear hP1 hD1 hPc hDc hFc hk1 hz1 hvm ht
    refine lv_istore (lv' := [(6, .int rw9), (5, .int (nI (4 * n))), (4, .ref o4), (3, .ref o3), (2, .ref (am 0)), (1, .ref (ad' .cl)), (0, .ref b)]) hx hb dL_law_1433 hl (by decide) rfl (fun ls hl => ?_)
    refine lv_aload_n hx hb dL_law_1435 rfl (lv_at hl 4 rfl) ?_
    refine lv_aload_n hx hb dL_law_1436 rfl (lv_at hl 6 rfl) ?_
    refine lv_iload hx hb dL_law_1437 (lv_at hl 1 rfl) ?_
    refine lv_iconst (v := 1) hx hb dL_law_1439 (by decide) ?_
    refine lv_iadd hx hb dL_law_1440 ?_
    refine my_topi (y := nI (4 * n + 1)) (nI_add (4 * n) 1) ?_
    refine va_sld hx hb hX hbl hbA hS (vp_in_nI (n := 4 * n + 1) (by omega) (by omega)) dL_law_1441 ?_
    refine my_topi (y := xs (4 * n + 1)) (congrArg xs (nI_clamp (by omega))) ?_
    have hPc := hP.sub (ws' := (WM cy am r)) [2, 3, 4, 5, 6, 7, 8, 9, 10, 11, 12] rfl
    have hDc := hD.sub (ws' := (WM cy am r)) [2, 3, 4, 5, 6, 7, 8, 9, 10, 11, 12] (by decide) rfl
    have hFc := va_free (wc := (WM cy am r)) hD hS hA [2, 3, 4, 5, 6, 7, 8, 9, 10, 11, 12] rfl
    refine va_calli (va_runV (As := [.int (xs (4 * n + 1))]) (rest := []) ⟨hx, hb, hml, hown, hts⟩ (k_X8_runToLeave l dC dI cy nb am r ((xs (4 * n + 1))) x (r2) H.size e1) (cwV 1 hts (gV mw_1290 mw_1291 mw_1292 mw_5 mw_1293) rfl rfl rfl (by decide +kernel) ⟨Nat.le_of_ble_eq_true rfl, Nat.le_of_ble_eq_true rfl⟩) (my_preV hPc hK hDc hE hS hFc (va_recv (q := (RX8, TX8, 23)) hK hP (ci := 8) (q0 := 2) rfl rfl)) rfl rfl hl.1 rfl (lv_room (Nat.le_of_ble_eq_true rfl)) dL_law_1442 ⟨by show _ ≤ 601024; omega, by show _ ≤ 7293034; omega⟩) hS (fun q _ h => hFc q h) hFc (fun rm9 u9 t9 H1 locs ht hvm hwm hB hz1 hk1 hS => ?_)
    obtain ⟨hP1, hD1⟩ := hB
    rw [ht] at hP1
    obtain ⟨hP, hD⟩ := va_joinQ (X := XLW cy o3 o4 am (vp_updL f3 ((0 : Int32).toNatClampNeg) (x.toInt64)) f4 r) (cx := (WM cy am r)) (wr := [(o3, eL cy (vp_updL f3 ((0 : Int32).toNatClampNeg) (x.toInt64))), (o4, eD cy f4)]) (w1 := (WM cy am (r2))) (pl := WC cy ad' ks' c2g c2) hP hD [2, 3, 4, 5, 6, 7, 8, 9, 10, 11, 12] [0, 1] rfl rfl (by decide) (by decide) hk1 hFc hP1 hD1
    have hP : va_P (dC, dI) vwCl (XLW cy o3 o4 am (vp_updL f3 ((0 : Int32).toNatClampNeg) (x.toInt64)) f4 r2 ++ WC cy ad' ks' c2g c2) H1 := hP
    have hD : va_D (fun q : Nat => s.heap.size ≤ q) (XLW cy o3 o4 am (vp_updL f3 ((0 : Int32).toNatClampNeg) (x.toInt64)) f4 r2 ++ WC cy ad' ks' c2g c2) := hD
    generalize H1 = H at hP hS ⊢
    clear hP1 hD1 hPc hDc hFc hk1 hz1 hvm ht
    refine my_topi hwm ?_
    refine lv_istore (lv' := [(7, .int x), (6, .int rw9), (5, .int (nI (4 * n))), (4, .ref o4), (3, .ref o3), (2, .ref (am 0)), (1, .ref (ad' .cl)), (0, .ref b)]) hx hb dL_law_1445 hl (by decide) rfl (fun ls hl => ?_)
    refine lv_goto (tgt := 1819) hx hb dL_law_1447 (by decide) ?_
    refine W.widen (k := cells + 603) (n := slots + 9640) (by omega) (by omega) ?_
    exact K H locs ls ⟨ad', ks', c2g, c2, r2, (vp_updL f3 ((0 : Int32).toNatClampNeg) (x.toInt64)), f4, hkz, e3.mono (by omega) (by omega) (by omega), hP, hD, hS, lv_sub hl [2, 3, 4, 5, 6, 7] rfl⟩
  · have e2 : C7_runToLeave g u (xs (4 * n + 1)) = some (.inl (nI (k + 1))) := e2
    generalize hxx : (nI (k + 1)) = xk at e2
    have hxk : ¬ xk = 1 := by rw [← hxx]; exact nI_ne (b := 1) (by omega) (by omega) (by omega)
    refine lv_aload_n hx hb dL_law_1422 rfl (lv_at hl 4 rfl) ?_
    refine lv_aload_n hx hb dL_law_1423 rfl (lv_at hl 5 rfl) ?_
    refine lv_iload hx hb dL_law_1424 (lv_at hl 0 rfl) ?_
    refine lv_iconst (v := 1) hx hb dL_law_1426 (by decide) ?_
    refine lv_iadd hx hb dL_law_1427 ?_
    refine my_topi (y := nI (4 * n + 1)) (nI_add (4 * n) 1) ?_
    refine va_sld hx hb hX hbl hbA hS (vp_in_nI (n := 4 * n + 1) (by omega) (by omega)) dL_law_1428 ?_
    refine my_topi (y := xs (4 * n + 1)) (congrArg xs (nI_clamp (by omega))) ?_
    refine lv_aload_n hx hb dL_law_1429 rfl (lv_at hl 2 rfl) ?_
    have hPc : va_P (dC, dI) vwCl ([(o3, eL cy f3)] ++ WC cy ad ks g u) H := hP.part (X := XLW cy o3 o4 am f3 f4 r) (cx := [(o3, eL cy f3)]) [0] rfl
    have hDc : va_D (fun q : Nat => s.heap.size ≤ q) ([(o3, eL cy f3)] ++ WC cy ad ks g u) := hD.part (X := XLW cy o3 o4 am f3 f4 r) (cx := [(o3, eL cy f3)]) [0] (by decide) rfl
    have hFc : ∀ q, va_A ([(o3, eL cy f3)] ++ WC cy ad ks g u) H.size q → s.heap.size ≤ q := va_freeP (X := XLW cy o3 o4 am f3 f4 r) (cx := [(o3, eL cy f3)]) hD hS hA [0] rfl
    refine vx_calli (vx_runSX (As := [.ref (ad .cl), .int (xs (4 * n + 1)), .ref o3]) (rest := []) ⟨hx, hb, hml, hown, hts⟩ (ct_runToLeave l hst dC dI cy nb ad ks g hk u ((xs (4 * n + 1))) o3 f3 xk H.size hxk e2) (vx_cwSW 3 hts (gSH mw_1283 mw_1284 mw_562 mw_1285) rfl rfl rfl (by decide +kernel) ⟨Nat.le_of_ble_eq_true rfl, Nat.le_of_ble_eq_true rfl⟩) (my_preS hPc hK hDc hE hS hFc) rfl rfl hl.1 rfl (lv_room (Nat.le_of_ble_eq_true rfl)) dL_law_1430 ⟨by show _ ≤ 601024; omega, by show _ ≤ 7293034; omega⟩) hS (fun q _ h => hFc q h) hFc (fun q _ h => hFc q h) (fun E9 ce9 q9 u9 t9 H1 locs1 ht9 hvm9 hp9 _ _ _ _ _ _ _ => hp9.elim) (fun rw9 u9 t9 H1 locs ht hvm hw hB hz1 hk1 hS => ?_)
    obtain ⟨hP1, hD1⟩ := hB
    rw [ht] at hP1
    obtain ⟨hP, hD⟩ := va_joinP (X := XLW cy o3 o4 am f3 f4 r) (cx := [(o3, eL cy f3)]) (wr := ((o4, eD cy f4) :: WM cy am r)) (rx := [(o3, eL cy f3)]) (pl := WC cy ad ks g u) (pl1 := WC cy ad ks g u) hP hD [0] [1, 2, 3, 4, 5, 6, 7, 8, 9, 10, 11, 12] rfl rfl (by decide) (by decide) hk1 hFc hP1 hD1
    have hP : va_P (dC, dI) vwCl (XLW cy o3 o4 am f3 f4 r ++ WC cy ad ks g u) H1 := hP.part (X := ((o4, eD cy f4) :: WM cy am r) ++ [(o3, eL cy f3)]) (cx := XLW cy o3 o4 am f3 f4 r) [12, 0, 1, 2, 3, 4, 5, 6, 7, 8, 9, 10, 11] rfl
    have hD : va_D (fun q : Nat => s.heap.size ≤ q) (XLW cy o3 o4 am f3 f4 r ++ WC cy ad ks g u) := hD.part (X := ((o4, eD cy f4) :: WM cy am r) ++ [(o3, eL cy f3)]) (cx := XLW cy o3 o4 am f3 f4 r) [12, 0, 1, 2, 3, 4, 5, 6, 7, 8, 9, 10, 11] (by decide) rfl
    generalize H1 = H at hP hS ⊢
    clear hP1 hD1 hPc hDc hFc hk1 hz1 hvm ht
    refine lv_istore (lv' := [(6, .int rw9), (5, .int (nI (4 * n))), (4, .ref o4), (3, .ref o3), (2, .ref (am 0)), (1, .ref (ad .cl)), (0, .ref b)]) hx hb dL_law_1433 hl (by decide) rfl (fun ls hl => ?_)
    refine lv_aload_n hx hb dL_law_1435 rfl (lv_at hl 4 rfl) ?_
    refine lv_aload_n hx hb dL_law_1436 rfl (lv_at hl 6 rfl) ?_
    refine lv_iload hx hb dL_law_1437 (lv_at hl 1 rfl) ?_
    refine lv_iconst (v := 1) hx hb dL_law_1439 (by decide) ?_
    refine lv_iadd hx hb dL_law_1440 ?_
    refine my_topi (y := nI (4 * n + 1)) (nI_add (4 * n) 1) ?_
    refine va_sld hx hb hX hbl hbA hS (vp_in_nI (n := 4 * n + 1) (by omega) (by omega)) dL_law_1441 ?_
    refine my_topi (y := xs (4 * n + 1)) (congrArg xs (nI_clamp (by omega))) ?_
    have hPc := hP.sub (ws' := (WM cy am r)) [2, 3, 4, 5, 6, 7, 8, 9, 10, 11, 12] rfl
    have hDc := hD.sub (ws' := (WM cy am r)) [2, 3, 4, 5, 6, 7, 8, 9, 10, 11, 12] (by decide) rfl
    have hFc := va_free (wc := (WM cy am r)) hD hS hA [2, 3, 4, 5, 6, 7, 8, 9, 10, 11, 12] rfl
    refine va_calli (va_runV (As := [.int (xs (4 * n + 1))]) (rest := []) ⟨hx, hb, hml, hown, hts⟩ (k_X8_runToLeave l dC dI cy nb am r ((xs (4 * n + 1))) (nI 0) (th r k) H.size e1) (cwV 1 hts (gV mw_1290 mw_1291 mw_1292 mw_5 mw_1293) rfl rfl rfl (by decide +kernel) ⟨Nat.le_of_ble_eq_true rfl, Nat.le_of_ble_eq_true rfl⟩) (my_preV hPc hK hDc hE hS hFc (va_recv (q := (RX8, TX8, 23)) hK hP (ci := 8) (q0 := 2) rfl rfl)) rfl rfl hl.1 rfl (lv_room (Nat.le_of_ble_eq_true rfl)) dL_law_1442 ⟨by show _ ≤ 601024; omega, by show _ ≤ 7293034; omega⟩) hS (fun q _ h => hFc q h) hFc (fun rm9 u9 t9 H1 locs ht hvm hwm hB hz1 hk1 hS => ?_)
    obtain ⟨hP1, hD1⟩ := hB
    rw [ht] at hP1
    obtain ⟨hP, hD⟩ := va_joinQ (X := XLW cy o3 o4 am f3 f4 r) (cx := (WM cy am r)) (wr := [(o3, eL cy f3), (o4, eD cy f4)]) (w1 := (WM cy am (th r k))) (pl := WC cy ad ks g u) hP hD [2, 3, 4, 5, 6, 7, 8, 9, 10, 11, 12] [0, 1] rfl rfl (by decide) (by decide) hk1 hFc hP1 hD1
    have hP : va_P (dC, dI) vwCl (XLW cy o3 o4 am f3 f4 (th r k) ++ WC cy ad ks g u) H1 := hP
    have hD : va_D (fun q : Nat => s.heap.size ≤ q) (XLW cy o3 o4 am f3 f4 (th r k) ++ WC cy ad ks g u) := hD
    generalize H1 = H at hP hS ⊢
    clear hP1 hD1 hPc hDc hFc hk1 hz1 hvm ht
    refine my_topi hwm ?_
    refine lv_istore (lv' := [(7, .int (nI 0)), (6, .int rw9), (5, .int (nI (4 * n))), (4, .ref o4), (3, .ref o3), (2, .ref (am 0)), (1, .ref (ad .cl)), (0, .ref b)]) hx hb dL_law_1445 hl (by decide) rfl (fun ls hl => ?_)
    refine lv_goto (tgt := 1819) hx hb dL_law_1447 (by decide) ?_
    refine W.widen (k := cells + 603) (n := slots + 9640) (by omega) (by omega) ?_
    exact K H locs ls ⟨ad, ks, g, u, (th r k), f3, f4, hk, (hGI.thr).mono (by omega) (by omega) (by omega), hP, hD, hS, lv_sub hl [2, 3, 4, 5, 6, 7] rfl⟩
set_option maxHeartbeats 8000000 in
set_option maxRecDepth 100000 in
theorem law_c37 {p : Program} {e : Env} {s : State} {m : MethodId} {below : List Frame} {meth : Method} {c : Code} (l : Launch) (hst : l.stackTraces = false) {b L : Nat} {xs : Nat → Int32} (dC : Nat → ClassId) (dI : Nat → Nat → Nat) (cy : Nat → ClassId) (nb : Nat → Nat) (o3 o4 : Nat) (am : Nat → Nat) {n : Nat} (hn : n < 512) (hL : 4 * n + 4 ≤ L) (hL2 : L ≤ 2048) (C0 : LX p s m meth c b L xs dC dI cy nb) {Q : State → Prop} {H : Heap} {locs : List Loc} {ls : Array Slot} {cells slots : Nat} (hc : cells ≤ 400000) (hs : slots ≤ 6000000) (h : LSt s dC dI cy nb b o3 o4 am n (4 * n) H locs ls) (K : ∀ (H : Heap) (locs : List Loc) (ls : Array Slot), LSt s dC dI cy nb b o3 o4 am (n + 1) (4 * n) H locs ls → W p l e room_1 s m #[Value.ref b] below meth c H locs (cells + 603) (slots + 9640) Q (F0 m 1819 ls [])) : W p l e room_1 s m #[Value.ref b] below meth c H locs cells slots Q (F0 m 1450 ls []) := by
  obtain ⟨hx, hb, hr, hml, hown, hts, hX, hbl, hlocks, hK, hE⟩ := C0
  have hA : ∀ q : Nat, s.heap.size ≤ q → (fun q : Nat => s.heap.size ≤ q) q := fun _ h => h
  have hbA : ¬ (fun q : Nat => s.heap.size ≤ q) b := Nat.not_le.mpr hbl
  obtain ⟨ad, ks, g, u, r, f3, f4, hk, hGI, hP, hD, hS, hl⟩ := h
  have h9 : CT (F8_leavesIn r (xs (4 * n + 1))) (C7_leavesIn g u (xs (4 * n + 1))) r g 0 (2001 * n) (602 * n) := a_leavesIn hGI (by omega) (by omega)
  rcases h9 with ⟨x, r2, c2, e1, e2, e3, e6⟩ | ⟨k, k1, k2, e1, e2⟩
  · refine lv_aload_n hx hb dL_law_1450 rfl (lv_at hl 4 rfl) ?_
    refine lv_aload_n hx hb dL_law_1451 rfl (lv_at hl 5 rfl) ?_
    refine lv_iload hx hb dL_law_1452 (lv_at hl 0 rfl) ?_
    refine lv_iconst (v := 1) hx hb dL_law_1454 (by decide) ?_
    refine lv_iadd hx hb dL_law_1455 ?_
    refine my_topi (y := nI (4 * n + 1)) (nI_add (4 * n) 1) ?_
    refine va_sld hx hb hX hbl hbA hS (vp_in_nI (n := 4 * n + 1) (by omega) (by omega)) dL_law_1456 ?_
    refine my_topi (y := xs (4 * n + 1)) (congrArg xs (nI_clamp (by omega))) ?_
    refine lv_aload_n hx hb dL_law_1457 rfl (lv_at hl 2 rfl) ?_
    have hPc : va_P (dC, dI) vwCl ([(o3, eL cy f3)] ++ WC cy ad ks g u) H := hP.part (X := XLW cy o3 o4 am f3 f4 r) (cx := [(o3, eL cy f3)]) [0] rfl
    have hDc : va_D (fun q : Nat => s.heap.size ≤ q) ([(o3, eL cy f3)] ++ WC cy ad ks g u) := hD.part (X := XLW cy o3 o4 am f3 f4 r) (cx := [(o3, eL cy f3)]) [0] (by decide) rfl
    have hFc : ∀ q, va_A ([(o3, eL cy f3)] ++ WC cy ad ks g u) H.size q → s.heap.size ≤ q := va_freeP (X := XLW cy o3 o4 am f3 f4 r) (cx := [(o3, eL cy f3)]) hD hS hA [0] rfl
    refine vx_calli (vx_runSX (As := [.ref (ad .cl), .int (xs (4 * n + 1)), .ref o3]) (rest := []) ⟨hx, hb, hml, hown, hts⟩ (cn_leavesIn l hst dC dI cy nb ad ks g hk u ((xs (4 * n + 1))) o3 f3 x c2 H.size e2) (vx_cwSW 3 hts (gSH mw_1294 mw_1295 mw_562 mw_1296) rfl rfl rfl (by decide +kernel) ⟨Nat.le_of_ble_eq_true rfl, Nat.le_of_ble_eq_true rfl⟩) (my_preS hPc hK hDc hE hS hFc) rfl rfl hl.1 rfl (lv_room (Nat.le_of_ble_eq_true rfl)) dL_law_1458 ⟨by show _ ≤ 601024; omega, by show _ ≤ 7293034; omega⟩) hS (fun q _ h => hFc q h) hFc (fun q _ h => hFc q h) (fun E9 ce9 q9 u9 t9 H1 locs1 ht9 hvm9 hp9 _ _ _ _ _ _ _ => hp9.elim) (fun rw9 u9 t9 H1 locs ht hvm hw hB hz1 hk1 hS => ?_)
    obtain ⟨hP1, hD1⟩ := hB
    rw [ht] at hP1
    obtain ⟨hP, hD⟩ := va_joinP (X := XLW cy o3 o4 am f3 f4 r) (cx := [(o3, eL cy f3)]) (wr := ((o4, eD cy f4) :: WM cy am r)) (rx := [(o3, eL cy (vp_updL f3 ((0 : Int32).toNatClampNeg) (x.toInt64)))]) (pl := WC cy ad ks g u) (pl1 := WC cy ad ks g c2) hP hD [0] [1, 2, 3, 4, 5, 6, 7, 8, 9, 10, 11, 12] rfl rfl (by decide) (by decide) hk1 hFc hP1 hD1
    have hP : va_P (dC, dI) vwCl (XLW cy o3 o4 am (vp_updL f3 ((0 : Int32).toNatClampNeg) (x.toInt64)) f4 r ++ WC cy ad ks g c2) H1 := hP.part (X := ((o4, eD cy f4) :: WM cy am r) ++ [(o3, eL cy (vp_updL f3 ((0 : Int32).toNatClampNeg) (x.toInt64)))]) (cx := XLW cy o3 o4 am (vp_updL f3 ((0 : Int32).toNatClampNeg) (x.toInt64)) f4 r) [12, 0, 1, 2, 3, 4, 5, 6, 7, 8, 9, 10, 11] rfl
    have hD : va_D (fun q : Nat => s.heap.size ≤ q) (XLW cy o3 o4 am (vp_updL f3 ((0 : Int32).toNatClampNeg) (x.toInt64)) f4 r ++ WC cy ad ks g c2) := hD.part (X := ((o4, eD cy f4) :: WM cy am r) ++ [(o3, eL cy (vp_updL f3 ((0 : Int32).toNatClampNeg) (x.toInt64)))]) (cx := XLW cy o3 o4 am (vp_updL f3 ((0 : Int32).toNatClampNeg) (x.toInt64)) f4 r) [12, 0, 1, 2, 3, 4, 5, 6, 7, 8, 9, 10, 11] (by decide) rfl
    generalize H1 = H at hP hS ⊢
    clear hP1 hD1 hPc hDc hFc hk1 hz1 hvm ht
    refine lv_istore (lv' := [(6, .int rw9), (5, .int (nI (4 * n))), (4, .ref o4), (3, .ref o3), (2, .ref (am 0)), (1, .ref (ad .cl)), (0, .ref b)]) hx hb dL_law_1461 hl (by decide) rfl (fun ls hl => ?_)
    refine lv_aload_n hx hb dL_law_1463 rfl (lv_at hl 4 rfl) ?_
    refine lv_aload_n hx hb dL_law_1464 rfl (lv_at hl 6 rfl) ?_
    refine lv_iload hx hb dL_law_1465 (lv_at hl 1 rfl) ?_
    refine lv_iconst (v := 1) hx hb dL_law_1467 (by decide) ?_
    refine lv_iadd hx hb dL_law_1468 ?_
    refine my_topi (y := nI (4 * n + 1)) (nI_add (4 * n) 1) ?_
    refine va_sld hx hb hX hbl hbA hS (vp_in_nI (n := 4 * n + 1) (by omega) (by omega)) dL_law_1469 ?_
    refine my_topi (y := xs (4 * n + 1)) (congrArg xs (nI_clamp (by omega))) ?_
    have hPc := hP.sub (ws' := (WM cy am r)) [2, 3, 4, 5, 6, 7, 8, 9, 10, 11, 12] rfl
    have hDc := hD.sub (ws' := (WM cy am r)) [2, 3, 4, 5, 6, 7, 8, 9, 10, 11, 12] (by decide) rfl
    have hFc := va_free (wc := (WM cy am r)) hD hS hA [2, 3, 4, 5, 6, 7, 8, 9, 10, 11, 12] rfl
    refine va_calli (va_runV (As := [.int (xs (4 * n + 1))]) (rest := []) ⟨hx, hb, hml, hown, hts⟩ (k_X8_leavesIn l dC dI cy nb am r ((xs (4 * n + 1))) x (r2) H.size e1) (cwV 1 hts (gV mw_1326 mw_1327 mw_1328 mw_5 mw_1329) rfl rfl rfl (by decide +kernel) ⟨Nat.le_of_ble_eq_true rfl, Nat.le_of_ble_eq_true rfl⟩) (my_preV hPc hK hDc hE hS hFc (va_recv (q := (RX8, TX8, 23)) hK hP (ci := 8) (q0 := 2) rfl rfl)) rfl rfl hl.1 rfl (lv_room (Nat.le_of_ble_eq_true rfl)) dL_law_1470 ⟨by show _ ≤ 601024; omega, by show _ ≤ 7293034; omega⟩) hS (fun q _ h => hFc q h) hFc (fun rm9 u9 t9 H1 locs ht hvm hwm hB hz1 hk1 hS => ?_)
    obtain ⟨hP1, hD1⟩ := hB
    rw [ht] at hP1
    obtain ⟨hP, hD⟩ := va_joinQ (X := XLW cy o3 o4 am (vp_updL f3 ((0 : Int32).toNatClampNeg) (x.toInt64)) f4 r) (cx := (WM cy am r)) (wr := [(o3, eL cy (vp_updL f3 ((0 : Int32).toNatClampNeg) (x.toInt64))), (o4, eD cy f4)]) (w1 := (WM cy am (r2))) (pl := WC cy ad ks g c2) hP hD [2, 3, 4, 5, 6, 7, 8, 9, 10, 11, 12] [0, 1] rfl rfl (by decide) (by decide) hk1 hFc hP1 hD1
    have hP : va_P (dC, dI) vwCl (XLW cy o3 o4 am (vp_updL f3 ((0 : Int32).toNatClampNeg) (x.toInt64)) f4 r2 ++ WC cy ad ks g c2) H1 := hP
    have hD : va_D (fun q : Nat => s.heap.size ≤ q) (XLW cy o3 o4 am (vp_updL f3 ((0 : Int32).toNatClampNeg) (x.toInt64)) f4 r2 ++ WC cy ad ks g c2) := hD
    generalize H1 = H at hP hS ⊢
    clear hP1 hD1 hPc hDc hFc hk1 hz1 hvm ht
    refine my_topi hwm ?_
    refine lv_istore (lv' := [(7, .int x), (6, .int rw9), (5, .int (nI (4 * n))), (4, .ref o4), (3, .ref o3), (2, .ref (am 0)), (1, .ref (ad .cl)), (0, .ref b)]) hx hb dL_law_1473 hl (by decide) rfl (fun ls hl => ?_)
    refine lv_goto (tgt := 1819) hx hb dL_law_1475 (by decide) ?_
    refine W.widen (k := cells + 603) (n := slots + 9640) (by omega) (by omega) ?_
    exact K H locs ls ⟨ad, ks, g, c2, r2, (vp_updL f3 ((0 : Int32).toNatClampNeg) (x.toInt64)), f4, hk, e3.mono (by omega) (by omega) (by omega), hP, hD, hS, lv_sub hl [2, 3, 4, 5, 6, 7] rfl⟩
  · have e2 : C7_leavesIn g u (xs (4 * n + 1)) = some (.inl (nI (k + 0))) := e2
    generalize hxx : (nI (k + 0)) = xk at e2
    have hxk : xk = 1 := x1_leavesIn e2
    refine lv_aload_n hx hb dL_law_1450 rfl (lv_at hl 4 rfl) ?_
    refine lv_aload_n hx hb dL_law_1451 rfl (lv_at hl 5 rfl) ?_
    refine lv_iload hx hb dL_law_1452 (lv_at hl 0 rfl) ?_
    refine lv_iconst (v := 1) hx hb dL_law_1454 (by decide) ?_
    refine lv_iadd hx hb dL_law_1455 ?_
    refine my_topi (y := nI (4 * n + 1)) (nI_add (4 * n) 1) ?_
    refine va_sld hx hb hX hbl hbA hS (vp_in_nI (n := 4 * n + 1) (by omega) (by omega)) dL_law_1456 ?_
    refine my_topi (y := xs (4 * n + 1)) (congrArg xs (nI_clamp (by omega))) ?_
    refine lv_aload_n hx hb dL_law_1457 rfl (lv_at hl 2 rfl) ?_
    have hPc : va_P (dC, dI) vwCl ([(o3, eL cy f3)] ++ WC cy ad ks g u) H := hP.part (X := XLW cy o3 o4 am f3 f4 r) (cx := [(o3, eL cy f3)]) [0] rfl
    have hDc : va_D (fun q : Nat => s.heap.size ≤ q) ([(o3, eL cy f3)] ++ WC cy ad ks g u) := hD.part (X := XLW cy o3 o4 am f3 f4 r) (cx := [(o3, eL cy f3)]) [0] (by decide) rfl
    have hFc : ∀ q, va_A ([(o3, eL cy f3)] ++ WC cy ad ks g u) H.size q → s.heap.size ≤ q := va_freeP (X := XLW cy o3 o4 am f3 f4 r) (cx := [(o3, eL cy f3)]) hD hS hA [0] rfl
    refine vx_calli (vx_runSX (As := [.ref (ad .cl), .int (xs (4 * n + 1)), .ref o3]) (rest := []) ⟨hx, hb, hml, hown, hts⟩ (ct_leavesIn l hst dC dI cy nb ad ks g hk u ((xs (4 * n + 1))) o3 f3 xk H.size hxk e2) (vx_cwSW 3 hts (gSH mw_1294 mw_1295 mw_562 mw_1296) rfl rfl rfl (by decide +kernel) ⟨Nat.le_of_ble_eq_true rfl, Nat.le_of_ble_eq_true rfl⟩) (my_preS hPc hK hDc hE hS hFc) rfl rfl hl.1 rfl (lv_room (Nat.le_of_ble_eq_true rfl)) dL_law_1458 ⟨by show _ ≤ 601024; omega, by show _ ≤ 7293034; omega⟩) hS (fun q _ h => hFc q h) hFc (fun q _ h => hFc q h) (fun E9 ce9 q9 u9 t9 H1 locs1 ht9 hvm9 hp9 _ _ _ _ _ _ _ => hp9.elim) (fun rw9 u9 t9 H1 locs ht hvm hw hB hz1 hk1 hS => ?_)
    obtain ⟨hP1, hD1⟩ := hB
    rw [ht] at hP1
    obtain ⟨hP, hD⟩ := va_joinP (X := XLW cy o3 o4 am f3 f4 r) (cx := [(o3, eL cy f3)]) (wr := ((o4, eD cy f4) :: WM cy am r)) (rx := [(o3, eL cy f3)]) (pl := WC cy ad ks g u) (pl1 := WC cy ad ks g u) hP hD [0] [1, 2, 3, 4, 5, 6, 7, 8, 9, 10, 11, 12] rfl rfl (by decide) (by decide) hk1 hFc hP1 hD1
    have hP : va_P (dC, dI) vwCl (XLW cy o3 o4 am f3 f4 r ++ WC cy ad ks g u) H1 := hP.part (X := ((o4, eD cy f4) :: WM cy am r) ++ [(o3, eL cy f3)]) (cx := XLW cy o3 o4 am f3 f4 r) [12, 0, 1, 2, 3, 4, 5, 6, 7, 8, 9, 10, 11] rfl
    have hD : va_D (fun q : Nat => s.heap.size ≤ q) (XLW cy o3 o4 am f3 f4 r ++ WC cy ad ks g u) := hD.part (X := ((o4, eD cy f4) :: WM cy am r) ++ [(o3, eL cy f3)]) (cx := XLW cy o3 o4 am f3 f4 r) [12, 0, 1, 2, 3, 4, 5, 6, 7, 8, 9, 10, 11] (by decide) rfl
    generalize H1 = H at hP hS ⊢
    clear hP1 hD1 hPc hDc hFc hk1 hz1 hvm ht
    refine lv_istore (lv' := [(6, .int rw9), (5, .int (nI (4 * n))), (4, .ref o4), (3, .ref o3), (2, .ref (am 0)), (1, .ref (ad .cl)), (0, .ref b)]) hx hb dL_law_1461 hl (by decide) rfl (fun ls hl => ?_)
    refine lv_aload_n hx hb dL_law_1463 rfl (lv_at hl 4 rfl) ?_
    refine lv_aload_n hx hb dL_law_1464 rfl (lv_at hl 6 rfl) ?_
    refine lv_iload hx hb dL_law_1465 (lv_at hl 1 rfl) ?_
    refine lv_iconst (v := 1) hx hb dL_law_1467 (by decide) ?_
    refine lv_iadd hx hb dL_law_1468 ?_
    refine my_topi (y := nI (4 * n + 1)) (nI_add (4 * n) 1) ?_
    refine va_sld hx hb hX hbl hbA hS (vp_in_nI (n := 4 * n + 1) (by omega) (by omega)) dL_law_1469 ?_
    refine my_topi (y := xs (4 * n + 1)) (congrArg xs (nI_clamp (by omega))) ?_
    have hPc := hP.sub (ws' := (WM cy am r)) [2, 3, 4, 5, 6, 7, 8, 9, 10, 11, 12] rfl
    have hDc := hD.sub (ws' := (WM cy am r)) [2, 3, 4, 5, 6, 7, 8, 9, 10, 11, 12] (by decide) rfl
    have hFc := va_free (wc := (WM cy am r)) hD hS hA [2, 3, 4, 5, 6, 7, 8, 9, 10, 11, 12] rfl
    refine va_calli (va_runV (As := [.int (xs (4 * n + 1))]) (rest := []) ⟨hx, hb, hml, hown, hts⟩ (k_X8_leavesIn l dC dI cy nb am r ((xs (4 * n + 1))) (nI 0) (th r k) H.size e1) (cwV 1 hts (gV mw_1326 mw_1327 mw_1328 mw_5 mw_1329) rfl rfl rfl (by decide +kernel) ⟨Nat.le_of_ble_eq_true rfl, Nat.le_of_ble_eq_true rfl⟩) (my_preV hPc hK hDc hE hS hFc (va_recv (q := (RX8, TX8, 23)) hK hP (ci := 8) (q0 := 2) rfl rfl)) rfl rfl hl.1 rfl (lv_room (Nat.le_of_ble_eq_true rfl)) dL_law_1470 ⟨by show _ ≤ 601024; omega, by show _ ≤ 7293034; omega⟩) hS (fun q _ h => hFc q h) hFc (fun rm9 u9 t9 H1 locs ht hvm hwm hB hz1 hk1 hS => ?_)
    obtain ⟨hP1, hD1⟩ := hB
    rw [ht] at hP1
    obtain ⟨hP, hD⟩ := va_joinQ (X := XLW cy o3 o4 am f3 f4 r) (cx := (WM cy am r)) (wr := [(o3, eL cy f3), (o4, eD cy f4)]) (w1 := (WM cy am (th r k))) (pl := WC cy ad ks g u) hP hD [2, 3, 4, 5, 6, 7, 8, 9, 10, 11, 12] [0, 1] rfl rfl (by decide) (by decide) hk1 hFc hP1 hD1
    have hP : va_P (dC, dI) vwCl (XLW cy o3 o4 am f3 f4 (th r k) ++ WC cy ad ks g u) H1 := hP
    have hD : va_D (fun q : Nat => s.heap.size ≤ q) (XLW cy o3 o4 am f3 f4 (th r k) ++ WC cy ad ks g u) := hD
    generalize H1 = H at hP hS ⊢
    clear hP1 hD1 hPc hDc hFc hk1 hz1 hvm ht
    refine my_topi hwm ?_
    refine lv_istore (lv' := [(7, .int (nI 0)), (6, .int rw9), (5, .int (nI (4 * n))), (4, .ref o4), (3, .ref o3), (2, .ref (am 0)), (1, .ref (ad .cl)), (0, .ref b)]) hx hb dL_law_1473 hl (by decide) rfl (fun ls hl => ?_)
    refine lv_goto (tgt := 1819) hx hb dL_law_1475 (by decide) ?_
    refine W.widen (k := cells + 603) (n := slots + 9640) (by omega) (by omega) ?_
    exact K H locs ls ⟨ad, ks, g, u, (th r k), f3, f4, hk, (hGI.thr).mono (by omega) (by omega) (by omega), hP, hD, hS, lv_sub hl [2, 3, 4, 5, 6, 7] rfl⟩
set_option maxHeartbeats 8000000 in
set_option maxRecDepth 100000 in
theorem law_c38 {p : Program} {e : Env} {s : State} {m : MethodId} {below : List Frame} {meth : Method} {c : Code} (l : Launch) (hst : l.stackTraces = false) {b L : Nat} {xs : Nat → Int32} (dC : Nat → ClassId) (dI : Nat → Nat → Nat) (cy : Nat → ClassId) (nb : Nat → Nat) (o3 o4 : Nat) (am : Nat → Nat) {n : Nat} (hn : n < 512) (hL : 4 * n + 4 ≤ L) (hL2 : L ≤ 2048) (C0 : LX p s m meth c b L xs dC dI cy nb) {Q : State → Prop} {H : Heap} {locs : List Loc} {ls : Array Slot} {cells slots : Nat} (hc : cells ≤ 400000) (hs : slots ≤ 6000000) (h : LSt s dC dI cy nb b o3 o4 am n (4 * n) H locs ls) (K : ∀ (H : Heap) (locs : List Loc) (ls : Array Slot), LSt s dC dI cy nb b o3 o4 am (n + 1) (4 * n) H locs ls → W p l e room_1 s m #[Value.ref b] below meth c H locs (cells + 603) (slots + 9640) Q (F0 m 1819 ls [])) : W p l e room_1 s m #[Value.ref b] below meth c H locs cells slots Q (F0 m 1478 ls []) := by
  obtain ⟨hx, hb, hr, hml, hown, hts, hX, hbl, hlocks, hK, hE⟩ := C0
  have hA : ∀ q : Nat, s.heap.size ≤ q → (fun q : Nat => s.heap.size ≤ q) q := fun _ h => h
  have hbA : ¬ (fun q : Nat => s.heap.size ≤ q) b := Nat.not_le.mpr hbl
  obtain ⟨ad, ks, g, u, r, f3, f4, hk, hGI, hP, hD, hS, hl⟩ := h
  have h9 : CT (F8_lotIn r (xs (4 * n + 1))) (C7_lotIn g u (xs (4 * n + 1))) r g 0 (2001 * n) (602 * n) := a_lotIn hGI (by omega) (by omega)
  rcases h9 with ⟨x, r2, c2, e1, e2, e3, e6⟩ | ⟨k, k1, k2, e1, e2⟩
  · refine lv_aload_n hx hb dL_law_1478 rfl (lv_at hl 4 rfl) ?_
    refine lv_aload_n hx hb dL_law_1479 rfl (lv_at hl 5 rfl) ?_
    refine lv_iload hx hb dL_law_1480 (lv_at hl 0 rfl) ?_
    refine lv_iconst (v := 1) hx hb dL_law_1482 (by decide) ?_
    refine lv_iadd hx hb dL_law_1483 ?_
    refine my_topi (y := nI (4 * n + 1)) (nI_add (4 * n) 1) ?_
    refine va_sld hx hb hX hbl hbA hS (vp_in_nI (n := 4 * n + 1) (by omega) (by omega)) dL_law_1484 ?_
    refine my_topi (y := xs (4 * n + 1)) (congrArg xs (nI_clamp (by omega))) ?_
    refine lv_aload_n hx hb dL_law_1485 rfl (lv_at hl 2 rfl) ?_
    have hPc : va_P (dC, dI) vwCl ([(o3, eL cy f3)] ++ WC cy ad ks g u) H := hP.part (X := XLW cy o3 o4 am f3 f4 r) (cx := [(o3, eL cy f3)]) [0] rfl
    have hDc : va_D (fun q : Nat => s.heap.size ≤ q) ([(o3, eL cy f3)] ++ WC cy ad ks g u) := hD.part (X := XLW cy o3 o4 am f3 f4 r) (cx := [(o3, eL cy f3)]) [0] (by decide) rfl
    have hFc : ∀ q, va_A ([(o3, eL cy f3)] ++ WC cy ad ks g u) H.size q → s.heap.size ≤ q := va_freeP (X := XLW cy o3 o4 am f3 f4 r) (cx := [(o3, eL cy f3)]) hD hS hA [0] rfl
    refine vx_calli (vx_runSX (As := [.ref (ad .cl), .int (xs (4 * n + 1)), .ref o3]) (rest := []) ⟨hx, hb, hml, hown, hts⟩ (cn_lotIn l hst dC dI cy nb ad ks g hk u ((xs (4 * n + 1))) o3 f3 x c2 H.size e2) (vx_cwSW 3 hts (gSH mw_1346 mw_1347 mw_562 mw_1348) rfl rfl rfl (by decide +kernel) ⟨Nat.le_of_ble_eq_true rfl, Nat.le_of_ble_eq_true rfl⟩) (my_preS hPc hK hDc hE hS hFc) rfl rfl hl.1 rfl (lv_room (Nat.le_of_ble_eq_true rfl)) dL_law_1486 ⟨by show _ ≤ 601024; omega, by show _ ≤ 7293034; omega⟩) hS (fun q _ h => hFc q h) hFc (fun q _ h => hFc q h) (fun E9 ce9 q9 u9 t9 H1 locs1 ht9 hvm9 hp9 _ _ _ _ _ _ _ => hp9.elim) (fun rw9 u9 t9 H1 locs ht hvm hw hB hz1 hk1 hS => ?_)
    obtain ⟨hP1, hD1⟩ := hB
    rw [ht] at hP1
    obtain ⟨hP, hD⟩ := va_joinP (X := XLW cy o3 o4 am f3 f4 r) (cx := [(o3, eL cy f3)]) (wr := ((o4, eD cy f4) :: WM cy am r)) (rx := [(o3, eL cy (vp_updL f3 ((0 : Int32).toNatClampNeg) (x.toInt64)))]) (pl := WC cy ad ks g u) (pl1 := WC cy ad ks g c2) hP hD [0] [1, 2, 3, 4, 5, 6, 7, 8, 9, 10, 11, 12] rfl rfl (by decide) (by decide) hk1 hFc hP1 hD1
    have hP : va_P (dC, dI) vwCl (XLW cy o3 o4 am (vp_updL f3 ((0 : Int32).toNatClampNeg) (x.toInt64)) f4 r ++ WC cy ad ks g c2) H1 := hP.part (X := ((o4, eD cy f4) :: WM cy am r) ++ [(o3, eL cy (vp_updL f3 ((0 : Int32).toNatClampNeg) (x.toInt64)))]) (cx := XLW cy o3 o4 am (vp_updL f3 ((0 : Int32).toNatClampNeg) (x.toInt64)) f4 r) [12, 0, 1, 2, 3, 4, 5, 6, 7, 8, 9, 10, 11] rfl
    have hD : va_D (fun q : Nat => s.heap.size ≤ q) (XLW cy o3 o4 am (vp_updL f3 ((0 : Int32).toNatClampNeg) (x.toInt64)) f4 r ++ WC cy ad ks g c2) := hD.part (X := ((o4, eD cy f4) :: WM cy am r) ++ [(o3, eL cy (vp_updL f3 ((0 : Int32).toNatClampNeg) (x.toInt64)))]) (cx := XLW cy o3 o4 am (vp_updL f3 ((0 : Int32).toNatClampNeg) (x.toInt64)) f4 r) [12, 0, 1, 2, 3, 4, 5, 6, 7, 8, 9, 10, 11] (by decide) rfl
    generalize H1 = H at hP hS ⊢
    clear hP1 hD1 hPc hDc hFc hk1 hz1 hvm ht
    refine lv_istore (lv' := [(6, .int rw9), (5, .int (nI (4 * n))), (4, .ref o4), (3, .ref o3), (2, .ref (am 0)), (1, .ref (ad .cl)), (0, .ref b)]) hx hb dL_law_1489 hl (by decide) rfl (fun ls hl => ?_)
    refine lv_aload_n hx hb dL_law_1491 rfl (lv_at hl 4 rfl) ?_
    refine lv_aload_n hx hb dL_law_1492 rfl (lv_at hl 6 rfl) ?_
    refine lv_iload hx hb dL_law_1493 (lv_at hl 1 rfl) ?_
    refine lv_iconst (v := 1) hx hb dL_law_1495 (by decide) ?_
    refine lv_iadd hx hb dL_law_1496 ?_
    refine my_topi (y := nI (4 * n + 1)) (nI_add (4 * n) 1) ?_
    refine va_sld hx hb hX hbl hbA hS (vp_in_nI (n := 4 * n + 1) (by omega) (by omega)) dL_law_1497 ?_
    refine my_topi (y := xs (4 * n + 1)) (congrArg xs (nI_clamp (by omega))) ?_
    have hPc := hP.sub (ws' := (WM cy am r)) [2, 3, 4, 5, 6, 7, 8, 9, 10, 11, 12] rfl
    have hDc := hD.sub (ws' := (WM cy am r)) [2, 3, 4, 5, 6, 7, 8, 9, 10, 11, 12] (by decide) rfl
    have hFc := va_free (wc := (WM cy am r)) hD hS hA [2, 3, 4, 5, 6, 7, 8, 9, 10, 11, 12] rfl
    refine va_calli (va_runV (As := [.int (xs (4 * n + 1))]) (rest := []) ⟨hx, hb, hml, hown, hts⟩ (k_X8_lotIn l dC dI cy nb am r ((xs (4 * n + 1))) x (r2) H.size e1) (cwV 1 hts (gV mw_1354 mw_1355 mw_1356 mw_5 mw_1357) rfl rfl rfl (by decide +kernel) ⟨Nat.le_of_ble_eq_true rfl, Nat.le_of_ble_eq_true rfl⟩) (my_preV hPc hK hDc hE hS hFc (va_recv (q := (RX8, TX8, 23)) hK hP (ci := 8) (q0 := 2) rfl rfl)) rfl rfl hl.1 rfl (lv_room (Nat.le_of_ble_eq_true rfl)) dL_law_1498 ⟨by show _ ≤ 601024; omega, by show _ ≤ 7293034; omega⟩) hS (fun q _ h => hFc q h) hFc (fun rm9 u9 t9 H1 locs ht hvm hwm hB hz1 hk1 hS => ?_)
    obtain ⟨hP1, hD1⟩ := hB
    rw [ht] at hP1
    obtain ⟨hP, hD⟩ := va_joinQ (X := XLW cy o3 o4 am (vp_updL f3 ((0 : Int32).toNatClampNeg) (x.toInt64)) f4 r) (cx := (WM cy am r)) (wr := [(o3, eL cy (vp_updL f3 ((0 : Int32).toNatClampNeg) (x.toInt64))), (o4, eD cy f4)]) (w1 := (WM cy am (r2))) (pl := WC cy ad ks g c2) hP hD [2, 3, 4, 5, 6, 7, 8, 9, 10, 11, 12] [0, 1] rfl rfl (by decide) (by decide) hk1 hFc hP1 hD1
    have hP : va_P (dC, dI) vwCl (XLW cy o3 o4 am (vp_updL f3 ((0 : Int32).toNatClampNeg) (x.toInt64)) f4 r2 ++ WC cy ad ks g c2) H1 := hP
    have hD : va_D (fun q : Nat => s.heap.size ≤ q) (XLW cy o3 o4 am (vp_updL f3 ((0 : Int32).toNatClampNeg) (x.toInt64)) f4 r2 ++ WC cy ad ks g c2) := hD
    generalize H1 = H at hP hS ⊢
    clear hP1 hD1 hPc hDc hFc hk1 hz1 hvm ht
    refine my_topi hwm ?_
    refine lv_istore (lv' := [(7, .int x), (6, .int rw9), (5, .int (nI (4 * n))), (4, .ref o4), (3, .ref o3), (2, .ref (am 0)), (1, .ref (ad .cl)), (0, .ref b)]) hx hb dL_law_1501 hl (by decide) rfl (fun ls hl => ?_)
    refine lv_goto (tgt := 1819) hx hb dL_law_1503 (by decide) ?_
    refine W.widen (k := cells + 603) (n := slots + 9640) (by omega) (by omega) ?_
    exact K H locs ls ⟨ad, ks, g, c2, r2, (vp_updL f3 ((0 : Int32).toNatClampNeg) (x.toInt64)), f4, hk, e3.mono (by omega) (by omega) (by omega), hP, hD, hS, lv_sub hl [2, 3, 4, 5, 6, 7] rfl⟩
  · have e2 : C7_lotIn g u (xs (4 * n + 1)) = some (.inl (nI (k + 0))) := e2
    generalize hxx : (nI (k + 0)) = xk at e2
    have hxk : xk = 1 := x1_lotIn e2
    refine lv_aload_n hx hb dL_law_1478 rfl (lv_at hl 4 rfl) ?_
    refine lv_aload_n hx hb dL_law_1479 rfl (lv_at hl 5 rfl) ?_
    refine lv_iload hx hb dL_law_1480 (lv_at hl 0 rfl) ?_
    refine lv_iconst (v := 1) hx hb dL_law_1482 (by decide) ?_
    refine lv_iadd hx hb dL_law_1483 ?_
    refine my_topi (y := nI (4 * n + 1)) (nI_add (4 * n) 1) ?_
    refine va_sld hx hb hX hbl hbA hS (vp_in_nI (n := 4 * n + 1) (by omega) (by omega)) dL_law_1484 ?_
    refine my_topi (y := xs (4 * n + 1)) (congrArg xs (nI_clamp (by omega))) ?_
    refine lv_aload_n hx hb dL_law_1485 rfl (lv_at hl 2 rfl) ?_
    have hPc : va_P (dC, dI) vwCl ([(o3, eL cy f3)] ++ WC cy ad ks g u) H := hP.part (X := XLW cy o3 o4 am f3 f4 r) (cx := [(o3, eL cy f3)]) [0] rfl
    have hDc : va_D (fun q : Nat => s.heap.size ≤ q) ([(o3, eL cy f3)] ++ WC cy ad ks g u) := hD.part (X := XLW cy o3 o4 am f3 f4 r) (cx := [(o3, eL cy f3)]) [0] (by decide) rfl
    have hFc : ∀ q, va_A ([(o3, eL cy f3)] ++ WC cy ad ks g u) H.size q → s.heap.size ≤ q := va_freeP (X := XLW cy o3 o4 am f3 f4 r) (cx := [(o3, eL cy f3)]) hD hS hA [0] rfl
    refine vx_calli (vx_runSX (As := [.ref (ad .cl), .int (xs (4 * n + 1)), .ref o3]) (rest := []) ⟨hx, hb, hml, hown, hts⟩ (ct_lotIn l hst dC dI cy nb ad ks g hk u ((xs (4 * n + 1))) o3 f3 xk H.size hxk e2) (vx_cwSW 3 hts (gSH mw_1346 mw_1347 mw_562 mw_1348) rfl rfl rfl (by decide +kernel) ⟨Nat.le_of_ble_eq_true rfl, Nat.le_of_ble_eq_true rfl⟩) (my_preS hPc hK hDc hE hS hFc) rfl rfl hl.1 rfl (lv_room (Nat.le_of_ble_eq_true rfl)) dL_law_1486 ⟨by show _ ≤ 601024; omega, by show _ ≤ 7293034; omega⟩) hS (fun q _ h => hFc q h) hFc (fun q _ h => hFc q h) (fun E9 ce9 q9 u9 t9 H1 locs1 ht9 hvm9 hp9 _ _ _ _ _ _ _ => hp9.elim) (fun rw9 u9 t9 H1 locs ht hvm hw hB hz1 hk1 hS => ?_)
    obtain ⟨hP1, hD1⟩ := hB
    rw [ht] at hP1
    obtain ⟨hP, hD⟩ := va_joinP (X := XLW cy o3 o4 am f3 f4 r) (cx := [(o3, eL cy f3)]) (wr := ((o4, eD cy f4) :: WM cy am r)) (rx := [(o3, eL cy f3)]) (pl := WC cy ad ks g u) (pl1 := WC cy ad ks g u) hP hD [0] [1, 2, 3, 4, 5, 6, 7, 8, 9, 10, 11, 12] rfl rfl (by decide) (by decide) hk1 hFc hP1 hD1
    have hP : va_P (dC, dI) vwCl (XLW cy o3 o4 am f3 f4 r ++ WC cy ad ks g u) H1 := hP.part (X := ((o4, eD cy f4) :: WM cy am r) ++ [(o3, eL cy f3)]) (cx := XLW cy o3 o4 am f3 f4 r) [12, 0, 1, 2, 3, 4, 5, 6, 7, 8, 9, 10, 11] rfl
    have hD : va_D (fun q : Nat => s.heap.size ≤ q) (XLW cy o3 o4 am f3 f4 r ++ WC cy ad ks g u) := hD.part (X := ((o4, eD cy f4) :: WM cy am r) ++ [(o3, eL cy f3)]) (cx := XLW cy o3 o4 am f3 f4 r) [12, 0, 1, 2, 3, 4, 5, 6, 7, 8, 9, 10, 11] (by decide) rfl
    generalize H1 = H at hP hS ⊢
    clear hP1 hD1 hPc hDc hFc hk1 hz1 hvm ht
    refine lv_istore (lv' := [(6, .int rw9), (5, .int (nI (4 * n))), (4, .ref o4), (3, .ref o3), (2, .ref (am 0)), (1, .ref (ad .cl)), (0, .ref b)]) hx hb dL_law_1489 hl (by decide) rfl (fun ls hl => ?_)
    refine lv_aload_n hx hb dL_law_1491 rfl (lv_at hl 4 rfl) ?_
    refine lv_aload_n hx hb dL_law_1492 rfl (lv_at hl 6 rfl) ?_
    refine lv_iload hx hb dL_law_1493 (lv_at hl 1 rfl) ?_
    refine lv_iconst (v := 1) hx hb dL_law_1495 (by decide) ?_
    refine lv_iadd hx hb dL_law_1496 ?_
    refine my_topi (y := nI (4 * n + 1)) (nI_add (4 * n) 1) ?_
    refine va_sld hx hb hX hbl hbA hS (vp_in_nI (n := 4 * n + 1) (by omega) (by omega)) dL_law_1497 ?_
    refine my_topi (y := xs (4 * n + 1)) (congrArg xs (nI_clamp (by omega))) ?_
    have hPc := hP.sub (ws' := (WM cy am r)) [2, 3, 4, 5, 6, 7, 8, 9, 10, 11, 12] rfl
    have hDc := hD.sub (ws' := (WM cy am r)) [2, 3, 4, 5, 6, 7, 8, 9, 10, 11, 12] (by decide) rfl
    have hFc := va_free (wc := (WM cy am r)) hD hS hA [2, 3, 4, 5, 6, 7, 8, 9, 10, 11, 12] rfl
    refine va_calli (va_runV (As := [.int (xs (4 * n + 1))]) (rest := []) ⟨hx, hb, hml, hown, hts⟩ (k_X8_lotIn l dC dI cy nb am r ((xs (4 * n + 1))) (nI 0) (th r k) H.size e1) (cwV 1 hts (gV mw_1354 mw_1355 mw_1356 mw_5 mw_1357) rfl rfl rfl (by decide +kernel) ⟨Nat.le_of_ble_eq_true rfl, Nat.le_of_ble_eq_true rfl⟩) (my_preV hPc hK hDc hE hS hFc (va_recv (q := (RX8, TX8, 23)) hK hP (ci := 8) (q0 := 2) rfl rfl)) rfl rfl hl.1 rfl (lv_room (Nat.le_of_ble_eq_true rfl)) dL_law_1498 ⟨by show _ ≤ 601024; omega, by show _ ≤ 7293034; omega⟩) hS (fun q _ h => hFc q h) hFc (fun rm9 u9 t9 H1 locs ht hvm hwm hB hz1 hk1 hS => ?_)
    obtain ⟨hP1, hD1⟩ := hB
    rw [ht] at hP1
    obtain ⟨hP, hD⟩ := va_joinQ (X := XLW cy o3 o4 am f3 f4 r) (cx := (WM cy am r)) (wr := [(o3, eL cy f3), (o4, eD cy f4)]) (w1 := (WM cy am (th r k))) (pl := WC cy ad ks g u) hP hD [2, 3, 4, 5, 6, 7, 8, 9, 10, 11, 12] [0, 1] rfl rfl (by decide) (by decide) hk1 hFc hP1 hD1
    have hP : va_P (dC, dI) vwCl (XLW cy o3 o4 am f3 f4 (th r k) ++ WC cy ad ks g u) H1 := hP
    have hD : va_D (fun q : Nat => s.heap.size ≤ q) (XLW cy o3 o4 am f3 f4 (th r k) ++ WC cy ad ks g u) := hD
    generalize H1 = H at hP hS ⊢
    clear hP1 hD1 hPc hDc hFc hk1 hz1 hvm ht
    refine my_topi hwm ?_
    refine lv_istore (lv' := [(7, .int (nI 0)), (6, .int rw9), (5, .int (nI (4 * n))), (4, .ref o4), (3, .ref o3), (2, .ref (am 0)), (1, .ref (ad .cl)), (0, .ref b)]) hx hb dL_law_1501 hl (by decide) rfl (fun ls hl => ?_)
    refine lv_goto (tgt := 1819) hx hb dL_law_1503 (by decide) ?_
    refine W.widen (k := cells + 603) (n := slots + 9640) (by omega) (by omega) ?_
    exact K H locs ls ⟨ad, ks, g, u, (th r k), f3, f4, hk, (hGI.thr).mono (by omega) (by omega) (by omega), hP, hD, hS, lv_sub hl [2, 3, 4, 5, 6, 7] rfl⟩
set_option maxHeartbeats 8000000 in
set_option maxRecDepth 100000 in
theorem law_c39 {p : Program} {e : Env} {s : State} {m : MethodId} {below : List Frame} {meth : Method} {c : Code} (l : Launch) (hst : l.stackTraces = false) {b L : Nat} {xs : Nat → Int32} (dC : Nat → ClassId) (dI : Nat → Nat → Nat) (cy : Nat → ClassId) (nb : Nat → Nat) (o3 o4 : Nat) (am : Nat → Nat) {n : Nat} (hn : n < 512) (hL : 4 * n + 4 ≤ L) (hL2 : L ≤ 2048) (C0 : LX p s m meth c b L xs dC dI cy nb) {Q : State → Prop} {H : Heap} {locs : List Loc} {ls : Array Slot} {cells slots : Nat} (hc : cells ≤ 400000) (hs : slots ≤ 6000000) (h : LSt s dC dI cy nb b o3 o4 am n (4 * n) H locs ls) (K : ∀ (H : Heap) (locs : List Loc) (ls : Array Slot), LSt s dC dI cy nb b o3 o4 am (n + 1) (4 * n) H locs ls → W p l e room_1 s m #[Value.ref b] below meth c H locs (cells + 603) (slots + 9640) Q (F0 m 1819 ls [])) : W p l e room_1 s m #[Value.ref b] below meth c H locs cells slots Q (F0 m 1506 ls []) := by
  obtain ⟨hx, hb, hr, hml, hown, hts, hX, hbl, hlocks, hK, hE⟩ := C0
  have hA : ∀ q : Nat, s.heap.size ≤ q → (fun q : Nat => s.heap.size ≤ q) q := fun _ h => h
  have hbA : ¬ (fun q : Nat => s.heap.size ≤ q) b := Nat.not_le.mpr hbl
  obtain ⟨ad, ks, g, u, r, f3, f4, hk, hGI, hP, hD, hS, hl⟩ := h
  have h9 : BT (F8_allIn r) (C7_allIn g u) g (2001 * n) (602 * n) := a_allIn hGI (by omega) (by omega)
  obtain ⟨x, r2, c2, e1, e2, e3, e6⟩ := h9
  refine lv_aload_n hx hb dL_law_1506 rfl (lv_at hl 4 rfl) ?_
  have hPc : va_P (dC, dI) vwCl (WC cy ad ks g u) H := hP.part (X := XLW cy o3 o4 am f3 f4 r) (cx := []) [] rfl
  have hDc : va_D (fun q : Nat => s.heap.size ≤ q) (WC cy ad ks g u) := hD.part (X := XLW cy o3 o4 am f3 f4 r) (cx := []) [] (by decide) rfl
  have hFc : ∀ q, va_A (WC cy ad ks g u) H.size q → s.heap.size ≤ q := va_freeP (X := XLW cy o3 o4 am f3 f4 r) (cx := []) hD hS hA [] rfl
  obtain ⟨q8, h8⟩ := wc_at (cy := cy) (ad := ad) (ks := ks) (g := g) (u := u) (κ := .cl) hk.1 True.intro
  refine va_calli (va_runV (As := []) (rest := []) ⟨hx, hb, hml, hown, hts⟩ (c_X7_allIn l dC dI cy nb ad ks g hk u  x c2 H.size e2) (cwV 0 hts (gV mw_1358 mw_1359 mw_1360 mw_2 mw_1361) rfl rfl rfl (by decide +kernel) ⟨Nat.le_of_ble_eq_true rfl, Nat.le_of_ble_eq_true rfl⟩) (my_preV hPc hK hDc hE hS hFc (va_recv (q := (RX7, TX7, 12)) hK hPc (ci := 7) (q0 := q8) rfl h8)) rfl rfl hl.1 rfl (lv_room (Nat.le_of_ble_eq_true rfl)) dL_law_1507 ⟨by show _ ≤ 601024; omega, by show _ ≤ 7293034; omega⟩) hS (fun q _ h => hFc q h) hFc (fun rw9 u9 t9 H1 locs ht hvm hw hB hz1 hk1 hS => ?_)
  clear h8
  obtain ⟨hP1, hD1⟩ := hB
  rw [ht] at hP1
  obtain ⟨hP, hD⟩ := va_joinP (X := XLW cy o3 o4 am f3 f4 r) (cx := []) (wr := XLW cy o3 o4 am f3 f4 r) (rx := []) (pl := WC cy ad ks g u) (pl1 := WC cy ad ks g c2) hP hD [] [0, 1, 2, 3, 4, 5, 6, 7, 8, 9, 10, 11, 12] rfl rfl (by decide) (by decide) hk1 hFc hP1 hD1
  have hP : va_P (dC, dI) vwCl (XLW cy o3 o4 am f3 f4 r ++ WC cy ad ks g c2) H1 := hP
  have hD : va_D (fun q : Nat => s.heap.size ≤ q) (XLW cy o3 o4 am f3 f4 r ++ WC cy ad ks g c2) := hD
  generalize H1 = H at hP hS ⊢
  clear hP1 hD1 hPc hDc hFc hk1 hz1 hvm ht
  refine my_topi hw ?_
  refine lv_pop hx hb dL_law_1510 rfl ?_
  refine lv_aload_n hx hb dL_law_1511 rfl (lv_at hl 3 rfl) ?_
  have hPc := hP.sub (ws' := (WM cy am r)) [2, 3, 4, 5, 6, 7, 8, 9, 10, 11, 12] rfl
  have hDc := hD.sub (ws' := (WM cy am r)) [2, 3, 4, 5, 6, 7, 8, 9, 10, 11, 12] (by decide) rfl
  have hFc := va_free (wc := (WM cy am r)) hD hS hA [2, 3, 4, 5, 6, 7, 8, 9, 10, 11, 12] rfl
  refine va_calli (va_runV (As := []) (rest := []) ⟨hx, hb, hml, hown, hts⟩ (k_X8_allIn l dC dI cy nb am r  x (r2) H.size e1) (cwV 0 hts (gV mw_1363 mw_1364 mw_1365 mw_5 mw_1366) rfl rfl rfl (by decide +kernel) ⟨Nat.le_of_ble_eq_true rfl, Nat.le_of_ble_eq_true rfl⟩) (my_preV hPc hK hDc hE hS hFc (va_recv (q := (RX8, TX8, 23)) hK hP (ci := 8) (q0 := 2) rfl rfl)) rfl rfl hl.1 rfl (lv_room (Nat.le_of_ble_eq_true rfl)) dL_law_1512 ⟨by show _ ≤ 601024; omega, by show _ ≤ 7293034; omega⟩) hS (fun q _ h => hFc q h) hFc (fun rm9 u9 t9 H1 locs ht hvm hwm hB hz1 hk1 hS => ?_)
  obtain ⟨hP1, hD1⟩ := hB
  rw [ht] at hP1
  obtain ⟨hP, hD⟩ := va_joinQ (X := XLW cy o3 o4 am f3 f4 r) (cx := (WM cy am r)) (wr := [(o3, eL cy f3), (o4, eD cy f4)]) (w1 := (WM cy am (r2))) (pl := WC cy ad ks g c2) hP hD [2, 3, 4, 5, 6, 7, 8, 9, 10, 11, 12] [0, 1] rfl rfl (by decide) (by decide) hk1 hFc hP1 hD1
  have hP : va_P (dC, dI) vwCl (XLW cy o3 o4 am f3 f4 r2 ++ WC cy ad ks g c2) H1 := hP
  have hD : va_D (fun q : Nat => s.heap.size ≤ q) (XLW cy o3 o4 am f3 f4 r2 ++ WC cy ad ks g c2) := hD
  generalize H1 = H at hP hS ⊢
  clear hP1 hD1 hPc hDc hFc hk1 hz1 hvm ht
  refine my_topi hwm ?_
  refine lv_pop hx hb dL_law_1515 rfl ?_
  refine lv_goto (tgt := 1819) hx hb dL_law_1516 (by decide) ?_
  refine W.widen (k := cells + 603) (n := slots + 9640) (by omega) (by omega) ?_
  exact K H locs ls ⟨ad, ks, g, c2, r2, f3, f4, hk, e3.mono (by omega) (by omega) (by omega), hP, hD, hS, lv_sub hl [0, 1, 2, 3, 4, 5] rfl⟩
set_option maxHeartbeats 8000000 in
set_option maxRecDepth 100000 in
theorem law_c40 {p : Program} {e : Env} {s : State} {m : MethodId} {below : List Frame} {meth : Method} {c : Code} (l : Launch) (hst : l.stackTraces = false) {b L : Nat} {xs : Nat → Int32} (dC : Nat → ClassId) (dI : Nat → Nat → Nat) (cy : Nat → ClassId) (nb : Nat → Nat) (o3 o4 : Nat) (am : Nat → Nat) {n : Nat} (hn : n < 512) (hL : 4 * n + 4 ≤ L) (hL2 : L ≤ 2048) (C0 : LX p s m meth c b L xs dC dI cy nb) {Q : State → Prop} {H : Heap} {locs : List Loc} {ls : Array Slot} {cells slots : Nat} (hc : cells ≤ 400000) (hs : slots ≤ 6000000) (h : LSt s dC dI cy nb b o3 o4 am n (4 * n) H locs ls) (K : ∀ (H : Heap) (locs : List Loc) (ls : Array Slot), LSt s dC dI cy nb b o3 o4 am (n + 1) (4 * n) H locs ls → W p l e room_1 s m #[Value.ref b] below meth c H locs (cells + 603) (slots + 9640) Q (F0 m 1819 ls [])) : W p l e room_1 s m #[Value.ref b] below meth c H locs cells slots Q (F0 m 1519 ls []) := by
  obtain ⟨hx, hb, hr, hml, hown, hts, hX, hbl, hlocks, hK, hE⟩ := C0
  have hA : ∀ q : Nat, s.heap.size ≤ q → (fun q : Nat => s.heap.size ≤ q) q := fun _ h => h
  have hbA : ¬ (fun q : Nat => s.heap.size ≤ q) b := Nat.not_le.mpr hbl
  obtain ⟨ad, ks, g, u, r, f3, f4, hk, hGI, hP, hD, hS, hl⟩ := h
  have h9 : CT (F8_leftIn r (xs (4 * n + 1))) (C7_leftIn g u (xs (4 * n + 1))) r g 1 (2001 * n) (602 * n) := a_leftIn hGI (by omega) (by omega)
  rcases h9 with ⟨x, r2, c2, e1, e2, e3, e6⟩ | ⟨k, k1, k2, e1, e2⟩
  · refine lv_aload_n hx hb dL_law_1519 rfl (lv_at hl 4 rfl) ?_
    refine lv_aload_n hx hb dL_law_1520 rfl (lv_at hl 5 rfl) ?_
    refine lv_iload hx hb dL_law_1521 (lv_at hl 0 rfl) ?_
    refine lv_iconst (v := 1) hx hb dL_law_1523 (by decide) ?_
    refine lv_iadd hx hb dL_law_1524 ?_
    refine my_topi (y := nI (4 * n + 1)) (nI_add (4 * n) 1) ?_
    refine va_sld hx hb hX hbl hbA hS (vp_in_nI (n := 4 * n + 1) (by omega) (by omega)) dL_law_1525 ?_
    refine my_topi (y := xs (4 * n + 1)) (congrArg xs (nI_clamp (by omega))) ?_
    refine lv_aload_n hx hb dL_law_1526 rfl (lv_at hl 2 rfl) ?_
    have hPc : va_P (dC, dI) vwCl ([(o3, eL cy f3)] ++ WC cy ad ks g u) H := hP.part (X := XLW cy o3 o4 am f3 f4 r) (cx := [(o3, eL cy f3)]) [0] rfl
    have hDc : va_D (fun q : Nat => s.heap.size ≤ q) ([(o3, eL cy f3)] ++ WC cy ad ks g u) := hD.part (X := XLW cy o3 o4 am f3 f4 r) (cx := [(o3, eL cy f3)]) [0] (by decide) rfl
    have hFc : ∀ q, va_A ([(o3, eL cy f3)] ++ WC cy ad ks g u) H.size q → s.heap.size ≤ q := va_freeP (X := XLW cy o3 o4 am f3 f4 r) (cx := [(o3, eL cy f3)]) hD hS hA [0] rfl
    refine vx_calli (vx_runSX (As := [.ref (ad .cl), .int (xs (4 * n + 1)), .ref o3]) (rest := []) ⟨hx, hb, hml, hown, hts⟩ (cn_leftIn l hst dC dI cy nb ad ks g hk u ((xs (4 * n + 1))) o3 f3 x c2 H.size e2) (vx_cwSW 3 hts (gSH mw_1367 mw_1368 mw_562 mw_1369) rfl rfl rfl (by decide +kernel) ⟨Nat.le_of_ble_eq_true rfl, Nat.le_of_ble_eq_true rfl⟩) (my_preS hPc hK hDc hE hS hFc) rfl rfl hl.1 rfl (lv_room (Nat.le_of_ble_eq_true rfl)) dL_law_1527 ⟨by show _ ≤ 601024; omega, by show _ ≤ 7293034; omega⟩) hS (fun q _ h => hFc q h) hFc (fun q _ h => hFc q h) (fun E9 ce9 q9 u9 t9 H1 locs1 ht9 hvm9 hp9 _ _ _ _ _ _ _ => hp9.elim) (fun rw9 u9 t9 H1 locs ht hvm hw hB hz1 hk1 hS => ?_)
    obtain ⟨hP1, hD1⟩ := hB
    rw [ht] at hP1
    obtain ⟨hP, hD⟩ := va_joinP (X := XLW cy o3 o4 am f3 f4 r) (cx := [(o3, eL cy f3)]) (wr := ((o4, eD cy f4) :: WM cy am r)) (rx := [(o3, eL cy (vp_updL f3 ((0 : Int32).toNatClampNeg) (x.toInt64)))]) (pl := WC cy ad ks g u) (pl1 := WC cy ad ks g c2) hP hD [0] [1, 2, 3, 4, 5, 6, 7, 8, 9, 10, 11, 12] rfl rfl (by decide) (by decide) hk1 hFc hP1 hD1
    have hP : va_P (dC, dI) vwCl (XLW cy o3 o4 am (vp_updL f3 ((0 : Int32).toNatClampNeg) (x.toInt64)) f4 r ++ WC cy ad ks g c2) H1 := hP.part (X := ((o4, eD cy f4) :: WM cy am r) ++ [(o3, eL cy (vp_updL f3 ((0 : Int32).toNatClampNeg) (x.toInt64)))]) (cx := XLW cy o3 o4 am (vp_updL f3 ((0 : Int32).toNatClampNeg) (x.toInt64)) f4 r) [12, 0, 1, 2, 3, 4, 5, 6, 7, 8, 9, 10, 11] rfl
    have hD : va_D (fun q : Nat => s.heap.size ≤ q) (XLW cy o3 o4 am (vp_updL f3 ((0 : Int32).toNatClampNeg) (x.toInt64)) f4 r ++ WC cy ad ks g c2) := hD.part (X := ((o4, eD cy f4) :: WM cy am r) ++ [(o3, eL cy (vp_updL f3 ((0 : Int32).toNatClampNeg) (x.toInt64)))]) (cx := XLW cy o3 o4 am (vp_updL f3 ((0 : Int32).toNatClampNeg) (x.toInt64)) f4 r) [12, 0, 1, 2, 3, 4, 5, 6, 7, 8, 9, 10, 11] (by decide) rfl
    generalize H1 = H at hP hS ⊢
    clear hP1 hD1 hPc hDc hFc hk1 hz1 hvm ht
    refine lv_istore (lv' := [(6, .int rw9), (5, .int (nI (4 * n))), (4, .ref o4), (3, .ref o3), (2, .ref (am 0)), (1, .ref (ad .cl)), (0, .ref b)]) hx hb dL_law_1530 hl (by decide) rfl (fun ls hl => ?_)
    refine lv_aload_n hx hb dL_law_1532 rfl (lv_at hl 4 rfl) ?_
    refine lv_aload_n hx hb dL_law_1533 rfl (lv_at hl 6 rfl) ?_
    refine lv_iload hx hb dL_law_1534 (lv_at hl 1 rfl) ?_
    refine lv_iconst (v := 1) hx hb dL_law_1536 (by decide) ?_
    refine lv_iadd hx hb dL_law_1537 ?_
    refine my_topi (y := nI (4 * n + 1)) (nI_add (4 * n) 1) ?_
    refine va_sld hx hb hX hbl hbA hS (vp_in_nI (n := 4 * n + 1) (by omega) (by omega)) dL_law_1538 ?_
    refine my_topi (y := xs (4 * n + 1)) (congrArg xs (nI_clamp (by omega))) ?_
    have hPc := hP.sub (ws' := (WM cy am r)) [2, 3, 4, 5, 6, 7, 8, 9, 10, 11, 12] rfl
    have hDc := hD.sub (ws' := (WM cy am r)) [2, 3, 4, 5, 6, 7, 8, 9, 10, 11, 12] (by decide) rfl
    have hFc := va_free (wc := (WM cy am r)) hD hS hA [2, 3, 4, 5, 6, 7, 8, 9, 10, 11, 12] rfl
    refine va_calli (va_runV (As := [.int (xs (4 * n + 1))]) (rest := []) ⟨hx, hb, hml, hown, hts⟩ (k_X8_leftIn l dC dI cy nb am r ((xs (4 * n + 1))) x (r2) H.size e1) (cwV 1 hts (gV mw_1378 mw_1379 mw_1380 mw_5 mw_1381) rfl rfl rfl (by decide +kernel) ⟨Nat.le_of_ble_eq_true rfl, Nat.le_of_ble_eq_true rfl⟩) (my_preV hPc hK hDc hE hS hFc (va_recv (q := (RX8, TX8, 23)) hK hP (ci := 8) (q0 := 2) rfl rfl)) rfl rfl hl.1 rfl (lv_room (Nat.le_of_ble_eq_true rfl)) dL_law_1539 ⟨by show _ ≤ 601024; omega, by show _ ≤ 7293034; omega⟩) hS (fun q _ h => hFc q h) hFc (fun rm9 u9 t9 H1 locs ht hvm hwm hB hz1 hk1 hS => ?_)
    obtain ⟨hP1, hD1⟩ := hB
    rw [ht] at hP1
    obtain ⟨hP, hD⟩ := va_joinQ (X := XLW cy o3 o4 am (vp_updL f3 ((0 : Int32).toNatClampNeg) (x.toInt64)) f4 r) (cx := (WM cy am r)) (wr := [(o3, eL cy (vp_updL f3 ((0 : Int32).toNatClampNeg) (x.toInt64))), (o4, eD cy f4)]) (w1 := (WM cy am (r2))) (pl := WC cy ad ks g c2) hP hD [2, 3, 4, 5, 6, 7, 8, 9, 10, 11, 12] [0, 1] rfl rfl (by decide) (by decide) hk1 hFc hP1 hD1
    have hP : va_P (dC, dI) vwCl (XLW cy o3 o4 am (vp_updL f3 ((0 : Int32).toNatClampNeg) (x.toInt64)) f4 r2 ++ WC cy ad ks g c2) H1 := hP
    have hD : va_D (fun q : Nat => s.heap.size ≤ q) (XLW cy o3 o4 am (vp_updL f3 ((0 : Int32).toNatClampNeg) (x.toInt64)) f4 r2 ++ WC cy ad ks g c2) := hD
    generalize H1 = H at hP hS ⊢
    clear hP1 hD1 hPc hDc hFc hk1 hz1 hvm ht
    refine my_topi hwm ?_
    refine lv_istore (lv' := [(7, .int x), (6, .int rw9), (5, .int (nI (4 * n))), (4, .ref o4), (3, .ref o3), (2, .ref (am 0)), (1, .ref (ad .cl)), (0, .ref b)]) hx hb dL_law_1542 hl (by decide) rfl (fun ls hl => ?_)
    refine lv_goto (tgt := 1819) hx hb dL_law_1544 (by decide) ?_
    refine W.widen (k := cells + 603) (n := slots + 9640) (by omega) (by omega) ?_
    exact K H locs ls ⟨ad, ks, g, c2, r2, (vp_updL f3 ((0 : Int32).toNatClampNeg) (x.toInt64)), f4, hk, e3.mono (by omega) (by omega) (by omega), hP, hD, hS, lv_sub hl [2, 3, 4, 5, 6, 7] rfl⟩
  · have e2 : C7_leftIn g u (xs (4 * n + 1)) = some (.inl (nI (k + 1))) := e2
    generalize hxx : (nI (k + 1)) = xk at e2
    have hxk : ¬ xk = 1 := by rw [← hxx]; exact nI_ne (b := 1) (by omega) (by omega) (by omega)
    refine lv_aload_n hx hb dL_law_1519 rfl (lv_at hl 4 rfl) ?_
    refine lv_aload_n hx hb dL_law_1520 rfl (lv_at hl 5 rfl) ?_
    refine lv_iload hx hb dL_law_1521 (lv_at hl 0 rfl) ?_
    refine lv_iconst (v := 1) hx hb dL_law_1523 (by decide) ?_
    refine lv_iadd hx hb dL_law_1524 ?_
    refine my_topi (y := nI (4 * n + 1)) (nI_add (4 * n) 1) ?_
    refine va_sld hx hb hX hbl hbA hS (vp_in_nI (n := 4 * n + 1) (by omega) (by omega)) dL_law_1525 ?_
    refine my_topi (y := xs (4 * n + 1)) (congrArg xs (nI_clamp (by omega))) ?_
    refine lv_aload_n hx hb dL_law_1526 rfl (lv_at hl 2 rfl) ?_
    have hPc : va_P (dC, dI) vwCl ([(o3, eL cy f3)] ++ WC cy ad ks g u) H := hP.part (X := XLW cy o3 o4 am f3 f4 r) (cx := [(o3, eL cy f3)]) [0] rfl
    have hDc : va_D (fun q : Nat => s.heap.size ≤ q) ([(o3, eL cy f3)] ++ WC cy ad ks g u) := hD.part (X := XLW cy o3 o4 am f3 f4 r) (cx := [(o3, eL cy f3)]) [0] (by decide) rfl
    have hFc : ∀ q, va_A ([(o3, eL cy f3)] ++ WC cy ad ks g u) H.size q → s.heap.size ≤ q := va_freeP (X := XLW cy o3 o4 am f3 f4 r) (cx := [(o3, eL cy f3)]) hD hS hA [0] rfl
    refine vx_calli (vx_runSX (As := [.ref (ad .cl), .int (xs (4 * n + 1)), .ref o3]) (rest := []) ⟨hx, hb, hml, hown, hts⟩ (ct_leftIn l hst dC dI cy nb ad ks g hk u ((xs (4 * n + 1))) o3 f3 xk H.size hxk e2) (vx_cwSW 3 hts (gSH mw_1367 mw_1368 mw_562 mw_1369) rfl rfl rfl (by decide +kernel) ⟨Nat.le_of_ble_eq_true rfl, Nat.le_of_ble_eq_true rfl⟩) (my_preS hPc hK hDc hE hS hFc) rfl rfl hl.1 rfl (lv_room (Nat.le_of_ble_eq_true rfl)) dL_law_1527 ⟨by show _ ≤ 601024; omega, by show _ ≤ 7293034; omega⟩) hS (fun q _ h => hFc q h) hFc (fun q _ h => hFc q h) (fun E9 ce9 q9 u9 t9 H1 locs1 ht9 hvm9 hp9 _ _ _ _ _ _ _ => hp9.elim) (fun rw9 u9 t9 H1 locs ht hvm hw hB hz1 hk1 hS => ?_)
    obtain ⟨hP1, hD1⟩ := hB
    rw [ht] at hP1
    obtain ⟨hP, hD⟩ := va_joinP (X := XLW cy o3 o4 am f3 f4 r) (cx := [(o3, eL cy f3)]) (wr := ((o4, eD cy f4) :: WM cy am r)) (rx := [(o3, eL cy f3)]) (pl := WC cy ad ks g u) (pl1 := WC cy ad ks g u) hP hD [0] [1, 2, 3, 4, 5, 6, 7, 8, 9, 10, 11, 12] rfl rfl (by decide) (by decide) hk1 hFc hP1 hD1
    have hP : va_P (dC, dI) vwCl (XLW cy o3 o4 am f3 f4 r ++ WC cy ad ks g u) H1 := hP.part (X := ((o4, eD cy f4) :: WM cy am r) ++ [(o3, eL cy f3)]) (cx := XLW cy o3 o4 am f3 f4 r) [12, 0, 1, 2, 3, 4, 5, 6, 7, 8, 9, 10, 11] rfl
    have hD : va_D (fun q : Nat => s.heap.size ≤ q) (XLW cy o3 o4 am f3 f4 r ++ WC cy ad ks g u) := hD.part (X := ((o4, eD cy f4) :: WM cy am r) ++ [(o3, eL cy f3)]) (cx := XLW cy o3 o4 am f3 f4 r) [12, 0, 1, 2, 3, 4, 5, 6, 7, 8, 9, 10, 11] (by decide) rfl
    generalize H1 = H at hP hS ⊢
    clear hP1 hD1 hPc hDc hFc hk1 hz1 hvm ht
    refine lv_istore (lv' := [(6, .int rw9), (5, .int (nI (4 * n))), (4, .ref o4), (3, .ref o3), (2, .ref (am 0)), (1, .ref (ad .cl)), (0, .ref b)]) hx hb dL_law_1530 hl (by decide) rfl (fun ls hl => ?_)
    refine lv_aload_n hx hb dL_law_1532 rfl (lv_at hl 4 rfl) ?_
    refine lv_aload_n hx hb dL_law_1533 rfl (lv_at hl 6 rfl) ?_
    refine lv_iload hx hb dL_law_1534 (lv_at hl 1 rfl) ?_
    refine lv_iconst (v := 1) hx hb dL_law_1536 (by decide) ?_
    refine lv_iadd hx hb dL_law_1537 ?_
    refine my_topi (y := nI (4 * n + 1)) (nI_add (4 * n) 1) ?_
    refine va_sld hx hb hX hbl hbA hS (vp_in_nI (n := 4 * n + 1) (by omega) (by omega)) dL_law_1538 ?_
    refine my_topi (y := xs (4 * n + 1)) (congrArg xs (nI_clamp (by omega))) ?_
    have hPc := hP.sub (ws' := (WM cy am r)) [2, 3, 4, 5, 6, 7, 8, 9, 10, 11, 12] rfl
    have hDc := hD.sub (ws' := (WM cy am r)) [2, 3, 4, 5, 6, 7, 8, 9, 10, 11, 12] (by decide) rfl
    have hFc := va_free (wc := (WM cy am r)) hD hS hA [2, 3, 4, 5, 6, 7, 8, 9, 10, 11, 12] rfl
    refine va_calli (va_runV (As := [.int (xs (4 * n + 1))]) (rest := []) ⟨hx, hb, hml, hown, hts⟩ (k_X8_leftIn l dC dI cy nb am r ((xs (4 * n + 1))) (nI 0) (th r k) H.size e1) (cwV 1 hts (gV mw_1378 mw_1379 mw_1380 mw_5 mw_1381) rfl rfl rfl (by decide +kernel) ⟨Nat.le_of_ble_eq_true rfl, Nat.le_of_ble_eq_true rfl⟩) (my_preV hPc hK hDc hE hS hFc (va_recv (q := (RX8, TX8, 23)) hK hP (ci := 8) (q0 := 2) rfl rfl)) rfl rfl hl.1 rfl (lv_room (Nat.le_of_ble_eq_true rfl)) dL_law_1539 ⟨by show _ ≤ 601024; omega, by show _ ≤ 7293034; omega⟩) hS (fun q _ h => hFc q h) hFc (fun rm9 u9 t9 H1 locs ht hvm hwm hB hz1 hk1 hS => ?_)
    obtain ⟨hP1, hD1⟩ := hB
    rw [ht] at hP1
    obtain ⟨hP, hD⟩ := va_joinQ (X := XLW cy o3 o4 am f3 f4 r) (cx := (WM cy am r)) (wr := [(o3, eL cy f3), (o4, eD cy f4)]) (w1 := (WM cy am (th r k))) (pl := WC cy ad ks g u) hP hD [2, 3, 4, 5, 6, 7, 8, 9, 10, 11, 12] [0, 1] rfl rfl (by decide) (by decide) hk1 hFc hP1 hD1
    have hP : va_P (dC, dI) vwCl (XLW cy o3 o4 am f3 f4 (th r k) ++ WC cy ad ks g u) H1 := hP
    have hD : va_D (fun q : Nat => s.heap.size ≤ q) (XLW cy o3 o4 am f3 f4 (th r k) ++ WC cy ad ks g u) := hD
    generalize H1 = H at hP hS ⊢
    clear hP1 hD1 hPc hDc hFc hk1 hz1 hvm ht
    refine my_topi hwm ?_
    refine lv_istore (lv' := [(7, .int (nI 0)), (6, .int rw9), (5, .int (nI (4 * n))), (4, .ref o4), (3, .ref o3), (2, .ref (am 0)), (1, .ref (ad .cl)), (0, .ref b)]) hx hb dL_law_1542 hl (by decide) rfl (fun ls hl => ?_)
    refine lv_goto (tgt := 1819) hx hb dL_law_1544 (by decide) ?_
    refine W.widen (k := cells + 603) (n := slots + 9640) (by omega) (by omega) ?_
    exact K H locs ls ⟨ad, ks, g, u, (th r k), f3, f4, hk, (hGI.thr).mono (by omega) (by omega) (by omega), hP, hD, hS, lv_sub hl [2, 3, 4, 5, 6, 7] rfl⟩
set_option maxHeartbeats 8000000 in
set_option maxRecDepth 100000 in
theorem law_c41 {p : Program} {e : Env} {s : State} {m : MethodId} {below : List Frame} {meth : Method} {c : Code} (l : Launch) (hst : l.stackTraces = false) {b L : Nat} {xs : Nat → Int32} (dC : Nat → ClassId) (dI : Nat → Nat → Nat) (cy : Nat → ClassId) (nb : Nat → Nat) (o3 o4 : Nat) (am : Nat → Nat) {n : Nat} (hn : n < 512) (hL : 4 * n + 4 ≤ L) (hL2 : L ≤ 2048) (C0 : LX p s m meth c b L xs dC dI cy nb) {Q : State → Prop} {H : Heap} {locs : List Loc} {ls : Array Slot} {cells slots : Nat} (hc : cells ≤ 400000) (hs : slots ≤ 6000000) (h : LSt s dC dI cy nb b o3 o4 am n (4 * n) H locs ls) (K : ∀ (H : Heap) (locs : List Loc) (ls : Array Slot), LSt s dC dI cy nb b o3 o4 am (n + 1) (4 * n) H locs ls → W p l e room_1 s m #[Value.ref b] below meth c H locs (cells + 603) (slots + 9640) Q (F0 m 1819 ls [])) : W p l e room_1 s m #[Value.ref b] below meth c H locs cells slots Q (F0 m 1547 ls []) := by
  obtain ⟨hx, hb, hr, hml, hown, hts, hX, hbl, hlocks, hK, hE⟩ := C0
  have hA : ∀ q : Nat, s.heap.size ≤ q → (fun q : Nat => s.heap.size ≤ q) q := fun _ h => h
  have hbA : ¬ (fun q : Nat => s.heap.size ≤ q) b := Nat.not_le.mpr hbl
  obtain ⟨ad, ks, g, u, r, f3, f4, hk, hGI, hP, hD, hS, hl⟩ := h
  have h9 : DT (F8_failIn r (xs (4 * n + 1))) (C7_failIn g u (xs (4 * n + 1))) r g 0 (2001 * n) (602 * n) := a_failIn hGI (by omega) (by omega)
  rcases h9 with ⟨x, y, r2, c2, e1, e2, e3, e6⟩ | ⟨k, k1, k2, e1, e2⟩
  · refine lv_aload_n hx hb dL_law_1547 rfl (lv_at hl 4 rfl) ?_
    refine lv_aload_n hx hb dL_law_1548 rfl (lv_at hl 5 rfl) ?_
    refine lv_iload hx hb dL_law_1549 (lv_at hl 0 rfl) ?_
    refine lv_iconst (v := 1) hx hb dL_law_1551 (by decide) ?_
    refine lv_iadd hx hb dL_law_1552 ?_
    refine my_topi (y := nI (4 * n + 1)) (nI_add (4 * n) 1) ?_
    refine va_sld hx hb hX hbl hbA hS (vp_in_nI (n := 4 * n + 1) (by omega) (by omega)) dL_law_1553 ?_
    refine my_topi (y := xs (4 * n + 1)) (congrArg xs (nI_clamp (by omega))) ?_
    refine lv_aload_n hx hb dL_law_1554 rfl (lv_at hl 2 rfl) ?_
    have hPc : va_P (dC, dI) vwCl ([(o3, eL cy f3)] ++ WC cy ad ks g u) H := hP.part (X := XLW cy o3 o4 am f3 f4 r) (cx := [(o3, eL cy f3)]) [0] rfl
    have hDc : va_D (fun q : Nat => s.heap.size ≤ q) ([(o3, eL cy f3)] ++ WC cy ad ks g u) := hD.part (X := XLW cy o3 o4 am f3 f4 r) (cx := [(o3, eL cy f3)]) [0] (by decide) rfl
    have hFc : ∀ q, va_A ([(o3, eL cy f3)] ++ WC cy ad ks g u) H.size q → s.heap.size ≤ q := va_freeP (X := XLW cy o3 o4 am f3 f4 r) (cx := [(o3, eL cy f3)]) hD hS hA [0] rfl
    refine vx_calli (vx_runSX (As := [.ref (ad .cl), .int (xs (4 * n + 1)), .ref o3]) (rest := []) ⟨hx, hb, hml, hown, hts⟩ (cn_failIn l hst dC dI cy nb ad ks g hk u ((xs (4 * n + 1))) o3 f3 y c2 H.size e2) (vx_cwSW 3 hts (gSH mw_1386 mw_1387 mw_562 mw_1388) rfl rfl rfl (by decide +kernel) ⟨Nat.le_of_ble_eq_true rfl, Nat.le_of_ble_eq_true rfl⟩) (my_preS hPc hK hDc hE hS hFc) rfl rfl hl.1 rfl (lv_room (Nat.le_of_ble_eq_true rfl)) dL_law_1555 ⟨by show _ ≤ 601024; omega, by show _ ≤ 7293034; omega⟩) hS (fun q _ h => hFc q h) hFc (fun q _ h => hFc q h) (fun E9 ce9 q9 u9 t9 H1 locs1 ht9 hvm9 hp9 _ _ _ _ _ _ _ => hp9.elim) (fun rw9 u9 t9 H1 locs ht hvm hw hB hz1 hk1 hS => ?_)
    obtain ⟨hP1, hD1⟩ := hB
    rw [ht] at hP1
    obtain ⟨hP, hD⟩ := va_joinP (X := XLW cy o3 o4 am f3 f4 r) (cx := [(o3, eL cy f3)]) (wr := ((o4, eD cy f4) :: WM cy am r)) (rx := [(o3, eL cy (vp_updL f3 ((0 : Int32).toNatClampNeg) (y.toInt64)))]) (pl := WC cy ad ks g u) (pl1 := WC cy ad ks g c2) hP hD [0] [1, 2, 3, 4, 5, 6, 7, 8, 9, 10, 11, 12] rfl rfl (by decide) (by decide) hk1 hFc hP1 hD1
    have hP : va_P (dC, dI) vwCl (XLW cy o3 o4 am (vp_updL f3 ((0 : Int32).toNatClampNeg) (y.toInt64)) f4 r ++ WC cy ad ks g c2) H1 := hP.part (X := ((o4, eD cy f4) :: WM cy am r) ++ [(o3, eL cy (vp_updL f3 ((0 : Int32).toNatClampNeg) (y.toInt64)))]) (cx := XLW cy o3 o4 am (vp_updL f3 ((0 : Int32).toNatClampNeg) (y.toInt64)) f4 r) [12, 0, 1, 2, 3, 4, 5, 6, 7, 8, 9, 10, 11] rfl
    have hD : va_D (fun q : Nat => s.heap.size ≤ q) (XLW cy o3 o4 am (vp_updL f3 ((0 : Int32).toNatClampNeg) (y.toInt64)) f4 r ++ WC cy ad ks g c2) := hD.part (X := ((o4, eD cy f4) :: WM cy am r) ++ [(o3, eL cy (vp_updL f3 ((0 : Int32).toNatClampNeg) (y.toInt64)))]) (cx := XLW cy o3 o4 am (vp_updL f3 ((0 : Int32).toNatClampNeg) (y.toInt64)) f4 r) [12, 0, 1, 2, 3, 4, 5, 6, 7, 8, 9, 10, 11] (by decide) rfl
    generalize H1 = H at hP hS ⊢
    clear hP1 hD1 hPc hDc hFc hk1 hz1 hvm ht
    refine lv_istore (lv' := [(6, .int rw9), (5, .int (nI (4 * n))), (4, .ref o4), (3, .ref o3), (2, .ref (am 0)), (1, .ref (ad .cl)), (0, .ref b)]) hx hb dL_law_1558 hl (by decide) rfl (fun ls hl => ?_)
    refine lv_aload_n hx hb dL_law_1560 rfl (lv_at hl 4 rfl) ?_
    refine lv_aload_n hx hb dL_law_1561 rfl (lv_at hl 6 rfl) ?_
    refine lv_iload hx hb dL_law_1562 (lv_at hl 1 rfl) ?_
    refine lv_iconst (v := 1) hx hb dL_law_1564 (by decide) ?_
    refine lv_iadd hx hb dL_law_1565 ?_
    refine my_topi (y := nI (4 * n + 1)) (nI_add (4 * n) 1) ?_
    refine va_sld hx hb hX hbl hbA hS (vp_in_nI (n := 4 * n + 1) (by omega) (by omega)) dL_law_1566 ?_
    refine my_topi (y := xs (4 * n + 1)) (congrArg xs (nI_clamp (by omega))) ?_
    have hPc := hP.sub (ws' := (WM cy am r)) [2, 3, 4, 5, 6, 7, 8, 9, 10, 11, 12] rfl
    have hDc := hD.sub (ws' := (WM cy am r)) [2, 3, 4, 5, 6, 7, 8, 9, 10, 11, 12] (by decide) rfl
    have hFc := va_free (wc := (WM cy am r)) hD hS hA [2, 3, 4, 5, 6, 7, 8, 9, 10, 11, 12] rfl
    refine va_calli (va_runV (As := [.int (xs (4 * n + 1))]) (rest := []) ⟨hx, hb, hml, hown, hts⟩ (k_X8_failIn l dC dI cy nb am r ((xs (4 * n + 1))) x (r2) H.size e1) (cwV 1 hts (gV mw_1394 mw_1395 mw_1396 mw_5 mw_1397) rfl rfl rfl (by decide +kernel) ⟨Nat.le_of_ble_eq_true rfl, Nat.le_of_ble_eq_true rfl⟩) (my_preV hPc hK hDc hE hS hFc (va_recv (q := (RX8, TX8, 23)) hK hP (ci := 8) (q0 := 2) rfl rfl)) rfl rfl hl.1 rfl (lv_room (Nat.le_of_ble_eq_true rfl)) dL_law_1567 ⟨by show _ ≤ 601024; omega, by show _ ≤ 7293034; omega⟩) hS (fun q _ h => hFc q h) hFc (fun rm9 u9 t9 H1 locs ht hvm hwm hB hz1 hk1 hS => ?_)
    obtain ⟨hP1, hD1⟩ := hB
    rw [ht] at hP1
    obtain ⟨hP, hD⟩ := va_joinQ (X := XLW cy o3 o4 am (vp_updL f3 ((0 : Int32).toNatClampNeg) (y.toInt64)) f4 r) (cx := (WM cy am r)) (wr := [(o3, eL cy (vp_updL f3 ((0 : Int32).toNatClampNeg) (y.toInt64))), (o4, eD cy f4)]) (w1 := (WM cy am (r2))) (pl := WC cy ad ks g c2) hP hD [2, 3, 4, 5, 6, 7, 8, 9, 10, 11, 12] [0, 1] rfl rfl (by decide) (by decide) hk1 hFc hP1 hD1
    have hP : va_P (dC, dI) vwCl (XLW cy o3 o4 am (vp_updL f3 ((0 : Int32).toNatClampNeg) (y.toInt64)) f4 r2 ++ WC cy ad ks g c2) H1 := hP
    have hD : va_D (fun q : Nat => s.heap.size ≤ q) (XLW cy o3 o4 am (vp_updL f3 ((0 : Int32).toNatClampNeg) (y.toInt64)) f4 r2 ++ WC cy ad ks g c2) := hD
    generalize H1 = H at hP hS ⊢
    clear hP1 hD1 hPc hDc hFc hk1 hz1 hvm ht
    refine my_topi hwm ?_
    refine lv_istore (lv' := [(7, .int x), (6, .int rw9), (5, .int (nI (4 * n))), (4, .ref o4), (3, .ref o3), (2, .ref (am 0)), (1, .ref (ad .cl)), (0, .ref b)]) hx hb dL_law_1570 hl (by decide) rfl (fun ls hl => ?_)
    refine lv_goto (tgt := 1819) hx hb dL_law_1572 (by decide) ?_
    refine W.widen (k := cells + 603) (n := slots + 9640) (by omega) (by omega) ?_
    exact K H locs ls ⟨ad, ks, g, c2, r2, (vp_updL f3 ((0 : Int32).toNatClampNeg) (y.toInt64)), f4, hk, e3.mono (by omega) (by omega) (by omega), hP, hD, hS, lv_sub hl [2, 3, 4, 5, 6, 7] rfl⟩
  · have e2 : C7_failIn g u (xs (4 * n + 1)) = some (.inl (nI (k + 0))) := e2
    generalize hxx : (nI (k + 0)) = xk at e2
    have hxk : xk = 1 := x1_failIn e2
    refine lv_aload_n hx hb dL_law_1547 rfl (lv_at hl 4 rfl) ?_
    refine lv_aload_n hx hb dL_law_1548 rfl (lv_at hl 5 rfl) ?_
    refine lv_iload hx hb dL_law_1549 (lv_at hl 0 rfl) ?_
    refine lv_iconst (v := 1) hx hb dL_law_1551 (by decide) ?_
    refine lv_iadd hx hb dL_law_1552 ?_
    refine my_topi (y := nI (4 * n + 1)) (nI_add (4 * n) 1) ?_
    refine va_sld hx hb hX hbl hbA hS (vp_in_nI (n := 4 * n + 1) (by omega) (by omega)) dL_law_1553 ?_
    refine my_topi (y := xs (4 * n + 1)) (congrArg xs (nI_clamp (by omega))) ?_
    refine lv_aload_n hx hb dL_law_1554 rfl (lv_at hl 2 rfl) ?_
    have hPc : va_P (dC, dI) vwCl ([(o3, eL cy f3)] ++ WC cy ad ks g u) H := hP.part (X := XLW cy o3 o4 am f3 f4 r) (cx := [(o3, eL cy f3)]) [0] rfl
    have hDc : va_D (fun q : Nat => s.heap.size ≤ q) ([(o3, eL cy f3)] ++ WC cy ad ks g u) := hD.part (X := XLW cy o3 o4 am f3 f4 r) (cx := [(o3, eL cy f3)]) [0] (by decide) rfl
    have hFc : ∀ q, va_A ([(o3, eL cy f3)] ++ WC cy ad ks g u) H.size q → s.heap.size ≤ q := va_freeP (X := XLW cy o3 o4 am f3 f4 r) (cx := [(o3, eL cy f3)]) hD hS hA [0] rfl
    refine vx_calli (vx_runSX (As := [.ref (ad .cl), .int (xs (4 * n + 1)), .ref o3]) (rest := []) ⟨hx, hb, hml, hown, hts⟩ (ct_failIn l hst dC dI cy nb ad ks g hk u ((xs (4 * n + 1))) o3 f3 xk H.size hxk e2) (vx_cwSW 3 hts (gSH mw_1386 mw_1387 mw_562 mw_1388) rfl rfl rfl (by decide +kernel) ⟨Nat.le_of_ble_eq_true rfl, Nat.le_of_ble_eq_true rfl⟩) (my_preS hPc hK hDc hE hS hFc) rfl rfl hl.1 rfl (lv_room (Nat.le_of_ble_eq_true rfl)) dL_law_1555 ⟨by show _ ≤ 601024; omega, by show _ ≤ 7293034; omega⟩) hS (fun q _ h => hFc q h) hFc (fun q _ h => hFc q h) (fun E9 ce9 q9 u9 t9 H1 locs1 ht9 hvm9 hp9 _ _ _ _ _ _ _ => hp9.elim) (fun rw9 u9 t9 H1 locs ht hvm hw hB hz1 hk1 hS => ?_)
    obtain ⟨hP1, hD1⟩ := hB
    rw [ht] at hP1
    obtain ⟨hP, hD⟩ := va_joinP (X := XLW cy o3 o4 am f3 f4 r) (cx := [(o3, eL cy f3)]) (wr := ((o4, eD cy f4) :: WM cy am r)) (rx := [(o3, eL cy f3)]) (pl := WC cy ad ks g u) (pl1 := WC cy ad ks g u) hP hD [0] [1, 2, 3, 4, 5, 6, 7, 8, 9, 10, 11, 12] rfl rfl (by decide) (by decide) hk1 hFc hP1 hD1
    have hP : va_P (dC, dI) vwCl (XLW cy o3 o4 am f3 f4 r ++ WC cy ad ks g u) H1 := hP.part (X := ((o4, eD cy f4) :: WM cy am r) ++ [(o3, eL cy f3)]) (cx := XLW cy o3 o4 am f3 f4 r) [12, 0, 1, 2, 3, 4, 5, 6, 7, 8, 9, 10, 11] rfl
    have hD : va_D (fun q : Nat => s.heap.size ≤ q) (XLW cy o3 o4 am f3 f4 r ++ WC cy ad ks g u) := hD.part (X := ((o4, eD cy f4) :: WM cy am r) ++ [(o3, eL cy f3)]) (cx := XLW cy o3 o4 am f3 f4 r) [12, 0, 1, 2, 3, 4, 5, 6, 7, 8, 9, 10, 11] (by decide) rfl
    generalize H1 = H at hP hS ⊢
    clear hP1 hD1 hPc hDc hFc hk1 hz1 hvm ht
    refine lv_istore (lv' := [(6, .int rw9), (5, .int (nI (4 * n))), (4, .ref o4), (3, .ref o3), (2, .ref (am 0)), (1, .ref (ad .cl)), (0, .ref b)]) hx hb dL_law_1558 hl (by decide) rfl (fun ls hl => ?_)
    refine lv_aload_n hx hb dL_law_1560 rfl (lv_at hl 4 rfl) ?_
    refine lv_aload_n hx hb dL_law_1561 rfl (lv_at hl 6 rfl) ?_
    refine lv_iload hx hb dL_law_1562 (lv_at hl 1 rfl) ?_
    refine lv_iconst (v := 1) hx hb dL_law_1564 (by decide) ?_
    refine lv_iadd hx hb dL_law_1565 ?_
    refine my_topi (y := nI (4 * n + 1)) (nI_add (4 * n) 1) ?_
    refine va_sld hx hb hX hbl hbA hS (vp_in_nI (n := 4 * n + 1) (by omega) (by omega)) dL_law_1566 ?_
    refine my_topi (y := xs (4 * n + 1)) (congrArg xs (nI_clamp (by omega))) ?_
    have hPc := hP.sub (ws' := (WM cy am r)) [2, 3, 4, 5, 6, 7, 8, 9, 10, 11, 12] rfl
    have hDc := hD.sub (ws' := (WM cy am r)) [2, 3, 4, 5, 6, 7, 8, 9, 10, 11, 12] (by decide) rfl
    have hFc := va_free (wc := (WM cy am r)) hD hS hA [2, 3, 4, 5, 6, 7, 8, 9, 10, 11, 12] rfl
    refine va_calli (va_runV (As := [.int (xs (4 * n + 1))]) (rest := []) ⟨hx, hb, hml, hown, hts⟩ (k_X8_failIn l dC dI cy nb am r ((xs (4 * n + 1))) (nI 0) (th r k) H.size e1) (cwV 1 hts (gV mw_1394 mw_1395 mw_1396 mw_5 mw_1397) rfl rfl rfl (by decide +kernel) ⟨Nat.le_of_ble_eq_true rfl, Nat.le_of_ble_eq_true rfl⟩) (my_preV hPc hK hDc hE hS hFc (va_recv (q := (RX8, TX8, 23)) hK hP (ci := 8) (q0 := 2) rfl rfl)) rfl rfl hl.1 rfl (lv_room (Nat.le_of_ble_eq_true rfl)) dL_law_1567 ⟨by show _ ≤ 601024; omega, by show _ ≤ 7293034; omega⟩) hS (fun q _ h => hFc q h) hFc (fun rm9 u9 t9 H1 locs ht hvm hwm hB hz1 hk1 hS => ?_)
    obtain ⟨hP1, hD1⟩ := hB
    rw [ht] at hP1
    obtain ⟨hP, hD⟩ := va_joinQ (X := XLW cy o3 o4 am f3 f4 r) (cx := (WM cy am r)) (wr := [(o3, eL cy f3), (o4, eD cy f4)]) (w1 := (WM cy am (th r k))) (pl := WC cy ad ks g u) hP hD [2, 3, 4, 5, 6, 7, 8, 9, 10, 11, 12] [0, 1] rfl rfl (by decide) (by decide) hk1 hFc hP1 hD1
    have hP : va_P (dC, dI) vwCl (XLW cy o3 o4 am f3 f4 (th r k) ++ WC cy ad ks g u) H1 := hP
    have hD : va_D (fun q : Nat => s.heap.size ≤ q) (XLW cy o3 o4 am f3 f4 (th r k) ++ WC cy ad ks g u) := hD
    generalize H1 = H at hP hS ⊢
    clear hP1 hD1 hPc hDc hFc hk1 hz1 hvm ht
    refine my_topi hwm ?_
    refine lv_istore (lv' := [(7, .int (nI 0)), (6, .int rw9), (5, .int (nI (4 * n))), (4, .ref o4), (3, .ref o3), (2, .ref (am 0)), (1, .ref (ad .cl)), (0, .ref b)]) hx hb dL_law_1570 hl (by decide) rfl (fun ls hl => ?_)
    refine lv_goto (tgt := 1819) hx hb dL_law_1572 (by decide) ?_
    refine W.widen (k := cells + 603) (n := slots + 9640) (by omega) (by omega) ?_
    exact K H locs ls ⟨ad, ks, g, u, (th r k), f3, f4, hk, (hGI.thr).mono (by omega) (by omega) (by omega), hP, hD, hS, lv_sub hl [2, 3, 4, 5, 6, 7] rfl⟩
set_option maxHeartbeats 8000000 in
set_option maxRecDepth 100000 in
theorem law_c42 {p : Program} {e : Env} {s : State} {m : MethodId} {below : List Frame} {meth : Method} {c : Code} (l : Launch) (hst : l.stackTraces = false) {b L : Nat} {xs : Nat → Int32} (dC : Nat → ClassId) (dI : Nat → Nat → Nat) (cy : Nat → ClassId) (nb : Nat → Nat) (o3 o4 : Nat) (am : Nat → Nat) {n : Nat} (hn : n < 512) (hL : 4 * n + 4 ≤ L) (hL2 : L ≤ 2048) (C0 : LX p s m meth c b L xs dC dI cy nb) {Q : State → Prop} {H : Heap} {locs : List Loc} {ls : Array Slot} {cells slots : Nat} (hc : cells ≤ 400000) (hs : slots ≤ 6000000) (h : LSt s dC dI cy nb b o3 o4 am n (4 * n) H locs ls) (K : ∀ (H : Heap) (locs : List Loc) (ls : Array Slot), LSt s dC dI cy nb b o3 o4 am (n + 1) (4 * n) H locs ls → W p l e room_1 s m #[Value.ref b] below meth c H locs (cells + 603) (slots + 9640) Q (F0 m 1819 ls [])) : W p l e room_1 s m #[Value.ref b] below meth c H locs cells slots Q (F0 m 1575 ls []) := by
  obtain ⟨hx, hb, hr, hml, hown, hts, hX, hbl, hlocks, hK, hE⟩ := C0
  have hA : ∀ q : Nat, s.heap.size ≤ q → (fun q : Nat => s.heap.size ≤ q) q := fun _ h => h
  have hbA : ¬ (fun q : Nat => s.heap.size ≤ q) b := Nat.not_le.mpr hbl
  obtain ⟨ad, ks, g, u, r, f3, f4, hk, hGI, hP, hD, hS, hl⟩ := h
  have h9 : CT (F8_blanksIn r (xs (4 * n + 1))) (C7_blanksIn g u (xs (4 * n + 1))) r g 1 (2001 * n) (602 * n) := a_blanksIn hGI (by omega) (by omega)
  rcases h9 with ⟨x, r2, c2, e1, e2, e3, e6⟩ | ⟨k, k1, k2, e1, e2⟩
  · refine lv_aload_n hx hb dL_law_1575 rfl (lv_at hl 4 rfl) ?_
    refine lv_aload_n hx hb dL_law_1576 rfl (lv_at hl 5 rfl) ?_
    refine lv_iload hx hb dL_law_1577 (lv_at hl 0 rfl) ?_
    refine lv_iconst (v := 1) hx hb dL_law_1579 (by decide) ?_
    refine lv_iadd hx hb dL_law_1580 ?_
    refine my_topi (y := nI (4 * n + 1)) (nI_add (4 * n) 1) ?_
    refine va_sld hx hb hX hbl hbA hS (vp_in_nI (n := 4 * n + 1) (by omega) (by omega)) dL_law_1581 ?_
    refine my_topi (y := xs (4 * n + 1)) (congrArg xs (nI_clamp (by omega))) ?_
    refine lv_aload_n hx hb dL_law_1582 rfl (lv_at hl 2 rfl) ?_
    have hPc : va_P (dC, dI) vwCl ([(o3, eL cy f3)] ++ WC cy ad ks g u) H := hP.part (X := XLW cy o3 o4 am f3 f4 r) (cx := [(o3, eL cy f3)]) [0] rfl
    have hDc : va_D (fun q : Nat => s.heap.size ≤ q) ([(o3, eL cy f3)] ++ WC cy ad ks g u) := hD.part (X := XLW cy o3 o4 am f3 f4 r) (cx := [(o3, eL cy f3)]) [0] (by decide) rfl
    have hFc : ∀ q, va_A ([(o3, eL cy f3)] ++ WC cy ad ks g u) H.size q → s.heap.size ≤ q := va_freeP (X := XLW cy o3 o4 am f3 f4 r) (cx := [(o3, eL cy f3)]) hD hS hA [0] rfl
    refine vx_calli (vx_runSX (As := [.ref (ad .cl), .int (xs (4 * n + 1)), .ref o3]) (rest := []) ⟨hx, hb, hml, hown, hts⟩ (cn_blanksIn l hst dC dI cy nb ad ks g hk u ((xs (4 * n + 1))) o3 f3 x c2 H.size e2) (vx_cwSW 3 hts (gSH mw_1398 mw_1399 mw_562 mw_1400) rfl rfl rfl (by decide +kernel) ⟨Nat.le_of_ble_eq_true rfl, Nat.le_of_ble_eq_true rfl⟩) (my_preS hPc hK hDc hE hS hFc) rfl rfl hl.1 rfl (lv_room (Nat.le_of_ble_eq_true rfl)) dL_law_1583 ⟨by show _ ≤ 601024; omega, by show _ ≤ 7293034; omega⟩) hS (fun q _ h => hFc q h) hFc (fun q _ h => hFc q h) (fun E9 ce9 q9 u9 t9 H1 locs1 ht9 hvm9 hp9 _ _ _ _ _ _ _ => hp9.elim) (fun rw9 u9 t9 H1 locs ht hvm hw hB hz1 hk1 hS => ?_)
    obtain ⟨hP1, hD1⟩ := hB
    rw [ht] at hP1
    obtain ⟨hP, hD⟩ := va_joinP (X := XLW cy o3 o4 am f3 f4 r) (cx := [(o3, eL cy f3)]) (wr := ((o4, eD cy f4) :: WM cy am r)) (rx := [(o3, eL cy (vp_updL f3 ((0 : Int32).toNatClampNeg) (x.toInt64)))]) (pl := WC cy ad ks g u) (pl1 := WC cy ad ks g c2) hP hD [0] [1, 2, 3, 4, 5, 6, 7, 8, 9, 10, 11, 12] rfl rfl (by decide) (by decide) hk1 hFc hP1 hD1
    have hP : va_P (dC, dI) vwCl (XLW cy o3 o4 am (vp_updL f3 ((0 : Int32).toNatClampNeg) (x.toInt64)) f4 r ++ WC cy ad ks g c2) H1 := hP.part (X := ((o4, eD cy f4) :: WM cy am r) ++ [(o3, eL cy (vp_updL f3 ((0 : Int32).toNatClampNeg) (x.toInt64)))]) (cx := XLW cy o3 o4 am (vp_updL f3 ((0 : Int32).toNatClampNeg) (x.toInt64)) f4 r) [12, 0, 1, 2, 3, 4, 5, 6, 7, 8, 9, 10, 11] rfl
    have hD : va_D (fun q : Nat => s.heap.size ≤ q) (XLW cy o3 o4 am (vp_updL f3 ((0 : Int32).toNatClampNeg) (x.toInt64)) f4 r ++ WC cy ad ks g c2) := hD.part (X := ((o4, eD cy f4) :: WM cy am r) ++ [(o3, eL cy (vp_updL f3 ((0 : Int32).toNatClampNeg) (x.toInt64)))]) (cx := XLW cy o3 o4 am (vp_updL f3 ((0 : Int32).toNatClampNeg) (x.toInt64)) f4 r) [12, 0, 1, 2, 3, 4, 5, 6, 7, 8, 9, 10, 11] (by decide) rfl
    generalize H1 = H at hP hS ⊢
    clear hP1 hD1 hPc hDc hFc hk1 hz1 hvm ht
    refine lv_istore (lv' := [(6, .int rw9), (5, .int (nI (4 * n))), (4, .ref o4), (3, .ref o3), (2, .ref (am 0)), (1, .ref (ad .cl)), (0, .ref b)]) hx hb dL_law_1586 hl (by decide) rfl (fun ls hl => ?_)
    refine lv_aload_n hx hb dL_law_1588 rfl (lv_at hl 4 rfl) ?_
    refine lv_aload_n hx hb dL_law_1589 rfl (lv_at hl 6 rfl) ?_
    refine lv_iload hx hb dL_law_1590 (lv_at hl 1 rfl) ?_
    refine lv_iconst (v := 1) hx hb dL_law_1592 (by decide) ?_
    refine lv_iadd hx hb dL_law_1593 ?_
    refine my_topi (y := nI (4 * n + 1)) (nI_add (4 * n) 1) ?_
    refine va_sld hx hb hX hbl hbA hS (vp_in_nI (n := 4 * n + 1) (by omega) (by omega)) dL_law_1594 ?_
    refine my_topi (y := xs (4 * n + 1)) (congrArg xs (nI_clamp (by omega))) ?_
    have hPc := hP.sub (ws' := (WM cy am r)) [2, 3, 4, 5, 6, 7, 8, 9, 10, 11, 12] rfl
    have hDc := hD.sub (ws' := (WM cy am r)) [2, 3, 4, 5, 6, 7, 8, 9, 10, 11, 12] (by decide) rfl
    have hFc := va_free (wc := (WM cy am r)) hD hS hA [2, 3, 4, 5, 6, 7, 8, 9, 10, 11, 12] rfl
    refine va_calli (va_runV (As := [.int (xs (4 * n + 1))]) (rest := []) ⟨hx, hb, hml, hown, hts⟩ (k_X8_blanksIn l dC dI cy nb am r ((xs (4 * n + 1))) x (r2) H.size e1) (cwV 1 hts (gV mw_1405 mw_1406 mw_1407 mw_5 mw_1408) rfl rfl rfl (by decide +kernel) ⟨Nat.le_of_ble_eq_true rfl, Nat.le_of_ble_eq_true rfl⟩) (my_preV hPc hK hDc hE hS hFc (va_recv (q := (RX8, TX8, 23)) hK hP (ci := 8) (q0 := 2) rfl rfl)) rfl rfl hl.1 rfl (lv_room (Nat.le_of_ble_eq_true rfl)) dL_law_1595 ⟨by show _ ≤ 601024; omega, by show _ ≤ 7293034; omega⟩) hS (fun q _ h => hFc q h) hFc (fun rm9 u9 t9 H1 locs ht hvm hwm hB hz1 hk1 hS => ?_)
    obtain ⟨hP1, hD1⟩ := hB
    rw [ht] at hP1
    obtain ⟨hP, hD⟩ := va_joinQ (X := XLW cy o3 o4 am (vp_updL f3 ((0 : Int32).toNatClampNeg) (x.toInt64)) f4 r) (cx := (WM cy am r)) (wr := [(o3, eL cy (vp_updL f3 ((0 : Int32).toNatClampNeg) (x.toInt64))), (o4, eD cy f4)]) (w1 := (WM cy am (r2))) (pl := WC cy ad ks g c2) hP hD [2, 3, 4, 5, 6, 7, 8, 9, 10, 11, 12] [0, 1] rfl rfl (by decide) (by decide) hk1 hFc hP1 hD1
    have hP : va_P (dC, dI) vwCl (XLW cy o3 o4 am (vp_updL f3 ((0 : Int32).toNatClampNeg) (x.toInt64)) f4 r2 ++ WC cy ad ks g c2) H1 := hP
    have hD : va_D (fun q : Nat => s.heap.size ≤ q) (XLW cy o3 o4 am (vp_updL f3 ((0 : Int32).toNatClampNeg) (x.toInt64)) f4 r2 ++ WC cy ad ks g c2) := hD
    generalize H1 = H at hP hS ⊢
    clear hP1 hD1 hPc hDc hFc hk1 hz1 hvm ht
    refine my_topi hwm ?_
    refine lv_istore (lv' := [(7, .int x), (6, .int rw9), (5, .int (nI (4 * n))), (4, .ref o4), (3, .ref o3), (2, .ref (am 0)), (1, .ref (ad .cl)), (0, .ref b)]) hx hb dL_law_1598 hl (by decide) rfl (fun ls hl => ?_)
    refine lv_goto (tgt := 1819) hx hb dL_law_1600 (by decide) ?_
    refine W.widen (k := cells + 603) (n := slots + 9640) (by omega) (by omega) ?_
    exact K H locs ls ⟨ad, ks, g, c2, r2, (vp_updL f3 ((0 : Int32).toNatClampNeg) (x.toInt64)), f4, hk, e3.mono (by omega) (by omega) (by omega), hP, hD, hS, lv_sub hl [2, 3, 4, 5, 6, 7] rfl⟩
  · have e2 : C7_blanksIn g u (xs (4 * n + 1)) = some (.inl (nI (k + 1))) := e2
    generalize hxx : (nI (k + 1)) = xk at e2
    have hxk : ¬ xk = 1 := by rw [← hxx]; exact nI_ne (b := 1) (by omega) (by omega) (by omega)
    refine lv_aload_n hx hb dL_law_1575 rfl (lv_at hl 4 rfl) ?_
    refine lv_aload_n hx hb dL_law_1576 rfl (lv_at hl 5 rfl) ?_
    refine lv_iload hx hb dL_law_1577 (lv_at hl 0 rfl) ?_
    refine lv_iconst (v := 1) hx hb dL_law_1579 (by decide) ?_
    refine lv_iadd hx hb dL_law_1580 ?_
    refine my_topi (y := nI (4 * n + 1)) (nI_add (4 * n) 1) ?_
    refine va_sld hx hb hX hbl hbA hS (vp_in_nI (n := 4 * n + 1) (by omega) (by omega)) dL_law_1581 ?_
    refine my_topi (y := xs (4 * n + 1)) (congrArg xs (nI_clamp (by omega))) ?_
    refine lv_aload_n hx hb dL_law_1582 rfl (lv_at hl 2 rfl) ?_
    have hPc : va_P (dC, dI) vwCl ([(o3, eL cy f3)] ++ WC cy ad ks g u) H := hP.part (X := XLW cy o3 o4 am f3 f4 r) (cx := [(o3, eL cy f3)]) [0] rfl
    have hDc : va_D (fun q : Nat => s.heap.size ≤ q) ([(o3, eL cy f3)] ++ WC cy ad ks g u) := hD.part (X := XLW cy o3 o4 am f3 f4 r) (cx := [(o3, eL cy f3)]) [0] (by decide) rfl
    have hFc : ∀ q, va_A ([(o3, eL cy f3)] ++ WC cy ad ks g u) H.size q → s.heap.size ≤ q := va_freeP (X := XLW cy o3 o4 am f3 f4 r) (cx := [(o3, eL cy f3)]) hD hS hA [0] rfl
    refine vx_calli (vx_runSX (As := [.ref (ad .cl), .int (xs (4 * n + 1)), .ref o3]) (rest := []) ⟨hx, hb, hml, hown, hts⟩ (ct_blanksIn l hst dC dI cy nb ad ks g hk u ((xs (4 * n + 1))) o3 f3 xk H.size hxk e2) (vx_cwSW 3 hts (gSH mw_1398 mw_1399 mw_562 mw_1400) rfl rfl rfl (by decide +kernel) ⟨Nat.le_of_ble_eq_true rfl, Nat.le_of_ble_eq_true rfl⟩) (my_preS hPc hK hDc hE hS hFc) rfl rfl hl.1 rfl (lv_room (Nat.le_of_ble_eq_true rfl)) dL_law_1583 ⟨by show _ ≤ 601024; omega, by show _ ≤ 7293034; omega⟩) hS (fun q _ h => hFc q h) hFc (fun q _ h => hFc q h) (fun E9 ce9 q9 u9 t9 H1 locs1 ht9 hvm9 hp9 _ _ _ _ _ _ _ => hp9.elim) (fun rw9 u9 t9 H1 locs ht hvm hw hB hz1 hk1 hS => ?_)
    obtain ⟨hP1, hD1⟩ := hB
    rw [ht] at hP1
    obtain ⟨hP, hD⟩ := va_joinP (X := XLW cy o3 o4 am f3 f4 r) (cx := [(o3, eL cy f3)]) (wr := ((o4, eD cy f4) :: WM cy am r)) (rx := [(o3, eL cy f3)]) (pl := WC cy ad ks g u) (pl1 := WC cy ad ks g u) hP hD [0] [1, 2, 3, 4, 5, 6, 7, 8, 9, 10, 11, 12] rfl rfl (by decide) (by decide) hk1 hFc hP1 hD1
    have hP : va_P (dC, dI) vwCl (XLW cy o3 o4 am f3 f4 r ++ WC cy ad ks g u) H1 := hP.part (X := ((o4, eD cy f4) :: WM cy am r) ++ [(o3, eL cy f3)]) (cx := XLW cy o3 o4 am f3 f4 r) [12, 0, 1, 2, 3, 4, 5, 6, 7, 8, 9, 10, 11] rfl
    have hD : va_D (fun q : Nat => s.heap.size ≤ q) (XLW cy o3 o4 am f3 f4 r ++ WC cy ad ks g u) := hD.part (X := ((o4, eD cy f4) :: WM cy am r) ++ [(o3, eL cy f3)]) (cx := XLW cy o3 o4 am f3 f4 r) [12, 0, 1, 2, 3, 4, 5, 6, 7, 8, 9, 10, 11] (by decide) rfl
    generalize H1 = H at hP hS ⊢
    clear hP1 hD1 hPc hDc hFc hk1 hz1 hvm ht
    refine lv_istore (lv' := [(6, .int rw9), (5, .int (nI (4 * n))), (4, .ref o4), (3, .ref o3), (2, .ref (am 0)), (1, .ref (ad .cl)), (0, .ref b)]) hx hb dL_law_1586 hl (by decide) rfl (fun ls hl => ?_)
    refine lv_aload_n hx hb dL_law_1588 rfl (lv_at hl 4 rfl) ?_
    refine lv_aload_n hx hb dL_law_1589 rfl (lv_at hl 6 rfl) ?_
    refine lv_iload hx hb dL_law_1590 (lv_at hl 1 rfl) ?_
    refine lv_iconst (v := 1) hx hb dL_law_1592 (by decide) ?_
    refine lv_iadd hx hb dL_law_1593 ?_
    refine my_topi (y := nI (4 * n + 1)) (nI_add (4 * n) 1) ?_
    refine va_sld hx hb hX hbl hbA hS (vp_in_nI (n := 4 * n + 1) (by omega) (by omega)) dL_law_1594 ?_
    refine my_topi (y := xs (4 * n + 1)) (congrArg xs (nI_clamp (by omega))) ?_
    have hPc := hP.sub (ws' := (WM cy am r)) [2, 3, 4, 5, 6, 7, 8, 9, 10, 11, 12] rfl
    have hDc := hD.sub (ws' := (WM cy am r)) [2, 3, 4, 5, 6, 7, 8, 9, 10, 11, 12] (by decide) rfl
    have hFc := va_free (wc := (WM cy am r)) hD hS hA [2, 3, 4, 5, 6, 7, 8, 9, 10, 11, 12] rfl
    refine va_calli (va_runV (As := [.int (xs (4 * n + 1))]) (rest := []) ⟨hx, hb, hml, hown, hts⟩ (k_X8_blanksIn l dC dI cy nb am r ((xs (4 * n + 1))) (nI 0) (th r k) H.size e1) (cwV 1 hts (gV mw_1405 mw_1406 mw_1407 mw_5 mw_1408) rfl rfl rfl (by decide +kernel) ⟨Nat.le_of_ble_eq_true rfl, Nat.le_of_ble_eq_true rfl⟩) (my_preV hPc hK hDc hE hS hFc (va_recv (q := (RX8, TX8, 23)) hK hP (ci := 8) (q0 := 2) rfl rfl)) rfl rfl hl.1 rfl (lv_room (Nat.le_of_ble_eq_true rfl)) dL_law_1595 ⟨by show _ ≤ 601024; omega, by show _ ≤ 7293034; omega⟩) hS (fun q _ h => hFc q h) hFc (fun rm9 u9 t9 H1 locs ht hvm hwm hB hz1 hk1 hS => ?_)
    obtain ⟨hP1, hD1⟩ := hB
    rw [ht] at hP1
    obtain ⟨hP, hD⟩ := va_joinQ (X := XLW cy o3 o4 am f3 f4 r) (cx := (WM cy am r)) (wr := [(o3, eL cy f3), (o4, eD cy f4)]) (w1 := (WM cy am (th r k))) (pl := WC cy ad ks g u) hP hD [2, 3, 4, 5, 6, 7, 8, 9, 10, 11, 12] [0, 1] rfl rfl (by decide) (by decide) hk1 hFc hP1 hD1
    have hP : va_P (dC, dI) vwCl (XLW cy o3 o4 am f3 f4 (th r k) ++ WC cy ad ks g u) H1 := hP
    have hD : va_D (fun q : Nat => s.heap.size ≤ q) (XLW cy o3 o4 am f3 f4 (th r k) ++ WC cy ad ks g u) := hD
    generalize H1 = H at hP hS ⊢
    clear hP1 hD1 hPc hDc hFc hk1 hz1 hvm ht
    refine my_topi hwm ?_
    refine lv_istore (lv' := [(7, .int (nI 0)), (6, .int rw9), (5, .int (nI (4 * n))), (4, .ref o4), (3, .ref o3), (2, .ref (am 0)), (1, .ref (ad .cl)), (0, .ref b)]) hx hb dL_law_1598 hl (by decide) rfl (fun ls hl => ?_)
    refine lv_goto (tgt := 1819) hx hb dL_law_1600 (by decide) ?_
    refine W.widen (k := cells + 603) (n := slots + 9640) (by omega) (by omega) ?_
    exact K H locs ls ⟨ad, ks, g, u, (th r k), f3, f4, hk, (hGI.thr).mono (by omega) (by omega) (by omega), hP, hD, hS, lv_sub hl [2, 3, 4, 5, 6, 7] rfl⟩
