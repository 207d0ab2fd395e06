section
set_option maxHeartbeats 8000000 in
set_option maxRecDepth 100000 in
theorem law_c35 {p : Program} {e : Env} {s : State} {m : MethodId} {below : List Frame} {meth : Method} {c : Code} (l : Launch) (hst : l.stackTraces = false) {b L : Nat} {xs : Nat → Int32} (dC : Nat → ClassId) (dI : Nat → Nat → Nat) (cy : Nat → ClassId) (nb : Nat → Nat) (o3 o4 : Nat) (am : Nat → Nat) {n : Nat} (hn : n < 512) (hL : 4 * n + 4 ≤ L) (hL2 : L ≤ 2048) (C0 : LX p s m meth c b L xs dC dI cy nb) {Q : State → Prop} {H : Heap} {locs : List Loc} {ls : Array Slot} {cells slots : Nat} (hc : cells ≤ 400000) (hs : slots ≤ 6000000) (h : LSt s dC dI cy nb b o3 o4 am n (4 * n) H locs ls) (K : ∀ (H : Heap) (locs : List Loc) (ls : Array Slot), LSt s dC dI cy nb b o3 o4 am (n + 1) (4 * n) H locs ls → W p l e room_1 s m #[Value.ref b] below meth c H locs (cells + 603) (slots + 9640) Q (F0 m 1791 ls [])) : W p l e room_1 s m #[Value.ref b] below meth c H locs cells slots Q (F0 m 1366 ls []) := by
  obtain ⟨hx, hb, hr, hml, hown, hts, hX, hbl, hlocks, hK, hE⟩ := C0
  have hA : ∀ q : Nat, s.heap.size ≤ q → (fun q : Nat => s.heap.size ≤ q) q := fun _ h => h
  have hbA : ¬ (fun q : Nat => s.heap.size ≤ q) b := Nat.not_le.mpr hbl
  obtain ⟨ad, ks, g, u, r, f3, f4, hk, hGI, hP, hD, hS, hl⟩ := h
  have h9 : AT (F8_run r (xs (4 * n + 1))) (C7_run g u (xs (4 * n + 1))) r 1 (2001 * n + 2000) (602 * n) := a_run hGI (by omega) (by omega)
  rcases h9 with ⟨x, r2, c2, c2g, e1, e2, e3, e6⟩ | ⟨k, k1, k2, e1, e2⟩
  · refine lv_aload_n hx hb dL_law_1366 rfl (lv_at hl 4 rfl) ?_
    refine lv_aload_n hx hb dL_law_1367 rfl (lv_at hl 5 rfl) ?_
    refine lv_iload hx hb dL_law_1368 (lv_at hl 0 rfl) ?_
    refine lv_iconst (v := 1) hx hb dL_law_1370 (by decide) ?_
    refine lv_iadd hx hb dL_law_1371 ?_
    refine my_topi (y := nI (4 * n + 1)) (nI_add (4 * n) 1) ?_
    refine va_sld hx hb hX hbl hbA hS (vp_in_nI (n := 4 * n + 1) (by omega) (by omega)) dL_law_1372 ?_
    refine my_topi (y := xs (4 * n + 1)) (congrArg xs (nI_clamp (by omega))) ?_
    refine lv_aload_n hx hb dL_law_1373 rfl (lv_at hl 2 rfl) ?_
    have hPc : va_P (dC, dI) vwCl ([(o3, eL cy f3)] ++ WC cy ad ks g u) H := hP.part (X := XLW cy o3 o4 am f3 f4 r) (cx := [(o3, eL cy f3)]) [0] rfl
    have hDc : va_D (fun q : Nat => s.heap.size ≤ q) ([(o3, eL cy f3)] ++ WC cy ad ks g u) := hD.part (X := XLW cy o3 o4 am f3 f4 r) (cx := [(o3, eL cy f3)]) [0] (by decide) rfl
    have hFc : ∀ q, va_A ([(o3, eL cy f3)] ++ WC cy ad ks g u) H.size q → s.heap.size ≤ q := va_freeP (X := XLW cy o3 o4 am f3 f4 r) (cx := [(o3, eL cy f3)]) hD hS hA [0] rfl
    refine vx_calli (vx_runSX (As := [.ref (ad .cl), .int (xs (4 * n + 1)), .ref o3]) (rest := []) ⟨hx, hb, hml, hown, hts⟩ (cn_run l hst dC dI cy nb ad ks g hk u ((xs (4 * n + 1))) o3 f3 x c2g c2 H.size e2) (vx_cwSW 3 hts (gSH mw_1130 mw_1131 mw_562 mw_1132) rfl rfl rfl (by decide +kernel) ⟨Nat.le_of_ble_eq_true rfl, Nat.le_of_ble_eq_true rfl⟩) (my_preS hPc hK hDc hE hS hFc) rfl rfl hl.1 rfl (lv_room (Nat.le_of_ble_eq_true rfl)) dL_law_1374 ⟨by show _ ≤ 601024; omega, by show _ ≤ 7293034; omega⟩) hS (fun q _ h => hFc q h) hFc (fun q _ h => hFc q h) (fun E9 ce9 q9 u9 t9 H1 locs1 ht9 hvm9 hp9 _ _ _ _ _ _ _ => hp9.elim) (fun rw9 u9 t9 H1 locs ht hvm hw hB hz1 hk1 hS => ?_)
    obtain ⟨ad', ks', hkz, axz, hP1, hD1⟩ := hB
    rw [ht] at hP1
    obtain ⟨hP, hD⟩ := va_joinP (X := XLW cy o3 o4 am f3 f4 r) (cx := [(o3, eL cy f3)]) (wr := ((o4, eD cy f4) :: WM cy am r)) (rx := [(o3, eL cy (vp_updL f3 ((0 : Int32).toNatClampNeg) (x.toInt64)))]) (pl := WC cy ad ks g u) (pl1 := WC cy ad' ks' c2g c2) hP hD [0] [1, 2, 3, 4, 5, 6, 7, 8, 9, 10, 11, 12] rfl rfl (by decide) (by decide) hk1 hFc hP1 hD1
    have hP : va_P (dC, dI) vwCl (XLW cy o3 o4 am (vp_updL f3 ((0 : Int32).toNatClampNeg) (x.toInt64)) f4 r ++ WC cy ad' ks' c2g c2) H1 := hP.part (X := ((o4, eD cy f4) :: WM cy am r) ++ [(o3, eL cy (vp_updL f3 ((0 : Int32).toNatClampNeg) (x.toInt64)))]) (cx := XLW cy o3 o4 am (vp_updL f3 ((0 : Int32).toNatClampNeg) (x.toInt64)) f4 r) [12, 0, 1, 2, 3, 4, 5, 6, 7, 8, 9, 10, 11] rfl
    have hD : va_D (fun q : Nat => s.heap.size ≤ q) (XLW cy o3 o4 am (vp_updL f3 ((0 : Int32).toNatClampNeg) (x.toInt64)) f4 r ++ WC cy ad' ks' c2g c2) := hD.part (X := ((o4, eD cy f4) :: WM cy am r) ++ [(o3, eL cy (vp_updL f3 ((0 : Int32).toNatClampNeg) (x.toInt64)))]) (cx := XLW cy o3 o4 am (vp_updL f3 ((0 : Int32).toNatClampNeg) (x.toInt64)) f4 r) [12, 0, 1, 2, 3, 4, 5, 6, 7, 8, 9, 10, 11] (by decide) rfl
    generalize H1 = H at hP hS ⊢
    have hl : lv_has ls 10 [(5, .int (nI (4 * n))), (4, .ref o4), (3, .ref o3), (2, .ref (am 0)), (1, .ref (ad' .cl)), (0, .ref b)] := by rw [(axz .cl True.intro).2]; exact hl
    clear hP1 hD1 hPc hDc hFc hk1 hz1 hvm ht
    refine lv_istore (lv' := [(6, .int rw9), (5, .int (nI (4 * n))), (4, .ref o4), (3, .ref o3), (2, .ref (am 0)), (1, .ref (ad' .cl)), (0, .ref b)]) hx hb dL_law_1377 hl (by decide) rfl (fun ls hl => ?_)
    refine lv_aload_n hx hb dL_law_1379 rfl (lv_at hl 4 rfl) ?_
    refine lv_aload_n hx hb dL_law_1380 rfl (lv_at hl 6 rfl) ?_
    refine lv_iload hx hb dL_law_1381 (lv_at hl 1 rfl) ?_
    refine lv_iconst (v := 1) hx hb dL_law_1383 (by decide) ?_
    refine lv_iadd hx hb dL_law_1384 ?_
    refine my_topi (y := nI (4 * n + 1)) (nI_add (4 * n) 1) ?_
    refine va_sld hx hb hX hbl hbA hS (vp_in_nI (n := 4 * n + 1) (by omega) (by omega)) dL_law_1385 ?_
    refine my_topi (y := xs (4 * n + 1)) (congrArg xs (nI_clamp (by omega))) ?_
    have hPc := hP.sub (ws' := (WM cy am r)) [2, 3, 4, 5, 6, 7, 8, 9, 10, 11, 12] rfl
    have hDc := hD.sub (ws' := (WM cy am r)) [2, 3, 4, 5, 6, 7, 8, 9, 10, 11, 12] (by decide) rfl
    have hFc := va_free (wc := (WM cy am r)) hD hS hA [2, 3, 4, 5, 6, 7, 8, 9, 10, 11, 12] rfl
    refine va_calli (va_runV (As := [.int (xs (4 * n + 1))]) (rest := []) ⟨hx, hb, hml, hown, hts⟩ (k_X8_run l dC dI cy nb am r ((xs (4 * n + 1))) x (r2) H.size e1) (cwV 1 hts (gV mw_1222 mw_1223 mw_1224 mw_5 mw_1225) rfl rfl rfl (by decide +kernel) ⟨Nat.le_of_ble_eq_true rfl, Nat.le_of_ble_eq_true rfl⟩) (my_preV hPc hK hDc hE hS hFc (va_recv (q := (RX8, TX8, 23)) hK hP (ci := 8) (q0 := 2) rfl rfl)) rfl rfl hl.1 rfl (lv_room (Nat.le_of_ble_eq_true rfl)) dL_law_1386 ⟨by show _ ≤ 601024; omega, by show _ ≤ 7293034; omega⟩) hS (fun q _ h => hFc q h) hFc (fun rm9 u9 t9 H1 locs ht hvm hwm hB hz1 hk1 hS => ?_)
    obtain ⟨hP1, hD1⟩ := hB
    rw [ht] at hP1
    obtain ⟨hP, hD⟩ := va_joinQ (X := XLW cy o3 o4 am (vp_updL f3 ((0 : Int32).toNatClampNeg) (x.toInt64)) f4 r) (cx := (WM cy am r)) (wr := [(o3, eL cy (vp_updL f3 ((0 : Int32).toNatClampNeg) (x.toInt64))), (o4, eD cy f4)]) (w1 := (WM cy am (r2))) (pl := WC cy ad' ks' c2g c2) hP hD [2, 3, 4, 5, 6, 7, 8, 9, 10, 11, 12] [0, 1] rfl rfl (by decide) (by decide) hk1 hFc hP1 hD1
    have hP : va_P (dC, dI) vwCl (XLW cy o3 o4 am (vp_updL f3 ((0 : Int32).toNatClampNeg) (x.toInt64)) f4 r2 ++ WC cy ad' ks' c2g c2) H1 := hP
    have hD : va_D (fun q : Nat => s.heap.size ≤ q) (XLW cy o3 o4 am (vp_updL f3 ((0 : Int32).toNatClampNeg) (x.toInt64)) f4 r2 ++ WC cy ad' ks' c2g c2) := hD
    generalize H1 = H at hP hS ⊢
    clear hP1 hD1 hPc hDc hFc hk1 hz1 hvm ht
    refine my_topi hwm ?_
    refine lv_istore (lv' := [(7, .int x), (6, .int rw9), (5, .int (nI (4 * n))), (4, .ref o4), (3, .ref o3), (2, .ref (am 0)), (1, .ref (ad' .cl)), (0, .ref b)]) hx hb dL_law_1389 hl (by decide) rfl (fun ls hl => ?_)
    refine lv_goto (tgt := 1791) hx hb dL_law_1391 (by decide) ?_
    refine W.widen (k := cells + 603) (n := slots + 9640) (by omega) (by omega) ?_
    exact K H locs ls ⟨ad', ks', c2g, c2, r2, (vp_updL f3 ((0 : Int32).toNatClampNeg) (x.toInt64)), f4, hkz, e3.mono (by omega) (by omega) (by omega), hP, hD, hS, lv_sub hl [2, 3, 4, 5, 6, 7] rfl⟩
  · have e2 : C7_run g u (xs (4 * n + 1)) = some (.inl (nI (k + 1))) := e2
    generalize hxx : (nI (k + 1)) = xk at e2
    have hxk : ¬ xk = 1 := by rw [← hxx]; exact nI_ne (b := 1) (by omega) (by omega) (by omega)
    refine lv_aload_n hx hb dL_law_1366 rfl (lv_at hl 4 rfl) ?_
    refine lv_aload_n hx hb dL_law_1367 rfl (lv_at hl 5 rfl) ?_
    refine lv_iload hx hb dL_law_1368 (lv_at hl 0 rfl) ?_
    refine lv_iconst (v := 1) hx hb dL_law_1370 (by decide) ?_
    refine lv_iadd hx hb dL_law_1371 ?_
    refine my_topi (y := nI (4 * n + 1)) (nI_add (4 * n) 1) ?_
    refine va_sld hx hb hX hbl hbA hS (vp_in_nI (n := 4 * n + 1) (by omega) (by omega)) dL_law_1372 ?_
    refine my_topi (y := xs (4 * n + 1)) (congrArg xs (nI_clamp (by omega))) ?_
    refine lv_aload_n hx hb dL_law_1373 rfl (lv_at hl 2 rfl) ?_
    have hPc : va_P (dC, dI) vwCl ([(o3, eL cy f3)] ++ WC cy ad ks g u) H := hP.part (X := XLW cy o3 o4 am f3 f4 r) (cx := [(o3, eL cy f3)]) [0] rfl
    have hDc : va_D (fun q : Nat => s.heap.size ≤ q) ([(o3, eL cy f3)] ++ WC cy ad ks g u) := hD.part (X := XLW cy o3 o4 am f3 f4 r) (cx := [(o3, eL cy f3)]) [0] (by decide) rfl
    have hFc : ∀ q, va_A ([(o3, eL cy f3)] ++ WC cy ad ks g u) H.size q → s.heap.size ≤ q := va_freeP (X := XLW cy o3 o4 am f3 f4 r) (cx := [(o3, eL cy f3)]) hD hS hA [0] rfl
    refine vx_calli (vx_runSX (As := [.ref (ad .cl), .int (xs (4 * n + 1)), .ref o3]) (rest := []) ⟨hx, hb, hml, hown, hts⟩ (ct_run l hst dC dI cy nb ad ks g hk u ((xs (4 * n + 1))) o3 f3 xk H.size hxk e2) (vx_cwSW 3 hts (gSH mw_1130 mw_1131 mw_562 mw_1132) rfl rfl rfl (by decide +kernel) ⟨Nat.le_of_ble_eq_true rfl, Nat.le_of_ble_eq_true rfl⟩) (my_preS hPc hK hDc hE hS hFc) rfl rfl hl.1 rfl (lv_room (Nat.le_of_ble_eq_true rfl)) dL_law_1374 ⟨by show _ ≤ 601024; omega, by show _ ≤ 7293034; omega⟩) hS (fun q _ h => hFc q h) hFc (fun q _ h => hFc q h) (fun E9 ce9 q9 u9 t9 H1 locs1 ht9 hvm9 hp9 _ _ _ _ _ _ _ => hp9.elim) (fun rw9 u9 t9 H1 locs ht hvm hw hB hz1 hk1 hS => ?_)
    obtain ⟨hP1, hD1⟩ := hB
    rw [ht] at hP1
    obtain ⟨hP, hD⟩ := va_joinP (X := XLW cy o3 o4 am f3 f4 r) (cx := [(o3, eL cy f3)]) (wr := ((o4, eD cy f4) :: WM cy am r)) (rx := [(o3, eL cy f3)]) (pl := WC cy ad ks g u) (pl1 := WC cy ad ks g u) hP hD [0] [1, 2, 3, 4, 5, 6, 7, 8, 9, 10, 11, 12] rfl rfl (by decide) (by decide) hk1 hFc hP1 hD1
    have hP : va_P (dC, dI) vwCl (XLW cy o3 o4 am f3 f4 r ++ WC cy ad ks g u) H1 := hP.part (X := ((o4, eD cy f4) :: WM cy am r) ++ [(o3, eL cy f3)]) (cx := XLW cy o3 o4 am f3 f4 r) [12, 0, 1, 2, 3, 4, 5, 6, 7, 8, 9, 10, 11] rfl
    have hD : va_D (fun q : Nat => s.heap.size ≤ q) (XLW cy o3 o4 am f3 f4 r ++ WC cy ad ks g u) := hD.part (X := ((o4, eD cy f4) :: WM cy am r) ++ [(o3, eL cy f3)]) (cx := XLW cy o3 o4 am f3 f4 r) [12, 0, 1, 2, 3, 4, 5, 6, 7, 8, 9, 10, 11] (by decide) rfl
    generalize H1 = H at hP hS ⊢
    clear hP1 hD1 hPc hDc hFc hk1 hz1 hvm ht
    refine lv_istore (lv' := [(6, .int rw9), (5, .int (nI (4 * n))), (4, .ref o4), (3, .ref o3), (2, .ref (am 0)), (1, .ref (ad .cl)), (0, .ref b)]) hx hb dL_law_1377 hl (by decide) rfl (fun ls hl => ?_)
    refine lv_aload_n hx hb dL_law_1379 rfl (lv_at hl 4 rfl) ?_
    refine lv_aload_n hx hb dL_law_1380 rfl (lv_at hl 6 rfl) ?_
    refine lv_iload hx hb dL_law_1381 (lv_at hl 1 rfl) ?_
    refine lv_iconst (v := 1) hx hb dL_law_1383 (by decide) ?_
    refine lv_iadd hx hb dL_law_1384 ?_
    refine my_topi (y := nI (4 * n + 1)) (nI_add (4 * n) 1) ?_
    refine va_sld hx hb hX hbl hbA hS (vp_in_nI (n := 4 * n + 1) (by omega) (by omega)) dL_law_1385 ?_
    refine my_topi (y := xs (4 * n + 1)) (congrArg xs (nI_clamp (by omega))) ?_
    have hPc := hP.sub (ws' := (WM cy am r)) [2, 3, 4, 5, 6, 7, 8, 9, 10, 11, 12] rfl
    have hDc := hD.sub (ws' := (WM cy am r)) [2, 3, 4, 5, 6, 7, 8, 9, 10, 11, 12] (by decide) rfl
    have hFc := va_free (wc := (WM cy am r)) hD hS hA [2, 3, 4, 5, 6, 7, 8, 9, 10, 11, 12] rfl
    refine va_calli (va_runV (As := [.int (xs (4 * n + 1))]) (rest := []) ⟨hx, hb, hml, hown, hts⟩ (k_X8_run l dC dI cy nb am r ((xs (4 * n + 1))) (nI 0) (th r k) H.size e1) (cwV 1 hts (gV mw_1222 mw_1223 mw_1224 mw_5 mw_1225) rfl rfl rfl (by decide +kernel) ⟨Nat.le_of_ble_eq_true rfl, Nat.le_of_ble_eq_true rfl⟩) (my_preV hPc hK hDc hE hS hFc (va_recv (q := (RX8, TX8, 23)) hK hP (ci := 8) (q0 := 2) rfl rfl)) rfl rfl hl.1 rfl (lv_room (Nat.le_of_ble_eq_true rfl)) dL_law_1386 ⟨by show _ ≤ 601024; omega, by show _ ≤ 7293034; omega⟩) hS (fun q _ h => hFc q h) hFc (fun rm9 u9 t9 H1 locs ht hvm hwm hB hz1 hk1 hS => ?_)
    obtain ⟨hP1, hD1⟩ := hB
    rw [ht] at hP1
    obtain ⟨hP, hD⟩ := va_joinQ (X := XLW cy o3 o4 am f3 f4 r) (cx := (WM cy am r)) (wr := [(o3, eL cy f3), (o4, eD cy f4)]) (w1 := (WM cy am (th r k))) (pl := WC cy ad ks g u) hP hD [2, 3, 4, 5, 6, 7, 8, 9, 10, 11, 12] [0, 1] rfl rfl (by decide) (by decide) hk1 hFc hP1 hD1
    have hP : va_P (dC, dI) vwCl (XLW cy o3 o4 am f3 f4 (th r k) ++ WC cy ad ks g u) H1 := hP
    have hD : va_D (fun q : Nat => s.heap.size ≤ q) (XLW cy o3 o4 am f3 f4 (th r k) ++ WC cy ad ks g u) := hD
    generalize H1 = H at hP hS ⊢
    clear hP1 hD1 hPc hDc hFc hk1 hz1 hvm ht
    refine my_topi hwm ?_
    refine lv_istore (lv' := [(7, .int (nI 0)), (6, .int rw9), (5, .int (nI (4 * n))), (4, .ref o4), (3, .ref o3), (2, .ref (am 0)), (1, .ref (ad .cl)), (0, .ref b)]) hx hb dL_law_1389 hl (by decide) rfl (fun ls hl => ?_)
    refine lv_goto (tgt := 1791) hx hb dL_law_1391 (by decide) ?_
    refine W.widen (k := cells + 603) (n := slots + 9640) (by omega) (by omega) ?_
    exact K H locs ls ⟨ad, ks, g, u, (th r k), f3, f4, hk, (hGI.thr).mono (by omega) (by omega) (by omega), hP, hD, hS, lv_sub hl [2, 3, 4, 5, 6, 7] rfl⟩
set_option maxHeartbeats 8000000 in
set_option maxRecDepth 100000 in
theorem law_c36 {p : Program} {e : Env} {s : State} {m : MethodId} {below : List Frame} {meth : Method} {c : Code} (l : Launch) (hst : l.stackTraces = false) {b L : Nat} {xs : Nat → Int32} (dC : Nat → ClassId) (dI : Nat → Nat → Nat) (cy : Nat → ClassId) (nb : Nat → Nat) (o3 o4 : Nat) (am : Nat → Nat) {n : Nat} (hn : n < 512) (hL : 4 * n + 4 ≤ L) (hL2 : L ≤ 2048) (C0 : LX p s m meth c b L xs dC dI cy nb) {Q : State → Prop} {H : Heap} {locs : List Loc} {ls : Array Slot} {cells slots : Nat} (hc : cells ≤ 400000) (hs : slots ≤ 6000000) (h : LSt s dC dI cy nb b o3 o4 am n (4 * n) H locs ls) (K : ∀ (H : Heap) (locs : List Loc) (ls : Array Slot), LSt s dC dI cy nb b o3 o4 am (n + 1) (4 * n) H locs ls → W p l e room_1 s m #[Value.ref b] below meth c H locs (cells + 603) (slots + 9640) Q (F0 m 1791 ls [])) : W p l e room_1 s m #[Value.ref b] below meth c H locs cells slots Q (F0 m 1394 ls []) := by
  obtain ⟨hx, hb, hr, hml, hown, hts, hX, hbl, hlocks, hK, hE⟩ := C0
  have hA : ∀ q : Nat, s.heap.size ≤ q → (fun q : Nat => s.heap.size ≤ q) q := fun _ h => h
  have hbA : ¬ (fun q : Nat => s.heap.size ≤ q) b := Nat.not_le.mpr hbl
  obtain ⟨ad, ks, g, u, r, f3, f4, hk, hGI, hP, hD, hS, hl⟩ := h
  have h9 : AT (F8_runToLeave r (xs (4 * n + 1))) (C7_runToLeave g u (xs (4 * n + 1))) r 1 (2001 * n + 2000) (602 * n) := a_runToLeave hGI (by omega) (by omega)
  rcases h9 with ⟨x, r2, c2, c2g, e1, e2, e3, e6⟩ | ⟨k, k1, k2, e1, e2⟩
  · refine lv_aload_n hx hb dL_law_1394 rfl (lv_at hl 4 rfl) ?_
    refine lv_aload_n hx hb dL_law_1395 rfl (lv_at hl 5 rfl) ?_
    refine lv_iload hx hb dL_law_1396 (lv_at hl 0 rfl) ?_
    refine lv_iconst (v := 1) hx hb dL_law_1398 (by decide) ?_
    refine lv_iadd hx hb dL_law_1399 ?_
    refine my_topi (y := nI (4 * n + 1)) (nI_add (4 * n) 1) ?_
    refine va_sld hx hb hX hbl hbA hS (vp_in_nI (n := 4 * n + 1) (by omega) (by omega)) dL_law_1400 ?_
    refine my_topi (y := xs (4 * n + 1)) (congrArg xs (nI_clamp (by omega))) ?_
    refine lv_aload_n hx hb dL_law_1401 rfl (lv_at hl 2 rfl) ?_
    have hPc : va_P (dC, dI) vwCl ([(o3, eL cy f3)] ++ WC cy ad ks g u) H := hP.part (X := XLW cy o3 o4 am f3 f4 r) (cx := [(o3, eL cy f3)]) [0] rfl
    have hDc : va_D (fun q : Nat => s.heap.size ≤ q) ([(o3, eL cy f3)] ++ WC cy ad ks g u) := hD.part (X := XLW cy o3 o4 am f3 f4 r) (cx := [(o3, eL cy f3)]) [0] (by decide) rfl
    have hFc : ∀ q, va_A ([(o3, eL cy f3)] ++ WC cy ad ks g u) H.size q → s.heap.size ≤ q := va_freeP (X := XLW cy o3 o4 am f3 f4 r) (cx := [(o3, eL cy f3)]) hD hS hA [0] rfl
    refine vx_calli (vx_runSX (As := [.ref (ad .cl), .int (xs (4 * n + 1)), .ref o3]) (rest := []) ⟨hx, hb, hml, hown, hts⟩ (cn_runToLeave l hst dC dI cy nb ad ks g hk u ((xs (4 * n + 1))) o3 f3 x c2g c2 H.size e2) (vx_cwSW 3 hts (gSH mw_1279 mw_1280 mw_562 mw_1281) rfl rfl rfl (by decide +kernel) ⟨Nat.le_of_ble_eq_true rfl, Nat.le_of_ble_eq_true rfl⟩) (my_preS hPc hK hDc hE hS hFc) rfl rfl hl.1 rfl (lv_room (Nat.le_of_ble_eq_true rfl)) dL_law_1402 ⟨by show _ ≤ 601024; omega, by show _ ≤ 7293034; omega⟩) hS (fun q _ h => hFc q h) hFc (fun q _ h => hFc q h) (fun E9 ce9 q9 u9 t9 H1 locs1 ht9 hvm9 hp9 _ _ _ _ _ _ _ => hp9.elim) (fun rw9 u9 t9 H1 locs ht hvm hw hB hz1 hk1 hS => ?_)
    obtain ⟨ad', ks', hkz, axz, hP1, hD1⟩ := hB
    rw [ht] at hP1
    obtain ⟨hP, hD⟩ := va_joinP (X := XLW cy o3 o4 am f3 f4 r) (cx := [(o3, eL cy f3)]) (wr := ((o4, eD cy f4) :: WM cy am r)) (rx := [(o3, eL cy (vp_updL f3 ((0 : Int32).toNatClampNeg) (x.toInt64)))]) (pl := WC cy ad ks g u) (pl1 := WC cy ad' ks' c2g c2) hP hD [0] [1, 2, 3, 4, 5, 6, 7, 8, 9, 10, 11, 12] rfl rfl (by decide) (by decide) hk1 hFc hP1 hD1
    have hP : va_P (dC, dI) vwCl (XLW cy o3 o4 am (vp_updL f3 ((0 : Int32).toNatClampNeg) (x.toInt64)) f4 r ++ WC cy ad' ks' c2g c2) H1 := hP.part (X := ((o4, eD cy f4) :: WM cy am r) ++ [(o3, eL cy (vp_updL f3 ((0 : Int32).toNatClampNeg) (x.toInt64)))]) (cx := XLW cy o3 o4 am (vp_updL f3 ((0 : Int32).toNatClampNeg) (x.toInt64)) f4 r) [12, 0, 1, 2, 3, 4, 5, 6, 7, 8, 9, 10, 11] rfl
    have hD : va_D (fun q : Nat => s.heap.size ≤ q) (XLW cy o3 o4 am (vp_updL f3 ((0 : Int32).toNatClampNeg) (x.toInt64)) f4 r ++ WC cy ad' ks' c2g c2) := hD.part (X := ((o4, eD cy f4) :: WM cy am r) ++ [(o3, eL cy (vp_updL f3 ((0 : Int32).toNatClampNeg) (x.toInt64)))]) (cx := XLW cy o3 o4 am (vp_updL f3 ((0 : Int32).toNatClampNeg) (x.toInt64)) f4 r) [12, 0, 1, 2, 3, 4, 5, 6, 7, 8, 9, 10, 11] (by decide) rfl
    generalize H1 = H at hP hS ⊢
    have hl : lv_has ls 10 [(5, .int (nI (4 * n))), (4, .ref o4), (3, .ref o3), (2, .ref (am 0)), (1, .ref (ad' .cl)), (0, .ref b)] := by rw [(axz .cl True.intro).2]; exact hl
    clear hP1 hD1 hPc hDc hFc hk1 hz1 hvm ht
    refine lv_istore (lv' := [(6, .int rw9), (5, .int (nI (4 * n))), (4, .ref o4), (3, .ref o3), (2, .ref (am 0)), (1, .ref (ad' .cl)), (0, .ref b)]) hx hb dL_law_1405 hl (by decide) rfl (fun ls hl => ?_)
    refine lv_aload_n hx hb dL_law_1407 rfl (lv_at hl 4 rfl) ?_
    refine lv_aload_n hx hb dL_law_1408 rfl (lv_at hl 6 rfl) ?_
    refine lv_iload hx hb dL_law_1409 (lv_at hl 1 rfl) ?_
    refine lv_iconst (v := 1) hx hb dL_law_1411 (by decide) ?_
    refine lv_iadd hx hb dL_law_1412 ?_
    refine my_topi (y := nI (4 * n + 1)) (nI_add (4 * n) 1) ?_
    refine va_sld hx hb hX hbl hbA hS (vp_in_nI (n := 4 * n + 1) (by omega) (by omega)) dL_law_1413 ?_
    refine my_topi (y := xs (4 * n + 1)) (congrArg xs (nI_clamp (by omega))) ?_
    have hPc := hP.sub (ws' := (WM cy am r)) [2, 3, 4, 5, 6, 7, 8, 9, 10, 11, 12] rfl
    have hDc := hD.sub (ws' := (WM cy am r)) [2, 3, 4, 5, 6, 7, 8, 9, 10, 11, 12] (by decide) rfl
    have hFc := va_free (wc := (WM cy am r)) hD hS hA [2, 3, 4, 5, 6, 7, 8, 9, 10, 11, 12] rfl
    refine va_calli (va_runV (As := [.int (xs (4 * n + 1))]) (rest := []) ⟨hx, hb, hml, hown, hts⟩ (k_X8_runToLeave l dC dI cy nb am r ((xs (4 * n + 1))) x (r2) H.size e1) (cwV 1 hts (gV mw_1286 mw_1287 mw_1288 mw_5 mw_1289) rfl rfl rfl (by decide +kernel) ⟨Nat.le_of_ble_eq_true rfl, Nat.le_of_ble_eq_true rfl⟩) (my_preV hPc hK hDc hE hS hFc (va_recv (q := (RX8, TX8, 23)) hK hP (ci := 8) (q0 := 2) rfl rfl)) rfl rfl hl.1 rfl (lv_room (Nat.le_of_ble_eq_true rfl)) dL_law_1414 ⟨by show _ ≤ 601024; omega, by show _ ≤ 7293034; omega⟩) hS (fun q _ h => hFc q h) hFc (fun rm9 u9 t9 H1 locs ht hvm hwm hB hz1 hk1 hS => ?_)
    obtain ⟨hP1, hD1⟩ := hB
    rw [ht] at hP1
    obtain ⟨hP, hD⟩ := va_joinQ (X := XLW cy o3 o4 am (vp_updL f3 ((0 : Int32).toNatClampNeg) (x.toInt64)) f4 r) (cx := (WM cy am r)) (wr := [(o3, eL cy (vp_updL f3 ((0 : Int32).toNatClampNeg) (x.toInt64))), (o4, eD cy f4)]) (w1 := (WM cy am (r2))) (pl := WC cy ad' ks' c2g c2) hP hD [2, 3, 4, 5, 6, 7, 8, 9, 10, 11, 12] [0, 1] rfl rfl (by decide) (by decide) hk1 hFc hP1 hD1
    have hP : va_P (dC, dI) vwCl (XLW cy o3 o4 am (vp_updL f3 ((0 : Int32).toNatClampNeg) (x.toInt64)) f4 r2 ++ WC cy ad' ks' c2g c2) H1 := hP
    have hD : va_D (fun q : Nat => s.heap.size ≤ q) (XLW cy o3 o4 am (vp_updL f3 ((0 : Int32).toNatClampNeg) (x.toInt64)) f4 r2 ++ WC cy ad' ks' c2g c2) := hD
    generalize H1 = H at hP hS ⊢
    clear hP1 hD1 hPc hDc hFc hk1 hz1 hvm ht
    refine my_topi hwm ?_
    refine lv_istore (lv' := [(7, .int x), (6, .int rw9), (5, .int (nI (4 * n))), (4, .ref o4), (3, .ref o3), (2, .ref (am 0)), (1, .ref (ad' .cl)), (0, .ref b)]) hx hb dL_law_1417 hl (by decide) rfl (fun ls hl => ?_)
    refine lv_goto (tgt := 1791) hx hb dL_law_1419 (by decide) ?_
    refine W.widen (k := cells + 603) (n := slots + 9640) (by omega) (by omega) ?_
    exact K H locs ls ⟨ad', ks', c2g, c2, r2, (vp_updL f3 ((0 : Int32).toNatClampNeg) (x.toInt64)), f4, hkz, e3.mono (by omega) (by omega) (by omega), hP, hD, hS, lv_sub hl [2, 3, 4, 5, 6, 7] rfl⟩
  · have e2 : C7_runToLeave g u (xs (4 * n + 1)) = some (.inl (nI (k + 1))) := e2
    generalize hxx : (nI (k + 1)) = xk at e2
    have hxk : ¬ xk = 1 := by rw [← hxx]; exact nI_ne (b := 1) (by omega) (by omega) (by omega)
    refine lv_aload_n hx hb dL_law_1394 rfl (lv_at hl 4 rfl) ?_
    refine lv_aload_n hx hb dL_law_1395 rfl (lv_at hl 5 rfl) ?_
    refine lv_iload hx hb dL_law_1396 (lv_at hl 0 rfl) ?_
    refine lv_iconst (v := 1) hx hb dL_law_1398 (by decide) ?_
    refine lv_iadd hx hb dL_law_1399 ?_
    refine my_topi (y := nI (4 * n + 1)) (nI_add (4 * n) 1) ?_
    refine va_sld hx hb hX hbl hbA hS (vp_in_nI (n := 4 * n + 1) (by omega) (by omega)) dL_law_1400 ?_
    refine my_topi (y := xs (4 * n + 1)) (congrArg xs (nI_clamp (by omega))) ?_
    refine lv_aload_n hx hb dL_law_1401 rfl (lv_at hl 2 rfl) ?_
    have hPc : va_P (dC, dI) vwCl ([(o3, eL cy f3)] ++ WC cy ad ks g u) H := hP.part (X := XLW cy o3 o4 am f3 f4 r) (cx := [(o3, eL cy f3)]) [0] rfl
    have hDc : va_D (fun q : Nat => s.heap.size ≤ q) ([(o3, eL cy f3)] ++ WC cy ad ks g u) := hD.part (X := XLW cy o3 o4 am f3 f4 r) (cx := [(o3, eL cy f3)]) [0] (by decide) rfl
    have hFc : ∀ q, va_A ([(o3, eL cy f3)] ++ WC cy ad ks g u) H.size q → s.heap.size ≤ q := va_freeP (X := XLW cy o3 o4 am f3 f4 r) (cx := [(o3, eL cy f3)]) hD hS hA [0] rfl
    refine vx_calli (vx_runSX (As := [.ref (ad .cl), .int (xs (4 * n + 1)), .ref o3]) (rest := []) ⟨hx, hb, hml, hown, hts⟩ (ct_runToLeave l hst dC dI cy nb ad ks g hk u ((xs (4 * n + 1))) o3 f3 xk H.size hxk e2) (vx_cwSW 3 hts (gSH mw_1279 mw_1280 mw_562 mw_1281) rfl rfl rfl (by decide +kernel) ⟨Nat.le_of_ble_eq_true rfl, Nat.le_of_ble_eq_true rfl⟩) (my_preS hPc hK hDc hE hS hFc) rfl rfl hl.1 rfl (lv_room (Nat.le_of_ble_eq_true rfl)) dL_law_1402 ⟨by show _ ≤ 601024; omega, by show _ ≤ 7293034; omega⟩) hS (fun q _ h => hFc q h) hFc (fun q _ h => hFc q h) (fun E9 ce9 q9 u9 t9 H1 locs1 ht9 hvm9 hp9 _ _ _ _ _ _ _ => hp9.elim) (fun rw9 u9 t9 H1 locs ht hvm hw hB hz1 hk1 hS => ?_)
    obtain ⟨hP1, hD1⟩ := hB
    rw [ht] at hP1
    obtain ⟨hP, hD⟩ := va_joinP (X := XLW cy o3 o4 am f3 f4 r) (cx := [(o3, eL cy f3)]) (wr := ((o4, eD cy f4) :: WM cy am r)) (rx := [(o3, eL cy f3)]) (pl := WC cy ad ks g u) (pl1 := WC cy ad ks g u) hP hD [0] [1, 2, 3, 4, 5, 6, 7, 8, 9, 10, 11, 12] rfl rfl (by decide) (by decide) hk1 hFc hP1 hD1
    have hP : va_P (dC, dI) vwCl (XLW cy o3 o4 am f3 f4 r ++ WC cy ad ks g u) H1 := hP.part (X := ((o4, eD cy f4) :: WM cy am r) ++ [(o3, eL cy f3)]) (cx := XLW cy o3 o4 am f3 f4 r) [12, 0, 1, 2, 3, 4, 5, 6, 7, 8, 9, 10, 11] rfl
    have hD : va_D (fun q : Nat => s.heap.size ≤ q) (XLW cy o3 o4 am f3 f4 r ++ WC cy ad ks g u) := hD.part (X := ((o4, eD cy f4) :: WM cy am r) ++ [(o3, eL cy f3)]) (cx := XLW cy o3 o4 am f3 f4 r) [12, 0, 1, 2, 3, 4, 5, 6, 7, 8, 9, 10, 11] (by decide) rfl
    generalize H1 = H at hP hS ⊢
    clear hP1 hD1 hPc hDc hFc hk1 hz1 hvm ht
    refine lv_istore (lv' := [(6, .int rw9), (5, .int (nI (4 * n))), (4, .ref o4), (3, .ref o3), (2, .ref (am 0)), (1, .ref (ad .cl)), (0, .ref b)]) hx hb dL_law_1405 hl (by decide) rfl (fun ls hl => ?_)
    refine lv_aload_n hx hb dL_law_1407 rfl (lv_at hl 4 rfl) ?_
    refine lv_aload_n hx hb dL_law_1408 rfl (lv_at hl 6 rfl) ?_
    refine lv_iload hx hb dL_law_1409 (lv_at hl 1 rfl) ?_
    refine lv_iconst (v := 1) hx hb dL_law_1411 (by decide) ?_
    refine lv_iadd hx hb dL_law_1412 ?_
    refine my_topi (y := nI (4 * n + 1)) (nI_add (4 * n) 1) ?_
    refine va_sld hx hb hX hbl hbA hS (vp_in_nI (n := 4 * n + 1) (by omega) (by omega)) dL_law_1413 ?_
    refine my_topi (y := xs (4 * n + 1)) (congrArg xs (nI_clamp (by omega))) ?_
    have hPc := hP.sub (ws' := (WM cy am r)) [2, 3, 4, 5, 6, 7, 8, 9, 10, 11, 12] rfl
    have hDc := hD.sub (ws' := (WM cy am r)) [2, 3, 4, 5, 6, 7, 8, 9, 10, 11, 12] (by decide) rfl
    have hFc := va_free (wc := (WM cy am r)) hD hS hA [2, 3, 4, 5, 6, 7, 8, 9, 10, 11, 12] rfl
    refine va_calli (va_runV (As := [.int (xs (4 * n + 1))]) (rest := []) ⟨hx, hb, hml, hown, hts⟩ (k_X8_runToLeave l dC dI cy nb am r ((xs (4 * n + 1))) (nI 0) (th r k) H.size e1) (cwV 1 hts (gV mw_1286 mw_1287 mw_1288 mw_5 mw_1289) rfl rfl rfl (by decide +kernel) ⟨Nat.le_of_ble_eq_true rfl, Nat.le_of_ble_eq_true rfl⟩) (my_preV hPc hK hDc hE hS hFc (va_recv (q := (RX8, TX8, 23)) hK hP (ci := 8) (q0 := 2) rfl rfl)) rfl rfl hl.1 rfl (lv_room (Nat.le_of_ble_eq_true rfl)) dL_law_1414 ⟨by show _ ≤ 601024; omega, by show _ ≤ 7293034; omega⟩) hS (fun q _ h => hFc q h) hFc (fun rm9 u9 t9 H1 locs ht hvm hwm hB hz1 hk1 hS => ?_)
    obtain ⟨hP1, hD1⟩ := hB
    rw [ht] at hP1
    obtain ⟨hP, hD⟩ := va_joinQ (X := XLW cy o3 o4 am f3 f4 r) (cx := (WM cy am r)) (wr := [(o3, eL cy f3), (o4, eD cy f4)]) (w1 := (WM cy am (th r k))) (pl := WC cy ad ks g u) hP hD [2, 3, 4, 5, 6, 7, 8, 9, 10, 11, 12] [0, 1] rfl rfl (by decide) (by decide) hk1 hFc hP1 hD1
    have hP : va_P (dC, dI) vwCl (XLW cy o3 o4 am f3 f4 (th r k) ++ WC cy ad ks g u) H1 := hP
    have hD : va_D (fun q : Nat => s.heap.size ≤ q) (XLW cy o3 o4 am f3 f4 (th r k) ++ WC cy ad ks g u) := hD
    generalize H1 = H at hP hS ⊢
    clear hP1 hD1 hPc hDc hFc hk1 hz1 hvm ht
    refine my_topi hwm ?_
    refine lv_istore (lv' := [(7, .int (nI 0)), (6, .int rw9), (5, .int (nI (4 * n))), (4, .ref o4), (3, .ref o3), (2, .ref (am 0)), (1, .ref (ad .cl)), (0, .ref b)]) hx hb dL_law_1417 hl (by decide) rfl (fun ls hl => ?_)
    refine lv_goto (tgt := 1791) hx hb dL_law_1419 (by decide) ?_
    refine W.widen (k := cells + 603) (n := slots + 9640) (by omega) (by omega) ?_
    exact K H locs ls ⟨ad, ks, g, u, (th r k), f3, f4, hk, (hGI.thr).mono (by omega) (by omega) (by omega), hP, hD, hS, lv_sub hl [2, 3, 4, 5, 6, 7] rfl⟩
set_option maxHeartbeats 8000000 in
set_option maxRecDepth 100000 in
theorem law_c37 {p : Program} {e : Env} {s : State} {m : MethodId} {below : List Frame} {meth : Method} {c : Code} (l : Launch) (hst : l.stackTraces = false) {b L : Nat} {xs : Nat → Int32} (dC : Nat → ClassId) (dI : Nat → Nat → Nat) (cy : Nat → ClassId) (nb : Nat → Nat) (o3 o4 : Nat) (am : Nat → Nat) {n : Nat} (hn : n < 512) (hL : 4 * n + 4 ≤ L) (hL2 : L ≤ 2048) (C0 : LX p s m meth c b L xs dC dI cy nb) {Q : State → Prop} {H : Heap} {locs : List Loc} {ls : Array Slot} {cells slots : Nat} (hc : cells ≤ 400000) (hs : slots ≤ 6000000) (h : LSt s dC dI cy nb b o3 o4 am n (4 * n) H locs ls) (K : ∀ (H : Heap) (locs : List Loc) (ls : Array Slot), LSt s dC dI cy nb b o3 o4 am (n + 1) (4 * n) H locs ls → W p l e room_1 s m #[Value.ref b] below meth c H locs (cells + 603) (slots + 9640) Q (F0 m 1791 ls [])) : W p l e room_1 s m #[Value.ref b] below meth c H locs cells slots Q (F0 m 1422 ls []) := by
  obtain ⟨hx, hb, hr, hml, hown, hts, hX, hbl, hlocks, hK, hE⟩ := C0
  have hA : ∀ q : Nat, s.heap.size ≤ q → (fun q : Nat => s.heap.size ≤ q) q := fun _ h => h
  have hbA : ¬ (fun q : Nat => s.heap.size ≤ q) b := Nat.not_le.mpr hbl
  obtain ⟨ad, ks, g, u, r, f3, f4, hk, hGI, hP, hD, hS, hl⟩ := h
  have h9 : CT (F8_leavesIn r (xs (4 * n + 1))) (C7_leavesIn g u (xs (4 * n + 1))) r g 0 (2001 * n) (602 * n) := a_leavesIn hGI (by omega) (by omega)
  rcases h9 with ⟨x, r2, c2, e1, e2, e3, e6⟩ | ⟨k, k1, k2, e1, e2⟩
  · refine lv_aload_n hx hb dL_law_1422 rfl (lv_at hl 4 rfl) ?_
    refine lv_aload_n hx hb dL_law_1423 rfl (lv_at hl 5 rfl) ?_
    refine lv_iload hx hb dL_law_1424 (lv_at hl 0 rfl) ?_
    refine lv_iconst (v := 1) hx hb dL_law_1426 (by decide) ?_
    refine lv_iadd hx hb dL_law_1427 ?_
    refine my_topi (y := nI (4 * n + 1)) (nI_add (4 * n) 1) ?_
    refine va_sld hx hb hX hbl hbA hS (vp_in_nI (n := 4 * n + 1) (by omega) (by omega)) dL_law_1428 ?_
    refine my_topi (y := xs (4 * n + 1)) (congrArg xs (nI_clamp (by omega))) ?_
    refine lv_aload_n hx hb dL_law_1429 rfl (lv_at hl 2 rfl) ?_
    have hPc : va_P (dC, dI) vwCl ([(o3, eL cy f3)] ++ WC cy ad ks g u) H := hP.part (X := XLW cy o3 o4 am f3 f4 r) (cx := [(o3, eL cy f3)]) [0] rfl
    have hDc : va_D (fun q : Nat => s.heap.size ≤ q) ([(o3, eL cy f3)] ++ WC cy ad ks g u) := hD.part (X := XLW cy o3 o4 am f3 f4 r) (cx := [(o3, eL cy f3)]) [0] (by decide) rfl
    have hFc : ∀ q, va_A ([(o3, eL cy f3)] ++ WC cy ad ks g u) H.size q → s.heap.size ≤ q := va_freeP (X := XLW cy o3 o4 am f3 f4 r) (cx := [(o3, eL cy f3)]) hD hS hA [0] rfl
    refine vx_calli (vx_runSX (As := [.ref (ad .cl), .int (xs (4 * n + 1)), .ref o3]) (rest := []) ⟨hx, hb, hml, hown, hts⟩ (cn_leavesIn l hst dC dI cy nb ad ks g hk u ((xs (4 * n + 1))) o3 f3 x c2 H.size e2) (vx_cwSW 3 hts (gSH mw_1290 mw_1291 mw_562 mw_1292) rfl rfl rfl (by decide +kernel) ⟨Nat.le_of_ble_eq_true rfl, Nat.le_of_ble_eq_true rfl⟩) (my_preS hPc hK hDc hE hS hFc) rfl rfl hl.1 rfl (lv_room (Nat.le_of_ble_eq_true rfl)) dL_law_1430 ⟨by show _ ≤ 601024; omega, by show _ ≤ 7293034; omega⟩) hS (fun q _ h => hFc q h) hFc (fun q _ h => hFc q h) (fun E9 ce9 q9 u9 t9 H1 locs1 ht9 hvm9 hp9 _ _ _ _ _ _ _ => hp9.elim) (fun rw9 u9 t9 H1 locs ht hvm hw hB hz1 hk1 hS => ?_)
    obtain ⟨hP1, hD1⟩ := hB
    rw [ht] at hP1
    obtain ⟨hP, hD⟩ := va_joinP (X := XLW cy o3 o4 am f3 f4 r) (cx := [(o3, eL cy f3)]) (wr := ((o4, eD cy f4) :: WM cy am r)) (rx := [(o3, eL cy (vp_updL f3 ((0 : Int32).toNatClampNeg) (x.toInt64)))]) (pl := WC cy ad ks g u) (pl1 := WC cy ad ks g c2) hP hD [0] [1, 2, 3, 4, 5, 6, 7, 8, 9, 10, 11, 12] rfl rfl (by decide) (by decide) hk1 hFc hP1 hD1
    have hP : va_P (dC, dI) vwCl (XLW cy o3 o4 am (vp_updL f3 ((0 : Int32).toNatClampNeg) (x.toInt64)) f4 r ++ WC cy ad ks g c2) H1 := hP.part (X := ((o4, eD cy f4) :: WM cy am r) ++ [(o3, eL cy (vp_updL f3 ((0 : Int32).toNatClampNeg) (x.toInt64)))]) (cx := XLW cy o3 o4 am (vp_updL f3 ((0 : Int32).toNatClampNeg) (x.toInt64)) f4 r) [12, 0, 1, 2, 3, 4, 5, 6, 7, 8, 9, 10, 11] rfl
    have hD : va_D (fun q : Nat => s.heap.size ≤ q) (XLW cy o3 o4 am (vp_updL f3 ((0 : Int32).toNatClampNeg) (x.toInt64)) f4 r ++ WC cy ad ks g c2) := hD.part (X := ((o4, eD cy f4) :: WM cy am r) ++ [(o3, eL cy (vp_updL f3 ((0 : Int32).toNatClampNeg) (x.toInt64)))]) (cx := XLW cy o3 o4 am (vp_updL f3 ((0 : Int32).toNatClampNeg) (x.toInt64)) f4 r) [12, 0, 1, 2, 3, 4, 5, 6, 7, 8, 9, 10, 11] (by decide) rfl
    generalize H1 = H at hP hS ⊢
    clear hP1 hD1 hPc hDc hFc hk1 hz1 hvm ht
    refine lv_istore (lv' := [(6, .int rw9), (5, .int (nI (4 * n))), (4, .ref o4), (3, .ref o3), (2, .ref (am 0)), (1, .ref (ad .cl)), (0, .ref b)]) hx hb dL_law_1433 hl (by decide) rfl (fun ls hl => ?_)
    refine lv_aload_n hx hb dL_law_1435 rfl (lv_at hl 4 rfl) ?_
    refine lv_aload_n hx hb dL_law_1436 rfl (lv_at hl 6 rfl) ?_
    refine lv_iload hx hb dL_law_1437 (lv_at hl 1 rfl) ?_
    refine lv_iconst (v := 1) hx hb dL_law_1439 (by decide) ?_
    refine lv_iadd hx hb dL_law_1440 ?_
    refine my_topi (y := nI (4 * n + 1)) (nI_add (4 * n) 1) ?_
    refine va_sld hx hb hX hbl hbA hS (vp_in_nI (n := 4 * n + 1) (by omega) (by omega)) dL_law_1441 ?_
    refine my_topi (y := xs (4 * n + 1)) (congrArg xs (nI_clamp (by omega))) ?_
    have hPc := hP.sub (ws' := (WM cy am r)) [2, 3, 4, 5, 6, 7, 8, 9, 10, 11, 12] rfl
    have hDc := hD.sub (ws' := (WM cy am r)) [2, 3, 4, 5, 6, 7, 8, 9, 10, 11, 12] (by decide) rfl
    have hFc := va_free (wc := (WM cy am r)) hD hS hA [2, 3, 4, 5, 6, 7, 8, 9, 10, 11, 12] rfl
    refine va_calli (va_runV (As := [.int (xs (4 * n + 1))]) (rest := []) ⟨hx, hb, hml, hown, hts⟩ (k_X8_leavesIn l dC dI cy nb am r ((xs (4 * n + 1))) x (r2) H.size e1) (cwV 1 hts (gV mw_1322 mw_1323 mw_1324 mw_5 mw_1325) rfl rfl rfl (by decide +kernel) ⟨Nat.le_of_ble_eq_true rfl, Nat.le_of_ble_eq_true rfl⟩) (my_preV hPc hK hDc hE hS hFc (va_recv (q := (RX8, TX8, 23)) hK hP (ci := 8) (q0 := 2) rfl rfl)) rfl rfl hl.1 rfl (lv_room (Nat.le_of_ble_eq_true rfl)) dL_law_1442 ⟨by show _ ≤ 601024; omega, by show _ ≤ 7293034; omega⟩) hS (fun q _ h => hFc q h) hFc (fun rm9 u9 t9 H1 locs ht hvm hwm hB hz1 hk1 hS => ?_)
    obtain ⟨hP1, hD1⟩ := hB
    rw [ht] at hP1
    obtain ⟨hP, hD⟩ := va_joinQ (X := XLW cy o3 o4 am (vp_updL f3 ((0 : Int32).toNatClampNeg) (x.toInt64)) f4 r) (cx := (WM cy am r)) (wr := [(o3, eL cy (vp_updL f3 ((0 : Int32).toNatClampNeg) (x.toInt64))), (o4, eD cy f4)]) (w1 := (WM cy am (r2))) (pl := WC cy ad ks g c2) hP hD [2, 3, 4, 5, 6, 7, 8, 9, 10, 11, 12] [0, 1] rfl rfl (by decide) (by decide) hk1 hFc hP1 hD1
    have hP : va_P (dC, dI) vwCl (XLW cy o3 o4 am (vp_updL f3 ((0 : Int32).toNatClampNeg) (x.toInt64)) f4 r2 ++ WC cy ad ks g c2) H1 := hP
    have hD : va_D (fun q : Nat => s.heap.size ≤ q) (XLW cy o3 o4 am (vp_updL f3 ((0 : Int32).toNatClampNeg) (x.toInt64)) f4 r2 ++ WC cy ad ks g c2) := hD
    generalize H1 = H at hP hS ⊢
    clear hP1 hD1 hPc hDc hFc hk1 hz1 hvm ht
    refine my_topi hwm ?_
    refine lv_istore (lv' := [(7, .int x), (6, .int rw9), (5, .int (nI (4 * n))), (4, .ref o4), (3, .ref o3), (2, .ref (am 0)), (1, .ref (ad .cl)), (0, .ref b)]) hx hb dL_law_1445 hl (by decide) rfl (fun ls hl => ?_)
    refine lv_goto (tgt := 1791) hx hb dL_law_1447 (by decide) ?_
    refine W.widen (k := cells + 603) (n := slots + 9640) (by omega) (by omega) ?_
    exact K H locs ls ⟨ad, ks, g, c2, r2, (vp_updL f3 ((0 : Int32).toNatClampNeg) (x.toInt64)), f4, hk, e3.mono (by omega) (by omega) (by omega), hP, hD, hS, lv_sub hl [2, 3, 4, 5, 6, 7] rfl⟩
  · have e2 : C7_leavesIn g u (xs (4 * n + 1)) = some (.inl (nI (k + 0))) := e2
    generalize hxx : (nI (k + 0)) = xk at e2
    have hxk : xk = 1 := x1_leavesIn e2
    refine lv_aload_n hx hb dL_law_1422 rfl (lv_at hl 4 rfl) ?_
    refine lv_aload_n hx hb dL_law_1423 rfl (lv_at hl 5 rfl) ?_
    refine lv_iload hx hb dL_law_1424 (lv_at hl 0 rfl) ?_
    refine lv_iconst (v := 1) hx hb dL_law_1426 (by decide) ?_
    refine lv_iadd hx hb dL_law_1427 ?_
    refine my_topi (y := nI (4 * n + 1)) (nI_add (4 * n) 1) ?_
    refine va_sld hx hb hX hbl hbA hS (vp_in_nI (n := 4 * n + 1) (by omega) (by omega)) dL_law_1428 ?_
    refine my_topi (y := xs (4 * n + 1)) (congrArg xs (nI_clamp (by omega))) ?_
    refine lv_aload_n hx hb dL_law_1429 rfl (lv_at hl 2 rfl) ?_
    have hPc : va_P (dC, dI) vwCl ([(o3, eL cy f3)] ++ WC cy ad ks g u) H := hP.part (X := XLW cy o3 o4 am f3 f4 r) (cx := [(o3, eL cy f3)]) [0] rfl
    have hDc : va_D (fun q : Nat => s.heap.size ≤ q) ([(o3, eL cy f3)] ++ WC cy ad ks g u) := hD.part (X := XLW cy o3 o4 am f3 f4 r) (cx := [(o3, eL cy f3)]) [0] (by decide) rfl
    have hFc : ∀ q, va_A ([(o3, eL cy f3)] ++ WC cy ad ks g u) H.size q → s.heap.size ≤ q := va_freeP (X := XLW cy o3 o4 am f3 f4 r) (cx := [(o3, eL cy f3)]) hD hS hA [0] rfl
    refine vx_calli (vx_runSX (As := [.ref (ad .cl), .int (xs (4 * n + 1)), .ref o3]) (rest := []) ⟨hx, hb, hml, hown, hts⟩ (ct_leavesIn l hst dC dI cy nb ad ks g hk u ((xs (4 * n + 1))) o3 f3 xk H.size hxk e2) (vx_cwSW 3 hts (gSH mw_1290 mw_1291 mw_562 mw_1292) rfl rfl rfl (by decide +kernel) ⟨Nat.le_of_ble_eq_true rfl, Nat.le_of_ble_eq_true rfl⟩) (my_preS hPc hK hDc hE hS hFc) rfl rfl hl.1 rfl (lv_room (Nat.le_of_ble_eq_true rfl)) dL_law_1430 ⟨by show _ ≤ 601024; omega, by show _ ≤ 7293034; omega⟩) hS (fun q _ h => hFc q h) hFc (fun q _ h => hFc q h) (fun E9 ce9 q9 u9 t9 H1 locs1 ht9 hvm9 hp9 _ _ _ _ _ _ _ => hp9.elim) (fun rw9 u9 t9 H1 locs ht hvm hw hB hz1 hk1 hS => ?_)
    obtain ⟨hP1, hD1⟩ := hB
    rw [ht] at hP1
    obtain ⟨hP, hD⟩ := va_joinP (X := XLW cy o3 o4 am f3 f4 r) (cx := [(o3, eL cy f3)]) (wr := ((o4, eD cy f4) :: WM cy am r)) (rx := [(o3, eL cy f3)]) (pl := WC cy ad ks g u) (pl1 := WC cy ad ks g u) hP hD [0] [1, 2, 3, 4, 5, 6, 7, 8, 9, 10, 11, 12] rfl rfl (by decide) (by decide) hk1 hFc hP1 hD1
    have hP : va_P (dC, dI) vwCl (XLW cy o3 o4 am f3 f4 r ++ WC cy ad ks g u) H1 := hP.part (X := ((o4, eD cy f4) :: WM cy am r) ++ [(o3, eL cy f3)]) (cx := XLW cy o3 o4 am f3 f4 r) [12, 0, 1, 2, 3, 4, 5, 6, 7, 8, 9, 10, 11] rfl
    have hD : va_D (fun q : Nat => s.heap.size ≤ q) (XLW cy o3 o4 am f3 f4 r ++ WC cy ad ks g u) := hD.part (X := ((o4, eD cy f4) :: WM cy am r) ++ [(o3, eL cy f3)]) (cx := XLW cy o3 o4 am f3 f4 r) [12, 0, 1, 2, 3, 4, 5, 6, 7, 8, 9, 10, 11] (by decide) rfl
    generalize H1 = H at hP hS ⊢
    clear hP1 hD1 hPc hDc hFc hk1 hz1 hvm ht
    refine lv_istore (lv' := [(6, .int rw9), (5, .int (nI (4 * n))), (4, .ref o4), (3, .ref o3), (2, .ref (am 0)), (1, .ref (ad .cl)), (0, .ref b)]) hx hb dL_law_1433 hl (by decide) rfl (fun ls hl => ?_)
    refine lv_aload_n hx hb dL_law_1435 rfl (lv_at hl 4 rfl) ?_
    refine lv_aload_n hx hb dL_law_1436 rfl (lv_at hl 6 rfl) ?_
    refine lv_iload hx hb dL_law_1437 (lv_at hl 1 rfl) ?_
    refine lv_iconst (v := 1) hx hb dL_law_1439 (by decide) ?_
    refine lv_iadd hx hb dL_law_1440 ?_
    refine my_topi (y := nI (4 * n + 1)) (nI_add (4 * n) 1) ?_
    refine va_sld hx hb hX hbl hbA hS (vp_in_nI (n := 4 * n + 1) (by omega) (by omega)) dL_law_1441 ?_
    refine my_topi (y := xs (4 * n + 1)) (congrArg xs (nI_clamp (by omega))) ?_
    have hPc := hP.sub (ws' := (WM cy am r)) [2, 3, 4, 5, 6, 7, 8, 9, 10, 11, 12] rfl
    have hDc := hD.sub (ws' := (WM cy am r)) [2, 3, 4, 5, 6, 7, 8, 9, 10, 11, 12] (by decide) rfl
    have hFc := va_free (wc := (WM cy am r)) hD hS hA [2, 3, 4, 5, 6, 7, 8, 9, 10, 11, 12] rfl
    refine va_calli (va_runV (As := [.int (xs (4 * n + 1))]) (rest := []) ⟨hx, hb, hml, hown, hts⟩ (k_X8_leavesIn l dC dI cy nb am r ((xs (4 * n + 1))) (nI 0) (th r k) H.size e1) (cwV 1 hts (gV mw_1322 mw_1323 mw_1324 mw_5 mw_1325) rfl rfl rfl (by decide +kernel) ⟨Nat.le_of_ble_eq_true rfl, Nat.le_of_ble_eq_true rfl⟩) (my_preV hPc hK hDc hE hS hFc (va_recv (q := (RX8, TX8, 23)) hK hP (ci := 8) (q0 := 2) rfl rfl)) rfl rfl hl.1 rfl (lv_room (Nat.le_of_ble_eq_true rfl)) dL_law_1442 ⟨by show _ ≤ 601024; omega, by show _ ≤ 7293034; omega⟩) hS (fun q _ h => hFc q h) hFc (fun rm9 u9 t9 H1 locs ht hvm hwm hB hz1 hk1 hS => ?_)
    obtain ⟨hP1, hD1⟩ := hB
    rw [ht] at hP1
    obtain ⟨hP, hD⟩ := va_joinQ (X := XLW cy o3 o4 am f3 f4 r) (cx := (WM cy am r)) (wr := [(o3, eL cy f3), (o4, eD cy f4)]) (w1 := (WM cy am (th r k))) (pl := WC cy ad ks g u) hP hD [2, 3, 4, 5, 6, 7, 8, 9, 10, 11, 12] [0, 1] rfl rfl (by decide) (by decide) hk1 hFc hP1 hD1
    have hP : va_P (dC, dI) vwCl (XLW cy o3 o4 am f3 f4 (th r k) ++ WC cy ad ks g u) H1 := hP
    have hD : va_D (fun q : Nat => s.heap.size ≤ q) (XLW cy o3 o4 am f3 f4 (th r k) ++ WC cy ad ks g u) := hD
    generalize H1 = H at hP hS ⊢
    clear hP1 hD1 hPc hDc hFc hk1 hz1 hvm ht
    refine my_topi hwm ?_
    refine lv_istore (lv' := [(7, .int (nI 0)), (6, .int rw9), (5, .int (nI (4 * n))), (4, .ref o4), (3, .ref o3), (2, .ref (am 0)), (1, .ref (ad .cl)), (0, .ref b)]) hx hb dL_law_1445 hl (by decide) rfl (fun ls hl => ?_)
    refine lv_goto (tgt := 1791) hx hb dL_law_1447 (by decide) ?_
    refine W.widen (k := cells + 603) (n := slots + 9640) (by omega) (by omega) ?_
    exact K H locs ls ⟨ad, ks, g, u, (th r k), f3, f4, hk, (hGI.thr).mono (by omega) (by omega) (by omega), hP, hD, hS, lv_sub hl [2, 3, 4, 5, 6, 7] rfl⟩
set_option maxHeartbeats 8000000 in
set_option maxRecDepth 100000 in
theorem law_c38 {p : Program} {e : Env} {s : State} {m : MethodId} {below : List Frame} {meth : Method} {c : Code} (l : Launch) (hst : l.stackTraces = false) {b L : Nat} {xs : Nat → Int32} (dC : Nat → ClassId) (dI : Nat → Nat → Nat) (cy : Nat → ClassId) (nb : Nat → Nat) (o3 o4 : Nat) (am : Nat → Nat) {n : Nat} (hn : n < 512) (hL : 4 * n + 4 ≤ L) (hL2 : L ≤ 2048) (C0 : LX p s m meth c b L xs dC dI cy nb) {Q : State → Prop} {H : Heap} {locs : List Loc} {ls : Array Slot} {cells slots : Nat} (hc : cells ≤ 400000) (hs : slots ≤ 6000000) (h : LSt s dC dI cy nb b o3 o4 am n (4 * n) H locs ls) (K : ∀ (H : Heap) (locs : List Loc) (ls : Array Slot), LSt s dC dI cy nb b o3 o4 am (n + 1) (4 * n) H locs ls → W p l e room_1 s m #[Value.ref b] below meth c H locs (cells + 603) (slots + 9640) Q (F0 m 1791 ls [])) : W p l e room_1 s m #[Value.ref b] below meth c H locs cells slots Q (F0 m 1450 ls []) := by
  obtain ⟨hx, hb, hr, hml, hown, hts, hX, hbl, hlocks, hK, hE⟩ := C0
  have hA : ∀ q : Nat, s.heap.size ≤ q → (fun q : Nat => s.heap.size ≤ q) q := fun _ h => h
  have hbA : ¬ (fun q : Nat => s.heap.size ≤ q) b := Nat.not_le.mpr hbl
  obtain ⟨ad, ks, g, u, r, f3, f4, hk, hGI, hP, hD, hS, hl⟩ := h
  have h9 : CT (F8_lotIn r (xs (4 * n + 1))) (C7_lotIn g u (xs (4 * n + 1))) r g 0 (2001 * n) (602 * n) := a_lotIn hGI (by omega) (by omega)
  rcases h9 with ⟨x, r2, c2, e1, e2, e3, e6⟩ | ⟨k, k1, k2, e1, e2⟩
  · refine lv_aload_n hx hb dL_law_1450 rfl (lv_at hl 4 rfl) ?_
    refine lv_aload_n hx hb dL_law_1451 rfl (lv_at hl 5 rfl) ?_
    refine lv_iload hx hb dL_law_1452 (lv_at hl 0 rfl) ?_
    refine lv_iconst (v := 1) hx hb dL_law_1454 (by decide) ?_
    refine lv_iadd hx hb dL_law_1455 ?_
    refine my_topi (y := nI (4 * n + 1)) (nI_add (4 * n) 1) ?_
    refine va_sld hx hb hX hbl hbA hS (vp_in_nI (n := 4 * n + 1) (by omega) (by omega)) dL_law_1456 ?_
    refine my_topi (y := xs (4 * n + 1)) (congrArg xs (nI_clamp (by omega))) ?_
    refine lv_aload_n hx hb dL_law_1457 rfl (lv_at hl 2 rfl) ?_
    have hPc : va_P (dC, dI) vwCl ([(o3, eL cy f3)] ++ WC cy ad ks g u) H := hP.part (X := XLW cy o3 o4 am f3 f4 r) (cx := [(o3, eL cy f3)]) [0] rfl
    have hDc : va_D (fun q : Nat => s.heap.size ≤ q) ([(o3, eL cy f3)] ++ WC cy ad ks g u) := hD.part (X := XLW cy o3 o4 am f3 f4 r) (cx := [(o3, eL cy f3)]) [0] (by decide) rfl
    have hFc : ∀ q, va_A ([(o3, eL cy f3)] ++ WC cy ad ks g u) H.size q → s.heap.size ≤ q := va_freeP (X := XLW cy o3 o4 am f3 f4 r) (cx := [(o3, eL cy f3)]) hD hS hA [0] rfl
    refine vx_calli (vx_runSX (As := [.ref (ad .cl), .int (xs (4 * n + 1)), .ref o3]) (rest := []) ⟨hx, hb, hml, hown, hts⟩ (cn_lotIn l hst dC dI cy nb ad ks g hk u ((xs (4 * n + 1))) o3 f3 x c2 H.size e2) (vx_cwSW 3 hts (gSH mw_1342 mw_1343 mw_562 mw_1344) rfl rfl rfl (by decide +kernel) ⟨Nat.le_of_ble_eq_true rfl, Nat.le_of_ble_eq_true rfl⟩) (my_preS hPc hK hDc hE hS hFc) rfl rfl hl.1 rfl (lv_room (Nat.le_of_ble_eq_true rfl)) dL_law_1458 ⟨by show _ ≤ 601024; omega, by show _ ≤ 7293034; omega⟩) hS (fun q _ h => hFc q h) hFc (fun q _ h => hFc q h) (fun E9 ce9 q9 u9 t9 H1 locs1 ht9 hvm9 hp9 _ _ _ _ _ _ _ => hp9.elim) (fun rw9 u9 t9 H1 locs ht hvm hw hB hz1 hk1 hS => ?_)
    obtain ⟨hP1, hD1⟩ := hB
    rw [ht] at hP1
    obtain ⟨hP, hD⟩ := va_joinP (X := XLW cy o3 o4 am f3 f4 r) (cx := [(o3, eL cy f3)]) (wr := ((o4, eD cy f4) :: WM cy am r)) (rx := [(o3, eL cy (vp_updL f3 ((0 : Int32).toNatClampNeg) (x.toInt64)))]) (pl := WC cy ad ks g u) (pl1 := WC cy ad ks g c2) hP hD [0] [1, 2, 3, 4, 5, 6, 7, 8, 9, 10, 11, 12] rfl rfl (by decide) (by decide) hk1 hFc hP1 hD1
    have hP : va_P (dC, dI) vwCl (XLW cy o3 o4 am (vp_updL f3 ((0 : Int32).toNatClampNeg) (x.toInt64)) f4 r ++ WC cy ad ks g c2) H1 := hP.part (X := ((o4, eD cy f4) :: WM cy am r) ++ [(o3, eL cy (vp_updL f3 ((0 : Int32).toNatClampNeg) (x.toInt64)))]) (cx := XLW cy o3 o4 am (vp_updL f3 ((0 : Int32).toNatClampNeg) (x.toInt64)) f4 r) [12, 0, 1, 2, 3, 4, 5, 6, 7, 8, 9, 10, 11] rfl
    have hD : va_D (fun q : Nat => s.heap.size ≤ q) (XLW cy o3 o4 am (vp_updL f3 ((0 : Int32).toNatClampNeg) (x.toInt64)) f4 r ++ WC cy ad ks g c2) := hD.part (X := ((o4, eD cy f4) :: WM cy am r) ++ [(o3, eL cy (vp_updL f3 ((0 : Int32).toNatClampNeg) (x.toInt64)))]) (cx := XLW cy o3 o4 am (vp_updL f3 ((0 : Int32).toNatClampNeg) (x.toInt64)) f4 r) [12, 0, 1, 2, 3, 4, 5, 6, 7, 8, 9, 10, 11] (by decide) rfl
    generalize H1 = H at hP hS ⊢
    clear hP1 hD1 hPc hDc hFc hk1 hz1 hvm ht
    refine lv_istore (lv' := [(6, .int rw9), (5, .int (nI (4 * n))), (4, .ref o4), (3, .ref o3), (2, .ref (am 0)), (1, .ref (ad .cl)), (0, .ref b)]) hx hb dL_law_1461 hl (by decide) rfl (fun ls hl => ?_)
    refine lv_aload_n hx hb dL_law_1463 rfl (lv_at hl 4 rfl) ?_
    refine lv_aload_n hx hb dL_law_1464 rfl (lv_at hl 6 rfl) ?_
    refine lv_iload hx hb dL_law_1465 (lv_at hl 1 rfl) ?_
    refine lv_iconst (v := 1) hx hb dL_law_1467 (by decide) ?_
    refine lv_iadd hx hb dL_law_1468 ?_
    refine my_topi (y := nI (4 * n + 1)) (nI_add (4 * n) 1) ?_
    refine va_sld hx hb hX hbl hbA hS (vp_in_nI (n := 4 * n + 1) (by omega) (by omega)) dL_law_1469 ?_
    refine my_topi (y := xs (4 * n + 1)) (congrArg xs (nI_clamp (by omega))) ?_
    have hPc := hP.sub (ws' := (WM cy am r)) [2, 3, 4, 5, 6, 7, 8, 9, 10, 11, 12] rfl
    have hDc := hD.sub (ws' := (WM cy am r)) [2, 3, 4, 5, 6, 7, 8, 9, 10, 11, 12] (by decide) rfl
    have hFc := va_free (wc := (WM cy am r)) hD hS hA [2, 3, 4, 5, 6, 7, 8, 9, 10, 11, 12] rfl
    refine va_calli (va_runV (As := [.int (xs (4 * n + 1))]) (rest := []) ⟨hx, hb, hml, hown, hts⟩ (k_X8_lotIn l dC dI cy nb am r ((xs (4 * n + 1))) x (r2) H.size e1) (cwV 1 hts (gV mw_1350 mw_1351 mw_1352 mw_5 mw_1353) rfl rfl rfl (by decide +kernel) ⟨Nat.le_of_ble_eq_true rfl, Nat.le_of_ble_eq_true rfl⟩) (my_preV hPc hK hDc hE hS hFc (va_recv (q := (RX8, TX8, 23)) hK hP (ci := 8) (q0 := 2) rfl rfl)) rfl rfl hl.1 rfl (lv_room (Nat.le_of_ble_eq_true rfl)) dL_law_1470 ⟨by show _ ≤ 601024; omega, by show _ ≤ 7293034; omega⟩) hS (fun q _ h => hFc q h) hFc (fun rm9 u9 t9 H1 locs ht hvm hwm hB hz1 hk1 hS => ?_)
    obtain ⟨hP1, hD1⟩ := hB
    rw [ht] at hP1
    obtain ⟨hP, hD⟩ := va_joinQ (X := XLW cy o3 o4 am (vp_updL f3 ((0 : Int32).toNatClampNeg) (x.toInt64)) f4 r) (cx := (WM cy am r)) (wr := [(o3, eL cy (vp_updL f3 ((0 : Int32).toNatClampNeg) (x.toInt64))), (o4, eD cy f4)]) (w1 := (WM cy am (r2))) (pl := WC cy ad ks g c2) hP hD [2, 3, 4, 5, 6, 7, 8, 9, 10, 11, 12] [0, 1] rfl rfl (by decide) (by decide) hk1 hFc hP1 hD1
    have hP : va_P (dC, dI) vwCl (XLW cy o3 o4 am (vp_updL f3 ((0 : Int32).toNatClampNeg) (x.toInt64)) f4 r2 ++ WC cy ad ks g c2) H1 := hP
    have hD : va_D (fun q : Nat => s.heap.size ≤ q) (XLW cy o3 o4 am (vp_updL f3 ((0 : Int32).toNatClampNeg) (x.toInt64)) f4 r2 ++ WC cy ad ks g c2) := hD
    generalize H1 = H at hP hS ⊢
    clear hP1 hD1 hPc hDc hFc hk1 hz1 hvm ht
    refine my_topi hwm ?_
    refine lv_istore (lv' := [(7, .int x), (6, .int rw9), (5, .int (nI (4 * n))), (4, .ref o4), (3, .ref o3), (2, .ref (am 0)), (1, .ref (ad .cl)), (0, .ref b)]) hx hb dL_law_1473 hl (by decide) rfl (fun ls hl => ?_)
    refine lv_goto (tgt := 1791) hx hb dL_law_1475 (by decide) ?_
    refine W.widen (k := cells + 603) (n := slots + 9640) (by omega) (by omega) ?_
    exact K H locs ls ⟨ad, ks, g, c2, r2, (vp_updL f3 ((0 : Int32).toNatClampNeg) (x.toInt64)), f4, hk, e3.mono (by omega) (by omega) (by omega), hP, hD, hS, lv_sub hl [2, 3, 4, 5, 6, 7] rfl⟩
  · have e2 : C7_lotIn g u (xs (4 * n + 1)) = some (.inl (nI (k + 0))) := e2
    generalize hxx : (nI (k + 0)) = xk at e2
    have hxk : xk = 1 := x1_lotIn e2
    refine lv_aload_n hx hb dL_law_1450 rfl (lv_at hl 4 rfl) ?_
    refine lv_aload_n hx hb dL_law_1451 rfl (lv_at hl 5 rfl) ?_
    refine lv_iload hx hb dL_law_1452 (lv_at hl 0 rfl) ?_
    refine lv_iconst (v := 1) hx hb dL_law_1454 (by decide) ?_
    refine lv_iadd hx hb dL_law_1455 ?_
    refine my_topi (y := nI (4 * n + 1)) (nI_add (4 * n) 1) ?_
    refine va_sld hx hb hX hbl hbA hS (vp_in_nI (n := 4 * n + 1) (by omega) (by omega)) dL_law_1456 ?_
    refine my_topi (y := xs (4 * n + 1)) (congrArg xs (nI_clamp (by omega))) ?_
    refine lv_aload_n hx hb dL_law_1457 rfl (lv_at hl 2 rfl) ?_
    have hPc : va_P (dC, dI) vwCl ([(o3, eL cy f3)] ++ WC cy ad ks g u) H := hP.part (X := XLW cy o3 o4 am f3 f4 r) (cx := [(o3, eL cy f3)]) [0] rfl
    have hDc : va_D (fun q : Nat => s.heap.size ≤ q) ([(o3, eL cy f3)] ++ WC cy ad ks g u) := hD.part (X := XLW cy o3 o4 am f3 f4 r) (cx := [(o3, eL cy f3)]) [0] (by decide) rfl
    have hFc : ∀ q, va_A ([(o3, eL cy f3)] ++ WC cy ad ks g u) H.size q → s.heap.size ≤ q := va_freeP (X := XLW cy o3 o4 am f3 f4 r) (cx := [(o3, eL cy f3)]) hD hS hA [0] rfl
    refine vx_calli (vx_runSX (As := [.ref (ad .cl), .int (xs (4 * n + 1)), .ref o3]) (rest := []) ⟨hx, hb, hml, hown, hts⟩ (ct_lotIn l hst dC dI cy nb ad ks g hk u ((xs (4 * n + 1))) o3 f3 xk H.size hxk e2) (vx_cwSW 3 hts (gSH mw_1342 mw_1343 mw_562 mw_1344) rfl rfl rfl (by decide +kernel) ⟨Nat.le_of_ble_eq_true rfl, Nat.le_of_ble_eq_true rfl⟩) (my_preS hPc hK hDc hE hS hFc) rfl rfl hl.1 rfl (lv_room (Nat.le_of_ble_eq_true rfl)) dL_law_1458 ⟨by show _ ≤ 601024; omega, by show _ ≤ 7293034; omega⟩) hS (fun q _ h => hFc q h) hFc (fun q _ h => hFc q h) (fun E9 ce9 q9 u9 t9 H1 locs1 ht9 hvm9 hp9 _ _ _ _ _ _ _ => hp9.elim) (fun rw9 u9 t9 H1 locs ht hvm hw hB hz1 hk1 hS => ?_)
    obtain ⟨hP1, hD1⟩ := hB
    rw [ht] at hP1
    obtain ⟨hP, hD⟩ := va_joinP (X := XLW cy o3 o4 am f3 f4 r) (cx := [(o3, eL cy f3)]) (wr := ((o4, eD cy f4) :: WM cy am r)) (rx := [(o3, eL cy f3)]) (pl := WC cy ad ks g u) (pl1 := WC cy ad ks g u) hP hD [0] [1, 2, 3, 4, 5, 6, 7, 8, 9, 10, 11, 12] rfl rfl (by decide) (by decide) hk1 hFc hP1 hD1
    have hP : va_P (dC, dI) vwCl (XLW cy o3 o4 am f3 f4 r ++ WC cy ad ks g u) H1 := hP.part (X := ((o4, eD cy f4) :: WM cy am r) ++ [(o3, eL cy f3)]) (cx := XLW cy o3 o4 am f3 f4 r) [12, 0, 1, 2, 3, 4, 5, 6, 7, 8, 9, 10, 11] rfl
    have hD : va_D (fun q : Nat => s.heap.size ≤ q) (XLW cy o3 o4 am f3 f4 r ++ WC cy ad ks g u) := hD.part (X := ((o4, eD cy f4) :: WM cy am r) ++ [(o3, eL cy f3)]) (cx := XLW cy o3 o4 am f3 f4 r) [12, 0, 1, 2, 3, 4, 5, 6, 7, 8, 9, 10, 11] (by decide) rfl
    generalize H1 = H at hP hS ⊢
    clear hP1 hD1 hPc hDc hFc hk1 hz1 hvm ht
    refine lv_istore (lv' := [(6, .int rw9), (5, .int (nI (4 * n))), (4, .ref o4), (3, .ref o3), (2, .ref (am 0)), (1, .ref (ad .cl)), (0, .ref b)]) hx hb dL_law_1461 hl (by decide) rfl (fun ls hl => ?_)
    refine lv_aload_n hx hb dL_law_1463 rfl (lv_at hl 4 rfl) ?_
    refine lv_aload_n hx hb dL_law_1464 rfl (lv_at hl 6 rfl) ?_
    refine lv_iload hx hb dL_law_1465 (lv_at hl 1 rfl) ?_
    refine lv_iconst (v := 1) hx hb dL_law_1467 (by decide) ?_
    refine lv_iadd hx hb dL_law_1468 ?_
    refine my_topi (y := nI (4 * n + 1)) (nI_add (4 * n) 1) ?_
    refine va_sld hx hb hX hbl hbA hS (vp_in_nI (n := 4 * n + 1) (by omega) (by omega)) dL_law_1469 ?_
    refine my_topi (y := xs (4 * n + 1)) (congrArg xs (nI_clamp (by omega))) ?_
    have hPc := hP.sub (ws' := (WM cy am r)) [2, 3, 4, 5, 6, 7, 8, 9, 10, 11, 12] rfl
    have hDc := hD.sub (ws' := (WM cy am r)) [2, 3, 4, 5, 6, 7, 8, 9, 10, 11, 12] (by decide) rfl
    have hFc := va_free (wc := (WM cy am r)) hD hS hA [2, 3, 4, 5, 6, 7, 8, 9, 10, 11, 12] rfl
    refine va_calli (va_runV (As := [.int (xs (4 * n + 1))]) (rest := []) ⟨hx, hb, hml, hown, hts⟩ (k_X8_lotIn l dC dI cy nb am r ((xs (4 * n + 1))) (nI 0) (th r k) H.size e1) (cwV 1 hts (gV mw_1350 mw_1351 mw_1352 mw_5 mw_1353) rfl rfl rfl (by decide +kernel) ⟨Nat.le_of_ble_eq_true rfl, Nat.le_of_ble_eq_true rfl⟩) (my_preV hPc hK hDc hE hS hFc (va_recv (q := (RX8, TX8, 23)) hK hP (ci := 8) (q0 := 2) rfl rfl)) rfl rfl hl.1 rfl (lv_room (Nat.le_of_ble_eq_true rfl)) dL_law_1470 ⟨by show _ ≤ 601024; omega, by show _ ≤ 7293034; omega⟩) hS (fun q _ h => hFc q h) hFc (fun rm9 u9 t9 H1 locs ht hvm hwm hB hz1 hk1 hS => ?_)
    obtain ⟨hP1, hD1⟩ := hB
    rw [ht] at hP1
    obtain ⟨hP, hD⟩ := va_joinQ (X := XLW cy o3 o4 am f3 f4 r) (cx := (WM cy am r)) (wr := [(o3, eL cy f3), (o4, eD cy f4)]) (w1 := (WM cy am (th r k))) (pl := WC cy ad ks g u) hP hD [2, 3, 4, 5, 6, 7, 8, 9, 10, 11, 12] [0, 1] rfl rfl (by decide) (by decide) hk1 hFc hP1 hD1
    have hP : va_P (dC, dI) vwCl (XLW cy o3 o4 am f3 f4 (th r k) ++ WC cy ad ks g u) H1 := hP
    have hD : va_D (fun q : Nat => s.heap.size ≤ q) (XLW cy o3 o4 am f3 f4 (th r k) ++ WC cy ad ks g u) := hD
    generalize H1 = H at hP hS ⊢
    clear hP1 hD1 hPc hDc hFc hk1 hz1 hvm ht
    refine my_topi hwm ?_
    refine lv_istore (lv' := [(7, .int (nI 0)), (6, .int rw9), (5, .int (nI (4 * n))), (4, .ref o4), (3, .ref o3), (2, .ref (am 0)), (1, .ref (ad .cl)), (0, .ref b)]) hx hb dL_law_1473 hl (by decide) rfl (fun ls hl => ?_)
    refine lv_goto (tgt := 1791) hx hb dL_law_1475 (by decide) ?_
    refine W.widen (k := cells + 603) (n := slots + 9640) (by omega) (by omega) ?_
    exact K H locs ls ⟨ad, ks, g, u, (th r k), f3, f4, hk, (hGI.thr).mono (by omega) (by omega) (by omega), hP, hD, hS, lv_sub hl [2, 3, 4, 5, 6, 7] rfl⟩
set_option maxHeartbeats 8000000 in
set_option maxRecDepth 100000 in
theorem law_c39 {p : Program} {e : Env} {s : State} {m : MethodId} {below : List Frame} {meth : Method} {c : Code} (l : Launch) (hst : l.stackTraces = false) {b L : Nat} {xs : Nat → Int32} (dC : Nat → ClassId) (dI : Nat → Nat → Nat) (cy : Nat → ClassId) (nb : Nat → Nat) (o3 o4 : Nat) (am : Nat → Nat) {n : Nat} (hn : n < 512) (hL : 4 * n + 4 ≤ L) (hL2 : L ≤ 2048) (C0 : LX p s m meth c b L xs dC dI cy nb) {Q : State → Prop} {H : Heap} {locs : List Loc} {ls : Array Slot} {cells slots : Nat} (hc : cells ≤ 400000) (hs : slots ≤ 6000000) (h : LSt s dC dI cy nb b o3 o4 am n (4 * n) H locs ls) (K : ∀ (H : Heap) (locs : List Loc) (ls : Array Slot), LSt s dC dI cy nb b o3 o4 am (n + 1) (4 * n) H locs ls → W p l e room_1 s m #[Value.ref b] below meth c H locs (cells + 603) (slots + 9640) Q (F0 m 1791 ls [])) : W p l e room_1 s m #[Value.ref b] below meth c H locs cells slots Q (F0 m 1478 ls []) := by
  obtain ⟨hx, hb, hr, hml, hown, hts, hX, hbl, hlocks, hK, hE⟩ := C0
  have hA : ∀ q : Nat, s.heap.size ≤ q → (fun q : Nat => s.heap.size ≤ q) q := fun _ h => h
  have hbA : ¬ (fun q : Nat => s.heap.size ≤ q) b := Nat.not_le.mpr hbl
  obtain ⟨ad, ks, g, u, r, f3, f4, hk, hGI, hP, hD, hS, hl⟩ := h
  have h9 : BT (F8_allIn r) (C7_allIn g u) g (2001 * n) (602 * n) := a_allIn hGI (by omega) (by omega)
  obtain ⟨x, r2, c2, e1, e2, e3, e6⟩ := h9
  refine lv_aload_n hx hb dL_law_1478 rfl (lv_at hl 4 rfl) ?_
  have hPc : va_P (dC, dI) vwCl (WC cy ad ks g u) H := hP.part (X := XLW cy o3 o4 am f3 f4 r) (cx := []) [] rfl
  have hDc : va_D (fun q : Nat => s.heap.size ≤ q) (WC cy ad ks g u) := hD.part (X := XLW cy o3 o4 am f3 f4 r) (cx := []) [] (by decide) rfl
  have hFc : ∀ q, va_A (WC cy ad ks g u) H.size q → s.heap.size ≤ q := va_freeP (X := XLW cy o3 o4 am f3 f4 r) (cx := []) hD hS hA [] rfl
  obtain ⟨q8, h8⟩ := wc_at (cy := cy) (ad := ad) (ks := ks) (g := g) (u := u) (κ := .cl) hk.1 True.intro
  refine va_calli (va_runV (As := []) (rest := []) ⟨hx, hb, hml, hown, hts⟩ (c_X7_allIn l dC dI cy nb ad ks g hk u  x c2 H.size e2) (cwV 0 hts (gV mw_1354 mw_1355 mw_1356 mw_2 mw_1357) rfl rfl rfl (by decide +kernel) ⟨Nat.le_of_ble_eq_true rfl, Nat.le_of_ble_eq_true rfl⟩) (my_preV hPc hK hDc hE hS hFc (va_recv (q := (RX7, TX7, 12)) hK hPc (ci := 7) (q0 := q8) rfl h8)) rfl rfl hl.1 rfl (lv_room (Nat.le_of_ble_eq_true rfl)) dL_law_1479 ⟨by show _ ≤ 601024; omega, by show _ ≤ 7293034; omega⟩) hS (fun q _ h => hFc q h) hFc (fun rw9 u9 t9 H1 locs ht hvm hw hB hz1 hk1 hS => ?_)
  clear h8
  obtain ⟨hP1, hD1⟩ := hB
  rw [ht] at hP1
  obtain ⟨hP, hD⟩ := va_joinP (X := XLW cy o3 o4 am f3 f4 r) (cx := []) (wr := XLW cy o3 o4 am f3 f4 r) (rx := []) (pl := WC cy ad ks g u) (pl1 := WC cy ad ks g c2) hP hD [] [0, 1, 2, 3, 4, 5, 6, 7, 8, 9, 10, 11, 12] rfl rfl (by decide) (by decide) hk1 hFc hP1 hD1
  have hP : va_P (dC, dI) vwCl (XLW cy o3 o4 am f3 f4 r ++ WC cy ad ks g c2) H1 := hP
  have hD : va_D (fun q : Nat => s.heap.size ≤ q) (XLW cy o3 o4 am f3 f4 r ++ WC cy ad ks g c2) := hD
  generalize H1 = H at hP hS ⊢
  clear hP1 hD1 hPc hDc hFc hk1 hz1 hvm ht
  refine my_topi hw ?_
  refine lv_pop hx hb dL_law_1482 rfl ?_
  refine lv_aload_n hx hb dL_law_1483 rfl (lv_at hl 3 rfl) ?_
  have hPc := hP.sub (ws' := (WM cy am r)) [2, 3, 4, 5, 6, 7, 8, 9, 10, 11, 12] rfl
  have hDc := hD.sub (ws' := (WM cy am r)) [2, 3, 4, 5, 6, 7, 8, 9, 10, 11, 12] (by decide) rfl
  have hFc := va_free (wc := (WM cy am r)) hD hS hA [2, 3, 4, 5, 6, 7, 8, 9, 10, 11, 12] rfl
  refine va_calli (va_runV (As := []) (rest := []) ⟨hx, hb, hml, hown, hts⟩ (k_X8_allIn l dC dI cy nb am r  x (r2) H.size e1) (cwV 0 hts (gV mw_1359 mw_1360 mw_1361 mw_5 mw_1362) rfl rfl rfl (by decide +kernel) ⟨Nat.le_of_ble_eq_true rfl, Nat.le_of_ble_eq_true rfl⟩) (my_preV hPc hK hDc hE hS hFc (va_recv (q := (RX8, TX8, 23)) hK hP (ci := 8) (q0 := 2) rfl rfl)) rfl rfl hl.1 rfl (lv_room (Nat.le_of_ble_eq_true rfl)) dL_law_1484 ⟨by show _ ≤ 601024; omega, by show _ ≤ 7293034; omega⟩) hS (fun q _ h => hFc q h) hFc (fun rm9 u9 t9 H1 locs ht hvm hwm hB hz1 hk1 hS => ?_)
  obtain ⟨hP1, hD1⟩ := hB
  rw [ht] at hP1
  obtain ⟨hP, hD⟩ := va_joinQ (X := XLW cy o3 o4 am f3 f4 r) (cx := (WM cy am r)) (wr := [(o3, eL cy f3), (o4, eD cy f4)]) (w1 := (WM cy am (r2))) (pl := WC cy ad ks g c2) hP hD [2, 3, 4, 5, 6, 7, 8, 9, 10, 11, 12] [0, 1] rfl rfl (by decide) (by decide) hk1 hFc hP1 hD1
  have hP : va_P (dC, dI) vwCl (XLW cy o3 o4 am f3 f4 r2 ++ WC cy ad ks g c2) H1 := hP
  have hD : va_D (fun q : Nat => s.heap.size ≤ q) (XLW cy o3 o4 am f3 f4 r2 ++ WC cy ad ks g c2) := hD
  generalize H1 = H at hP hS ⊢
  clear hP1 hD1 hPc hDc hFc hk1 hz1 hvm ht
  refine my_topi hwm ?_
  refine lv_pop hx hb dL_law_1487 rfl ?_
  refine lv_goto (tgt := 1791) hx hb dL_law_1488 (by decide) ?_
  refine W.widen (k := cells + 603) (n := slots + 9640) (by omega) (by omega) ?_
  exact K H locs ls ⟨ad, ks, g, c2, r2, f3, f4, hk, e3.mono (by omega) (by omega) (by omega), hP, hD, hS, lv_sub hl [0, 1, 2, 3, 4, 5] rfl⟩
set_option maxHeartbeats 8000000 in
set_option maxRecDepth 100000 in
theorem law_c40 {p : Program} {e : Env} {s : State} {m : MethodId} {below : List Frame} {meth : Method} {c : Code} (l : Launch) (hst : l.stackTraces = false) {b L : Nat} {xs : Nat → Int32} (dC : Nat → ClassId) (dI : Nat → Nat → Nat) (cy : Nat → ClassId) (nb : Nat → Nat) (o3 o4 : Nat) (am : Nat → Nat) {n : Nat} (hn : n < 512) (hL : 4 * n + 4 ≤ L) (hL2 : L ≤ 2048) (C0 : LX p s m meth c b L xs dC dI cy nb) {Q : State → Prop} {H : Heap} {locs : List Loc} {ls : Array Slot} {cells slots : Nat} (hc : cells ≤ 400000) (hs : slots ≤ 6000000) (h : LSt s dC dI cy nb b o3 o4 am n (4 * n) H locs ls) (K : ∀ (H : Heap) (locs : List Loc) (ls : Array Slot), LSt s dC dI cy nb b o3 o4 am (n + 1) (4 * n) H locs ls → W p l e room_1 s m #[Value.ref b] below meth c H locs (cells + 603) (slots + 9640) Q (F0 m 1791 ls [])) : W p l e room_1 s m #[Value.ref b] below meth c H locs cells slots Q (F0 m 1491 ls []) := by
  obtain ⟨hx, hb, hr, hml, hown, hts, hX, hbl, hlocks, hK, hE⟩ := C0
  have hA : ∀ q : Nat, s.heap.size ≤ q → (fun q : Nat => s.heap.size ≤ q) q := fun _ h => h
  have hbA : ¬ (fun q : Nat => s.heap.size ≤ q) b := Nat.not_le.mpr hbl
  obtain ⟨ad, ks, g, u, r, f3, f4, hk, hGI, hP, hD, hS, hl⟩ := h
  have h9 : CT (F8_leftIn r (xs (4 * n + 1))) (C7_leftIn g u (xs (4 * n + 1))) r g 1 (2001 * n) (602 * n) := a_leftIn hGI (by omega) (by omega)
  rcases h9 with ⟨x, r2, c2, e1, e2, e3, e6⟩ | ⟨k, k1, k2, e1, e2⟩
  · refine lv_aload_n hx hb dL_law_1491 rfl (lv_at hl 4 rfl) ?_
    refine lv_aload_n hx hb dL_law_1492 rfl (lv_at hl 5 rfl) ?_
    refine lv_iload hx hb dL_law_1493 (lv_at hl 0 rfl) ?_
    refine lv_iconst (v := 1) hx hb dL_law_1495 (by decide) ?_
    refine lv_iadd hx hb dL_law_1496 ?_
    refine my_topi (y := nI (4 * n + 1)) (nI_add (4 * n) 1) ?_
    refine va_sld hx hb hX hbl hbA hS (vp_in_nI (n := 4 * n + 1) (by omega) (by omega)) dL_law_1497 ?_
    refine my_topi (y := xs (4 * n + 1)) (congrArg xs (nI_clamp (by omega))) ?_
    refine lv_aload_n hx hb dL_law_1498 rfl (lv_at hl 2 rfl) ?_
    have hPc : va_P (dC, dI) vwCl ([(o3, eL cy f3)] ++ WC cy ad ks g u) H := hP.part (X := XLW cy o3 o4 am f3 f4 r) (cx := [(o3, eL cy f3)]) [0] rfl
    have hDc : va_D (fun q : Nat => s.heap.size ≤ q) ([(o3, eL cy f3)] ++ WC cy ad ks g u) := hD.part (X := XLW cy o3 o4 am f3 f4 r) (cx := [(o3, eL cy f3)]) [0] (by decide) rfl
    have hFc : ∀ q, va_A ([(o3, eL cy f3)] ++ WC cy ad ks g u) H.size q → s.heap.size ≤ q := va_freeP (X := XLW cy o3 o4 am f3 f4 r) (cx := [(o3, eL cy f3)]) hD hS hA [0] rfl
    refine vx_calli (vx_runSX (As := [.ref (ad .cl), .int (xs (4 * n + 1)), .ref o3]) (rest := []) ⟨hx, hb, hml, hown, hts⟩ (cn_leftIn l hst dC dI cy nb ad ks g hk u ((xs (4 * n + 1))) o3 f3 x c2 H.size e2) (vx_cwSW 3 hts (gSH mw_1363 mw_1364 mw_562 mw_1365) rfl rfl rfl (by decide +kernel) ⟨Nat.le_of_ble_eq_true rfl, Nat.le_of_ble_eq_true rfl⟩) (my_preS hPc hK hDc hE hS hFc) rfl rfl hl.1 rfl (lv_room (Nat.le_of_ble_eq_true rfl)) dL_law_1499 ⟨by show _ ≤ 601024; omega, by show _ ≤ 7293034; omega⟩) hS (fun q _ h => hFc q h) hFc (fun q _ h => hFc q h) (fun E9 ce9 q9 u9 t9 H1 locs1 ht9 hvm9 hp9 _ _ _ _ _ _ _ => hp9.elim) (fun rw9 u9 t9 H1 locs ht hvm hw hB hz1 hk1 hS => ?_)
    obtain ⟨hP1, hD1⟩ := hB
    rw [ht] at hP1
    obtain ⟨hP, hD⟩ := va_joinP (X := XLW cy o3 o4 am f3 f4 r) (cx := [(o3, eL cy f3)]) (wr := ((o4, eD cy f4) :: WM cy am r)) (rx := [(o3, eL cy (vp_updL f3 ((0 : Int32).toNatClampNeg) (x.toInt64)))]) (pl := WC cy ad ks g u) (pl1 := WC cy ad ks g c2) hP hD [0] [1, 2, 3, 4, 5, 6, 7, 8, 9, 10, 11, 12] rfl rfl (by decide) (by decide) hk1 hFc hP1 hD1
    have hP : va_P (dC, dI) vwCl (XLW cy o3 o4 am (vp_updL f3 ((0 : Int32).toNatClampNeg) (x.toInt64)) f4 r ++ WC cy ad ks g c2) H1 := hP.part (X := ((o4, eD cy f4) :: WM cy am r) ++ [(o3, eL cy (vp_updL f3 ((0 : Int32).toNatClampNeg) (x.toInt64)))]) (cx := XLW cy o3 o4 am (vp_updL f3 ((0 : Int32).toNatClampNeg) (x.toInt64)) f4 r) [12, 0, 1, 2, 3, 4, 5, 6, 7, 8, 9, 10, 11] rfl
    have hD : va_D (fun q : Nat => s.heap.size ≤ q) (XLW cy o3 o4 am (vp_updL f3 ((0 : Int32).toNatClampNeg) (x.toInt64)) f4 r ++ WC cy ad ks g c2) := hD.part (X := ((o4, eD cy f4) :: WM cy am r) ++ [(o3, eL cy (vp_updL f3 ((0 : Int32).toNatClampNeg) (x.toInt64)))]) (cx := XLW cy o3 o4 am (vp_updL f3 ((0 : Int32).toNatClampNeg) (x.toInt64)) f4 r) [12, 0, 1, 2, 3, 4, 5, 6, 7, 8, 9, 10, 11] (by decide) rfl
    generalize H1 = H at hP hS ⊢
    clear hP1 hD1 hPc hDc hFc hk1 hz1 hvm ht
    refine lv_istore (lv' := [(6, .int rw9), (5, .int (nI (4 * n))), (4, .ref o4), (3, .ref o3), (2, .ref (am 0)), (1, .ref (ad .cl)), (0, .ref b)]) hx hb dL_law_1502 hl (by decide) rfl (fun ls hl => ?_)
    refine lv_aload_n hx hb dL_law_1504 rfl (lv_at hl 4 rfl) ?_
    refine lv_aload_n hx hb dL_law_1505 rfl (lv_at hl 6 rfl) ?_
    refine lv_iload hx hb dL_law_1506 (lv_at hl 1 rfl) ?_
    refine lv_iconst (v := 1) hx hb dL_law_1508 (by decide) ?_
    refine lv_iadd hx hb dL_law_1509 ?_
    refine my_topi (y := nI (4 * n + 1)) (nI_add (4 * n) 1) ?_
    refine va_sld hx hb hX hbl hbA hS (vp_in_nI (n := 4 * n + 1) (by omega) (by omega)) dL_law_1510 ?_
    refine my_topi (y := xs (4 * n + 1)) (congrArg xs (nI_clamp (by omega))) ?_
    have hPc := hP.sub (ws' := (WM cy am r)) [2, 3, 4, 5, 6, 7, 8, 9, 10, 11, 12] rfl
    have hDc := hD.sub (ws' := (WM cy am r)) [2, 3, 4, 5, 6, 7, 8, 9, 10, 11, 12] (by decide) rfl
    have hFc := va_free (wc := (WM cy am r)) hD hS hA [2, 3, 4, 5, 6, 7, 8, 9, 10, 11, 12] rfl
    refine va_calli (va_runV (As := [.int (xs (4 * n + 1))]) (rest := []) ⟨hx, hb, hml, hown, hts⟩ (k_X8_leftIn l dC dI cy nb am r ((xs (4 * n + 1))) x (r2) H.size e1) (cwV 1 hts (gV mw_1374 mw_1375 mw_1376 mw_5 mw_1377) rfl rfl rfl (by decide +kernel) ⟨Nat.le_of_ble_eq_true rfl, Nat.le_of_ble_eq_true rfl⟩) (my_preV hPc hK hDc hE hS hFc (va_recv (q := (RX8, TX8, 23)) hK hP (ci := 8) (q0 := 2) rfl rfl)) rfl rfl hl.1 rfl (lv_room (Nat.le_of_ble_eq_true rfl)) dL_law_1511 ⟨by show _ ≤ 601024; omega, by show _ ≤ 7293034; omega⟩) hS (fun q _ h => hFc q h) hFc (fun rm9 u9 t9 H1 locs ht hvm hwm hB hz1 hk1 hS => ?_)
    obtain ⟨hP1, hD1⟩ := hB
    rw [ht] at hP1
    obtain ⟨hP, hD⟩ := va_joinQ (X := XLW cy o3 o4 am (vp_updL f3 ((0 : Int32).toNatClampNeg) (x.toInt64)) f4 r) (cx := (WM cy am r)) (wr := [(o3, eL cy (vp_updL f3 ((0 : Int32).toNatClampNeg) (x.toInt64))), (o4, eD cy f4)]) (w1 := (WM cy am (r2))) (pl := WC cy ad ks g c2) hP hD [2, 3, 4, 5, 6, 7, 8, 9, 10, 11, 12] [0, 1] rfl rfl (by decide) (by decide) hk1 hFc hP1 hD1
    have hP : va_P (dC, dI) vwCl (XLW cy o3 o4 am (vp_updL f3 ((0 : Int32).toNatClampNeg) (x.toInt64)) f4 r2 ++ WC cy ad ks g c2) H1 := hP
    have hD : va_D (fun q : Nat => s.heap.size ≤ q) (XLW cy o3 o4 am (vp_updL f3 ((0 : Int32).toNatClampNeg) (x.toInt64)) f4 r2 ++ WC cy ad ks g c2) := hD
    generalize H1 = H at hP hS ⊢
    clear hP1 hD1 hPc hDc hFc hk1 hz1 hvm ht
    refine my_topi hwm ?_
    refine lv_istore (lv' := [(7, .int x), (6, .int rw9), (5, .int (nI (4 * n))), (4, .ref o4), (3, .ref o3), (2, .ref (am 0)), (1, .ref (ad .cl)), (0, .ref b)]) hx hb dL_law_1514 hl (by decide) rfl (fun ls hl => ?_)
    refine lv_goto (tgt := 1791) hx hb dL_law_1516 (by decide) ?_
    refine W.widen (k := cells + 603) (n := slots + 9640) (by omega) (by omega) ?_
    exact K H locs ls ⟨ad, ks, g, c2, r2, (vp_updL f3 ((0 : Int32).toNatClampNeg) (x.toInt64)), f4, hk, e3.mono (by omega) (by omega) (by omega), hP, hD, hS, lv_sub hl [2, 3, 4, 5, 6, 7] rfl⟩
  · have e2 : C7_leftIn g u (xs (4 * n + 1)) = some (.inl (nI (k + 1))) := e2
    generalize hxx : (nI (k + 1)) = xk at e2
    have hxk : ¬ xk = 1 := by rw [← hxx]; exact nI_ne (b := 1) (by omega) (by omega) (by omega)
    refine lv_aload_n hx hb dL_law_1491 rfl (lv_at hl 4 rfl) ?_
    refine lv_aload_n hx hb dL_law_1492 rfl (lv_at hl 5 rfl) ?_
    refine lv_iload hx hb dL_law_1493 (lv_at hl 0 rfl) ?_
    refine lv_iconst (v := 1) hx hb dL_law_1495 (by decide) ?_
    refine lv_iadd hx hb dL_law_1496 ?_
    refine my_topi (y := nI (4 * n + 1)) (nI_add (4 * n) 1) ?_
    refine va_sld hx hb hX hbl hbA hS (vp_in_nI (n := 4 * n + 1) (by omega) (by omega)) dL_law_1497 ?_
    refine my_topi (y := xs (4 * n + 1)) (congrArg xs (nI_clamp (by omega))) ?_
    refine lv_aload_n hx hb dL_law_1498 rfl (lv_at hl 2 rfl) ?_
    have hPc : va_P (dC, dI) vwCl ([(o3, eL cy f3)] ++ WC cy ad ks g u) H := hP.part (X := XLW cy o3 o4 am f3 f4 r) (cx := [(o3, eL cy f3)]) [0] rfl
    have hDc : va_D (fun q : Nat => s.heap.size ≤ q) ([(o3, eL cy f3)] ++ WC cy ad ks g u) := hD.part (X := XLW cy o3 o4 am f3 f4 r) (cx := [(o3, eL cy f3)]) [0] (by decide) rfl
    have hFc : ∀ q, va_A ([(o3, eL cy f3)] ++ WC cy ad ks g u) H.size q → s.heap.size ≤ q := va_freeP (X := XLW cy o3 o4 am f3 f4 r) (cx := [(o3, eL cy f3)]) hD hS hA [0] rfl
    refine vx_calli (vx_runSX (As := [.ref (ad .cl), .int (xs (4 * n + 1)), .ref o3]) (rest := []) ⟨hx, hb, hml, hown, hts⟩ (ct_leftIn l hst dC dI cy nb ad ks g hk u ((xs (4 * n + 1))) o3 f3 xk H.size hxk e2) (vx_cwSW 3 hts (gSH mw_1363 mw_1364 mw_562 mw_1365) rfl rfl rfl (by decide +kernel) ⟨Nat.le_of_ble_eq_true rfl, Nat.le_of_ble_eq_true rfl⟩) (my_preS hPc hK hDc hE hS hFc) rfl rfl hl.1 rfl (lv_room (Nat.le_of_ble_eq_true rfl)) dL_law_1499 ⟨by show _ ≤ 601024; omega, by show _ ≤ 7293034; omega⟩) hS (fun q _ h => hFc q h) hFc (fun q _ h => hFc q h) (fun E9 ce9 q9 u9 t9 H1 locs1 ht9 hvm9 hp9 _ _ _ _ _ _ _ => hp9.elim) (fun rw9 u9 t9 H1 locs ht hvm hw hB hz1 hk1 hS => ?_)
    obtain ⟨hP1, hD1⟩ := hB
    rw [ht] at hP1
    obtain ⟨hP, hD⟩ := va_joinP (X := XLW cy o3 o4 am f3 f4 r) (cx := [(o3, eL cy f3)]) (wr := ((o4, eD cy f4) :: WM cy am r)) (rx := [(o3, eL cy f3)]) (pl := WC cy ad ks g u) (pl1 := WC cy ad ks g u) hP hD [0] [1, 2, 3, 4, 5, 6, 7, 8, 9, 10, 11, 12] rfl rfl (by decide) (by decide) hk1 hFc hP1 hD1
    have hP : va_P (dC, dI) vwCl (XLW cy o3 o4 am f3 f4 r ++ WC cy ad ks g u) H1 := hP.part (X := ((o4, eD cy f4) :: WM cy am r) ++ [(o3, eL cy f3)]) (cx := XLW cy o3 o4 am f3 f4 r) [12, 0, 1, 2, 3, 4, 5, 6, 7, 8, 9, 10, 11] rfl
    have hD : va_D (fun q : Nat => s.heap.size ≤ q) (XLW cy o3 o4 am f3 f4 r ++ WC cy ad ks g u) := hD.part (X := ((o4, eD cy f4) :: WM cy am r) ++ [(o3, eL cy f3)]) (cx := XLW cy o3 o4 am f3 f4 r) [12, 0, 1, 2, 3, 4, 5, 6, 7, 8, 9, 10, 11] (by decide) rfl
    generalize H1 = H at hP hS ⊢
    clear hP1 hD1 hPc hDc hFc hk1 hz1 hvm ht
    refine lv_istore (lv' := [(6, .int rw9), (5, .int (nI (4 * n))), (4, .ref o4), (3, .ref o3), (2, .ref (am 0)), (1, .ref (ad .cl)), (0, .ref b)]) hx hb dL_law_1502 hl (by decide) rfl (fun ls hl => ?_)
    refine lv_aload_n hx hb dL_law_1504 rfl (lv_at hl 4 rfl) ?_
    refine lv_aload_n hx hb dL_law_1505 rfl (lv_at hl 6 rfl) ?_
    refine lv_iload hx hb dL_law_1506 (lv_at hl 1 rfl) ?_
    refine lv_iconst (v := 1) hx hb dL_law_1508 (by decide) ?_
    refine lv_iadd hx hb dL_law_1509 ?_
    refine my_topi (y := nI (4 * n + 1)) (nI_add (4 * n) 1) ?_
    refine va_sld hx hb hX hbl hbA hS (vp_in_nI (n := 4 * n + 1) (by omega) (by omega)) dL_law_1510 ?_
    refine my_topi (y := xs (4 * n + 1)) (congrArg xs (nI_clamp (by omega))) ?_
    have hPc := hP.sub (ws' := (WM cy am r)) [2, 3, 4, 5, 6, 7, 8, 9, 10, 11, 12] rfl
    have hDc := hD.sub (ws' := (WM cy am r)) [2, 3, 4, 5, 6, 7, 8, 9, 10, 11, 12] (by decide) rfl
    have hFc := va_free (wc := (WM cy am r)) hD hS hA [2, 3, 4, 5, 6, 7, 8, 9, 10, 11, 12] rfl
    refine va_calli (va_runV (As := [.int (xs (4 * n + 1))]) (rest := []) ⟨hx, hb, hml, hown, hts⟩ (k_X8_leftIn l dC dI cy nb am r ((xs (4 * n + 1))) (nI 0) (th r k) H.size e1) (cwV 1 hts (gV mw_1374 mw_1375 mw_1376 mw_5 mw_1377) rfl rfl rfl (by decide +kernel) ⟨Nat.le_of_ble_eq_true rfl, Nat.le_of_ble_eq_true rfl⟩) (my_preV hPc hK hDc hE hS hFc (va_recv (q := (RX8, TX8, 23)) hK hP (ci := 8) (q0 := 2) rfl rfl)) rfl rfl hl.1 rfl (lv_room (Nat.le_of_ble_eq_true rfl)) dL_law_1511 ⟨by show _ ≤ 601024; omega, by show _ ≤ 7293034; omega⟩) hS (fun q _ h => hFc q h) hFc (fun rm9 u9 t9 H1 locs ht hvm hwm hB hz1 hk1 hS => ?_)
    obtain ⟨hP1, hD1⟩ := hB
    rw [ht] at hP1
    obtain ⟨hP, hD⟩ := va_joinQ (X := XLW cy o3 o4 am f3 f4 r) (cx := (WM cy am r)) (wr := [(o3, eL cy f3), (o4, eD cy f4)]) (w1 := (WM cy am (th r k))) (pl := WC cy ad ks g u) hP hD [2, 3, 4, 5, 6, 7, 8, 9, 10, 11, 12] [0, 1] rfl rfl (by decide) (by decide) hk1 hFc hP1 hD1
    have hP : va_P (dC, dI) vwCl (XLW cy o3 o4 am f3 f4 (th r k) ++ WC cy ad ks g u) H1 := hP
    have hD : va_D (fun q : Nat => s.heap.size ≤ q) (XLW cy o3 o4 am f3 f4 (th r k) ++ WC cy ad ks g u) := hD
    generalize H1 = H at hP hS ⊢
    clear hP1 hD1 hPc hDc hFc hk1 hz1 hvm ht
    refine my_topi hwm ?_
    refine lv_istore (lv' := [(7, .int (nI 0)), (6, .int rw9), (5, .int (nI (4 * n))), (4, .ref o4), (3, .ref o3), (2, .ref (am 0)), (1, .ref (ad .cl)), (0, .ref b)]) hx hb dL_law_1514 hl (by decide) rfl (fun ls hl => ?_)
    refine lv_goto (tgt := 1791) hx hb dL_law_1516 (by decide) ?_
    refine W.widen (k := cells + 603) (n := slots + 9640) (by omega) (by omega) ?_
    exact K H locs ls ⟨ad, ks, g, u, (th r k), f3, f4, hk, (hGI.thr).mono (by omega) (by omega) (by omega), hP, hD, hS, lv_sub hl [2, 3, 4, 5, 6, 7] rfl⟩
set_option maxHeartbeats 8000000 in
set_option maxRecDepth 100000 in
theorem law_c41 {p : Program} {e : Env} {s : State} {m : MethodId} {below : List Frame} {meth : Method} {c : Code} (l : Launch) (hst : l.stackTraces = false) {b L : Nat} {xs : Nat → Int32} (dC : Nat → ClassId) (dI : Nat → Nat → Nat) (cy : Nat → ClassId) (nb : Nat → Nat) (o3 o4 : Nat) (am : Nat → Nat) {n : Nat} (hn : n < 512) (hL : 4 * n + 4 ≤ L) (hL2 : L ≤ 2048) (C0 : LX p s m meth c b L xs dC dI cy nb) {Q : State → Prop} {H : Heap} {locs : List Loc} {ls : Array Slot} {cells slots : Nat} (hc : cells ≤ 400000) (hs : slots ≤ 6000000) (h : LSt s dC dI cy nb b o3 o4 am n (4 * n) H locs ls) (K : ∀ (H : Heap) (locs : List Loc) (ls : Array Slot), LSt s dC dI cy nb b o3 o4 am (n + 1) (4 * n) H locs ls → W p l e room_1 s m #[Value.ref b] below meth c H locs (cells + 603) (slots + 9640) Q (F0 m 1791 ls [])) : W p l e room_1 s m #[Value.ref b] below meth c H locs cells slots Q (F0 m 1519 ls []) := by
  obtain ⟨hx, hb, hr, hml, hown, hts, hX, hbl, hlocks, hK, hE⟩ := C0
  have hA : ∀ q : Nat, s.heap.size ≤ q → (fun q : Nat => s.heap.size ≤ q) q := fun _ h => h
  have hbA : ¬ (fun q : Nat => s.heap.size ≤ q) b := Nat.not_le.mpr hbl
  obtain ⟨ad, ks, g, u, r, f3, f4, hk, hGI, hP, hD, hS, hl⟩ := h
  have h9 : DT (F8_failIn r (xs (4 * n + 1))) (C7_failIn g u (xs (4 * n + 1))) r g 0 (2001 * n) (602 * n) := a_failIn hGI (by omega) (by omega)
  rcases h9 with ⟨x, y, r2, c2, e1, e2, e3, e6⟩ | ⟨k, k1, k2, e1, e2⟩
  · refine lv_aload_n hx hb dL_law_1519 rfl (lv_at hl 4 rfl) ?_
    refine lv_aload_n hx hb dL_law_1520 rfl (lv_at hl 5 rfl) ?_
    refine lv_iload hx hb dL_law_1521 (lv_at hl 0 rfl) ?_
    refine lv_iconst (v := 1) hx hb dL_law_1523 (by decide) ?_
    refine lv_iadd hx hb dL_law_1524 ?_
    refine my_topi (y := nI (4 * n + 1)) (nI_add (4 * n) 1) ?_
    refine va_sld hx hb hX hbl hbA hS (vp_in_nI (n := 4 * n + 1) (by omega) (by omega)) dL_law_1525 ?_
    refine my_topi (y := xs (4 * n + 1)) (congrArg xs (nI_clamp (by omega))) ?_
    refine lv_aload_n hx hb dL_law_1526 rfl (lv_at hl 2 rfl) ?_
    have hPc : va_P (dC, dI) vwCl ([(o3, eL cy f3)] ++ WC cy ad ks g u) H := hP.part (X := XLW cy o3 o4 am f3 f4 r) (cx := [(o3, eL cy f3)]) [0] rfl
    have hDc : va_D (fun q : Nat => s.heap.size ≤ q) ([(o3, eL cy f3)] ++ WC cy ad ks g u) := hD.part (X := XLW cy o3 o4 am f3 f4 r) (cx := [(o3, eL cy f3)]) [0] (by decide) rfl
    have hFc : ∀ q, va_A ([(o3, eL cy f3)] ++ WC cy ad ks g u) H.size q → s.heap.size ≤ q := va_freeP (X := XLW cy o3 o4 am f3 f4 r) (cx := [(o3, eL cy f3)]) hD hS hA [0] rfl
    refine vx_calli (vx_runSX (As := [.ref (ad .cl), .int (xs (4 * n + 1)), .ref o3]) (rest := []) ⟨hx, hb, hml, hown, hts⟩ (cn_failIn l hst dC dI cy nb ad ks g hk u ((xs (4 * n + 1))) o3 f3 y c2 H.size e2) (vx_cwSW 3 hts (gSH mw_1382 mw_1383 mw_562 mw_1384) rfl rfl rfl (by decide +kernel) ⟨Nat.le_of_ble_eq_true rfl, Nat.le_of_ble_eq_true rfl⟩) (my_preS hPc hK hDc hE hS hFc) rfl rfl hl.1 rfl (lv_room (Nat.le_of_ble_eq_true rfl)) dL_law_1527 ⟨by show _ ≤ 601024; omega, by show _ ≤ 7293034; omega⟩) hS (fun q _ h => hFc q h) hFc (fun q _ h => hFc q h) (fun E9 ce9 q9 u9 t9 H1 locs1 ht9 hvm9 hp9 _ _ _ _ _ _ _ => hp9.elim) (fun rw9 u9 t9 H1 locs ht hvm hw hB hz1 hk1 hS => ?_)
    obtain ⟨hP1, hD1⟩ := hB
    rw [ht] at hP1
    obtain ⟨hP, hD⟩ := va_joinP (X := XLW cy o3 o4 am f3 f4 r) (cx := [(o3, eL cy f3)]) (wr := ((o4, eD cy f4) :: WM cy am r)) (rx := [(o3, eL cy (vp_updL f3 ((0 : Int32).toNatClampNeg) (y.toInt64)))]) (pl := WC cy ad ks g u) (pl1 := WC cy ad ks g c2) hP hD [0] [1, 2, 3, 4, 5, 6, 7, 8, 9, 10, 11, 12] rfl rfl (by decide) (by decide) hk1 hFc hP1 hD1
    have hP : va_P (dC, dI) vwCl (XLW cy o3 o4 am (vp_updL f3 ((0 : Int32).toNatClampNeg) (y.toInt64)) f4 r ++ WC cy ad ks g c2) H1 := hP.part (X := ((o4, eD cy f4) :: WM cy am r) ++ [(o3, eL cy (vp_updL f3 ((0 : Int32).toNatClampNeg) (y.toInt64)))]) (cx := XLW cy o3 o4 am (vp_updL f3 ((0 : Int32).toNatClampNeg) (y.toInt64)) f4 r) [12, 0, 1, 2, 3, 4, 5, 6, 7, 8, 9, 10, 11] rfl
    have hD : va_D (fun q : Nat => s.heap.size ≤ q) (XLW cy o3 o4 am (vp_updL f3 ((0 : Int32).toNatClampNeg) (y.toInt64)) f4 r ++ WC cy ad ks g c2) := hD.part (X := ((o4, eD cy f4) :: WM cy am r) ++ [(o3, eL cy (vp_updL f3 ((0 : Int32).toNatClampNeg) (y.toInt64)))]) (cx := XLW cy o3 o4 am (vp_updL f3 ((0 : Int32).toNatClampNeg) (y.toInt64)) f4 r) [12, 0, 1, 2, 3, 4, 5, 6, 7, 8, 9, 10, 11] (by decide) rfl
    generalize H1 = H at hP hS ⊢
    clear hP1 hD1 hPc hDc hFc hk1 hz1 hvm ht
    refine lv_istore (lv' := [(6, .int rw9), (5, .int (nI (4 * n))), (4, .ref o4), (3, .ref o3), (2, .ref (am 0)), (1, .ref (ad .cl)), (0, .ref b)]) hx hb dL_law_1530 hl (by decide) rfl (fun ls hl => ?_)
    refine lv_aload_n hx hb dL_law_1532 rfl (lv_at hl 4 rfl) ?_
    refine lv_aload_n hx hb dL_law_1533 rfl (lv_at hl 6 rfl) ?_
    refine lv_iload hx hb dL_law_1534 (lv_at hl 1 rfl) ?_
    refine lv_iconst (v := 1) hx hb dL_law_1536 (by decide) ?_
    refine lv_iadd hx hb dL_law_1537 ?_
    refine my_topi (y := nI (4 * n + 1)) (nI_add (4 * n) 1) ?_
    refine va_sld hx hb hX hbl hbA hS (vp_in_nI (n := 4 * n + 1) (by omega) (by omega)) dL_law_1538 ?_
    refine my_topi (y := xs (4 * n + 1)) (congrArg xs (nI_clamp (by omega))) ?_
    have hPc := hP.sub (ws' := (WM cy am r)) [2, 3, 4, 5, 6, 7, 8, 9, 10, 11, 12] rfl
    have hDc := hD.sub (ws' := (WM cy am r)) [2, 3, 4, 5, 6, 7, 8, 9, 10, 11, 12] (by decide) rfl
    have hFc := va_free (wc := (WM cy am r)) hD hS hA [2, 3, 4, 5, 6, 7, 8, 9, 10, 11, 12] rfl
    refine va_calli (va_runV (As := [.int (xs (4 * n + 1))]) (rest := []) ⟨hx, hb, hml, hown, hts⟩ (k_X8_failIn l dC dI cy nb am r ((xs (4 * n + 1))) x (r2) H.size e1) (cwV 1 hts (gV mw_1390 mw_1391 mw_1392 mw_5 mw_1393) rfl rfl rfl (by decide +kernel) ⟨Nat.le_of_ble_eq_true rfl, Nat.le_of_ble_eq_true rfl⟩) (my_preV hPc hK hDc hE hS hFc (va_recv (q := (RX8, TX8, 23)) hK hP (ci := 8) (q0 := 2) rfl rfl)) rfl rfl hl.1 rfl (lv_room (Nat.le_of_ble_eq_true rfl)) dL_law_1539 ⟨by show _ ≤ 601024; omega, by show _ ≤ 7293034; omega⟩) hS (fun q _ h => hFc q h) hFc (fun rm9 u9 t9 H1 locs ht hvm hwm hB hz1 hk1 hS => ?_)
    obtain ⟨hP1, hD1⟩ := hB
    rw [ht] at hP1
    obtain ⟨hP, hD⟩ := va_joinQ (X := XLW cy o3 o4 am (vp_updL f3 ((0 : Int32).toNatClampNeg) (y.toInt64)) f4 r) (cx := (WM cy am r)) (wr := [(o3, eL cy (vp_updL f3 ((0 : Int32).toNatClampNeg) (y.toInt64))), (o4, eD cy f4)]) (w1 := (WM cy am (r2))) (pl := WC cy ad ks g c2) hP hD [2, 3, 4, 5, 6, 7, 8, 9, 10, 11, 12] [0, 1] rfl rfl (by decide) (by decide) hk1 hFc hP1 hD1
    have hP : va_P (dC, dI) vwCl (XLW cy o3 o4 am (vp_updL f3 ((0 : Int32).toNatClampNeg) (y.toInt64)) f4 r2 ++ WC cy ad ks g c2) H1 := hP
    have hD : va_D (fun q : Nat => s.heap.size ≤ q) (XLW cy o3 o4 am (vp_updL f3 ((0 : Int32).toNatClampNeg) (y.toInt64)) f4 r2 ++ WC cy ad ks g c2) := hD
    generalize H1 = H at hP hS ⊢
    clear hP1 hD1 hPc hDc hFc hk1 hz1 hvm ht
    refine my_topi hwm ?_
    refine lv_istore (lv' := [(7, .int x), (6, .int rw9), (5, .int (nI (4 * n))), (4, .ref o4), (3, .ref o3), (2, .ref (am 0)), (1, .ref (ad .cl)), (0, .ref b)]) hx hb dL_law_1542 hl (by decide) rfl (fun ls hl => ?_)
    refine lv_goto (tgt := 1791) hx hb dL_law_1544 (by decide) ?_
    refine W.widen (k := cells + 603) (n := slots + 9640) (by omega) (by omega) ?_
    exact K H locs ls ⟨ad, ks, g, c2, r2, (vp_updL f3 ((0 : Int32).toNatClampNeg) (y.toInt64)), f4, hk, e3.mono (by omega) (by omega) (by omega), hP, hD, hS, lv_sub hl [2, 3, 4, 5, 6, 7] rfl⟩
  · have e2 : C7_failIn g u (xs (4 * n + 1)) = some (.inl (nI (k + 0))) := e2
    generalize hxx : (nI (k + 0)) = xk at e2
    have hxk : xk = 1 := x1_failIn e2
    refine lv_aload_n hx hb dL_law_1519 rfl (lv_at hl 4 rfl) ?_
    refine lv_aload_n hx hb dL_law_1520 rfl (lv_at hl 5 rfl) ?_
    refine lv_iload hx hb dL_law_1521 (lv_at hl 0 rfl) ?_
    refine lv_iconst (v := 1) hx hb dL_law_1523 (by decide) ?_
    refine lv_iadd hx hb dL_law_1524 ?_
    refine my_topi (y := nI (4 * n + 1)) (nI_add (4 * n) 1) ?_
    refine va_sld hx hb hX hbl hbA hS (vp_in_nI (n := 4 * n + 1) (by omega) (by omega)) dL_law_1525 ?_
    refine my_topi (y := xs (4 * n + 1)) (congrArg xs (nI_clamp (by omega))) ?_
    refine lv_aload_n hx hb dL_law_1526 rfl (lv_at hl 2 rfl) ?_
    have hPc : va_P (dC, dI) vwCl ([(o3, eL cy f3)] ++ WC cy ad ks g u) H := hP.part (X := XLW cy o3 o4 am f3 f4 r) (cx := [(o3, eL cy f3)]) [0] rfl
    have hDc : va_D (fun q : Nat => s.heap.size ≤ q) ([(o3, eL cy f3)] ++ WC cy ad ks g u) := hD.part (X := XLW cy o3 o4 am f3 f4 r) (cx := [(o3, eL cy f3)]) [0] (by decide) rfl
    have hFc : ∀ q, va_A ([(o3, eL cy f3)] ++ WC cy ad ks g u) H.size q → s.heap.size ≤ q := va_freeP (X := XLW cy o3 o4 am f3 f4 r) (cx := [(o3, eL cy f3)]) hD hS hA [0] rfl
    refine vx_calli (vx_runSX (As := [.ref (ad .cl), .int (xs (4 * n + 1)), .ref o3]) (rest := []) ⟨hx, hb, hml, hown, hts⟩ (ct_failIn l hst dC dI cy nb ad ks g hk u ((xs (4 * n + 1))) o3 f3 xk H.size hxk e2) (vx_cwSW 3 hts (gSH mw_1382 mw_1383 mw_562 mw_1384) rfl rfl rfl (by decide +kernel) ⟨Nat.le_of_ble_eq_true rfl, Nat.le_of_ble_eq_true rfl⟩) (my_preS hPc hK hDc hE hS hFc) rfl rfl hl.1 rfl (lv_room (Nat.le_of_ble_eq_true rfl)) dL_law_1527 ⟨by show _ ≤ 601024; omega, by show _ ≤ 7293034; omega⟩) hS (fun q _ h => hFc q h) hFc (fun q _ h => hFc q h) (fun E9 ce9 q9 u9 t9 H1 locs1 ht9 hvm9 hp9 _ _ _ _ _ _ _ => hp9.elim) (fun rw9 u9 t9 H1 locs ht hvm hw hB hz1 hk1 hS => ?_)
    obtain ⟨hP1, hD1⟩ := hB
    rw [ht] at hP1
    obtain ⟨hP, hD⟩ := va_joinP (X := XLW cy o3 o4 am f3 f4 r) (cx := [(o3, eL cy f3)]) (wr := ((o4, eD cy f4) :: WM cy am r)) (rx := [(o3, eL cy f3)]) (pl := WC cy ad ks g u) (pl1 := WC cy ad ks g u) hP hD [0] [1, 2, 3, 4, 5, 6, 7, 8, 9, 10, 11, 12] rfl rfl (by decide) (by decide) hk1 hFc hP1 hD1
    have hP : va_P (dC, dI) vwCl (XLW cy o3 o4 am f3 f4 r ++ WC cy ad ks g u) H1 := hP.part (X := ((o4, eD cy f4) :: WM cy am r) ++ [(o3, eL cy f3)]) (cx := XLW cy o3 o4 am f3 f4 r) [12, 0, 1, 2, 3, 4, 5, 6, 7, 8, 9, 10, 11] rfl
    have hD : va_D (fun q : Nat => s.heap.size ≤ q) (XLW cy o3 o4 am f3 f4 r ++ WC cy ad ks g u) := hD.part (X := ((o4, eD cy f4) :: WM cy am r) ++ [(o3, eL cy f3)]) (cx := XLW cy o3 o4 am f3 f4 r) [12, 0, 1, 2, 3, 4, 5, 6, 7, 8, 9, 10, 11] (by decide) rfl
    generalize H1 = H at hP hS ⊢
    clear hP1 hD1 hPc hDc hFc hk1 hz1 hvm ht
    refine lv_istore (lv' := [(6, .int rw9), (5, .int (nI (4 * n))), (4, .ref o4), (3, .ref o3), (2, .ref (am 0)), (1, .ref (ad .cl)), (0, .ref b)]) hx hb dL_law_1530 hl (by decide) rfl (fun ls hl => ?_)
    refine lv_aload_n hx hb dL_law_1532 rfl (lv_at hl 4 rfl) ?_
    refine lv_aload_n hx hb dL_law_1533 rfl (lv_at hl 6 rfl) ?_
    refine lv_iload hx hb dL_law_1534 (lv_at hl 1 rfl) ?_
    refine lv_iconst (v := 1) hx hb dL_law_1536 (by decide) ?_
    refine lv_iadd hx hb dL_law_1537 ?_
    refine my_topi (y := nI (4 * n + 1)) (nI_add (4 * n) 1) ?_
    refine va_sld hx hb hX hbl hbA hS (vp_in_nI (n := 4 * n + 1) (by omega) (by omega)) dL_law_1538 ?_
    refine my_topi (y := xs (4 * n + 1)) (congrArg xs (nI_clamp (by omega))) ?_
    have hPc := hP.sub (ws' := (WM cy am r)) [2, 3, 4, 5, 6, 7, 8, 9, 10, 11, 12] rfl
    have hDc := hD.sub (ws' := (WM cy am r)) [2, 3, 4, 5, 6, 7, 8, 9, 10, 11, 12] (by decide) rfl
    have hFc := va_free (wc := (WM cy am r)) hD hS hA [2, 3, 4, 5, 6, 7, 8, 9, 10, 11, 12] rfl
    refine va_calli (va_runV (As := [.int (xs (4 * n + 1))]) (rest := []) ⟨hx, hb, hml, hown, hts⟩ (k_X8_failIn l dC dI cy nb am r ((xs (4 * n + 1))) (nI 0) (th r k) H.size e1) (cwV 1 hts (gV mw_1390 mw_1391 mw_1392 mw_5 mw_1393) rfl rfl rfl (by decide +kernel) ⟨Nat.le_of_ble_eq_true rfl, Nat.le_of_ble_eq_true rfl⟩) (my_preV hPc hK hDc hE hS hFc (va_recv (q := (RX8, TX8, 23)) hK hP (ci := 8) (q0 := 2) rfl rfl)) rfl rfl hl.1 rfl (lv_room (Nat.le_of_ble_eq_true rfl)) dL_law_1539 ⟨by show _ ≤ 601024; omega, by show _ ≤ 7293034; omega⟩) hS (fun q _ h => hFc q h) hFc (fun rm9 u9 t9 H1 locs ht hvm hwm hB hz1 hk1 hS => ?_)
    obtain ⟨hP1, hD1⟩ := hB
    rw [ht] at hP1
    obtain ⟨hP, hD⟩ := va_joinQ (X := XLW cy o3 o4 am f3 f4 r) (cx := (WM cy am r)) (wr := [(o3, eL cy f3), (o4, eD cy f4)]) (w1 := (WM cy am (th r k))) (pl := WC cy ad ks g u) hP hD [2, 3, 4, 5, 6, 7, 8, 9, 10, 11, 12] [0, 1] rfl rfl (by decide) (by decide) hk1 hFc hP1 hD1
    have hP : va_P (dC, dI) vwCl (XLW cy o3 o4 am f3 f4 (th r k) ++ WC cy ad ks g u) H1 := hP
    have hD : va_D (fun q : Nat => s.heap.size ≤ q) (XLW cy o3 o4 am f3 f4 (th r k) ++ WC cy ad ks g u) := hD
    generalize H1 = H at hP hS ⊢
    clear hP1 hD1 hPc hDc hFc hk1 hz1 hvm ht
    refine my_topi hwm ?_
    refine lv_istore (lv' := [(7, .int (nI 0)), (6, .int rw9), (5, .int (nI (4 * n))), (4, .ref o4), (3, .ref o3), (2, .ref (am 0)), (1, .ref (ad .cl)), (0, .ref b)]) hx hb dL_law_1542 hl (by decide) rfl (fun ls hl => ?_)
    refine lv_goto (tgt := 1791) hx hb dL_law_1544 (by decide) ?_
    refine W.widen (k := cells + 603) (n := slots + 9640) (by omega) (by omega) ?_
    exact K H locs ls ⟨ad, ks, g, u, (th r k), f3, f4, hk, (hGI.thr).mono (by omega) (by omega) (by omega), hP, hD, hS, lv_sub hl [2, 3, 4, 5, 6, 7] rfl⟩
set_option maxHeartbeats 8000000 in
set_option maxRecDepth 100000 in
theorem law_c42 {p : Program} {e : Env} {s : State} {m : MethodId} {below : List Frame} {meth : Method} {c : Code} (l : Launch) (hst : l.stackTraces = false) {b L : Nat} {xs : Nat → Int32} (dC : Nat → ClassId) (dI : Nat → Nat → Nat) (cy : Nat → ClassId) (nb : Nat → Nat) (o3 o4 : Nat) (am : Nat → Nat) {n : Nat} (hn : n < 512) (hL : 4 * n + 4 ≤ L) (hL2 : L ≤ 2048) (C0 : LX p s m meth c b L xs dC dI cy nb) {Q : State → Prop} {H : Heap} {locs : List Loc} {ls : Array Slot} {cells slots : Nat} (hc : cells ≤ 400000) (hs : slots ≤ 6000000) (h : LSt s dC dI cy nb b o3 o4 am n (4 * n) H locs ls) (K : ∀ (H : Heap) (locs : List Loc) (ls : Array Slot), LSt s dC dI cy nb b o3 o4 am (n + 1) (4 * n) H locs ls → W p l e room_1 s m #[Value.ref b] below meth c H locs (cells + 603) (slots + 9640) Q (F0 m 1791 ls [])) : W p l e room_1 s m #[Value.ref b] below meth c H locs cells slots Q (F0 m 1547 ls []) := by
  obtain ⟨hx, hb, hr, hml, hown, hts, hX, hbl, hlocks, hK, hE⟩ := C0
  have hA : ∀ q : Nat, s.heap.size ≤ q → (fun q : Nat => s.heap.size ≤ q) q := fun _ h => h
  have hbA : ¬ (fun q : Nat => s.heap.size ≤ q) b := Nat.not_le.mpr hbl
  obtain ⟨ad, ks, g, u, r, f3, f4, hk, hGI, hP, hD, hS, hl⟩ := h
  have h9 : CT (F8_blanksIn r (xs (4 * n + 1))) (C7_blanksIn g u (xs (4 * n + 1))) r g 1 (2001 * n) (602 * n) := a_blanksIn hGI (by omega) (by omega)
  rcases h9 with ⟨x, r2, c2, e1, e2, e3, e6⟩ | ⟨k, k1, k2, e1, e2⟩
  · refine lv_aload_n hx hb dL_law_1547 rfl (lv_at hl 4 rfl) ?_
    refine lv_aload_n hx hb dL_law_1548 rfl (lv_at hl 5 rfl) ?_
    refine lv_iload hx hb dL_law_1549 (lv_at hl 0 rfl) ?_
    refine lv_iconst (v := 1) hx hb dL_law_1551 (by decide) ?_
    refine lv_iadd hx hb dL_law_1552 ?_
    refine my_topi (y := nI (4 * n + 1)) (nI_add (4 * n) 1) ?_
    refine va_sld hx hb hX hbl hbA hS (vp_in_nI (n := 4 * n + 1) (by omega) (by omega)) dL_law_1553 ?_
    refine my_topi (y := xs (4 * n + 1)) (congrArg xs (nI_clamp (by omega))) ?_
    refine lv_aload_n hx hb dL_law_1554 rfl (lv_at hl 2 rfl) ?_
    have hPc : va_P (dC, dI) vwCl ([(o3, eL cy f3)] ++ WC cy ad ks g u) H := hP.part (X := XLW cy o3 o4 am f3 f4 r) (cx := [(o3, eL cy f3)]) [0] rfl
    have hDc : va_D (fun q : Nat => s.heap.size ≤ q) ([(o3, eL cy f3)] ++ WC cy ad ks g u) := hD.part (X := XLW cy o3 o4 am f3 f4 r) (cx := [(o3, eL cy f3)]) [0] (by decide) rfl
    have hFc : ∀ q, va_A ([(o3, eL cy f3)] ++ WC cy ad ks g u) H.size q → s.heap.size ≤ q := va_freeP (X := XLW cy o3 o4 am f3 f4 r) (cx := [(o3, eL cy f3)]) hD hS hA [0] rfl
    refine vx_calli (vx_runSX (As := [.ref (ad .cl), .int (xs (4 * n + 1)), .ref o3]) (rest := []) ⟨hx, hb, hml, hown, hts⟩ (cn_blanksIn l hst dC dI cy nb ad ks g hk u ((xs (4 * n + 1))) o3 f3 x c2 H.size e2) (vx_cwSW 3 hts (gSH mw_1394 mw_1395 mw_562 mw_1396) rfl rfl rfl (by decide +kernel) ⟨Nat.le_of_ble_eq_true rfl, Nat.le_of_ble_eq_true rfl⟩) (my_preS hPc hK hDc hE hS hFc) rfl rfl hl.1 rfl (lv_room (Nat.le_of_ble_eq_true rfl)) dL_law_1555 ⟨by show _ ≤ 601024; omega, by show _ ≤ 7293034; omega⟩) hS (fun q _ h => hFc q h) hFc (fun q _ h => hFc q h) (fun E9 ce9 q9 u9 t9 H1 locs1 ht9 hvm9 hp9 _ _ _ _ _ _ _ => hp9.elim) (fun rw9 u9 t9 H1 locs ht hvm hw hB hz1 hk1 hS => ?_)
    obtain ⟨hP1, hD1⟩ := hB
    rw [ht] at hP1
    obtain ⟨hP, hD⟩ := va_joinP (X := XLW cy o3 o4 am f3 f4 r) (cx := [(o3, eL cy f3)]) (wr := ((o4, eD cy f4) :: WM cy am r)) (rx := [(o3, eL cy (vp_updL f3 ((0 : Int32).toNatClampNeg) (x.toInt64)))]) (pl := WC cy ad ks g u) (pl1 := WC cy ad ks g c2) hP hD [0] [1, 2, 3, 4, 5, 6, 7, 8, 9, 10, 11, 12] rfl rfl (by decide) (by decide) hk1 hFc hP1 hD1
    have hP : va_P (dC, dI) vwCl (XLW cy o3 o4 am (vp_updL f3 ((0 : Int32).toNatClampNeg) (x.toInt64)) f4 r ++ WC cy ad ks g c2) H1 := hP.part (X := ((o4, eD cy f4) :: WM cy am r) ++ [(o3, eL cy (vp_updL f3 ((0 : Int32).toNatClampNeg) (x.toInt64)))]) (cx := XLW cy o3 o4 am (vp_updL f3 ((0 : Int32).toNatClampNeg) (x.toInt64)) f4 r) [12, 0, 1, 2, 3, 4, 5, 6, 7, 8, 9, 10, 11] rfl
    have hD : va_D (fun q : Nat => s.heap.size ≤ q) (XLW cy o3 o4 am (vp_updL f3 ((0 : Int32).toNatClampNeg) (x.toInt64)) f4 r ++ WC cy ad ks g c2) := hD.part (X := ((o4, eD cy f4) :: WM cy am r) ++ [(o3, eL cy (vp_updL f3 ((0 : Int32).toNatClampNeg) (x.toInt64)))]) (cx := XLW cy o3 o4 am (vp_updL f3 ((0 : Int32).toNatClampNeg) (x.toInt64)) f4 r) [12, 0, 1, 2, 3, 4, 5, 6, 7, 8, 9, 10, 11] (by decide) rfl
    generalize H1 = H at hP hS ⊢
    clear hP1 hD1 hPc hDc hFc hk1 hz1 hvm ht
    refine lv_istore (lv' := [(6, .int rw9), (5, .int (nI (4 * n))), (4, .ref o4), (3, .ref o3), (2, .ref (am 0)), (1, .ref (ad .cl)), (0, .ref b)]) hx hb dL_law_1558 hl (by decide) rfl (fun ls hl => ?_)
    refine lv_aload_n hx hb dL_law_1560 rfl (lv_at hl 4 rfl) ?_
    refine lv_aload_n hx hb dL_law_1561 rfl (lv_at hl 6 rfl) ?_
    refine lv_iload hx hb dL_law_1562 (lv_at hl 1 rfl) ?_
    refine lv_iconst (v := 1) hx hb dL_law_1564 (by decide) ?_
    refine lv_iadd hx hb dL_law_1565 ?_
    refine my_topi (y := nI (4 * n + 1)) (nI_add (4 * n) 1) ?_
    refine va_sld hx hb hX hbl hbA hS (vp_in_nI (n := 4 * n + 1) (by omega) (by omega)) dL_law_1566 ?_
    refine my_topi (y := xs (4 * n + 1)) (congrArg xs (nI_clamp (by omega))) ?_
    have hPc := hP.sub (ws' := (WM cy am r)) [2, 3, 4, 5, 6, 7, 8, 9, 10, 11, 12] rfl
    have hDc := hD.sub (ws' := (WM cy am r)) [2, 3, 4, 5, 6, 7, 8, 9, 10, 11, 12] (by decide) rfl
    have hFc := va_free (wc := (WM cy am r)) hD hS hA [2, 3, 4, 5, 6, 7, 8, 9, 10, 11, 12] rfl
    refine va_calli (va_runV (As := [.int (xs (4 * n + 1))]) (rest := []) ⟨hx, hb, hml, hown, hts⟩ (k_X8_blanksIn l dC dI cy nb am r ((xs (4 * n + 1))) x (r2) H.size e1) (cwV 1 hts (gV mw_1401 mw_1402 mw_1403 mw_5 mw_1404) rfl rfl rfl (by decide +kernel) ⟨Nat.le_of_ble_eq_true rfl, Nat.le_of_ble_eq_true rfl⟩) (my_preV hPc hK hDc hE hS hFc (va_recv (q := (RX8, TX8, 23)) hK hP (ci := 8) (q0 := 2) rfl rfl)) rfl rfl hl.1 rfl (lv_room (Nat.le_of_ble_eq_true rfl)) dL_law_1567 ⟨by show _ ≤ 601024; omega, by show _ ≤ 7293034; omega⟩) hS (fun q _ h => hFc q h) hFc (fun rm9 u9 t9 H1 locs ht hvm hwm hB hz1 hk1 hS => ?_)
    obtain ⟨hP1, hD1⟩ := hB
    rw [ht] at hP1
    obtain ⟨hP, hD⟩ := va_joinQ (X := XLW cy o3 o4 am (vp_updL f3 ((0 : Int32).toNatClampNeg) (x.toInt64)) f4 r) (cx := (WM cy am r)) (wr := [(o3, eL cy (vp_updL f3 ((0 : Int32).toNatClampNeg) (x.toInt64))), (o4, eD cy f4)]) (w1 := (WM cy am (r2))) (pl := WC cy ad ks g c2) hP hD [2, 3, 4, 5, 6, 7, 8, 9, 10, 11, 12] [0, 1] rfl rfl (by decide) (by decide) hk1 hFc hP1 hD1
    have hP : va_P (dC, dI) vwCl (XLW cy o3 o4 am (vp_updL f3 ((0 : Int32).toNatClampNeg) (x.toInt64)) f4 r2 ++ WC cy ad ks g c2) H1 := hP
    have hD : va_D (fun q : Nat => s.heap.size ≤ q) (XLW cy o3 o4 am (vp_updL f3 ((0 : Int32).toNatClampNeg) (x.toInt64)) f4 r2 ++ WC cy ad ks g c2) := hD
    generalize H1 = H at hP hS ⊢
    clear hP1 hD1 hPc hDc hFc hk1 hz1 hvm ht
    refine my_topi hwm ?_
    refine lv_istore (lv' := [(7, .int x), (6, .int rw9), (5, .int (nI (4 * n))), (4, .ref o4), (3, .ref o3), (2, .ref (am 0)), (1, .ref (ad .cl)), (0, .ref b)]) hx hb dL_law_1570 hl (by decide) rfl (fun ls hl => ?_)
    refine lv_goto (tgt := 1791) hx hb dL_law_1572 (by decide) ?_
    refine W.widen (k := cells + 603) (n := slots + 9640) (by omega) (by omega) ?_
    exact K H locs ls ⟨ad, ks, g, c2, r2, (vp_updL f3 ((0 : Int32).toNatClampNeg) (x.toInt64)), f4, hk, e3.mono (by omega) (by omega) (by omega), hP, hD, hS, lv_sub hl [2, 3, 4, 5, 6, 7] rfl⟩
  · have e2 : C7_blanksIn g u (xs (4 * n + 1)) = some (.inl (nI (k + 1))) := e2
    generalize hxx : (nI (k + 1)) = xk at e2
    have hxk : ¬ xk = 1 := by rw [← hxx]; exact nI_ne (b := 1) (by omega) (by omega) (by omega)
    refine lv_aload_n hx hb dL_law_1547 rfl (lv_at hl 4 rfl) ?_
    refine lv_aload_n hx hb dL_law_1548 rfl (lv_at hl 5 rfl) ?_
    refine lv_iload hx hb dL_law_1549 (lv_at hl 0 rfl) ?_
    refine lv_iconst (v := 1) hx hb dL_law_1551 (by decide) ?_
    refine lv_iadd hx hb dL_law_1552 ?_
    refine my_topi (y := nI (4 * n + 1)) (nI_add (4 * n) 1) ?_
    refine va_sld hx hb hX hbl hbA hS (vp_in_nI (n := 4 * n + 1) (by omega) (by omega)) dL_law_1553 ?_
    refine my_topi (y := xs (4 * n + 1)) (congrArg xs (nI_clamp (by omega))) ?_
    refine lv_aload_n hx hb dL_law_1554 rfl (lv_at hl 2 rfl) ?_
    have hPc : va_P (dC, dI) vwCl ([(o3, eL cy f3)] ++ WC cy ad ks g u) H := hP.part (X := XLW cy o3 o4 am f3 f4 r) (cx := [(o3, eL cy f3)]) [0] rfl
    have hDc : va_D (fun q : Nat => s.heap.size ≤ q) ([(o3, eL cy f3)] ++ WC cy ad ks g u) := hD.part (X := XLW cy o3 o4 am f3 f4 r) (cx := [(o3, eL cy f3)]) [0] (by decide) rfl
    have hFc : ∀ q, va_A ([(o3, eL cy f3)] ++ WC cy ad ks g u) H.size q → s.heap.size ≤ q := va_freeP (X := XLW cy o3 o4 am f3 f4 r) (cx := [(o3, eL cy f3)]) hD hS hA [0] rfl
    refine vx_calli (vx_runSX (As := [.ref (ad .cl), .int (xs (4 * n + 1)), .ref o3]) (rest := []) ⟨hx, hb, hml, hown, hts⟩ (ct_blanksIn l hst dC dI cy nb ad ks g hk u ((xs (4 * n + 1))) o3 f3 xk H.size hxk e2) (vx_cwSW 3 hts (gSH mw_1394 mw_1395 mw_562 mw_1396) rfl rfl rfl (by decide +kernel) ⟨Nat.le_of_ble_eq_true rfl, Nat.le_of_ble_eq_true rfl⟩) (my_preS hPc hK hDc hE hS hFc) rfl rfl hl.1 rfl (lv_room (Nat.le_of_ble_eq_true rfl)) dL_law_1555 ⟨by show _ ≤ 601024; omega, by show _ ≤ 7293034; omega⟩) hS (fun q _ h => hFc q h) hFc (fun q _ h => hFc q h) (fun E9 ce9 q9 u9 t9 H1 locs1 ht9 hvm9 hp9 _ _ _ _ _ _ _ => hp9.elim) (fun rw9 u9 t9 H1 locs ht hvm hw hB hz1 hk1 hS => ?_)
    obtain ⟨hP1, hD1⟩ := hB
    rw [ht] at hP1
    obtain ⟨hP, hD⟩ := va_joinP (X := XLW cy o3 o4 am f3 f4 r) (cx := [(o3, eL cy f3)]) (wr := ((o4, eD cy f4) :: WM cy am r)) (rx := [(o3, eL cy f3)]) (pl := WC cy ad ks g u) (pl1 := WC cy ad ks g u) hP hD [0] [1, 2, 3, 4, 5, 6, 7, 8, 9, 10, 11, 12] rfl rfl (by decide) (by decide) hk1 hFc hP1 hD1
    have hP : va_P (dC, dI) vwCl (XLW cy o3 o4 am f3 f4 r ++ WC cy ad ks g u) H1 := hP.part (X := ((o4, eD cy f4) :: WM cy am r) ++ [(o3, eL cy f3)]) (cx := XLW cy o3 o4 am f3 f4 r) [12, 0, 1, 2, 3, 4, 5, 6, 7, 8, 9, 10, 11] rfl
    have hD : va_D (fun q : Nat => s.heap.size ≤ q) (XLW cy o3 o4 am f3 f4 r ++ WC cy ad ks g u) := hD.part (X := ((o4, eD cy f4) :: WM cy am r) ++ [(o3, eL cy f3)]) (cx := XLW cy o3 o4 am f3 f4 r) [12, 0, 1, 2, 3, 4, 5, 6, 7, 8, 9, 10, 11] (by decide) rfl
    generalize H1 = H at hP hS ⊢
    clear hP1 hD1 hPc hDc hFc hk1 hz1 hvm ht
    refine lv_istore (lv' := [(6, .int rw9), (5, .int (nI (4 * n))), (4, .ref o4), (3, .ref o3), (2, .ref (am 0)), (1, .ref (ad .cl)), (0, .ref b)]) hx hb dL_law_1558 hl (by decide) rfl (fun ls hl => ?_)
    refine lv_aload_n hx hb dL_law_1560 rfl (lv_at hl 4 rfl) ?_
    refine lv_aload_n hx hb dL_law_1561 rfl (lv_at hl 6 rfl) ?_
    refine lv_iload hx hb dL_law_1562 (lv_at hl 1 rfl) ?_
    refine lv_iconst (v := 1) hx hb dL_law_1564 (by decide) ?_
    refine lv_iadd hx hb dL_law_1565 ?_
    refine my_topi (y := nI (4 * n + 1)) (nI_add (4 * n) 1) ?_
    refine va_sld hx hb hX hbl hbA hS (vp_in_nI (n := 4 * n + 1) (by omega) (by omega)) dL_law_1566 ?_
    refine my_topi (y := xs (4 * n + 1)) (congrArg xs (nI_clamp (by omega))) ?_
    have hPc := hP.sub (ws' := (WM cy am r)) [2, 3, 4, 5, 6, 7, 8, 9, 10, 11, 12] rfl
    have hDc := hD.sub (ws' := (WM cy am r)) [2, 3, 4, 5, 6, 7, 8, 9, 10, 11, 12] (by decide) rfl
    have hFc := va_free (wc := (WM cy am r)) hD hS hA [2, 3, 4, 5, 6, 7, 8, 9, 10, 11, 12] rfl
    refine va_calli (va_runV (As := [.int (xs (4 * n + 1))]) (rest := []) ⟨hx, hb, hml, hown, hts⟩ (k_X8_blanksIn l dC dI cy nb am r ((xs (4 * n + 1))) (nI 0) (th r k) H.size e1) (cwV 1 hts (gV mw_1401 mw_1402 mw_1403 mw_5 mw_1404) rfl rfl rfl (by decide +kernel) ⟨Nat.le_of_ble_eq_true rfl, Nat.le_of_ble_eq_true rfl⟩) (my_preV hPc hK hDc hE hS hFc (va_recv (q := (RX8, TX8, 23)) hK hP (ci := 8) (q0 := 2) rfl rfl)) rfl rfl hl.1 rfl (lv_room (Nat.le_of_ble_eq_true rfl)) dL_law_1567 ⟨by show _ ≤ 601024; omega, by show _ ≤ 7293034; omega⟩) hS (fun q _ h => hFc q h) hFc (fun rm9 u9 t9 H1 locs ht hvm hwm hB hz1 hk1 hS => ?_)
    obtain ⟨hP1, hD1⟩ := hB
    rw [ht] at hP1
    obtain ⟨hP, hD⟩ := va_joinQ (X := XLW cy o3 o4 am f3 f4 r) (cx := (WM cy am r)) (wr := [(o3, eL cy f3), (o4, eD cy f4)]) (w1 := (WM cy am (th r k))) (pl := WC cy ad ks g u) hP hD [2, 3, 4, 5, 6, 7, 8, 9, 10, 11, 12] [0, 1] rfl rfl (by decide) (by decide) hk1 hFc hP1 hD1
    have hP : va_P (dC, dI) vwCl (XLW cy o3 o4 am f3 f4 (th r k) ++ WC cy ad ks g u) H1 := hP
    have hD : va_D (fun q : Nat => s.heap.size ≤ q) (XLW cy o3 o4 am f3 f4 (th r k) ++ WC cy ad ks g u) := hD
    generalize H1 = H at hP hS ⊢
    clear hP1 hD1 hPc hDc hFc hk1 hz1 hvm ht
    refine my_topi hwm ?_
    refine lv_istore (lv' := [(7, .int (nI 0)), (6, .int rw9), (5, .int (nI (4 * n))), (4, .ref o4), (3, .ref o3), (2, .ref (am 0)), (1, .ref (ad .cl)), (0, .ref b)]) hx hb dL_law_1570 hl (by decide) rfl (fun ls hl => ?_)
    refine lv_goto (tgt := 1791) hx hb dL_law_1572 (by decide) ?_
    refine W.widen (k := cells + 603) (n := slots + 9640) (by omega) (by omega) ?_
    exact K H locs ls ⟨ad, ks, g, u, (th r k), f3, f4, hk, (hGI.thr).mono (by omega) (by omega) (by omega), hP, hD, hS, lv_sub hl [2, 3, 4, 5, 6, 7] rfl⟩
end
section
set_option maxHeartbeats 8000000 in
set_option maxRecDepth 100000 in
theorem law_c43 {p : Program} {e : Env} {s : State} {m : MethodId} {below : List Frame} {meth : Method} {c : Code} (l : Launch) (hst : l.stackTraces = false) {b L : Nat} {xs : Nat → Int32} (dC : Nat → ClassId) (dI : Nat → Nat → Nat) (cy : Nat → ClassId) (nb : Nat → Nat) (o3 o4 : Nat) (am : Nat → Nat) {n : Nat} (hn : n < 512) (hL : 4 * n + 4 ≤ L) (hL2 : L ≤ 2048) (C0 : LX p s m meth c b L xs dC dI cy nb) {Q : State → Prop} {H : Heap} {locs : List Loc} {ls : Array Slot} {cells slots : Nat} (hc : cells ≤ 400000) (hs : slots ≤ 6000000) (h : LSt s dC dI cy nb b o3 o4 am n (4 * n) H locs ls) (K : ∀ (H : Heap) (locs : List Loc) (ls : Array Slot), LSt s dC dI cy nb b o3 o4 am (n + 1) (4 * n) H locs ls → W p l e room_1 s m #[Value.ref b] below meth c H locs (cells + 603) (slots + 9640) Q (F0 m 1791 ls [])) : W p l e room_1 s m #[Value.ref b] below meth c H locs cells slots Q (F0 m 1575 ls []) := by
  obtain ⟨hx, hb, hr, hml, hown, hts, hX, hbl, hlocks, hK, hE⟩ := C0
  have hA : ∀ q : Nat, s.heap.size ≤ q → (fun q : Nat => s.heap.size ≤ q) q := fun _ h => h
  have hbA : ¬ (fun q : Nat => s.heap.size ≤ q) b := Nat.not_le.mpr hbl
  obtain ⟨ad, ks, g, u, r, f3, f4, hk, hGI, hP, hD, hS, hl⟩ := h
  have h9 : CT (F8_restIn r (xs (4 * n + 1))) (C7_restIn g u (xs (4 * n + 1))) r g 0 (2001 * n) (602 * n) := a_restIn hGI (by omega) (by omega)
  rcases h9 with ⟨x, r2, c2, e1, e2, e3, e6⟩ | ⟨k, k1, k2, e1, e2⟩
  · refine lv_aload_n hx hb dL_law_1575 rfl (lv_at hl 4 rfl) ?_
    refine lv_aload_n hx hb dL_law_1576 rfl (lv_at hl 5 rfl) ?_
    refine lv_iload hx hb dL_law_1577 (lv_at hl 0 rfl) ?_
    refine lv_iconst (v := 1) hx hb dL_law_1579 (by decide) ?_
    refine lv_iadd hx hb dL_law_1580 ?_
    refine my_topi (y := nI (4 * n + 1)) (nI_add (4 * n) 1) ?_
    refine va_sld hx hb hX hbl hbA hS (vp_in_nI (n := 4 * n + 1) (by omega) (by omega)) dL_law_1581 ?_
    refine my_topi (y := xs (4 * n + 1)) (congrArg xs (nI_clamp (by omega))) ?_
    refine lv_aload_n hx hb dL_law_1582 rfl (lv_at hl 2 rfl) ?_
    have hPc : va_P (dC, dI) vwCl ([(o3, eL cy f3)] ++ WC cy ad ks g u) H := hP.part (X := XLW cy o3 o4 am f3 f4 r) (cx := [(o3, eL cy f3)]) [0] rfl
    have hDc : va_D (fun q : Nat => s.heap.size ≤ q) ([(o3, eL cy f3)] ++ WC cy ad ks g u) := hD.part (X := XLW cy o3 o4 am f3 f4 r) (cx := [(o3, eL cy f3)]) [0] (by decide) rfl
    have hFc : ∀ q, va_A ([(o3, eL cy f3)] ++ WC cy ad ks g u) H.size q → s.heap.size ≤ q := va_freeP (X := XLW cy o3 o4 am f3 f4 r) (cx := [(o3, eL cy f3)]) hD hS hA [0] rfl
    refine vx_calli (vx_runSX (As := [.ref (ad .cl), .int (xs (4 * n + 1)), .ref o3]) (rest := []) ⟨hx, hb, hml, hown, hts⟩ (cn_restIn l hst dC dI cy nb ad ks g hk u ((xs (4 * n + 1))) o3 f3 x c2 H.size e2) (vx_cwSW 3 hts (gSH mw_1405 mw_1406 mw_562 mw_1407) rfl rfl rfl (by decide +kernel) ⟨Nat.le_of_ble_eq_true rfl, Nat.le_of_ble_eq_true rfl⟩) (my_preS hPc hK hDc hE hS hFc) rfl rfl hl.1 rfl (lv_room (Nat.le_of_ble_eq_true rfl)) dL_law_1583 ⟨by show _ ≤ 601024; omega, by show _ ≤ 7293034; omega⟩) hS (fun q _ h => hFc q h) hFc (fun q _ h => hFc q h) (fun E9 ce9 q9 u9 t9 H1 locs1 ht9 hvm9 hp9 _ _ _ _ _ _ _ => hp9.elim) (fun rw9 u9 t9 H1 locs ht hvm hw hB hz1 hk1 hS => ?_)
    obtain ⟨hP1, hD1⟩ := hB
    rw [ht] at hP1
    obtain ⟨hP, hD⟩ := va_joinP (X := XLW cy o3 o4 am f3 f4 r) (cx := [(o3, eL cy f3)]) (wr := ((o4, eD cy f4) :: WM cy am r)) (rx := [(o3, eL cy (vp_updL f3 ((0 : Int32).toNatClampNeg) (x.toInt64)))]) (pl := WC cy ad ks g u) (pl1 := WC cy ad ks g c2) hP hD [0] [1, 2, 3, 4, 5, 6, 7, 8, 9, 10, 11, 12] rfl rfl (by decide) (by decide) hk1 hFc hP1 hD1
    have hP : va_P (dC, dI) vwCl (XLW cy o3 o4 am (vp_updL f3 ((0 : Int32).toNatClampNeg) (x.toInt64)) f4 r ++ WC cy ad ks g c2) H1 := hP.part (X := ((o4, eD cy f4) :: WM cy am r) ++ [(o3, eL cy (vp_updL f3 ((0 : Int32).toNatClampNeg) (x.toInt64)))]) (cx := XLW cy o3 o4 am (vp_updL f3 ((0 : Int32).toNatClampNeg) (x.toInt64)) f4 r) [12, 0, 1, 2, 3, 4, 5, 6, 7, 8, 9, 10, 11] rfl
    have hD : va_D (fun q : Nat => s.heap.size ≤ q) (XLW cy o3 o4 am (vp_updL f3 ((0 : Int32).toNatClampNeg) (x.toInt64)) f4 r ++ WC cy ad ks g c2) := hD.part (X := ((o4, eD cy f4) :: WM cy am r) ++ [(o3, eL cy (vp_updL f3 ((0 : Int32).toNatClampNeg) (x.toInt64)))]) (cx := XLW cy o3 o4 am (vp_updL f3 ((0 : Int32).toNatClampNeg) (x.toInt64)) f4 r) [12, 0, 1, 2, 3, 4, 5, 6, 7, 8, 9, 10, 11] (by decide) rfl
    generalize H1 = H at hP hS ⊢
    clear hP1 hD1 hPc hDc hFc hk1 hz1 hvm ht
    refine lv_istore (lv' := [(6, .int rw9), (5, .int (nI (4 * n))), (4, .ref o4), (3, .ref o3), (2, .ref (am 0)), (1, .ref (ad .cl)), (0, .ref b)]) hx hb dL_law_1586 hl (by decide) rfl (fun ls hl => ?_)
    refine lv_aload_n hx hb dL_law_1588 rfl (lv_at hl 4 rfl) ?_
    refine lv_aload_n hx hb dL_law_1589 rfl (lv_at hl 6 rfl) ?_
    refine lv_iload hx hb dL_law_1590 (lv_at hl 1 rfl) ?_
    refine lv_iconst (v := 1) hx hb dL_law_1592 (by decide) ?_
    refine lv_iadd hx hb dL_law_1593 ?_
    refine my_topi (y := nI (4 * n + 1)) (nI_add (4 * n) 1) ?_
    refine va_sld hx hb hX hbl hbA hS (vp_in_nI (n := 4 * n + 1) (by omega) (by omega)) dL_law_1594 ?_
    refine my_topi (y := xs (4 * n + 1)) (congrArg xs (nI_clamp (by omega))) ?_
    have hPc := hP.sub (ws' := (WM cy am r)) [2, 3, 4, 5, 6, 7, 8, 9, 10, 11, 12] rfl
    have hDc := hD.sub (ws' := (WM cy am r)) [2, 3, 4, 5, 6, 7, 8, 9, 10, 11, 12] (by decide) rfl
    have hFc := va_free (wc := (WM cy am r)) hD hS hA [2, 3, 4, 5, 6, 7, 8, 9, 10, 11, 12] rfl
    refine va_calli (va_runV (As := [.int (xs (4 * n + 1))]) (rest := []) ⟨hx, hb, hml, hown, hts⟩ (k_X8_restIn l dC dI cy nb am r ((xs (4 * n + 1))) x (r2) H.size e1) (cwV 1 hts (gV mw_1413 mw_1414 mw_1415 mw_5 mw_1416) rfl rfl rfl (by decide +kernel) ⟨Nat.le_of_ble_eq_true rfl, Nat.le_of_ble_eq_true rfl⟩) (my_preV hPc hK hDc hE hS hFc (va_recv (q := (RX8, TX8, 23)) hK hP (ci := 8) (q0 := 2) rfl rfl)) rfl rfl hl.1 rfl (lv_room (Nat.le_of_ble_eq_true rfl)) dL_law_1595 ⟨by show _ ≤ 601024; omega, by show _ ≤ 7293034; omega⟩) hS (fun q _ h => hFc q h) hFc (fun rm9 u9 t9 H1 locs ht hvm hwm hB hz1 hk1 hS => ?_)
    obtain ⟨hP1, hD1⟩ := hB
    rw [ht] at hP1
    obtain ⟨hP, hD⟩ := va_joinQ (X := XLW cy o3 o4 am (vp_updL f3 ((0 : Int32).toNatClampNeg) (x.toInt64)) f4 r) (cx := (WM cy am r)) (wr := [(o3, eL cy (vp_updL f3 ((0 : Int32).toNatClampNeg) (x.toInt64))), (o4, eD cy f4)]) (w1 := (WM cy am (r2))) (pl := WC cy ad ks g c2) hP hD [2, 3, 4, 5, 6, 7, 8, 9, 10, 11, 12] [0, 1] rfl rfl (by decide) (by decide) hk1 hFc hP1 hD1
    have hP : va_P (dC, dI) vwCl (XLW cy o3 o4 am (vp_updL f3 ((0 : Int32).toNatClampNeg) (x.toInt64)) f4 r2 ++ WC cy ad ks g c2) H1 := hP
    have hD : va_D (fun q : Nat => s.heap.size ≤ q) (XLW cy o3 o4 am (vp_updL f3 ((0 : Int32).toNatClampNeg) (x.toInt64)) f4 r2 ++ WC cy ad ks g c2) := hD
    generalize H1 = H at hP hS ⊢
    clear hP1 hD1 hPc hDc hFc hk1 hz1 hvm ht
    refine my_topi hwm ?_
    refine lv_istore (lv' := [(7, .int x), (6, .int rw9), (5, .int (nI (4 * n))), (4, .ref o4), (3, .ref o3), (2, .ref (am 0)), (1, .ref (ad .cl)), (0, .ref b)]) hx hb dL_law_1598 hl (by decide) rfl (fun ls hl => ?_)
    refine lv_goto (tgt := 1791) hx hb dL_law_1600 (by decide) ?_
    refine W.widen (k := cells + 603) (n := slots + 9640) (by omega) (by omega) ?_
    exact K H locs ls ⟨ad, ks, g, c2, r2, (vp_updL f3 ((0 : Int32).toNatClampNeg) (x.toInt64)), f4, hk, e3.mono (by omega) (by omega) (by omega), hP, hD, hS, lv_sub hl [2, 3, 4, 5, 6, 7] rfl⟩
  · have e2 : C7_restIn g u (xs (4 * n + 1)) = some (.inl (nI (k + 0))) := e2
    generalize hxx : (nI (k + 0)) = xk at e2
    have hxk : xk = 1 := x1_restIn e2
    refine lv_aload_n hx hb dL_law_1575 rfl (lv_at hl 4 rfl) ?_
    refine lv_aload_n hx hb dL_law_1576 rfl (lv_at hl 5 rfl) ?_
    refine lv_iload hx hb dL_law_1577 (lv_at hl 0 rfl) ?_
    refine lv_iconst (v := 1) hx hb dL_law_1579 (by decide) ?_
    refine lv_iadd hx hb dL_law_1580 ?_
    refine my_topi (y := nI (4 * n + 1)) (nI_add (4 * n) 1) ?_
    refine va_sld hx hb hX hbl hbA hS (vp_in_nI (n := 4 * n + 1) (by omega) (by omega)) dL_law_1581 ?_
    refine my_topi (y := xs (4 * n + 1)) (congrArg xs (nI_clamp (by omega))) ?_
    refine lv_aload_n hx hb dL_law_1582 rfl (lv_at hl 2 rfl) ?_
    have hPc : va_P (dC, dI) vwCl ([(o3, eL cy f3)] ++ WC cy ad ks g u) H := hP.part (X := XLW cy o3 o4 am f3 f4 r) (cx := [(o3, eL cy f3)]) [0] rfl
    have hDc : va_D (fun q : Nat => s.heap.size ≤ q) ([(o3, eL cy f3)] ++ WC cy ad ks g u) := hD.part (X := XLW cy o3 o4 am f3 f4 r) (cx := [(o3, eL cy f3)]) [0] (by decide) rfl
    have hFc : ∀ q, va_A ([(o3, eL cy f3)] ++ WC cy ad ks g u) H.size q → s.heap.size ≤ q := va_freeP (X := XLW cy o3 o4 am f3 f4 r) (cx := [(o3, eL cy f3)]) hD hS hA [0] rfl
    refine vx_calli (vx_runSX (As := [.ref (ad .cl), .int (xs (4 * n + 1)), .ref o3]) (rest := []) ⟨hx, hb, hml, hown, hts⟩ (ct_restIn l hst dC dI cy nb ad ks g hk u ((xs (4 * n + 1))) o3 f3 xk H.size hxk e2) (vx_cwSW 3 hts (gSH mw_1405 mw_1406 mw_562 mw_1407) rfl rfl rfl (by decide +kernel) ⟨Nat.le_of_ble_eq_true rfl, Nat.le_of_ble_eq_true rfl⟩) (my_preS hPc hK hDc hE hS hFc) rfl rfl hl.1 rfl (lv_room (Nat.le_of_ble_eq_true rfl)) dL_law_1583 ⟨by show _ ≤ 601024; omega, by show _ ≤ 7293034; omega⟩) hS (fun q _ h => hFc q h) hFc (fun q _ h => hFc q h) (fun E9 ce9 q9 u9 t9 H1 locs1 ht9 hvm9 hp9 _ _ _ _ _ _ _ => hp9.elim) (fun rw9 u9 t9 H1 locs ht hvm hw hB hz1 hk1 hS => ?_)
    obtain ⟨hP1, hD1⟩ := hB
    rw [ht] at hP1
    obtain ⟨hP, hD⟩ := va_joinP (X := XLW cy o3 o4 am f3 f4 r) (cx := [(o3, eL cy f3)]) (wr := ((o4, eD cy f4) :: WM cy am r)) (rx := [(o3, eL cy f3)]) (pl := WC cy ad ks g u) (pl1 := WC cy ad ks g u) hP hD [0] [1, 2, 3, 4, 5, 6, 7, 8, 9, 10, 11, 12] rfl rfl (by decide) (by decide) hk1 hFc hP1 hD1
    have hP : va_P (dC, dI) vwCl (XLW cy o3 o4 am f3 f4 r ++ WC cy ad ks g u) H1 := hP.part (X := ((o4, eD cy f4) :: WM cy am r) ++ [(o3, eL cy f3)]) (cx := XLW cy o3 o4 am f3 f4 r) [12, 0, 1, 2, 3, 4, 5, 6, 7, 8, 9, 10, 11] rfl
    have hD : va_D (fun q : Nat => s.heap.size ≤ q) (XLW cy o3 o4 am f3 f4 r ++ WC cy ad ks g u) := hD.part (X := ((o4, eD cy f4) :: WM cy am r) ++ [(o3, eL cy f3)]) (cx := XLW cy o3 o4 am f3 f4 r) [12, 0, 1, 2, 3, 4, 5, 6, 7, 8, 9, 10, 11] (by decide) rfl
    generalize H1 = H at hP hS ⊢
    clear hP1 hD1 hPc hDc hFc hk1 hz1 hvm ht
    refine lv_istore (lv' := [(6, .int rw9), (5, .int (nI (4 * n))), (4, .ref o4), (3, .ref o3), (2, .ref (am 0)), (1, .ref (ad .cl)), (0, .ref b)]) hx hb dL_law_1586 hl (by decide) rfl (fun ls hl => ?_)
    refine lv_aload_n hx hb dL_law_1588 rfl (lv_at hl 4 rfl) ?_
    refine lv_aload_n hx hb dL_law_1589 rfl (lv_at hl 6 rfl) ?_
    refine lv_iload hx hb dL_law_1590 (lv_at hl 1 rfl) ?_
    refine lv_iconst (v := 1) hx hb dL_law_1592 (by decide) ?_
    refine lv_iadd hx hb dL_law_1593 ?_
    refine my_topi (y := nI (4 * n + 1)) (nI_add (4 * n) 1) ?_
    refine va_sld hx hb hX hbl hbA hS (vp_in_nI (n := 4 * n + 1) (by omega) (by omega)) dL_law_1594 ?_
    refine my_topi (y := xs (4 * n + 1)) (congrArg xs (nI_clamp (by omega))) ?_
    have hPc := hP.sub (ws' := (WM cy am r)) [2, 3, 4, 5, 6, 7, 8, 9, 10, 11, 12] rfl
    have hDc := hD.sub (ws' := (WM cy am r)) [2, 3, 4, 5, 6, 7, 8, 9, 10, 11, 12] (by decide) rfl
    have hFc := va_free (wc := (WM cy am r)) hD hS hA [2, 3, 4, 5, 6, 7, 8, 9, 10, 11, 12] rfl
    refine va_calli (va_runV (As := [.int (xs (4 * n + 1))]) (rest := []) ⟨hx, hb, hml, hown, hts⟩ (k_X8_restIn l dC dI cy nb am r ((xs (4 * n + 1))) (nI 0) (th r k) H.size e1) (cwV 1 hts (gV mw_1413 mw_1414 mw_1415 mw_5 mw_1416) rfl rfl rfl (by decide +kernel) ⟨Nat.le_of_ble_eq_true rfl, Nat.le_of_ble_eq_true rfl⟩) (my_preV hPc hK hDc hE hS hFc (va_recv (q := (RX8, TX8, 23)) hK hP (ci := 8) (q0 := 2) rfl rfl)) rfl rfl hl.1 rfl (lv_room (Nat.le_of_ble_eq_true rfl)) dL_law_1595 ⟨by show _ ≤ 601024; omega, by show _ ≤ 7293034; omega⟩) hS (fun q _ h => hFc q h) hFc (fun rm9 u9 t9 H1 locs ht hvm hwm hB hz1 hk1 hS => ?_)
    obtain ⟨hP1, hD1⟩ := hB
    rw [ht] at hP1
    obtain ⟨hP, hD⟩ := va_joinQ (X := XLW cy o3 o4 am f3 f4 r) (cx := (WM cy am r)) (wr := [(o3, eL cy f3), (o4, eD cy f4)]) (w1 := (WM cy am (th r k))) (pl := WC cy ad ks g u) hP hD [2, 3, 4, 5, 6, 7, 8, 9, 10, 11, 12] [0, 1] rfl rfl (by decide) (by decide) hk1 hFc hP1 hD1
    have hP : va_P (dC, dI) vwCl (XLW cy o3 o4 am f3 f4 (th r k) ++ WC cy ad ks g u) H1 := hP
    have hD : va_D (fun q : Nat => s.heap.size ≤ q) (XLW cy o3 o4 am f3 f4 (th r k) ++ WC cy ad ks g u) := hD
    generalize H1 = H at hP hS ⊢
    clear hP1 hD1 hPc hDc hFc hk1 hz1 hvm ht
    refine my_topi hwm ?_
    refine lv_istore (lv' := [(7, .int (nI 0)), (6, .int rw9), (5, .int (nI (4 * n))), (4, .ref o4), (3, .ref o3), (2, .ref (am 0)), (1, .ref (ad .cl)), (0, .ref b)]) hx hb dL_law_1598 hl (by decide) rfl (fun ls hl => ?_)
    refine lv_goto (tgt := 1791) hx hb dL_law_1600 (by decide) ?_
    refine W.widen (k := cells + 603) (n := slots + 9640) (by omega) (by omega) ?_
    exact K H locs ls ⟨ad, ks, g, u, (th r k), f3, f4, hk, (hGI.thr).mono (by omega) (by omega) (by omega), hP, hD, hS, lv_sub hl [2, 3, 4, 5, 6, 7] rfl⟩
set_option maxHeartbeats 8000000 in
set_option maxRecDepth 100000 in
theorem law_c44 {p : Program} {e : Env} {s : State} {m : MethodId} {below : List Frame} {meth : Method} {c : Code} (l : Launch) (hst : l.stackTraces = false) {b L : Nat} {xs : Nat → Int32} (dC : Nat → ClassId) (dI : Nat → Nat → Nat) (cy : Nat → ClassId) (nb : Nat → Nat) (o3 o4 : Nat) (am : Nat → Nat) {n : Nat} (hn : n < 512) (hL : 4 * n + 4 ≤ L) (hL2 : L ≤ 2048) (C0 : LX p s m meth c b L xs dC dI cy nb) {Q : State → Prop} {H : Heap} {locs : List Loc} {ls : Array Slot} {cells slots : Nat} (hc : cells ≤ 400000) (hs : slots ≤ 6000000) (h : LSt s dC dI cy nb b o3 o4 am n (4 * n) H locs ls) (K : ∀ (H : Heap) (locs : List Loc) (ls : Array Slot), LSt s dC dI cy nb b o3 o4 am (n + 1) (4 * n) H locs ls → W p l e room_1 s m #[Value.ref b] below meth c H locs (cells + 603) (slots + 9640) Q (F0 m 1791 ls [])) : W p l e room_1 s m #[Value.ref b] below meth c H locs cells slots Q (F0 m 1603 ls []) := by
  obtain ⟨hx, hb, hr, hml, hown, hts, hX, hbl, hlocks, hK, hE⟩ := C0
  have hA : ∀ q : Nat, s.heap.size ≤ q → (fun q : Nat => s.heap.size ≤ q) q := fun _ h => h
  have hbA : ¬ (fun q : Nat => s.heap.size ≤ q) b := Nat.not_le.mpr hbl
  obtain ⟨ad, ks, g, u, r, f3, f4, hk, hGI, hP, hD, hS, hl⟩ := h
  have h9 : BT (F8_lotBy r (xs (4 * n + 1))) (C7_lotBy g u (xs (4 * n + 1))) g (2001 * n) (602 * n) := a_lotBy hGI (by omega) (by omega)
  obtain ⟨x, r2, c2, e1, e2, e3, e6⟩ := h9
  refine lv_aload_n hx hb dL_law_1603 rfl (lv_at hl 4 rfl) ?_
  refine lv_aload_n hx hb dL_law_1604 rfl (lv_at hl 5 rfl) ?_
  refine lv_iload hx hb dL_law_1605 (lv_at hl 0 rfl) ?_
  refine lv_iconst (v := 1) hx hb dL_law_1607 (by decide) ?_
  refine lv_iadd hx hb dL_law_1608 ?_
  refine my_topi (y := nI (4 * n + 1)) (nI_add (4 * n) 1) ?_
  refine va_sld hx hb hX hbl hbA hS (vp_in_nI (n := 4 * n + 1) (by omega) (by omega)) dL_law_1609 ?_
  refine my_topi (y := xs (4 * n + 1)) (congrArg xs (nI_clamp (by omega))) ?_
  have hPc : va_P (dC, dI) vwCl (WC cy ad ks g u) H := hP.part (X := XLW cy o3 o4 am f3 f4 r) (cx := []) [] rfl
  have hDc : va_D (fun q : Nat => s.heap.size ≤ q) (WC cy ad ks g u) := hD.part (X := XLW cy o3 o4 am f3 f4 r) (cx := []) [] (by decide) rfl
  have hFc : ∀ q, va_A (WC cy ad ks g u) H.size q → s.heap.size ≤ q := va_freeP (X := XLW cy o3 o4 am f3 f4 r) (cx := []) hD hS hA [] rfl
  obtain ⟨q8, h8⟩ := wc_at (cy := cy) (ad := ad) (ks := ks) (g := g) (u := u) (κ := .cl) hk.1 True.intro
  refine va_calli (va_runV (As := [.int (xs (4 * n + 1))]) (rest := []) ⟨hx, hb, hml, hown, hts⟩ (c_X7_lotBy l dC dI cy nb ad ks g hk u ((xs (4 * n + 1))) x c2 H.size e2) (cwV 1 hts (gV mw_1417 mw_1418 mw_1419 mw_2 mw_1420) rfl rfl rfl (by decide +kernel) ⟨Nat.le_of_ble_eq_true rfl, Nat.le_of_ble_eq_true rfl⟩) (my_preV hPc hK hDc hE hS hFc (va_recv (q := (RX7, TX7, 12)) hK hPc (ci := 7) (q0 := q8) rfl h8)) rfl rfl hl.1 rfl (lv_room (Nat.le_of_ble_eq_true rfl)) dL_law_1610 ⟨by show _ ≤ 601024; omega, by show _ ≤ 7293034; omega⟩) hS (fun q _ h => hFc q h) hFc (fun rw9 u9 t9 H1 locs ht hvm hw hB hz1 hk1 hS => ?_)
  clear h8
  obtain ⟨hP1, hD1⟩ := hB
  rw [ht] at hP1
  obtain ⟨hP, hD⟩ := va_joinP (X := XLW cy o3 o4 am f3 f4 r) (cx := []) (wr := XLW cy o3 o4 am f3 f4 r) (rx := []) (pl := WC cy ad ks g u) (pl1 := WC cy ad ks g c2) hP hD [] [0, 1, 2, 3, 4, 5, 6, 7, 8, 9, 10, 11, 12] rfl rfl (by decide) (by decide) hk1 hFc hP1 hD1
  have hP : va_P (dC, dI) vwCl (XLW cy o3 o4 am f3 f4 r ++ WC cy ad ks g c2) H1 := hP
  have hD : va_D (fun q : Nat => s.heap.size ≤ q) (XLW cy o3 o4 am f3 f4 r ++ WC cy ad ks g c2) := hD
  generalize H1 = H at hP hS ⊢
  clear hP1 hD1 hPc hDc hFc hk1 hz1 hvm ht
  refine my_topi hw ?_
  refine lv_aload_n hx hb dL_law_1613 rfl (lv_at hl 3 rfl) ?_
  refine lv_aload_n hx hb dL_law_1614 rfl (lv_at hl 5 rfl) ?_
  refine lv_iload hx hb dL_law_1615 (lv_at hl 0 rfl) ?_
  refine lv_iconst (v := 1) hx hb dL_law_1617 (by decide) ?_
  refine lv_iadd hx hb dL_law_1618 ?_
  refine my_topi (y := nI (4 * n + 1)) (nI_add (4 * n) 1) ?_
  refine va_sld hx hb hX hbl hbA hS (vp_in_nI (n := 4 * n + 1) (by omega) (by omega)) dL_law_1619 ?_
  refine my_topi (y := xs (4 * n + 1)) (congrArg xs (nI_clamp (by omega))) ?_
  have hPc := hP.sub (ws' := (WM cy am r)) [2, 3, 4, 5, 6, 7, 8, 9, 10, 11, 12] rfl
  have hDc := hD.sub (ws' := (WM cy am r)) [2, 3, 4, 5, 6, 7, 8, 9, 10, 11, 12] (by decide) rfl
  have hFc := va_free (wc := (WM cy am r)) hD hS hA [2, 3, 4, 5, 6, 7, 8, 9, 10, 11, 12] rfl
  refine va_calli (va_runV (As := [.int (xs (4 * n + 1))]) (rest := [.int x]) ⟨hx, hb, hml, hown, hts⟩ (k_X8_lotBy l dC dI cy nb am r ((xs (4 * n + 1))) x (r2) H.size e1) (cwV 1 hts (gV mw_1425 mw_1426 mw_1427 mw_5 mw_1428) rfl rfl rfl (by decide +kernel) ⟨Nat.le_of_ble_eq_true rfl, Nat.le_of_ble_eq_true rfl⟩) (my_preV hPc hK hDc hE hS hFc (va_recv (q := (RX8, TX8, 23)) hK hP (ci := 8) (q0 := 2) rfl rfl)) rfl rfl hl.1 rfl (lv_room (Nat.le_of_ble_eq_true rfl)) dL_law_1620 ⟨by show _ ≤ 601024; omega, by show _ ≤ 7293034; omega⟩) hS (fun q _ h => hFc q h) hFc (fun rm9 u9 t9 H1 locs ht hvm hwm hB hz1 hk1 hS => ?_)
  obtain ⟨hP1, hD1⟩ := hB
  rw [ht] at hP1
  obtain ⟨hP, hD⟩ := va_joinQ (X := XLW cy o3 o4 am f3 f4 r) (cx := (WM cy am r)) (wr := [(o3, eL cy f3), (o4, eD cy f4)]) (w1 := (WM cy am (r2))) (pl := WC cy ad ks g c2) hP hD [2, 3, 4, 5, 6, 7, 8, 9, 10, 11, 12] [0, 1] rfl rfl (by decide) (by decide) hk1 hFc hP1 hD1
  have hP : va_P (dC, dI) vwCl (XLW cy o3 o4 am f3 f4 r2 ++ WC cy ad ks g c2) H1 := hP
  have hD : va_D (fun q : Nat => s.heap.size ≤ q) (XLW cy o3 o4 am f3 f4 r2 ++ WC cy ad ks g c2) := hD
  generalize H1 = H at hP hS ⊢
  clear hP1 hD1 hPc hDc hFc hk1 hz1 hvm ht
  refine my_topi hwm ?_
  refine lv_icmp_eq (tgt := 1791) hx hb dL_law_1623 (by decide) (fun _ => ?_) (fun h9 => absurd rfl h9)
  refine W.widen (k := cells + 603) (n := slots + 9640) (by omega) (by omega) ?_
  exact K H locs ls ⟨ad, ks, g, c2, r2, f3, f4, hk, e3.mono (by omega) (by omega) (by omega), hP, hD, hS, lv_sub hl [0, 1, 2, 3, 4, 5] rfl⟩
set_option maxHeartbeats 8000000 in
set_option maxRecDepth 100000 in
theorem law_c45 {p : Program} {e : Env} {s : State} {m : MethodId} {below : List Frame} {meth : Method} {c : Code} (l : Launch) (hst : l.stackTraces = false) {b L : Nat} {xs : Nat → Int32} (dC : Nat → ClassId) (dI : Nat → Nat → Nat) (cy : Nat → ClassId) (nb : Nat → Nat) (o3 o4 : Nat) (am : Nat → Nat) {n : Nat} (hn : n < 512) (hL : 4 * n + 4 ≤ L) (hL2 : L ≤ 2048) (C0 : LX p s m meth c b L xs dC dI cy nb) {Q : State → Prop} {H : Heap} {locs : List Loc} {ls : Array Slot} {cells slots : Nat} (hc : cells ≤ 400000) (hs : slots ≤ 6000000) (h : LSt s dC dI cy nb b o3 o4 am n (4 * n) H locs ls) (K : ∀ (H : Heap) (locs : List Loc) (ls : Array Slot), LSt s dC dI cy nb b o3 o4 am (n + 1) (4 * n) H locs ls → W p l e room_1 s m #[Value.ref b] below meth c H locs (cells + 603) (slots + 9640) Q (F0 m 1791 ls [])) : W p l e room_1 s m #[Value.ref b] below meth c H locs cells slots Q (F0 m 1628 ls []) := by
  obtain ⟨hx, hb, hr, hml, hown, hts, hX, hbl, hlocks, hK, hE⟩ := C0
  have hA : ∀ q : Nat, s.heap.size ≤ q → (fun q : Nat => s.heap.size ≤ q) q := fun _ h => h
  have hbA : ¬ (fun q : Nat => s.heap.size ≤ q) b := Nat.not_le.mpr hbl
  obtain ⟨ad, ks, g, u, r, f3, f4, hk, hGI, hP, hD, hS, hl⟩ := h
  have h9 : CT (F8_bestRank r (xs (4 * n + 1))) (C7_bestRank g u (xs (4 * n + 1))) r g 0 (2001 * n) (602 * n) := a_bestRank hGI (by omega) (by omega)
  rcases h9 with ⟨x, r2, c2, e1, e2, e3, e6⟩ | ⟨k, k1, k2, e1, e2⟩
  · refine lv_aload_n hx hb dL_law_1628 rfl (lv_at hl 4 rfl) ?_
    refine lv_aload_n hx hb dL_law_1629 rfl (lv_at hl 5 rfl) ?_
    refine lv_iload hx hb dL_law_1630 (lv_at hl 0 rfl) ?_
    refine lv_iconst (v := 1) hx hb dL_law_1632 (by decide) ?_
    refine lv_iadd hx hb dL_law_1633 ?_
    refine my_topi (y := nI (4 * n + 1)) (nI_add (4 * n) 1) ?_
    refine va_sld hx hb hX hbl hbA hS (vp_in_nI (n := 4 * n + 1) (by omega) (by omega)) dL_law_1634 ?_
    refine my_topi (y := xs (4 * n + 1)) (congrArg xs (nI_clamp (by omega))) ?_
    refine lv_aload_n hx hb dL_law_1635 rfl (lv_at hl 2 rfl) ?_
    have hPc : va_P (dC, dI) vwCl ([(o3, eL cy f3)] ++ WC cy ad ks g u) H := hP.part (X := XLW cy o3 o4 am f3 f4 r) (cx := [(o3, eL cy f3)]) [0] rfl
    have hDc : va_D (fun q : Nat => s.heap.size ≤ q) ([(o3, eL cy f3)] ++ WC cy ad ks g u) := hD.part (X := XLW cy o3 o4 am f3 f4 r) (cx := [(o3, eL cy f3)]) [0] (by decide) rfl
    have hFc : ∀ q, va_A ([(o3, eL cy f3)] ++ WC cy ad ks g u) H.size q → s.heap.size ≤ q := va_freeP (X := XLW cy o3 o4 am f3 f4 r) (cx := [(o3, eL cy f3)]) hD hS hA [0] rfl
    refine vx_calli (vx_runSX (As := [.ref (ad .cl), .int (xs (4 * n + 1)), .ref o3]) (rest := []) ⟨hx, hb, hml, hown, hts⟩ (cn_bestRank l hst dC dI cy nb ad ks g hk u ((xs (4 * n + 1))) o3 f3 x c2 H.size e2) (vx_cwSW 3 hts (gSH mw_1429 mw_1430 mw_562 mw_1431) rfl rfl rfl (by decide +kernel) ⟨Nat.le_of_ble_eq_true rfl, Nat.le_of_ble_eq_true rfl⟩) (my_preS hPc hK hDc hE hS hFc) rfl rfl hl.1 rfl (lv_room (Nat.le_of_ble_eq_true rfl)) dL_law_1636 ⟨by show _ ≤ 601024; omega, by show _ ≤ 7293034; omega⟩) hS (fun q _ h => hFc q h) hFc (fun q _ h => hFc q h) (fun E9 ce9 q9 u9 t9 H1 locs1 ht9 hvm9 hp9 _ _ _ _ _ _ _ => hp9.elim) (fun rw9 u9 t9 H1 locs ht hvm hw hB hz1 hk1 hS => ?_)
    obtain ⟨hP1, hD1⟩ := hB
    rw [ht] at hP1
    obtain ⟨hP, hD⟩ := va_joinP (X := XLW cy o3 o4 am f3 f4 r) (cx := [(o3, eL cy f3)]) (wr := ((o4, eD cy f4) :: WM cy am r)) (rx := [(o3, eL cy (vp_updL f3 ((0 : Int32).toNatClampNeg) (x.toInt64)))]) (pl := WC cy ad ks g u) (pl1 := WC cy ad ks g c2) hP hD [0] [1, 2, 3, 4, 5, 6, 7, 8, 9, 10, 11, 12] rfl rfl (by decide) (by decide) hk1 hFc hP1 hD1
    have hP : va_P (dC, dI) vwCl (XLW cy o3 o4 am (vp_updL f3 ((0 : Int32).toNatClampNeg) (x.toInt64)) f4 r ++ WC cy ad ks g c2) H1 := hP.part (X := ((o4, eD cy f4) :: WM cy am r) ++ [(o3, eL cy (vp_updL f3 ((0 : Int32).toNatClampNeg) (x.toInt64)))]) (cx := XLW cy o3 o4 am (vp_updL f3 ((0 : Int32).toNatClampNeg) (x.toInt64)) f4 r) [12, 0, 1, 2, 3, 4, 5, 6, 7, 8, 9, 10, 11] rfl
    have hD : va_D (fun q : Nat => s.heap.size ≤ q) (XLW cy o3 o4 am (vp_updL f3 ((0 : Int32).toNatClampNeg) (x.toInt64)) f4 r ++ WC cy ad ks g c2) := hD.part (X := ((o4, eD cy f4) :: WM cy am r) ++ [(o3, eL cy (vp_updL f3 ((0 : Int32).toNatClampNeg) (x.toInt64)))]) (cx := XLW cy o3 o4 am (vp_updL f3 ((0 : Int32).toNatClampNeg) (x.toInt64)) f4 r) [12, 0, 1, 2, 3, 4, 5, 6, 7, 8, 9, 10, 11] (by decide) rfl
    generalize H1 = H at hP hS ⊢
    clear hP1 hD1 hPc hDc hFc hk1 hz1 hvm ht
    refine lv_istore (lv' := [(6, .int rw9), (5, .int (nI (4 * n))), (4, .ref o4), (3, .ref o3), (2, .ref (am 0)), (1, .ref (ad .cl)), (0, .ref b)]) hx hb dL_law_1639 hl (by decide) rfl (fun ls hl => ?_)
    refine lv_aload_n hx hb dL_law_1641 rfl (lv_at hl 4 rfl) ?_
    refine lv_aload_n hx hb dL_law_1642 rfl (lv_at hl 6 rfl) ?_
    refine lv_iload hx hb dL_law_1643 (lv_at hl 1 rfl) ?_
    refine lv_iconst (v := 1) hx hb dL_law_1645 (by decide) ?_
    refine lv_iadd hx hb dL_law_1646 ?_
    refine my_topi (y := nI (4 * n + 1)) (nI_add (4 * n) 1) ?_
    refine va_sld hx hb hX hbl hbA hS (vp_in_nI (n := 4 * n + 1) (by omega) (by omega)) dL_law_1647 ?_
    refine my_topi (y := xs (4 * n + 1)) (congrArg xs (nI_clamp (by omega))) ?_
    have hPc := hP.sub (ws' := (WM cy am r)) [2, 3, 4, 5, 6, 7, 8, 9, 10, 11, 12] rfl
    have hDc := hD.sub (ws' := (WM cy am r)) [2, 3, 4, 5, 6, 7, 8, 9, 10, 11, 12] (by decide) rfl
    have hFc := va_free (wc := (WM cy am r)) hD hS hA [2, 3, 4, 5, 6, 7, 8, 9, 10, 11, 12] rfl
    refine va_calli (va_runV (As := [.int (xs (4 * n + 1))]) (rest := []) ⟨hx, hb, hml, hown, hts⟩ (k_X8_bestRank l dC dI cy nb am r ((xs (4 * n + 1))) x (r2) H.size e1) (cwV 1 hts (gV mw_1436 mw_1437 mw_1438 mw_5 mw_1439) rfl rfl rfl (by decide +kernel) ⟨Nat.le_of_ble_eq_true rfl, Nat.le_of_ble_eq_true rfl⟩) (my_preV hPc hK hDc hE hS hFc (va_recv (q := (RX8, TX8, 23)) hK hP (ci := 8) (q0 := 2) rfl rfl)) rfl rfl hl.1 rfl (lv_room (Nat.le_of_ble_eq_true rfl)) dL_law_1648 ⟨by show _ ≤ 601024; omega, by show _ ≤ 7293034; omega⟩) hS (fun q _ h => hFc q h) hFc (fun rm9 u9 t9 H1 locs ht hvm hwm hB hz1 hk1 hS => ?_)
    obtain ⟨hP1, hD1⟩ := hB
    rw [ht] at hP1
    obtain ⟨hP, hD⟩ := va_joinQ (X := XLW cy o3 o4 am (vp_updL f3 ((0 : Int32).toNatClampNeg) (x.toInt64)) f4 r) (cx := (WM cy am r)) (wr := [(o3, eL cy (vp_updL f3 ((0 : Int32).toNatClampNeg) (x.toInt64))), (o4, eD cy f4)]) (w1 := (WM cy am (r2))) (pl := WC cy ad ks g c2) hP hD [2, 3, 4, 5, 6, 7, 8, 9, 10, 11, 12] [0, 1] rfl rfl (by decide) (by decide) hk1 hFc hP1 hD1
    have hP : va_P (dC, dI) vwCl (XLW cy o3 o4 am (vp_updL f3 ((0 : Int32).toNatClampNeg) (x.toInt64)) f4 r2 ++ WC cy ad ks g c2) H1 := hP
    have hD : va_D (fun q : Nat => s.heap.size ≤ q) (XLW cy o3 o4 am (vp_updL f3 ((0 : Int32).toNatClampNeg) (x.toInt64)) f4 r2 ++ WC cy ad ks g c2) := hD
    generalize H1 = H at hP hS ⊢
    clear hP1 hD1 hPc hDc hFc hk1 hz1 hvm ht
    refine my_topi hwm ?_
    refine lv_istore (lv' := [(7, .int x), (6, .int rw9), (5, .int (nI (4 * n))), (4, .ref o4), (3, .ref o3), (2, .ref (am 0)), (1, .ref (ad .cl)), (0, .ref b)]) hx hb dL_law_1651 hl (by decide) rfl (fun ls hl => ?_)
    refine lv_goto (tgt := 1791) hx hb dL_law_1653 (by decide) ?_
    refine W.widen (k := cells + 603) (n := slots + 9640) (by omega) (by omega) ?_
    exact K H locs ls ⟨ad, ks, g, c2, r2, (vp_updL f3 ((0 : Int32).toNatClampNeg) (x.toInt64)), f4, hk, e3.mono (by omega) (by omega) (by omega), hP, hD, hS, lv_sub hl [2, 3, 4, 5, 6, 7] rfl⟩
  · have e2 : C7_bestRank g u (xs (4 * n + 1)) = some (.inl (nI (k + 0))) := e2
    generalize hxx : (nI (k + 0)) = xk at e2
    have hxk : xk = 1 := x1_bestRank e2
    refine lv_aload_n hx hb dL_law_1628 rfl (lv_at hl 4 rfl) ?_
    refine lv_aload_n hx hb dL_law_1629 rfl (lv_at hl 5 rfl) ?_
    refine lv_iload hx hb dL_law_1630 (lv_at hl 0 rfl) ?_
    refine lv_iconst (v := 1) hx hb dL_law_1632 (by decide) ?_
    refine lv_iadd hx hb dL_law_1633 ?_
    refine my_topi (y := nI (4 * n + 1)) (nI_add (4 * n) 1) ?_
    refine va_sld hx hb hX hbl hbA hS (vp_in_nI (n := 4 * n + 1) (by omega) (by omega)) dL_law_1634 ?_
    refine my_topi (y := xs (4 * n + 1)) (congrArg xs (nI_clamp (by omega))) ?_
    refine lv_aload_n hx hb dL_law_1635 rfl (lv_at hl 2 rfl) ?_
    have hPc : va_P (dC, dI) vwCl ([(o3, eL cy f3)] ++ WC cy ad ks g u) H := hP.part (X := XLW cy o3 o4 am f3 f4 r) (cx := [(o3, eL cy f3)]) [0] rfl
    have hDc : va_D (fun q : Nat => s.heap.size ≤ q) ([(o3, eL cy f3)] ++ WC cy ad ks g u) := hD.part (X := XLW cy o3 o4 am f3 f4 r) (cx := [(o3, eL cy f3)]) [0] (by decide) rfl
    have hFc : ∀ q, va_A ([(o3, eL cy f3)] ++ WC cy ad ks g u) H.size q → s.heap.size ≤ q := va_freeP (X := XLW cy o3 o4 am f3 f4 r) (cx := [(o3, eL cy f3)]) hD hS hA [0] rfl
    refine vx_calli (vx_runSX (As := [.ref (ad .cl), .int (xs (4 * n + 1)), .ref o3]) (rest := []) ⟨hx, hb, hml, hown, hts⟩ (ct_bestRank l hst dC dI cy nb ad ks g hk u ((xs (4 * n + 1))) o3 f3 xk H.size hxk e2) (vx_cwSW 3 hts (gSH mw_1429 mw_1430 mw_562 mw_1431) rfl rfl rfl (by decide +kernel) ⟨Nat.le_of_ble_eq_true rfl, Nat.le_of_ble_eq_true rfl⟩) (my_preS hPc hK hDc hE hS hFc) rfl rfl hl.1 rfl (lv_room (Nat.le_of_ble_eq_true rfl)) dL_law_1636 ⟨by show _ ≤ 601024; omega, by show _ ≤ 7293034; omega⟩) hS (fun q _ h => hFc q h) hFc (fun q _ h => hFc q h) (fun E9 ce9 q9 u9 t9 H1 locs1 ht9 hvm9 hp9 _ _ _ _ _ _ _ => hp9.elim) (fun rw9 u9 t9 H1 locs ht hvm hw hB hz1 hk1 hS => ?_)
    obtain ⟨hP1, hD1⟩ := hB
    rw [ht] at hP1
    obtain ⟨hP, hD⟩ := va_joinP (X := XLW cy o3 o4 am f3 f4 r) (cx := [(o3, eL cy f3)]) (wr := ((o4, eD cy f4) :: WM cy am r)) (rx := [(o3, eL cy f3)]) (pl := WC cy ad ks g u) (pl1 := WC cy ad ks g u) hP hD [0] [1, 2, 3, 4, 5, 6, 7, 8, 9, 10, 11, 12] rfl rfl (by decide) (by decide) hk1 hFc hP1 hD1
    have hP : va_P (dC, dI) vwCl (XLW cy o3 o4 am f3 f4 r ++ WC cy ad ks g u) H1 := hP.part (X := ((o4, eD cy f4) :: WM cy am r) ++ [(o3, eL cy f3)]) (cx := XLW cy o3 o4 am f3 f4 r) [12, 0, 1, 2, 3, 4, 5, 6, 7, 8, 9, 10, 11] rfl
    have hD : va_D (fun q : Nat => s.heap.size ≤ q) (XLW cy o3 o4 am f3 f4 r ++ WC cy ad ks g u) := hD.part (X := ((o4, eD cy f4) :: WM cy am r) ++ [(o3, eL cy f3)]) (cx := XLW cy o3 o4 am f3 f4 r) [12, 0, 1, 2, 3, 4, 5, 6, 7, 8, 9, 10, 11] (by decide) rfl
    generalize H1 = H at hP hS ⊢
    clear hP1 hD1 hPc hDc hFc hk1 hz1 hvm ht
    refine lv_istore (lv' := [(6, .int rw9), (5, .int (nI (4 * n))), (4, .ref o4), (3, .ref o3), (2, .ref (am 0)), (1, .ref (ad .cl)), (0, .ref b)]) hx hb dL_law_1639 hl (by decide) rfl (fun ls hl => ?_)
    refine lv_aload_n hx hb dL_law_1641 rfl (lv_at hl 4 rfl) ?_
    refine lv_aload_n hx hb dL_law_1642 rfl (lv_at hl 6 rfl) ?_
    refine lv_iload hx hb dL_law_1643 (lv_at hl 1 rfl) ?_
    refine lv_iconst (v := 1) hx hb dL_law_1645 (by decide) ?_
    refine lv_iadd hx hb dL_law_1646 ?_
    refine my_topi (y := nI (4 * n + 1)) (nI_add (4 * n) 1) ?_
    refine va_sld hx hb hX hbl hbA hS (vp_in_nI (n := 4 * n + 1) (by omega) (by omega)) dL_law_1647 ?_
    refine my_topi (y := xs (4 * n + 1)) (congrArg xs (nI_clamp (by omega))) ?_
    have hPc := hP.sub (ws' := (WM cy am r)) [2, 3, 4, 5, 6, 7, 8, 9, 10, 11, 12] rfl
    have hDc := hD.sub (ws' := (WM cy am r)) [2, 3, 4, 5, 6, 7, 8, 9, 10, 11, 12] (by decide) rfl
    have hFc := va_free (wc := (WM cy am r)) hD hS hA [2, 3, 4, 5, 6, 7, 8, 9, 10, 11, 12] rfl
    refine va_calli (va_runV (As := [.int (xs (4 * n + 1))]) (rest := []) ⟨hx, hb, hml, hown, hts⟩ (k_X8_bestRank l dC dI cy nb am r ((xs (4 * n + 1))) (nI 0) (th r k) H.size e1) (cwV 1 hts (gV mw_1436 mw_1437 mw_1438 mw_5 mw_1439) rfl rfl rfl (by decide +kernel) ⟨Nat.le_of_ble_eq_true rfl, Nat.le_of_ble_eq_true rfl⟩) (my_preV hPc hK hDc hE hS hFc (va_recv (q := (RX8, TX8, 23)) hK hP (ci := 8) (q0 := 2) rfl rfl)) rfl rfl hl.1 rfl (lv_room (Nat.le_of_ble_eq_true rfl)) dL_law_1648 ⟨by show _ ≤ 601024; omega, by show _ ≤ 7293034; omega⟩) hS (fun q _ h => hFc q h) hFc (fun rm9 u9 t9 H1 locs ht hvm hwm hB hz1 hk1 hS => ?_)
    obtain ⟨hP1, hD1⟩ := hB
    rw [ht] at hP1
    obtain ⟨hP, hD⟩ := va_joinQ (X := XLW cy o3 o4 am f3 f4 r) (cx := (WM cy am r)) (wr := [(o3, eL cy f3), (o4, eD cy f4)]) (w1 := (WM cy am (th r k))) (pl := WC cy ad ks g u) hP hD [2, 3, 4, 5, 6, 7, 8, 9, 10, 11, 12] [0, 1] rfl rfl (by decide) (by decide) hk1 hFc hP1 hD1
    have hP : va_P (dC, dI) vwCl (XLW cy o3 o4 am f3 f4 (th r k) ++ WC cy ad ks g u) H1 := hP
    have hD : va_D (fun q : Nat => s.heap.size ≤ q) (XLW cy o3 o4 am f3 f4 (th r k) ++ WC cy ad ks g u) := hD
    generalize H1 = H at hP hS ⊢
    clear hP1 hD1 hPc hDc hFc hk1 hz1 hvm ht
    refine my_topi hwm ?_
    refine lv_istore (lv' := [(7, .int (nI 0)), (6, .int rw9), (5, .int (nI (4 * n))), (4, .ref o4), (3, .ref o3), (2, .ref (am 0)), (1, .ref (ad .cl)), (0, .ref b)]) hx hb dL_law_1651 hl (by decide) rfl (fun ls hl => ?_)
    refine lv_goto (tgt := 1791) hx hb dL_law_1653 (by decide) ?_
    refine W.widen (k := cells + 603) (n := slots + 9640) (by omega) (by omega) ?_
    exact K H locs ls ⟨ad, ks, g, u, (th r k), f3, f4, hk, (hGI.thr).mono (by omega) (by omega) (by omega), hP, hD, hS, lv_sub hl [2, 3, 4, 5, 6, 7] rfl⟩
set_option maxHeartbeats 8000000 in
set_option maxRecDepth 100000 in
theorem law_c46 {p : Program} {e : Env} {s : State} {m : MethodId} {below : List Frame} {meth : Method} {c : Code} (l : Launch) (hst : l.stackTraces = false) {b L : Nat} {xs : Nat → Int32} (dC : Nat → ClassId) (dI : Nat → Nat → Nat) (cy : Nat → ClassId) (nb : Nat → Nat) (o3 o4 : Nat) (am : Nat → Nat) {n : Nat} (hn : n < 512) (hL : 4 * n + 4 ≤ L) (hL2 : L ≤ 2048) (C0 : LX p s m meth c b L xs dC dI cy nb) {Q : State → Prop} {H : Heap} {locs : List Loc} {ls : Array Slot} {cells slots : Nat} (hc : cells ≤ 400000) (hs : slots ≤ 6000000) (h : LSt s dC dI cy nb b o3 o4 am n (4 * n) H locs ls) (K : ∀ (H : Heap) (locs : List Loc) (ls : Array Slot), LSt s dC dI cy nb b o3 o4 am (n + 1) (4 * n) H locs ls → W p l e room_1 s m #[Value.ref b] below meth c H locs (cells + 603) (slots + 9640) Q (F0 m 1791 ls [])) : W p l e room_1 s m #[Value.ref b] below meth c H locs cells slots Q (F0 m 1656 ls []) := by
  obtain ⟨hx, hb, hr, hml, hown, hts, hX, hbl, hlocks, hK, hE⟩ := C0
  have hA : ∀ q : Nat, s.heap.size ≤ q → (fun q : Nat => s.heap.size ≤ q) q := fun _ h => h
  have hbA : ¬ (fun q : Nat => s.heap.size ≤ q) b := Nat.not_le.mpr hbl
  obtain ⟨ad, ks, g, u, r, f3, f4, hk, hGI, hP, hD, hS, hl⟩ := h
  have h9 : BT (F8_bestTray r) (C7_bestTray g u) g (2001 * n) (602 * n) := a_bestTray hGI (by omega) (by omega)
  obtain ⟨x, r2, c2, e1, e2, e3, e6⟩ := h9
  refine lv_aload_n hx hb dL_law_1656 rfl (lv_at hl 4 rfl) ?_
  have hPc : va_P (dC, dI) vwCl (WC cy ad ks g u) H := hP.part (X := XLW cy o3 o4 am f3 f4 r) (cx := []) [] rfl
  have hDc : va_D (fun q : Nat => s.heap.size ≤ q) (WC cy ad ks g u) := hD.part (X := XLW cy o3 o4 am f3 f4 r) (cx := []) [] (by decide) rfl
  have hFc : ∀ q, va_A (WC cy ad ks g u) H.size q → s.heap.size ≤ q := va_freeP (X := XLW cy o3 o4 am f3 f4 r) (cx := []) hD hS hA [] rfl
  obtain ⟨q8, h8⟩ := wc_at (cy := cy) (ad := ad) (ks := ks) (g := g) (u := u) (κ := .cl) hk.1 True.intro
  refine va_calli (va_runV (As := []) (rest := []) ⟨hx, hb, hml, hown, hts⟩ (c_X7_bestTray l dC dI cy nb ad ks g hk u  x c2 H.size e2) (cwV 0 hts (gV mw_1444 mw_1445 mw_1446 mw_2 mw_1447) rfl rfl rfl (by decide +kernel) ⟨Nat.le_of_ble_eq_true rfl, Nat.le_of_ble_eq_true rfl⟩) (my_preV hPc hK hDc hE hS hFc (va_recv (q := (RX7, TX7, 12)) hK hPc (ci := 7) (q0 := q8) rfl h8)) rfl rfl hl.1 rfl (lv_room (Nat.le_of_ble_eq_true rfl)) dL_law_1657 ⟨by show _ ≤ 601024; omega, by show _ ≤ 7293034; omega⟩) hS (fun q _ h => hFc q h) hFc (fun rw9 u9 t9 H1 locs ht hvm hw hB hz1 hk1 hS => ?_)
  clear h8
  obtain ⟨hP1, hD1⟩ := hB
  rw [ht] at hP1
  obtain ⟨hP, hD⟩ := va_joinP (X := XLW cy o3 o4 am f3 f4 r) (cx := []) (wr := XLW cy o3 o4 am f3 f4 r) (rx := []) (pl := WC cy ad ks g u) (pl1 := WC cy ad ks g c2) hP hD [] [0, 1, 2, 3, 4, 5, 6, 7, 8, 9, 10, 11, 12] rfl rfl (by decide) (by decide) hk1 hFc hP1 hD1
  have hP : va_P (dC, dI) vwCl (XLW cy o3 o4 am f3 f4 r ++ WC cy ad ks g c2) H1 := hP
  have hD : va_D (fun q : Nat => s.heap.size ≤ q) (XLW cy o3 o4 am f3 f4 r ++ WC cy ad ks g c2) := hD
  generalize H1 = H at hP hS ⊢
  clear hP1 hD1 hPc hDc hFc hk1 hz1 hvm ht
  refine my_topi hw ?_
  refine lv_pop hx hb dL_law_1660 rfl ?_
  refine lv_aload_n hx hb dL_law_1661 rfl (lv_at hl 3 rfl) ?_
  have hPc := hP.sub (ws' := (WM cy am r)) [2, 3, 4, 5, 6, 7, 8, 9, 10, 11, 12] rfl
  have hDc := hD.sub (ws' := (WM cy am r)) [2, 3, 4, 5, 6, 7, 8, 9, 10, 11, 12] (by decide) rfl
  have hFc := va_free (wc := (WM cy am r)) hD hS hA [2, 3, 4, 5, 6, 7, 8, 9, 10, 11, 12] rfl
  refine va_calli (va_runV (As := []) (rest := []) ⟨hx, hb, hml, hown, hts⟩ (k_X8_bestTray l dC dI cy nb am r  x (r2) H.size e1) (cwV 0 hts (gV mw_1448 mw_1449 mw_1450 mw_5 mw_1451) rfl rfl rfl (by decide +kernel) ⟨Nat.le_of_ble_eq_true rfl, Nat.le_of_ble_eq_true rfl⟩) (my_preV hPc hK hDc hE hS hFc (va_recv (q := (RX8, TX8, 23)) hK hP (ci := 8) (q0 := 2) rfl rfl)) rfl rfl hl.1 rfl (lv_room (Nat.le_of_ble_eq_true rfl)) dL_law_1662 ⟨by show _ ≤ 601024; omega, by show _ ≤ 7293034; omega⟩) hS (fun q _ h => hFc q h) hFc (fun rm9 u9 t9 H1 locs ht hvm hwm hB hz1 hk1 hS => ?_)
  obtain ⟨hP1, hD1⟩ := hB
  rw [ht] at hP1
  obtain ⟨hP, hD⟩ := va_joinQ (X := XLW cy o3 o4 am f3 f4 r) (cx := (WM cy am r)) (wr := [(o3, eL cy f3), (o4, eD cy f4)]) (w1 := (WM cy am (r2))) (pl := WC cy ad ks g c2) hP hD [2, 3, 4, 5, 6, 7, 8, 9, 10, 11, 12] [0, 1] rfl rfl (by decide) (by decide) hk1 hFc hP1 hD1
  have hP : va_P (dC, dI) vwCl (XLW cy o3 o4 am f3 f4 r2 ++ WC cy ad ks g c2) H1 := hP
  have hD : va_D (fun q : Nat => s.heap.size ≤ q) (XLW cy o3 o4 am f3 f4 r2 ++ WC cy ad ks g c2) := hD
  generalize H1 = H at hP hS ⊢
  clear hP1 hD1 hPc hDc hFc hk1 hz1 hvm ht
  refine my_topi hwm ?_
  refine lv_pop hx hb dL_law_1665 rfl ?_
  refine lv_goto (tgt := 1791) hx hb dL_law_1666 (by decide) ?_
  refine W.widen (k := cells + 603) (n := slots + 9640) (by omega) (by omega) ?_
  exact K H locs ls ⟨ad, ks, g, c2, r2, f3, f4, hk, e3.mono (by omega) (by omega) (by omega), hP, hD, hS, lv_sub hl [0, 1, 2, 3, 4, 5] rfl⟩
set_option maxHeartbeats 8000000 in
set_option maxRecDepth 100000 in
theorem law_c47 {p : Program} {e : Env} {s : State} {m : MethodId} {below : List Frame} {meth : Method} {c : Code} (l : Launch) (hst : l.stackTraces = false) {b L : Nat} {xs : Nat → Int32} (dC : Nat → ClassId) (dI : Nat → Nat → Nat) (cy : Nat → ClassId) (nb : Nat → Nat) (o3 o4 : Nat) (am : Nat → Nat) {n : Nat} (hn : n < 512) (hL : 4 * n + 4 ≤ L) (hL2 : L ≤ 2048) (C0 : LX p s m meth c b L xs dC dI cy nb) {Q : State → Prop} {H : Heap} {locs : List Loc} {ls : Array Slot} {cells slots : Nat} (hc : cells ≤ 400000) (hs : slots ≤ 6000000) (h : LSt s dC dI cy nb b o3 o4 am n (4 * n) H locs ls) (K : ∀ (H : Heap) (locs : List Loc) (ls : Array Slot), LSt s dC dI cy nb b o3 o4 am (n + 1) (4 * n) H locs ls → W p l e room_1 s m #[Value.ref b] below meth c H locs (cells + 603) (slots + 9640) Q (F0 m 1791 ls [])) : W p l e room_1 s m #[Value.ref b] below meth c H locs cells slots Q (F0 m 1669 ls []) := by
  obtain ⟨hx, hb, hr, hml, hown, hts, hX, hbl, hlocks, hK, hE⟩ := C0
  have hA : ∀ q : Nat, s.heap.size ≤ q → (fun q : Nat => s.heap.size ≤ q) q := fun _ h => h
  have hbA : ¬ (fun q : Nat => s.heap.size ≤ q) b := Nat.not_le.mpr hbl
  obtain ⟨ad, ks, g, u, r, f3, f4, hk, hGI, hP, hD, hS, hl⟩ := h
  have h9 : CT (F8_writeCard r (xs (4 * n + 1))) (C7_writeCard g u (xs (4 * n + 1))) r g 0 (2001 * n) (602 * n) := a_writeCard hGI (by omega)
  rcases h9 with ⟨x, r2, c2, e1, e2, e3, e6⟩ | ⟨k, k1, k2, e1, e2⟩
  · refine lv_aload_n hx hb dL_law_1669 rfl (lv_at hl 4 rfl) ?_
    refine lv_aload_n hx hb dL_law_1670 rfl (lv_at hl 5 rfl) ?_
    refine lv_iload hx hb dL_law_1671 (lv_at hl 0 rfl) ?_
    refine lv_iconst (v := 1) hx hb dL_law_1673 (by decide) ?_
    refine lv_iadd hx hb dL_law_1674 ?_
    refine my_topi (y := nI (4 * n + 1)) (nI_add (4 * n) 1) ?_
    refine va_sld hx hb hX hbl hbA hS (vp_in_nI (n := 4 * n + 1) (by omega) (by omega)) dL_law_1675 ?_
    refine my_topi (y := xs (4 * n + 1)) (congrArg xs (nI_clamp (by omega))) ?_
    refine lv_aload_n hx hb dL_law_1676 rfl (lv_at hl 2 rfl) ?_
    have hPc : va_P (dC, dI) vwCl ([(o3, eL cy f3)] ++ WC cy ad ks g u) H := hP.part (X := XLW cy o3 o4 am f3 f4 r) (cx := [(o3, eL cy f3)]) [0] rfl
    have hDc : va_D (fun q : Nat => s.heap.size ≤ q) ([(o3, eL cy f3)] ++ WC cy ad ks g u) := hD.part (X := XLW cy o3 o4 am f3 f4 r) (cx := [(o3, eL cy f3)]) [0] (by decide) rfl
    have hFc : ∀ q, va_A ([(o3, eL cy f3)] ++ WC cy ad ks g u) H.size q → s.heap.size ≤ q := va_freeP (X := XLW cy o3 o4 am f3 f4 r) (cx := [(o3, eL cy f3)]) hD hS hA [0] rfl
    refine vx_calli (vx_runSX (As := [.ref (ad .cl), .int (xs (4 * n + 1)), .ref o3]) (rest := []) ⟨hx, hb, hml, hown, hts⟩ (cn_writeCard l hst dC dI cy nb ad ks g hk u ((xs (4 * n + 1))) o3 f3 x c2 H.size e2) (vx_cwSW 3 hts (gSH mw_1452 mw_1453 mw_562 mw_1454) rfl rfl rfl (by decide +kernel) ⟨Nat.le_of_ble_eq_true rfl, Nat.le_of_ble_eq_true rfl⟩) (my_preS hPc hK hDc hE hS hFc) rfl rfl hl.1 rfl (lv_room (Nat.le_of_ble_eq_true rfl)) dL_law_1677 ⟨by show _ ≤ 601024; omega, by show _ ≤ 7293034; omega⟩) hS (fun q _ h => hFc q h) hFc (fun q _ h => hFc q h) (fun E9 ce9 q9 u9 t9 H1 locs1 ht9 hvm9 hp9 _ _ _ _ _ _ _ => hp9.elim) (fun rw9 u9 t9 H1 locs ht hvm hw hB hz1 hk1 hS => ?_)
    obtain ⟨hP1, hD1⟩ := hB
    rw [ht] at hP1
    obtain ⟨hP, hD⟩ := va_joinP (X := XLW cy o3 o4 am f3 f4 r) (cx := [(o3, eL cy f3)]) (wr := ((o4, eD cy f4) :: WM cy am r)) (rx := [(o3, eL cy (vp_updL f3 ((0 : Int32).toNatClampNeg) (x.toInt64)))]) (pl := WC cy ad ks g u) (pl1 := WC cy ad ks g c2) hP hD [0] [1, 2, 3, 4, 5, 6, 7, 8, 9, 10, 11, 12] rfl rfl (by decide) (by decide) hk1 hFc hP1 hD1
    have hP : va_P (dC, dI) vwCl (XLW cy o3 o4 am (vp_updL f3 ((0 : Int32).toNatClampNeg) (x.toInt64)) f4 r ++ WC cy ad ks g c2) H1 := hP.part (X := ((o4, eD cy f4) :: WM cy am r) ++ [(o3, eL cy (vp_updL f3 ((0 : Int32).toNatClampNeg) (x.toInt64)))]) (cx := XLW cy o3 o4 am (vp_updL f3 ((0 : Int32).toNatClampNeg) (x.toInt64)) f4 r) [12, 0, 1, 2, 3, 4, 5, 6, 7, 8, 9, 10, 11] rfl
    have hD : va_D (fun q : Nat => s.heap.size ≤ q) (XLW cy o3 o4 am (vp_updL f3 ((0 : Int32).toNatClampNeg) (x.toInt64)) f4 r ++ WC cy ad ks g c2) := hD.part (X := ((o4, eD cy f4) :: WM cy am r) ++ [(o3, eL cy (vp_updL f3 ((0 : Int32).toNatClampNeg) (x.toInt64)))]) (cx := XLW cy o3 o4 am (vp_updL f3 ((0 : Int32).toNatClampNeg) (x.toInt64)) f4 r) [12, 0, 1, 2, 3, 4, 5, 6, 7, 8, 9, 10, 11] (by decide) rfl
    generalize H1 = H at hP hS ⊢
    clear hP1 hD1 hPc hDc hFc hk1 hz1 hvm ht
    refine lv_istore (lv' := [(6, .int rw9), (5, .int (nI (4 * n))), (4, .ref o4), (3, .ref o3), (2, .ref (am 0)), (1, .ref (ad .cl)), (0, .ref b)]) hx hb dL_law_1680 hl (by decide) rfl (fun ls hl => ?_)
    refine lv_aload_n hx hb dL_law_1682 rfl (lv_at hl 4 rfl) ?_
    refine lv_aload_n hx hb dL_law_1683 rfl (lv_at hl 6 rfl) ?_
    refine lv_iload hx hb dL_law_1684 (lv_at hl 1 rfl) ?_
    refine lv_iconst (v := 1) hx hb dL_law_1686 (by decide) ?_
    refine lv_iadd hx hb dL_law_1687 ?_
    refine my_topi (y := nI (4 * n + 1)) (nI_add (4 * n) 1) ?_
    refine va_sld hx hb hX hbl hbA hS (vp_in_nI (n := 4 * n + 1) (by omega) (by omega)) dL_law_1688 ?_
    refine my_topi (y := xs (4 * n + 1)) (congrArg xs (nI_clamp (by omega))) ?_
    have hPc := hP.sub (ws' := (WM cy am r)) [2, 3, 4, 5, 6, 7, 8, 9, 10, 11, 12] rfl
    have hDc := hD.sub (ws' := (WM cy am r)) [2, 3, 4, 5, 6, 7, 8, 9, 10, 11, 12] (by decide) rfl
    have hFc := va_free (wc := (WM cy am r)) hD hS hA [2, 3, 4, 5, 6, 7, 8, 9, 10, 11, 12] rfl
    refine va_calli (va_runV (As := [.int (xs (4 * n + 1))]) (rest := []) ⟨hx, hb, hml, hown, hts⟩ (k_X8_writeCard l dC dI cy nb am r ((xs (4 * n + 1))) x (r2) H.size e1) (cwV 1 hts (gV mw_1460 mw_1461 mw_1462 mw_5 mw_1463) rfl rfl rfl (by decide +kernel) ⟨Nat.le_of_ble_eq_true rfl, Nat.le_of_ble_eq_true rfl⟩) (my_preV hPc hK hDc hE hS hFc (va_recv (q := (RX8, TX8, 23)) hK hP (ci := 8) (q0 := 2) rfl rfl)) rfl rfl hl.1 rfl (lv_room (Nat.le_of_ble_eq_true rfl)) dL_law_1689 ⟨by show _ ≤ 601024; omega, by show _ ≤ 7293034; omega⟩) hS (fun q _ h => hFc q h) hFc (fun rm9 u9 t9 H1 locs ht hvm hwm hB hz1 hk1 hS => ?_)
    obtain ⟨hP1, hD1⟩ := hB
    rw [ht] at hP1
    obtain ⟨hP, hD⟩ := va_joinQ (X := XLW cy o3 o4 am (vp_updL f3 ((0 : Int32).toNatClampNeg) (x.toInt64)) f4 r) (cx := (WM cy am r)) (wr := [(o3, eL cy (vp_updL f3 ((0 : Int32).toNatClampNeg) (x.toInt64))), (o4, eD cy f4)]) (w1 := (WM cy am (r2))) (pl := WC cy ad ks g c2) hP hD [2, 3, 4, 5, 6, 7, 8, 9, 10, 11, 12] [0, 1] rfl rfl (by decide) (by decide) hk1 hFc hP1 hD1
    have hP : va_P (dC, dI) vwCl (XLW cy o3 o4 am (vp_updL f3 ((0 : Int32).toNatClampNeg) (x.toInt64)) f4 r2 ++ WC cy ad ks g c2) H1 := hP
    have hD : va_D (fun q : Nat => s.heap.size ≤ q) (XLW cy o3 o4 am (vp_updL f3 ((0 : Int32).toNatClampNeg) (x.toInt64)) f4 r2 ++ WC cy ad ks g c2) := hD
    generalize H1 = H at hP hS ⊢
    clear hP1 hD1 hPc hDc hFc hk1 hz1 hvm ht
    refine my_topi hwm ?_
    refine lv_istore (lv' := [(7, .int x), (6, .int rw9), (5, .int (nI (4 * n))), (4, .ref o4), (3, .ref o3), (2, .ref (am 0)), (1, .ref (ad .cl)), (0, .ref b)]) hx hb dL_law_1692 hl (by decide) rfl (fun ls hl => ?_)
    refine lv_goto (tgt := 1791) hx hb dL_law_1694 (by decide) ?_
    refine W.widen (k := cells + 603) (n := slots + 9640) (by omega) (by omega) ?_
    exact K H locs ls ⟨ad, ks, g, c2, r2, (vp_updL f3 ((0 : Int32).toNatClampNeg) (x.toInt64)), f4, hk, e3.mono (by omega) (by omega) (by omega), hP, hD, hS, lv_sub hl [2, 3, 4, 5, 6, 7] rfl⟩
  · have e2 : C7_writeCard g u (xs (4 * n + 1)) = some (.inl (nI (k + 0))) := e2
    generalize hxx : (nI (k + 0)) = xk at e2
    have hxk : xk = 1 := x1_writeCard e2
    refine lv_aload_n hx hb dL_law_1669 rfl (lv_at hl 4 rfl) ?_
    refine lv_aload_n hx hb dL_law_1670 rfl (lv_at hl 5 rfl) ?_
    refine lv_iload hx hb dL_law_1671 (lv_at hl 0 rfl) ?_
    refine lv_iconst (v := 1) hx hb dL_law_1673 (by decide) ?_
    refine lv_iadd hx hb dL_law_1674 ?_
    refine my_topi (y := nI (4 * n + 1)) (nI_add (4 * n) 1) ?_
    refine va_sld hx hb hX hbl hbA hS (vp_in_nI (n := 4 * n + 1) (by omega) (by omega)) dL_law_1675 ?_
    refine my_topi (y := xs (4 * n + 1)) (congrArg xs (nI_clamp (by omega))) ?_
    refine lv_aload_n hx hb dL_law_1676 rfl (lv_at hl 2 rfl) ?_
    have hPc : va_P (dC, dI) vwCl ([(o3, eL cy f3)] ++ WC cy ad ks g u) H := hP.part (X := XLW cy o3 o4 am f3 f4 r) (cx := [(o3, eL cy f3)]) [0] rfl
    have hDc : va_D (fun q : Nat => s.heap.size ≤ q) ([(o3, eL cy f3)] ++ WC cy ad ks g u) := hD.part (X := XLW cy o3 o4 am f3 f4 r) (cx := [(o3, eL cy f3)]) [0] (by decide) rfl
    have hFc : ∀ q, va_A ([(o3, eL cy f3)] ++ WC cy ad ks g u) H.size q → s.heap.size ≤ q := va_freeP (X := XLW cy o3 o4 am f3 f4 r) (cx := [(o3, eL cy f3)]) hD hS hA [0] rfl
    refine vx_calli (vx_runSX (As := [.ref (ad .cl), .int (xs (4 * n + 1)), .ref o3]) (rest := []) ⟨hx, hb, hml, hown, hts⟩ (ct_writeCard l hst dC dI cy nb ad ks g hk u ((xs (4 * n + 1))) o3 f3 xk H.size hxk e2) (vx_cwSW 3 hts (gSH mw_1452 mw_1453 mw_562 mw_1454) rfl rfl rfl (by decide +kernel) ⟨Nat.le_of_ble_eq_true rfl, Nat.le_of_ble_eq_true rfl⟩) (my_preS hPc hK hDc hE hS hFc) rfl rfl hl.1 rfl (lv_room (Nat.le_of_ble_eq_true rfl)) dL_law_1677 ⟨by show _ ≤ 601024; omega, by show _ ≤ 7293034; omega⟩) hS (fun q _ h => hFc q h) hFc (fun q _ h => hFc q h) (fun E9 ce9 q9 u9 t9 H1 locs1 ht9 hvm9 hp9 _ _ _ _ _ _ _ => hp9.elim) (fun rw9 u9 t9 H1 locs ht hvm hw hB hz1 hk1 hS => ?_)
    obtain ⟨hP1, hD1⟩ := hB
    rw [ht] at hP1
    obtain ⟨hP, hD⟩ := va_joinP (X := XLW cy o3 o4 am f3 f4 r) (cx := [(o3, eL cy f3)]) (wr := ((o4, eD cy f4) :: WM cy am r)) (rx := [(o3, eL cy f3)]) (pl := WC cy ad ks g u) (pl1 := WC cy ad ks g u) hP hD [0] [1, 2, 3, 4, 5, 6, 7, 8, 9, 10, 11, 12] rfl rfl (by decide) (by decide) hk1 hFc hP1 hD1
    have hP : va_P (dC, dI) vwCl (XLW cy o3 o4 am f3 f4 r ++ WC cy ad ks g u) H1 := hP.part (X := ((o4, eD cy f4) :: WM cy am r) ++ [(o3, eL cy f3)]) (cx := XLW cy o3 o4 am f3 f4 r) [12, 0, 1, 2, 3, 4, 5, 6, 7, 8, 9, 10, 11] rfl
    have hD : va_D (fun q : Nat => s.heap.size ≤ q) (XLW cy o3 o4 am f3 f4 r ++ WC cy ad ks g u) := hD.part (X := ((o4, eD cy f4) :: WM cy am r) ++ [(o3, eL cy f3)]) (cx := XLW cy o3 o4 am f3 f4 r) [12, 0, 1, 2, 3, 4, 5, 6, 7, 8, 9, 10, 11] (by decide) rfl
    generalize H1 = H at hP hS ⊢
    clear hP1 hD1 hPc hDc hFc hk1 hz1 hvm ht
    refine lv_istore (lv' := [(6, .int rw9), (5, .int (nI (4 * n))), (4, .ref o4), (3, .ref o3), (2, .ref (am 0)), (1, .ref (ad .cl)), (0, .ref b)]) hx hb dL_law_1680 hl (by decide) rfl (fun ls hl => ?_)
    refine lv_aload_n hx hb dL_law_1682 rfl (lv_at hl 4 rfl) ?_
    refine lv_aload_n hx hb dL_law_1683 rfl (lv_at hl 6 rfl) ?_
    refine lv_iload hx hb dL_law_1684 (lv_at hl 1 rfl) ?_
    refine lv_iconst (v := 1) hx hb dL_law_1686 (by decide) ?_
    refine lv_iadd hx hb dL_law_1687 ?_
    refine my_topi (y := nI (4 * n + 1)) (nI_add (4 * n) 1) ?_
    refine va_sld hx hb hX hbl hbA hS (vp_in_nI (n := 4 * n + 1) (by omega) (by omega)) dL_law_1688 ?_
    refine my_topi (y := xs (4 * n + 1)) (congrArg xs (nI_clamp (by omega))) ?_
    have hPc := hP.sub (ws' := (WM cy am r)) [2, 3, 4, 5, 6, 7, 8, 9, 10, 11, 12] rfl
    have hDc := hD.sub (ws' := (WM cy am r)) [2, 3, 4, 5, 6, 7, 8, 9, 10, 11, 12] (by decide) rfl
    have hFc := va_free (wc := (WM cy am r)) hD hS hA [2, 3, 4, 5, 6, 7, 8, 9, 10, 11, 12] rfl
    refine va_calli (va_runV (As := [.int (xs (4 * n + 1))]) (rest := []) ⟨hx, hb, hml, hown, hts⟩ (k_X8_writeCard l dC dI cy nb am r ((xs (4 * n + 1))) (nI 0) (th r k) H.size e1) (cwV 1 hts (gV mw_1460 mw_1461 mw_1462 mw_5 mw_1463) rfl rfl rfl (by decide +kernel) ⟨Nat.le_of_ble_eq_true rfl, Nat.le_of_ble_eq_true rfl⟩) (my_preV hPc hK hDc hE hS hFc (va_recv (q := (RX8, TX8, 23)) hK hP (ci := 8) (q0 := 2) rfl rfl)) rfl rfl hl.1 rfl (lv_room (Nat.le_of_ble_eq_true rfl)) dL_law_1689 ⟨by show _ ≤ 601024; omega, by show _ ≤ 7293034; omega⟩) hS (fun q _ h => hFc q h) hFc (fun rm9 u9 t9 H1 locs ht hvm hwm hB hz1 hk1 hS => ?_)
    obtain ⟨hP1, hD1⟩ := hB
    rw [ht] at hP1
    obtain ⟨hP, hD⟩ := va_joinQ (X := XLW cy o3 o4 am f3 f4 r) (cx := (WM cy am r)) (wr := [(o3, eL cy f3), (o4, eD cy f4)]) (w1 := (WM cy am (th r k))) (pl := WC cy ad ks g u) hP hD [2, 3, 4, 5, 6, 7, 8, 9, 10, 11, 12] [0, 1] rfl rfl (by decide) (by decide) hk1 hFc hP1 hD1
    have hP : va_P (dC, dI) vwCl (XLW cy o3 o4 am f3 f4 (th r k) ++ WC cy ad ks g u) H1 := hP
    have hD : va_D (fun q : Nat => s.heap.size ≤ q) (XLW cy o3 o4 am f3 f4 (th r k) ++ WC cy ad ks g u) := hD
    generalize H1 = H at hP hS ⊢
    clear hP1 hD1 hPc hDc hFc hk1 hz1 hvm ht
    refine my_topi hwm ?_
    refine lv_istore (lv' := [(7, .int (nI 0)), (6, .int rw9), (5, .int (nI (4 * n))), (4, .ref o4), (3, .ref o3), (2, .ref (am 0)), (1, .ref (ad .cl)), (0, .ref b)]) hx hb dL_law_1692 hl (by decide) rfl (fun ls hl => ?_)
    refine lv_goto (tgt := 1791) hx hb dL_law_1694 (by decide) ?_
    refine W.widen (k := cells + 603) (n := slots + 9640) (by omega) (by omega) ?_
    exact K H locs ls ⟨ad, ks, g, u, (th r k), f3, f4, hk, (hGI.thr).mono (by omega) (by omega) (by omega), hP, hD, hS, lv_sub hl [2, 3, 4, 5, 6, 7] rfl⟩
set_option maxHeartbeats 8000000 in
set_option maxRecDepth 100000 in
theorem law_c48 {p : Program} {e : Env} {s : State} {m : MethodId} {below : List Frame} {meth : Method} {c : Code} (l : Launch) (hst : l.stackTraces = false) {b L : Nat} {xs : Nat → Int32} (dC : Nat → ClassId) (dI : Nat → Nat → Nat) (cy : Nat → ClassId) (nb : Nat → Nat) (o3 o4 : Nat) (am : Nat → Nat) {n : Nat} (hn : n < 512) (hL : 4 * n + 4 ≤ L) (hL2 : L ≤ 2048) (C0 : LX p s m meth c b L xs dC dI cy nb) {Q : State → Prop} {H : Heap} {locs : List Loc} {ls : Array Slot} {cells slots : Nat} (hc : cells ≤ 400000) (hs : slots ≤ 6000000) (h : LSt s dC dI cy nb b o3 o4 am n (4 * n) H locs ls) (K : ∀ (H : Heap) (locs : List Loc) (ls : Array Slot), LSt s dC dI cy nb b o3 o4 am (n + 1) (4 * n) H locs ls → W p l e room_1 s m #[Value.ref b] below meth c H locs (cells + 603) (slots + 9640) Q (F0 m 1791 ls [])) : W p l e room_1 s m #[Value.ref b] below meth c H locs cells slots Q (F0 m 1697 ls []) := by
  obtain ⟨hx, hb, hr, hml, hown, hts, hX, hbl, hlocks, hK, hE⟩ := C0
  have hA : ∀ q : Nat, s.heap.size ≤ q → (fun q : Nat => s.heap.size ≤ q) q := fun _ h => h
  have hbA : ¬ (fun q : Nat => s.heap.size ≤ q) b := Nat.not_le.mpr hbl
  obtain ⟨ad, ks, g, u, r, f3, f4, hk, hGI, hP, hD, hS, hl⟩ := h
  obtain ⟨x, y, e1, e2⟩ := q_outputByte (a := (xs (4 * n + 1))) hGI
  refine lv_aload_n hx hb dL_law_1697 rfl (lv_at hl 4 rfl) ?_
  refine lv_aload_n hx hb dL_law_1698 rfl (lv_at hl 5 rfl) ?_
  refine lv_iload hx hb dL_law_1699 (lv_at hl 0 rfl) ?_
  refine lv_iconst (v := 1) hx hb dL_law_1701 (by decide) ?_
  refine lv_iadd hx hb dL_law_1702 ?_
  refine my_topi (y := nI (4 * n + 1)) (nI_add (4 * n) 1) ?_
  refine va_sld hx hb hX hbl hbA hS (vp_in_nI (n := 4 * n + 1) (by omega) (by omega)) dL_law_1703 ?_
  refine my_topi (y := xs (4 * n + 1)) (congrArg xs (nI_clamp (by omega))) ?_
  have hPc : va_P (dC, dI) vwCl (WC cy ad ks g u) H := hP.part (X := XLW cy o3 o4 am f3 f4 r) (cx := []) [] rfl
  have hDc : va_D (fun q : Nat => s.heap.size ≤ q) (WC cy ad ks g u) := hD.part (X := XLW cy o3 o4 am f3 f4 r) (cx := []) [] (by decide) rfl
  have hFc : ∀ q, va_A (WC cy ad ks g u) H.size q → s.heap.size ≤ q := va_freeP (X := XLW cy o3 o4 am f3 f4 r) (cx := []) hD hS hA [] rfl
  obtain ⟨q8, h8⟩ := wc_at (cy := cy) (ad := ad) (ks := ks) (g := g) (u := u) (κ := .cl) hk.1 True.intro
  refine va_calli (va_runV (As := [.int (xs (4 * n + 1))]) (rest := []) ⟨hx, hb, hml, hown, hts⟩ (c_X7_outputByte l dC dI cy nb ad ks g hk u ((xs (4 * n + 1))) y H.size e2) (cwV 1 hts (gV mw_1465 mw_1466 mw_1467 mw_2 mw_1468) rfl rfl rfl (by decide +kernel) ⟨Nat.le_of_ble_eq_true rfl, Nat.le_of_ble_eq_true rfl⟩) (my_preV hPc hK hDc hE hS hFc (va_recv (q := (RX7, TX7, 12)) hK hPc (ci := 7) (q0 := q8) rfl h8)) rfl rfl hl.1 rfl (lv_room (Nat.le_of_ble_eq_true rfl)) dL_law_1704 ⟨by show _ ≤ 601024; omega, by show _ ≤ 7293034; omega⟩) hS (fun q _ h => hFc q h) hFc (fun rw9 u9 t9 H1 locs ht hvm hw hB hz1 hk1 hS => ?_)
  clear h8
  obtain ⟨hP1, hD1⟩ := hB
  rw [ht] at hP1
  obtain ⟨hP, hD⟩ := va_joinP (X := XLW cy o3 o4 am f3 f4 r) (cx := []) (wr := XLW cy o3 o4 am f3 f4 r) (rx := []) (pl := WC cy ad ks g u) (pl1 := WC cy ad ks g u) hP hD [] [0, 1, 2, 3, 4, 5, 6, 7, 8, 9, 10, 11, 12] rfl rfl (by decide) (by decide) hk1 hFc hP1 hD1
  have hP : va_P (dC, dI) vwCl (XLW cy o3 o4 am f3 f4 r ++ WC cy ad ks g u) H1 := hP
  have hD : va_D (fun q : Nat => s.heap.size ≤ q) (XLW cy o3 o4 am f3 f4 r ++ WC cy ad ks g u) := hD
  generalize H1 = H at hP hS ⊢
  clear hP1 hD1 hPc hDc hFc hk1 hz1 hvm ht
  refine my_topi hw ?_
  refine lv_pop hx hb dL_law_1707 rfl ?_
  refine lv_aload_n hx hb dL_law_1708 rfl (lv_at hl 3 rfl) ?_
  refine lv_aload_n hx hb dL_law_1709 rfl (lv_at hl 5 rfl) ?_
  refine lv_iload hx hb dL_law_1710 (lv_at hl 0 rfl) ?_
  refine lv_iconst (v := 1) hx hb dL_law_1712 (by decide) ?_
  refine lv_iadd hx hb dL_law_1713 ?_
  refine my_topi (y := nI (4 * n + 1)) (nI_add (4 * n) 1) ?_
  refine va_sld hx hb hX hbl hbA hS (vp_in_nI (n := 4 * n + 1) (by omega) (by omega)) dL_law_1714 ?_
  refine my_topi (y := xs (4 * n + 1)) (congrArg xs (nI_clamp (by omega))) ?_
  have hPc := hP.sub (ws' := (WM cy am r)) [2, 3, 4, 5, 6, 7, 8, 9, 10, 11, 12] rfl
  have hDc := hD.sub (ws' := (WM cy am r)) [2, 3, 4, 5, 6, 7, 8, 9, 10, 11, 12] (by decide) rfl
  have hFc := va_free (wc := (WM cy am r)) hD hS hA [2, 3, 4, 5, 6, 7, 8, 9, 10, 11, 12] rfl
  refine va_calli (va_runV (As := [.int (xs (4 * n + 1))]) (rest := []) ⟨hx, hb, hml, hown, hts⟩ (k_X8_outputByte l dC dI cy nb am r ((xs (4 * n + 1))) x (th r 0) H.size e1) (cwV 1 hts (gV mw_1469 mw_1470 mw_1471 mw_5 mw_1472) rfl rfl rfl (by decide +kernel) ⟨Nat.le_of_ble_eq_true rfl, Nat.le_of_ble_eq_true rfl⟩) (my_preV hPc hK hDc hE hS hFc (va_recv (q := (RX8, TX8, 23)) hK hP (ci := 8) (q0 := 2) rfl rfl)) rfl rfl hl.1 rfl (lv_room (Nat.le_of_ble_eq_true rfl)) dL_law_1715 ⟨by show _ ≤ 601024; omega, by show _ ≤ 7293034; omega⟩) hS (fun q _ h => hFc q h) hFc (fun rm9 u9 t9 H1 locs ht hvm hwm hB hz1 hk1 hS => ?_)
  obtain ⟨hP1, hD1⟩ := hB
  rw [ht] at hP1
  obtain ⟨hP, hD⟩ := va_joinQ (X := XLW cy o3 o4 am f3 f4 r) (cx := (WM cy am r)) (wr := [(o3, eL cy f3), (o4, eD cy f4)]) (w1 := (WM cy am (th r 0))) (pl := WC cy ad ks g u) hP hD [2, 3, 4, 5, 6, 7, 8, 9, 10, 11, 12] [0, 1] rfl rfl (by decide) (by decide) hk1 hFc hP1 hD1
  have hP : va_P (dC, dI) vwCl (XLW cy o3 o4 am f3 f4 (th r 0) ++ WC cy ad ks g u) H1 := hP
  have hD : va_D (fun q : Nat => s.heap.size ≤ q) (XLW cy o3 o4 am f3 f4 (th r 0) ++ WC cy ad ks g u) := hD
  generalize H1 = H at hP hS ⊢
  clear hP1 hD1 hPc hDc hFc hk1 hz1 hvm ht
  refine my_topi hwm ?_
  refine lv_pop hx hb dL_law_1718 rfl ?_
  refine lv_goto (tgt := 1791) hx hb dL_law_1719 (by decide) ?_
  refine W.widen (k := cells + 603) (n := slots + 9640) (by omega) (by omega) ?_
  exact K H locs ls ⟨ad, ks, g, u, (th r 0), f3, f4, hk, (hGI.thr).mono (by omega) (by omega) (by omega), hP, hD, hS, lv_sub hl [0, 1, 2, 3, 4, 5] rfl⟩
set_option maxHeartbeats 8000000 in
set_option maxRecDepth 100000 in
theorem law_c49 {p : Program} {e : Env} {s : State} {m : MethodId} {below : List Frame} {meth : Method} {c : Code} (l : Launch) (hst : l.stackTraces = false) {b L : Nat} {xs : Nat → Int32} (dC : Nat → ClassId) (dI : Nat → Nat → Nat) (cy : Nat → ClassId) (nb : Nat → Nat) (o3 o4 : Nat) (am : Nat → Nat) {n : Nat} (hn : n < 512) (hL : 4 * n + 4 ≤ L) (hL2 : L ≤ 2048) (C0 : LX p s m meth c b L xs dC dI cy nb) {Q : State → Prop} {H : Heap} {locs : List Loc} {ls : Array Slot} {cells slots : Nat} (hc : cells ≤ 400000) (hs : slots ≤ 6000000) (h : LSt s dC dI cy nb b o3 o4 am n (4 * n) H locs ls) (K : ∀ (H : Heap) (locs : List Loc) (ls : Array Slot), LSt s dC dI cy nb b o3 o4 am (n + 1) (4 * n) H locs ls → W p l e room_1 s m #[Value.ref b] below meth c H locs (cells + 603) (slots + 9640) Q (F0 m 1791 ls [])) : W p l e room_1 s m #[Value.ref b] below meth c H locs cells slots Q (F0 m 1722 ls []) := by
  obtain ⟨hx, hb, hr, hml, hown, hts, hX, hbl, hlocks, hK, hE⟩ := C0
  have hA : ∀ q : Nat, s.heap.size ≤ q → (fun q : Nat => s.heap.size ≤ q) q := fun _ h => h
  have hbA : ¬ (fun q : Nat => s.heap.size ≤ q) b := Nat.not_le.mpr hbl
  obtain ⟨ad, ks, g, u, r, f3, f4, hk, hGI, hP, hD, hS, hl⟩ := h
  have h9 : BT (F8_undo r) (C7_undo g u) g (2001 * n) (602 * n) := a_undo hGI
  obtain ⟨x, r2, c2, e1, e2, e3, e6⟩ := h9
  refine lv_aload_n hx hb dL_law_1722 rfl (lv_at hl 4 rfl) ?_
  have hPc : va_P (dC, dI) vwCl (WC cy ad ks g u) H := hP.part (X := XLW cy o3 o4 am f3 f4 r) (cx := []) [] rfl
  have hDc : va_D (fun q : Nat => s.heap.size ≤ q) (WC cy ad ks g u) := hD.part (X := XLW cy o3 o4 am f3 f4 r) (cx := []) [] (by decide) rfl
  have hFc : ∀ q, va_A (WC cy ad ks g u) H.size q → s.heap.size ≤ q := va_freeP (X := XLW cy o3 o4 am f3 f4 r) (cx := []) hD hS hA [] rfl
  obtain ⟨q8, h8⟩ := wc_at (cy := cy) (ad := ad) (ks := ks) (g := g) (u := u) (κ := .cl) hk.1 True.intro
  refine va_calli (va_runV (As := []) (rest := []) ⟨hx, hb, hml, hown, hts⟩ (c_X7_undo l dC dI cy nb ad ks g hk u  x c2 H.size e2) (cwV 0 hts (gV mw_1473 mw_1474 mw_1475 mw_2 mw_1476) rfl rfl rfl (by decide +kernel) ⟨Nat.le_of_ble_eq_true rfl, Nat.le_of_ble_eq_true rfl⟩) (my_preV hPc hK hDc hE hS hFc (va_recv (q := (RX7, TX7, 12)) hK hPc (ci := 7) (q0 := q8) rfl h8)) rfl rfl hl.1 rfl (lv_room (Nat.le_of_ble_eq_true rfl)) dL_law_1723 ⟨by show _ ≤ 601024; omega, by show _ ≤ 7293034; omega⟩) hS (fun q _ h => hFc q h) hFc (fun rw9 u9 t9 H1 locs ht hvm hw hB hz1 hk1 hS => ?_)
  clear h8
  obtain ⟨hP1, hD1⟩ := hB
  rw [ht] at hP1
  obtain ⟨hP, hD⟩ := va_joinP (X := XLW cy o3 o4 am f3 f4 r) (cx := []) (wr := XLW cy o3 o4 am f3 f4 r) (rx := []) (pl := WC cy ad ks g u) (pl1 := WC cy ad ks g c2) hP hD [] [0, 1, 2, 3, 4, 5, 6, 7, 8, 9, 10, 11, 12] rfl rfl (by decide) (by decide) hk1 hFc hP1 hD1
  have hP : va_P (dC, dI) vwCl (XLW cy o3 o4 am f3 f4 r ++ WC cy ad ks g c2) H1 := hP
  have hD : va_D (fun q : Nat => s.heap.size ≤ q) (XLW cy o3 o4 am f3 f4 r ++ WC cy ad ks g c2) := hD
  generalize H1 = H at hP hS ⊢
  clear hP1 hD1 hPc hDc hFc hk1 hz1 hvm ht
  refine my_topi hw ?_
  refine lv_pop hx hb dL_law_1726 rfl ?_
  refine lv_aload_n hx hb dL_law_1727 rfl (lv_at hl 3 rfl) ?_
  have hPc := hP.sub (ws' := (WM cy am r)) [2, 3, 4, 5, 6, 7, 8, 9, 10, 11, 12] rfl
  have hDc := hD.sub (ws' := (WM cy am r)) [2, 3, 4, 5, 6, 7, 8, 9, 10, 11, 12] (by decide) rfl
  have hFc := va_free (wc := (WM cy am r)) hD hS hA [2, 3, 4, 5, 6, 7, 8, 9, 10, 11, 12] rfl
  refine va_calli (va_runV (As := []) (rest := []) ⟨hx, hb, hml, hown, hts⟩ (k_X8_undo l dC dI cy nb am r  x (r2) H.size e1) (cwV 0 hts (gV mw_1477 mw_1478 mw_1479 mw_5 mw_1480) rfl rfl rfl (by decide +kernel) ⟨Nat.le_of_ble_eq_true rfl, Nat.le_of_ble_eq_true rfl⟩) (my_preV hPc hK hDc hE hS hFc (va_recv (q := (RX8, TX8, 23)) hK hP (ci := 8) (q0 := 2) rfl rfl)) rfl rfl hl.1 rfl (lv_room (Nat.le_of_ble_eq_true rfl)) dL_law_1728 ⟨by show _ ≤ 601024; omega, by show _ ≤ 7293034; omega⟩) hS (fun q _ h => hFc q h) hFc (fun rm9 u9 t9 H1 locs ht hvm hwm hB hz1 hk1 hS => ?_)
  obtain ⟨hP1, hD1⟩ := hB
  rw [ht] at hP1
  obtain ⟨hP, hD⟩ := va_joinQ (X := XLW cy o3 o4 am f3 f4 r) (cx := (WM cy am r)) (wr := [(o3, eL cy f3), (o4, eD cy f4)]) (w1 := (WM cy am (r2))) (pl := WC cy ad ks g c2) hP hD [2, 3, 4, 5, 6, 7, 8, 9, 10, 11, 12] [0, 1] rfl rfl (by decide) (by decide) hk1 hFc hP1 hD1
  have hP : va_P (dC, dI) vwCl (XLW cy o3 o4 am f3 f4 r2 ++ WC cy ad ks g c2) H1 := hP
  have hD : va_D (fun q : Nat => s.heap.size ≤ q) (XLW cy o3 o4 am f3 f4 r2 ++ WC cy ad ks g c2) := hD
  generalize H1 = H at hP hS ⊢
  clear hP1 hD1 hPc hDc hFc hk1 hz1 hvm ht
  refine my_topi hwm ?_
  refine lv_pop hx hb dL_law_1731 rfl ?_
  refine lv_goto (tgt := 1791) hx hb dL_law_1732 (by decide) ?_
  refine W.widen (k := cells + 603) (n := slots + 9640) (by omega) (by omega) ?_
  exact K H locs ls ⟨ad, ks, g, c2, r2, f3, f4, hk, e3.mono (by omega) (by omega) (by omega), hP, hD, hS, lv_sub hl [0, 1, 2, 3, 4, 5] rfl⟩
set_option maxHeartbeats 8000000 in
set_option maxRecDepth 100000 in
theorem law_c50 {p : Program} {e : Env} {s : State} {m : MethodId} {below : List Frame} {meth : Method} {c : Code} (l : Launch) (hst : l.stackTraces = false) {b L : Nat} {xs : Nat → Int32} (dC : Nat → ClassId) (dI : Nat → Nat → Nat) (cy : Nat → ClassId) (nb : Nat → Nat) (o3 o4 : Nat) (am : Nat → Nat) {n : Nat} (hn : n < 512) (hL : 4 * n + 4 ≤ L) (hL2 : L ≤ 2048) (C0 : LX p s m meth c b L xs dC dI cy nb) {Q : State → Prop} {H : Heap} {locs : List Loc} {ls : Array Slot} {cells slots : Nat} (hc : cells ≤ 400000) (hs : slots ≤ 6000000) (h : LSt s dC dI cy nb b o3 o4 am n (4 * n) H locs ls) (K : ∀ (H : Heap) (locs : List Loc) (ls : Array Slot), LSt s dC dI cy nb b o3 o4 am (n + 1) (4 * n) H locs ls → W p l e room_1 s m #[Value.ref b] below meth c H locs (cells + 603) (slots + 9640) Q (F0 m 1791 ls [])) : W p l e room_1 s m #[Value.ref b] below meth c H locs cells slots Q (F0 m 1735 ls []) := by
  obtain ⟨hx, hb, hr, hml, hown, hts, hX, hbl, hlocks, hK, hE⟩ := C0
  have hA : ∀ q : Nat, s.heap.size ≤ q → (fun q : Nat => s.heap.size ≤ q) q := fun _ h => h
  have hbA : ¬ (fun q : Nat => s.heap.size ≤ q) b := Nat.not_le.mpr hbl
  obtain ⟨ad, ks, g, u, r, f3, f4, hk, hGI, hP, hD, hS, hl⟩ := h
  have h9 : AT (F8_saveSnapshot r (xs (4 * n + 1))) (C7_saveSnapshot g u (xs (4 * n + 1))) r 1 (2001 * n) (602 * n) := a_save hGI
  rcases h9 with ⟨x, r2, c2, c2g, e1, e2, e3, e6⟩ | ⟨k, k1, k2, e1, e2⟩
  · refine lv_aload_n hx hb dL_law_1735 rfl (lv_at hl 4 rfl) ?_
    refine lv_aload_n hx hb dL_law_1736 rfl (lv_at hl 5 rfl) ?_
    refine lv_iload hx hb dL_law_1737 (lv_at hl 0 rfl) ?_
    refine lv_iconst (v := 1) hx hb dL_law_1739 (by decide) ?_
    refine lv_iadd hx hb dL_law_1740 ?_
    refine my_topi (y := nI (4 * n + 1)) (nI_add (4 * n) 1) ?_
    refine va_sld hx hb hX hbl hbA hS (vp_in_nI (n := 4 * n + 1) (by omega) (by omega)) dL_law_1741 ?_
    refine my_topi (y := xs (4 * n + 1)) (congrArg xs (nI_clamp (by omega))) ?_
    refine lv_aload_n hx hb dL_law_1742 rfl (lv_at hl 2 rfl) ?_
    have hPc : va_P (dC, dI) vwCl ([(o3, eL cy f3)] ++ WC cy ad ks g u) H := hP.part (X := XLW cy o3 o4 am f3 f4 r) (cx := [(o3, eL cy f3)]) [0] rfl
    have hDc : va_D (fun q : Nat => s.heap.size ≤ q) ([(o3, eL cy f3)] ++ WC cy ad ks g u) := hD.part (X := XLW cy o3 o4 am f3 f4 r) (cx := [(o3, eL cy f3)]) [0] (by decide) rfl
    have hFc : ∀ q, va_A ([(o3, eL cy f3)] ++ WC cy ad ks g u) H.size q → s.heap.size ≤ q := va_freeP (X := XLW cy o3 o4 am f3 f4 r) (cx := [(o3, eL cy f3)]) hD hS hA [0] rfl
    refine vx_calli (vx_runSX (As := [.ref (ad .cl), .int (xs (4 * n + 1)), .ref o3]) (rest := []) ⟨hx, hb, hml, hown, hts⟩ (cn_saveSnapshot l hst dC dI cy nb ad ks g hk u ((xs (4 * n + 1))) o3 f3 x c2g c2 H.size e2) (vx_cwSW 3 hts (gSH mw_1481 mw_1482 mw_562 mw_1483) rfl rfl rfl (by decide +kernel) ⟨Nat.le_of_ble_eq_true rfl, Nat.le_of_ble_eq_true rfl⟩) (my_preS hPc hK hDc hE hS hFc) rfl rfl hl.1 rfl (lv_room (Nat.le_of_ble_eq_true rfl)) dL_law_1743 ⟨by show _ ≤ 601024; omega, by show _ ≤ 7293034; omega⟩) hS (fun q _ h => hFc q h) hFc (fun q _ h => hFc q h) (fun E9 ce9 q9 u9 t9 H1 locs1 ht9 hvm9 hp9 _ _ _ _ _ _ _ => hp9.elim) (fun rw9 u9 t9 H1 locs ht hvm hw hB hz1 hk1 hS => ?_)
    obtain ⟨ad', ks', hkz, axz, hP1, hD1⟩ := hB
    rw [ht] at hP1
    obtain ⟨hP, hD⟩ := va_joinP (X := XLW cy o3 o4 am f3 f4 r) (cx := [(o3, eL cy f3)]) (wr := ((o4, eD cy f4) :: WM cy am r)) (rx := [(o3, eL cy (vp_updL f3 ((0 : Int32).toNatClampNeg) (x.toInt64)))]) (pl := WC cy ad ks g u) (pl1 := WC cy ad' ks' c2g c2) hP hD [0] [1, 2, 3, 4, 5, 6, 7, 8, 9, 10, 11, 12] rfl rfl (by decide) (by decide) hk1 hFc hP1 hD1
    have hP : va_P (dC, dI) vwCl (XLW cy o3 o4 am (vp_updL f3 ((0 : Int32).toNatClampNeg) (x.toInt64)) f4 r ++ WC cy ad' ks' c2g c2) H1 := hP.part (X := ((o4, eD cy f4) :: WM cy am r) ++ [(o3, eL cy (vp_updL f3 ((0 : Int32).toNatClampNeg) (x.toInt64)))]) (cx := XLW cy o3 o4 am (vp_updL f3 ((0 : Int32).toNatClampNeg) (x.toInt64)) f4 r) [12, 0, 1, 2, 3, 4, 5, 6, 7, 8, 9, 10, 11] rfl
    have hD : va_D (fun q : Nat => s.heap.size ≤ q) (XLW cy o3 o4 am (vp_updL f3 ((0 : Int32).toNatClampNeg) (x.toInt64)) f4 r ++ WC cy ad' ks' c2g c2) := hD.part (X := ((o4, eD cy f4) :: WM cy am r) ++ [(o3, eL cy (vp_updL f3 ((0 : Int32).toNatClampNeg) (x.toInt64)))]) (cx := XLW cy o3 o4 am (vp_updL f3 ((0 : Int32).toNatClampNeg) (x.toInt64)) f4 r) [12, 0, 1, 2, 3, 4, 5, 6, 7, 8, 9, 10, 11] (by decide) rfl
    generalize H1 = H at hP hS ⊢
    have hl : lv_has ls 10 [(5, .int (nI (4 * n))), (4, .ref o4), (3, .ref o3), (2, .ref (am 0)), (1, .ref (ad' .cl)), (0, .ref b)] := by rw [(axz .cl True.intro).2]; exact hl
    clear hP1 hD1 hPc hDc hFc hk1 hz1 hvm ht
    refine lv_istore (lv' := [(6, .int rw9), (5, .int (nI (4 * n))), (4, .ref o4), (3, .ref o3), (2, .ref (am 0)), (1, .ref (ad' .cl)), (0, .ref b)]) hx hb dL_law_1746 hl (by decide) rfl (fun ls hl => ?_)
    refine lv_aload_n hx hb dL_law_1748 rfl (lv_at hl 4 rfl) ?_
    refine lv_aload_n hx hb dL_law_1749 rfl (lv_at hl 6 rfl) ?_
    refine lv_iload hx hb dL_law_1750 (lv_at hl 1 rfl) ?_
    refine lv_iconst (v := 1) hx hb dL_law_1752 (by decide) ?_
    refine lv_iadd hx hb dL_law_1753 ?_
    refine my_topi (y := nI (4 * n + 1)) (nI_add (4 * n) 1) ?_
    refine va_sld hx hb hX hbl hbA hS (vp_in_nI (n := 4 * n + 1) (by omega) (by omega)) dL_law_1754 ?_
    refine my_topi (y := xs (4 * n + 1)) (congrArg xs (nI_clamp (by omega))) ?_
    have hPc := hP.sub (ws' := (WM cy am r)) [2, 3, 4, 5, 6, 7, 8, 9, 10, 11, 12] rfl
    have hDc := hD.sub (ws' := (WM cy am r)) [2, 3, 4, 5, 6, 7, 8, 9, 10, 11, 12] (by decide) rfl
    have hFc := va_free (wc := (WM cy am r)) hD hS hA [2, 3, 4, 5, 6, 7, 8, 9, 10, 11, 12] rfl
    refine va_calli (va_runV (As := [.int (xs (4 * n + 1))]) (rest := []) ⟨hx, hb, hml, hown, hts⟩ (k_X8_saveSnapshot l dC dI cy nb am r ((xs (4 * n + 1))) x (r2) H.size e1) (cwV 1 hts (gV mw_1488 mw_1489 mw_1490 mw_5 mw_1491) rfl rfl rfl (by decide +kernel) ⟨Nat.le_of_ble_eq_true rfl, Nat.le_of_ble_eq_true rfl⟩) (my_preV hPc hK hDc hE hS hFc (va_recv (q := (RX8, TX8, 23)) hK hP (ci := 8) (q0 := 2) rfl rfl)) rfl rfl hl.1 rfl (lv_room (Nat.le_of_ble_eq_true rfl)) dL_law_1755 ⟨by show _ ≤ 601024; omega, by show _ ≤ 7293034; omega⟩) hS (fun q _ h => hFc q h) hFc (fun rm9 u9 t9 H1 locs ht hvm hwm hB hz1 hk1 hS => ?_)
    obtain ⟨hP1, hD1⟩ := hB
    rw [ht] at hP1
    obtain ⟨hP, hD⟩ := va_joinQ (X := XLW cy o3 o4 am (vp_updL f3 ((0 : Int32).toNatClampNeg) (x.toInt64)) f4 r) (cx := (WM cy am r)) (wr := [(o3, eL cy (vp_updL f3 ((0 : Int32).toNatClampNeg) (x.toInt64))), (o4, eD cy f4)]) (w1 := (WM cy am (r2))) (pl := WC cy ad' ks' c2g c2) hP hD [2, 3, 4, 5, 6, 7, 8, 9, 10, 11, 12] [0, 1] rfl rfl (by decide) (by decide) hk1 hFc hP1 hD1
    have hP : va_P (dC, dI) vwCl (XLW cy o3 o4 am (vp_updL f3 ((0 : Int32).toNatClampNeg) (x.toInt64)) f4 r2 ++ WC cy ad' ks' c2g c2) H1 := hP
    have hD : va_D (fun q : Nat => s.heap.size ≤ q) (XLW cy o3 o4 am (vp_updL f3 ((0 : Int32).toNatClampNeg) (x.toInt64)) f4 r2 ++ WC cy ad' ks' c2g c2) := hD
    generalize H1 = H at hP hS ⊢
    clear hP1 hD1 hPc hDc hFc hk1 hz1 hvm ht
    refine my_topi hwm ?_
    refine lv_istore (lv' := [(7, .int x), (6, .int rw9), (5, .int (nI (4 * n))), (4, .ref o4), (3, .ref o3), (2, .ref (am 0)), (1, .ref (ad' .cl)), (0, .ref b)]) hx hb dL_law_1758 hl (by decide) rfl (fun ls hl => ?_)
    refine lv_goto (tgt := 1791) hx hb dL_law_1760 (by decide) ?_
    refine W.widen (k := cells + 603) (n := slots + 9640) (by omega) (by omega) ?_
    exact K H locs ls ⟨ad', ks', c2g, c2, r2, (vp_updL f3 ((0 : Int32).toNatClampNeg) (x.toInt64)), f4, hkz, e3.mono (by omega) (by omega) (by omega), hP, hD, hS, lv_sub hl [2, 3, 4, 5, 6, 7] rfl⟩
  · have e2 : C7_saveSnapshot g u (xs (4 * n + 1)) = some (.inl (nI (k + 1))) := e2
    generalize hxx : (nI (k + 1)) = xk at e2
    have hxk : ¬ xk = 1 := by rw [← hxx]; exact nI_ne (b := 1) (by omega) (by omega) (by omega)
    refine lv_aload_n hx hb dL_law_1735 rfl (lv_at hl 4 rfl) ?_
    refine lv_aload_n hx hb dL_law_1736 rfl (lv_at hl 5 rfl) ?_
    refine lv_iload hx hb dL_law_1737 (lv_at hl 0 rfl) ?_
    refine lv_iconst (v := 1) hx hb dL_law_1739 (by decide) ?_
    refine lv_iadd hx hb dL_law_1740 ?_
    refine my_topi (y := nI (4 * n + 1)) (nI_add (4 * n) 1) ?_
    refine va_sld hx hb hX hbl hbA hS (vp_in_nI (n := 4 * n + 1) (by omega) (by omega)) dL_law_1741 ?_
    refine my_topi (y := xs (4 * n + 1)) (congrArg xs (nI_clamp (by omega))) ?_
    refine lv_aload_n hx hb dL_law_1742 rfl (lv_at hl 2 rfl) ?_
    have hPc : va_P (dC, dI) vwCl ([(o3, eL cy f3)] ++ WC cy ad ks g u) H := hP.part (X := XLW cy o3 o4 am f3 f4 r) (cx := [(o3, eL cy f3)]) [0] rfl
    have hDc : va_D (fun q : Nat => s.heap.size ≤ q) ([(o3, eL cy f3)] ++ WC cy ad ks g u) := hD.part (X := XLW cy o3 o4 am f3 f4 r) (cx := [(o3, eL cy f3)]) [0] (by decide) rfl
    have hFc : ∀ q, va_A ([(o3, eL cy f3)] ++ WC cy ad ks g u) H.size q → s.heap.size ≤ q := va_freeP (X := XLW cy o3 o4 am f3 f4 r) (cx := [(o3, eL cy f3)]) hD hS hA [0] rfl
    refine vx_calli (vx_runSX (As := [.ref (ad .cl), .int (xs (4 * n + 1)), .ref o3]) (rest := []) ⟨hx, hb, hml, hown, hts⟩ (ct_saveSnapshot l hst dC dI cy nb ad ks g hk u ((xs (4 * n + 1))) o3 f3 xk H.size hxk e2) (vx_cwSW 3 hts (gSH mw_1481 mw_1482 mw_562 mw_1483) rfl rfl rfl (by decide +kernel) ⟨Nat.le_of_ble_eq_true rfl, Nat.le_of_ble_eq_true rfl⟩) (my_preS hPc hK hDc hE hS hFc) rfl rfl hl.1 rfl (lv_room (Nat.le_of_ble_eq_true rfl)) dL_law_1743 ⟨by show _ ≤ 601024; omega, by show _ ≤ 7293034; omega⟩) hS (fun q _ h => hFc q h) hFc (fun q _ h => hFc q h) (fun E9 ce9 q9 u9 t9 H1 locs1 ht9 hvm9 hp9 _ _ _ _ _ _ _ => hp9.elim) (fun rw9 u9 t9 H1 locs ht hvm hw hB hz1 hk1 hS => ?_)
    obtain ⟨hP1, hD1⟩ := hB
    rw [ht] at hP1
    obtain ⟨hP, hD⟩ := va_joinP (X := XLW cy o3 o4 am f3 f4 r) (cx := [(o3, eL cy f3)]) (wr := ((o4, eD cy f4) :: WM cy am r)) (rx := [(o3, eL cy f3)]) (pl := WC cy ad ks g u) (pl1 := WC cy ad ks g u) hP hD [0] [1, 2, 3, 4, 5, 6, 7, 8, 9, 10, 11, 12] rfl rfl (by decide) (by decide) hk1 hFc hP1 hD1
    have hP : va_P (dC, dI) vwCl (XLW cy o3 o4 am f3 f4 r ++ WC cy ad ks g u) H1 := hP.part (X := ((o4, eD cy f4) :: WM cy am r) ++ [(o3, eL cy f3)]) (cx := XLW cy o3 o4 am f3 f4 r) [12, 0, 1, 2, 3, 4, 5, 6, 7, 8, 9, 10, 11] rfl
    have hD : va_D (fun q : Nat => s.heap.size ≤ q) (XLW cy o3 o4 am f3 f4 r ++ WC cy ad ks g u) := hD.part (X := ((o4, eD cy f4) :: WM cy am r) ++ [(o3, eL cy f3)]) (cx := XLW cy o3 o4 am f3 f4 r) [12, 0, 1, 2, 3, 4, 5, 6, 7, 8, 9, 10, 11] (by decide) rfl
    generalize H1 = H at hP hS ⊢
    clear hP1 hD1 hPc hDc hFc hk1 hz1 hvm ht
    refine lv_istore (lv' := [(6, .int rw9), (5, .int (nI (4 * n))), (4, .ref o4), (3, .ref o3), (2, .ref (am 0)), (1, .ref (ad .cl)), (0, .ref b)]) hx hb dL_law_1746 hl (by decide) rfl (fun ls hl => ?_)
    refine lv_aload_n hx hb dL_law_1748 rfl (lv_at hl 4 rfl) ?_
    refine lv_aload_n hx hb dL_law_1749 rfl (lv_at hl 6 rfl) ?_
    refine lv_iload hx hb dL_law_1750 (lv_at hl 1 rfl) ?_
    refine lv_iconst (v := 1) hx hb dL_law_1752 (by decide) ?_
    refine lv_iadd hx hb dL_law_1753 ?_
    refine my_topi (y := nI (4 * n + 1)) (nI_add (4 * n) 1) ?_
    refine va_sld hx hb hX hbl hbA hS (vp_in_nI (n := 4 * n + 1) (by omega) (by omega)) dL_law_1754 ?_
    refine my_topi (y := xs (4 * n + 1)) (congrArg xs (nI_clamp (by omega))) ?_
    have hPc := hP.sub (ws' := (WM cy am r)) [2, 3, 4, 5, 6, 7, 8, 9, 10, 11, 12] rfl
    have hDc := hD.sub (ws' := (WM cy am r)) [2, 3, 4, 5, 6, 7, 8, 9, 10, 11, 12] (by decide) rfl
    have hFc := va_free (wc := (WM cy am r)) hD hS hA [2, 3, 4, 5, 6, 7, 8, 9, 10, 11, 12] rfl
    refine va_calli (va_runV (As := [.int (xs (4 * n + 1))]) (rest := []) ⟨hx, hb, hml, hown, hts⟩ (k_X8_saveSnapshot l dC dI cy nb am r ((xs (4 * n + 1))) (nI 0) (th r k) H.size e1) (cwV 1 hts (gV mw_1488 mw_1489 mw_1490 mw_5 mw_1491) rfl rfl rfl (by decide +kernel) ⟨Nat.le_of_ble_eq_true rfl, Nat.le_of_ble_eq_true rfl⟩) (my_preV hPc hK hDc hE hS hFc (va_recv (q := (RX8, TX8, 23)) hK hP (ci := 8) (q0 := 2) rfl rfl)) rfl rfl hl.1 rfl (lv_room (Nat.le_of_ble_eq_true rfl)) dL_law_1755 ⟨by show _ ≤ 601024; omega, by show _ ≤ 7293034; omega⟩) hS (fun q _ h => hFc q h) hFc (fun rm9 u9 t9 H1 locs ht hvm hwm hB hz1 hk1 hS => ?_)
    obtain ⟨hP1, hD1⟩ := hB
    rw [ht] at hP1
    obtain ⟨hP, hD⟩ := va_joinQ (X := XLW cy o3 o4 am f3 f4 r) (cx := (WM cy am r)) (wr := [(o3, eL cy f3), (o4, eD cy f4)]) (w1 := (WM cy am (th r k))) (pl := WC cy ad ks g u) hP hD [2, 3, 4, 5, 6, 7, 8, 9, 10, 11, 12] [0, 1] rfl rfl (by decide) (by decide) hk1 hFc hP1 hD1
    have hP : va_P (dC, dI) vwCl (XLW cy o3 o4 am f3 f4 (th r k) ++ WC cy ad ks g u) H1 := hP
    have hD : va_D (fun q : Nat => s.heap.size ≤ q) (XLW cy o3 o4 am f3 f4 (th r k) ++ WC cy ad ks g u) := hD
    generalize H1 = H at hP hS ⊢
    clear hP1 hD1 hPc hDc hFc hk1 hz1 hvm ht
    refine my_topi hwm ?_
    refine lv_istore (lv' := [(7, .int (nI 0)), (6, .int rw9), (5, .int (nI (4 * n))), (4, .ref o4), (3, .ref o3), (2, .ref (am 0)), (1, .ref (ad .cl)), (0, .ref b)]) hx hb dL_law_1758 hl (by decide) rfl (fun ls hl => ?_)
    refine lv_goto (tgt := 1791) hx hb dL_law_1760 (by decide) ?_
    refine W.widen (k := cells + 603) (n := slots + 9640) (by omega) (by omega) ?_
    exact K H locs ls ⟨ad, ks, g, u, (th r k), f3, f4, hk, (hGI.thr).mono (by omega) (by omega) (by omega), hP, hD, hS, lv_sub hl [2, 3, 4, 5, 6, 7] rfl⟩
set_option maxHeartbeats 8000000 in
set_option maxRecDepth 100000 in
theorem law_c51 {p : Program} {e : Env} {s : State} {m : MethodId} {below : List Frame} {meth : Method} {c : Code} (l : Launch) (hst : l.stackTraces = false) {b L : Nat} {xs : Nat → Int32} (dC : Nat → ClassId) (dI : Nat → Nat → Nat) (cy : Nat → ClassId) (nb : Nat → Nat) (o3 o4 : Nat) (am : Nat → Nat) {n : Nat} (hn : n < 512) (hL : 4 * n + 4 ≤ L) (hL2 : L ≤ 2048) (C0 : LX p s m meth c b L xs dC dI cy nb) {Q : State → Prop} {H : Heap} {locs : List Loc} {ls : Array Slot} {cells slots : Nat} (hc : cells ≤ 400000) (hs : slots ≤ 6000000) (h : LSt s dC dI cy nb b o3 o4 am n (4 * n) H locs ls) (K : ∀ (H : Heap) (locs : List Loc) (ls : Array Slot), LSt s dC dI cy nb b o3 o4 am (n + 1) (4 * n) H locs ls → W p l e room_1 s m #[Value.ref b] below meth c H locs (cells + 603) (slots + 9640) Q (F0 m 1791 ls [])) : W p l e room_1 s m #[Value.ref b] below meth c H locs cells slots Q (F0 m 1763 ls []) := by
  obtain ⟨hx, hb, hr, hml, hown, hts, hX, hbl, hlocks, hK, hE⟩ := C0
  have hA : ∀ q : Nat, s.heap.size ≤ q → (fun q : Nat => s.heap.size ≤ q) q := fun _ h => h
  have hbA : ¬ (fun q : Nat => s.heap.size ≤ q) b := Nat.not_le.mpr hbl
  obtain ⟨ad, ks, g, u, r, f3, f4, hk, hGI, hP, hD, hS, hl⟩ := h
  have h9 : CT (F8_restoreSnapshot r (xs (4 * n + 1))) (C7_restoreSnapshot g u (xs (4 * n + 1))) r g 1 (2001 * n) (602 * n) := a_restore hGI
  rcases h9 with ⟨x, r2, c2, e1, e2, e3, e6⟩ | ⟨k, k1, k2, e1, e2⟩
  · refine lv_aload_n hx hb dL_law_1763 rfl (lv_at hl 4 rfl) ?_
    refine lv_aload_n hx hb dL_law_1764 rfl (lv_at hl 5 rfl) ?_
    refine lv_iload hx hb dL_law_1765 (lv_at hl 0 rfl) ?_
    refine lv_iconst (v := 1) hx hb dL_law_1767 (by decide) ?_
    refine lv_iadd hx hb dL_law_1768 ?_
    refine my_topi (y := nI (4 * n + 1)) (nI_add (4 * n) 1) ?_
    refine va_sld hx hb hX hbl hbA hS (vp_in_nI (n := 4 * n + 1) (by omega) (by omega)) dL_law_1769 ?_
    refine my_topi (y := xs (4 * n + 1)) (congrArg xs (nI_clamp (by omega))) ?_
    refine lv_aload_n hx hb dL_law_1770 rfl (lv_at hl 2 rfl) ?_
    have hPc : va_P (dC, dI) vwCl ([(o3, eL cy f3)] ++ WC cy ad ks g u) H := hP.part (X := XLW cy o3 o4 am f3 f4 r) (cx := [(o3, eL cy f3)]) [0] rfl
    have hDc : va_D (fun q : Nat => s.heap.size ≤ q) ([(o3, eL cy f3)] ++ WC cy ad ks g u) := hD.part (X := XLW cy o3 o4 am f3 f4 r) (cx := [(o3, eL cy f3)]) [0] (by decide) rfl
    have hFc : ∀ q, va_A ([(o3, eL cy f3)] ++ WC cy ad ks g u) H.size q → s.heap.size ≤ q := va_freeP (X := XLW cy o3 o4 am f3 f4 r) (cx := [(o3, eL cy f3)]) hD hS hA [0] rfl
    refine vx_calli (vx_runSX (As := [.ref (ad .cl), .int (xs (4 * n + 1)), .ref o3]) (rest := []) ⟨hx, hb, hml, hown, hts⟩ (cn_restoreSnapshot l hst dC dI cy nb ad ks g hk u ((xs (4 * n + 1))) o3 f3 x c2 H.size e2) (vx_cwSW 3 hts (gSH mw_1492 mw_1493 mw_562 mw_1494) rfl rfl rfl (by decide +kernel) ⟨Nat.le_of_ble_eq_true rfl, Nat.le_of_ble_eq_true rfl⟩) (my_preS hPc hK hDc hE hS hFc) rfl rfl hl.1 rfl (lv_room (Nat.le_of_ble_eq_true rfl)) dL_law_1771 ⟨by show _ ≤ 601024; omega, by show _ ≤ 7293034; omega⟩) hS (fun q _ h => hFc q h) hFc (fun q _ h => hFc q h) (fun E9 ce9 q9 u9 t9 H1 locs1 ht9 hvm9 hp9 _ _ _ _ _ _ _ => hp9.elim) (fun rw9 u9 t9 H1 locs ht hvm hw hB hz1 hk1 hS => ?_)
    obtain ⟨hP1, hD1⟩ := hB
    rw [ht] at hP1
    obtain ⟨hP, hD⟩ := va_joinP (X := XLW cy o3 o4 am f3 f4 r) (cx := [(o3, eL cy f3)]) (wr := ((o4, eD cy f4) :: WM cy am r)) (rx := [(o3, eL cy (vp_updL f3 ((0 : Int32).toNatClampNeg) (x.toInt64)))]) (pl := WC cy ad ks g u) (pl1 := WC cy ad ks g c2) hP hD [0] [1, 2, 3, 4, 5, 6, 7, 8, 9, 10, 11, 12] rfl rfl (by decide) (by decide) hk1 hFc hP1 hD1
    have hP : va_P (dC, dI) vwCl (XLW cy o3 o4 am (vp_updL f3 ((0 : Int32).toNatClampNeg) (x.toInt64)) f4 r ++ WC cy ad ks g c2) H1 := hP.part (X := ((o4, eD cy f4) :: WM cy am r) ++ [(o3, eL cy (vp_updL f3 ((0 : Int32).toNatClampNeg) (x.toInt64)))]) (cx := XLW cy o3 o4 am (vp_updL f3 ((0 : Int32).toNatClampNeg) (x.toInt64)) f4 r) [12, 0, 1, 2, 3, 4, 5, 6, 7, 8, 9, 10, 11] rfl
    have hD : va_D (fun q : Nat => s.heap.size ≤ q) (XLW cy o3 o4 am (vp_updL f3 ((0 : Int32).toNatClampNeg) (x.toInt64)) f4 r ++ WC cy ad ks g c2) := hD.part (X := ((o4, eD cy f4) :: WM cy am r) ++ [(o3, eL cy (vp_updL f3 ((0 : Int32).toNatClampNeg) (x.toInt64)))]) (cx := XLW cy o3 o4 am (vp_updL f3 ((0 : Int32).toNatClampNeg) (x.toInt64)) f4 r) [12, 0, 1, 2, 3, 4, 5, 6, 7, 8, 9, 10, 11] (by decide) rfl
    generalize H1 = H at hP hS ⊢
    clear hP1 hD1 hPc hDc hFc hk1 hz1 hvm ht
    refine lv_istore (lv' := [(6, .int rw9), (5, .int (nI (4 * n))), (4, .ref o4), (3, .ref o3), (2, .ref (am 0)), (1, .ref (ad .cl)), (0, .ref b)]) hx hb dL_law_1774 hl (by decide) rfl (fun ls hl => ?_)
    refine lv_aload_n hx hb dL_law_1776 rfl (lv_at hl 4 rfl) ?_
    refine lv_aload_n hx hb dL_law_1777 rfl (lv_at hl 6 rfl) ?_
    refine lv_iload hx hb dL_law_1778 (lv_at hl 1 rfl) ?_
    refine lv_iconst (v := 1) hx hb dL_law_1780 (by decide) ?_
    refine lv_iadd hx hb dL_law_1781 ?_
    refine my_topi (y := nI (4 * n + 1)) (nI_add (4 * n) 1) ?_
    refine va_sld hx hb hX hbl hbA hS (vp_in_nI (n := 4 * n + 1) (by omega) (by omega)) dL_law_1782 ?_
    refine my_topi (y := xs (4 * n + 1)) (congrArg xs (nI_clamp (by omega))) ?_
    have hPc := hP.sub (ws' := (WM cy am r)) [2, 3, 4, 5, 6, 7, 8, 9, 10, 11, 12] rfl
    have hDc := hD.sub (ws' := (WM cy am r)) [2, 3, 4, 5, 6, 7, 8, 9, 10, 11, 12] (by decide) rfl
    have hFc := va_free (wc := (WM cy am r)) hD hS hA [2, 3, 4, 5, 6, 7, 8, 9, 10, 11, 12] rfl
    refine va_calli (va_runV (As := [.int (xs (4 * n + 1))]) (rest := []) ⟨hx, hb, hml, hown, hts⟩ (k_X8_restoreSnapshot l dC dI cy nb am r ((xs (4 * n + 1))) x (r2) H.size e1) (cwV 1 hts (gV mw_1499 mw_1500 mw_1501 mw_5 mw_1502) rfl rfl rfl (by decide +kernel) ⟨Nat.le_of_ble_eq_true rfl, Nat.le_of_ble_eq_true rfl⟩) (my_preV hPc hK hDc hE hS hFc (va_recv (q := (RX8, TX8, 23)) hK hP (ci := 8) (q0 := 2) rfl rfl)) rfl rfl hl.1 rfl (lv_room (Nat.le_of_ble_eq_true rfl)) dL_law_1783 ⟨by show _ ≤ 601024; omega, by show _ ≤ 7293034; omega⟩) hS (fun q _ h => hFc q h) hFc (fun rm9 u9 t9 H1 locs ht hvm hwm hB hz1 hk1 hS => ?_)
    obtain ⟨hP1, hD1⟩ := hB
    rw [ht] at hP1
    obtain ⟨hP, hD⟩ := va_joinQ (X := XLW cy o3 o4 am (vp_updL f3 ((0 : Int32).toNatClampNeg) (x.toInt64)) f4 r) (cx := (WM cy am r)) (wr := [(o3, eL cy (vp_updL f3 ((0 : Int32).toNatClampNeg) (x.toInt64))), (o4, eD cy f4)]) (w1 := (WM cy am (r2))) (pl := WC cy ad ks g c2) hP hD [2, 3, 4, 5, 6, 7, 8, 9, 10, 11, 12] [0, 1] rfl rfl (by decide) (by decide) hk1 hFc hP1 hD1
    have hP : va_P (dC, dI) vwCl (XLW cy o3 o4 am (vp_updL f3 ((0 : Int32).toNatClampNeg) (x.toInt64)) f4 r2 ++ WC cy ad ks g c2) H1 := hP
    have hD : va_D (fun q : Nat => s.heap.size ≤ q) (XLW cy o3 o4 am (vp_updL f3 ((0 : Int32).toNatClampNeg) (x.toInt64)) f4 r2 ++ WC cy ad ks g c2) := hD
    generalize H1 = H at hP hS ⊢
    clear hP1 hD1 hPc hDc hFc hk1 hz1 hvm ht
    refine my_topi hwm ?_
    refine lv_istore (lv' := [(7, .int x), (6, .int rw9), (5, .int (nI (4 * n))), (4, .ref o4), (3, .ref o3), (2, .ref (am 0)), (1, .ref (ad .cl)), (0, .ref b)]) hx hb dL_law_1786 hl (by decide) rfl (fun ls hl => ?_)
    refine lv_goto (tgt := 1791) hx hb dL_law_1788 (by decide) ?_
    refine W.widen (k := cells + 603) (n := slots + 9640) (by omega) (by omega) ?_
    exact K H locs ls ⟨ad, ks, g, c2, r2, (vp_updL f3 ((0 : Int32).toNatClampNeg) (x.toInt64)), f4, hk, e3.mono (by omega) (by omega) (by omega), hP, hD, hS, lv_sub hl [2, 3, 4, 5, 6, 7] rfl⟩
  · have e2 : C7_restoreSnapshot g u (xs (4 * n + 1)) = some (.inl (nI (k + 1))) := e2
    generalize hxx : (nI (k + 1)) = xk at e2
    have hxk : ¬ xk = 1 := by rw [← hxx]; exact nI_ne (b := 1) (by omega) (by omega) (by omega)
    refine lv_aload_n hx hb dL_law_1763 rfl (lv_at hl 4 rfl) ?_
    refine lv_aload_n hx hb dL_law_1764 rfl (lv_at hl 5 rfl) ?_
    refine lv_iload hx hb dL_law_1765 (lv_at hl 0 rfl) ?_
    refine lv_iconst (v := 1) hx hb dL_law_1767 (by decide) ?_
    refine lv_iadd hx hb dL_law_1768 ?_
    refine my_topi (y := nI (4 * n + 1)) (nI_add (4 * n) 1) ?_
    refine va_sld hx hb hX hbl hbA hS (vp_in_nI (n := 4 * n + 1) (by omega) (by omega)) dL_law_1769 ?_
    refine my_topi (y := xs (4 * n + 1)) (congrArg xs (nI_clamp (by omega))) ?_
    refine lv_aload_n hx hb dL_law_1770 rfl (lv_at hl 2 rfl) ?_
    have hPc : va_P (dC, dI) vwCl ([(o3, eL cy f3)] ++ WC cy ad ks g u) H := hP.part (X := XLW cy o3 o4 am f3 f4 r) (cx := [(o3, eL cy f3)]) [0] rfl
    have hDc : va_D (fun q : Nat => s.heap.size ≤ q) ([(o3, eL cy f3)] ++ WC cy ad ks g u) := hD.part (X := XLW cy o3 o4 am f3 f4 r) (cx := [(o3, eL cy f3)]) [0] (by decide) rfl
    have hFc : ∀ q, va_A ([(o3, eL cy f3)] ++ WC cy ad ks g u) H.size q → s.heap.size ≤ q := va_freeP (X := XLW cy o3 o4 am f3 f4 r) (cx := [(o3, eL cy f3)]) hD hS hA [0] rfl
    refine vx_calli (vx_runSX (As := [.ref (ad .cl), .int (xs (4 * n + 1)), .ref o3]) (rest := []) ⟨hx, hb, hml, hown, hts⟩ (ct_restoreSnapshot l hst dC dI cy nb ad ks g hk u ((xs (4 * n + 1))) o3 f3 xk H.size hxk e2) (vx_cwSW 3 hts (gSH mw_1492 mw_1493 mw_562 mw_1494) rfl rfl rfl (by decide +kernel) ⟨Nat.le_of_ble_eq_true rfl, Nat.le_of_ble_eq_true rfl⟩) (my_preS hPc hK hDc hE hS hFc) rfl rfl hl.1 rfl (lv_room (Nat.le_of_ble_eq_true rfl)) dL_law_1771 ⟨by show _ ≤ 601024; omega, by show _ ≤ 7293034; omega⟩) hS (fun q _ h => hFc q h) hFc (fun q _ h => hFc q h) (fun E9 ce9 q9 u9 t9 H1 locs1 ht9 hvm9 hp9 _ _ _ _ _ _ _ => hp9.elim) (fun rw9 u9 t9 H1 locs ht hvm hw hB hz1 hk1 hS => ?_)
    obtain ⟨hP1, hD1⟩ := hB
    rw [ht] at hP1
    obtain ⟨hP, hD⟩ := va_joinP (X := XLW cy o3 o4 am f3 f4 r) (cx := [(o3, eL cy f3)]) (wr := ((o4, eD cy f4) :: WM cy am r)) (rx := [(o3, eL cy f3)]) (pl := WC cy ad ks g u) (pl1 := WC cy ad ks g u) hP hD [0] [1, 2, 3, 4, 5, 6, 7, 8, 9, 10, 11, 12] rfl rfl (by decide) (by decide) hk1 hFc hP1 hD1
    have hP : va_P (dC, dI) vwCl (XLW cy o3 o4 am f3 f4 r ++ WC cy ad ks g u) H1 := hP.part (X := ((o4, eD cy f4) :: WM cy am r) ++ [(o3, eL cy f3)]) (cx := XLW cy o3 o4 am f3 f4 r) [12, 0, 1, 2, 3, 4, 5, 6, 7, 8, 9, 10, 11] rfl
    have hD : va_D (fun q : Nat => s.heap.size ≤ q) (XLW cy o3 o4 am f3 f4 r ++ WC cy ad ks g u) := hD.part (X := ((o4, eD cy f4) :: WM cy am r) ++ [(o3, eL cy f3)]) (cx := XLW cy o3 o4 am f3 f4 r) [12, 0, 1, 2, 3, 4, 5, 6, 7, 8, 9, 10, 11] (by decide) rfl
    generalize H1 = H at hP hS ⊢
    clear hP1 hD1 hPc hDc hFc hk1 hz1 hvm ht
    refine lv_istore (lv' := [(6, .int rw9), (5, .int (nI (4 * n))), (4, .ref o4), (3, .ref o3), (2, .ref (am 0)), (1, .ref (ad .cl)), (0, .ref b)]) hx hb dL_law_1774 hl (by decide) rfl (fun ls hl => ?_)
    refine lv_aload_n hx hb dL_law_1776 rfl (lv_at hl 4 rfl) ?_
    refine lv_aload_n hx hb dL_law_1777 rfl (lv_at hl 6 rfl) ?_
    refine lv_iload hx hb dL_law_1778 (lv_at hl 1 rfl) ?_
    refine lv_iconst (v := 1) hx hb dL_law_1780 (by decide) ?_
    refine lv_iadd hx hb dL_law_1781 ?_
    refine my_topi (y := nI (4 * n + 1)) (nI_add (4 * n) 1) ?_
    refine va_sld hx hb hX hbl hbA hS (vp_in_nI (n := 4 * n + 1) (by omega) (by omega)) dL_law_1782 ?_
    refine my_topi (y := xs (4 * n + 1)) (congrArg xs (nI_clamp (by omega))) ?_
    have hPc := hP.sub (ws' := (WM cy am r)) [2, 3, 4, 5, 6, 7, 8, 9, 10, 11, 12] rfl
    have hDc := hD.sub (ws' := (WM cy am r)) [2, 3, 4, 5, 6, 7, 8, 9, 10, 11, 12] (by decide) rfl
    have hFc := va_free (wc := (WM cy am r)) hD hS hA [2, 3, 4, 5, 6, 7, 8, 9, 10, 11, 12] rfl
    refine va_calli (va_runV (As := [.int (xs (4 * n + 1))]) (rest := []) ⟨hx, hb, hml, hown, hts⟩ (k_X8_restoreSnapshot l dC dI cy nb am r ((xs (4 * n + 1))) (nI 0) (th r k) H.size e1) (cwV 1 hts (gV mw_1499 mw_1500 mw_1501 mw_5 mw_1502) rfl rfl rfl (by decide +kernel) ⟨Nat.le_of_ble_eq_true rfl, Nat.le_of_ble_eq_true rfl⟩) (my_preV hPc hK hDc hE hS hFc (va_recv (q := (RX8, TX8, 23)) hK hP (ci := 8) (q0 := 2) rfl rfl)) rfl rfl hl.1 rfl (lv_room (Nat.le_of_ble_eq_true rfl)) dL_law_1783 ⟨by show _ ≤ 601024; omega, by show _ ≤ 7293034; omega⟩) hS (fun q _ h => hFc q h) hFc (fun rm9 u9 t9 H1 locs ht hvm hwm hB hz1 hk1 hS => ?_)
    obtain ⟨hP1, hD1⟩ := hB
    rw [ht] at hP1
    obtain ⟨hP, hD⟩ := va_joinQ (X := XLW cy o3 o4 am f3 f4 r) (cx := (WM cy am r)) (wr := [(o3, eL cy f3), (o4, eD cy f4)]) (w1 := (WM cy am (th r k))) (pl := WC cy ad ks g u) hP hD [2, 3, 4, 5, 6, 7, 8, 9, 10, 11, 12] [0, 1] rfl rfl (by decide) (by decide) hk1 hFc hP1 hD1
    have hP : va_P (dC, dI) vwCl (XLW cy o3 o4 am f3 f4 (th r k) ++ WC cy ad ks g u) H1 := hP
    have hD : va_D (fun q : Nat => s.heap.size ≤ q) (XLW cy o3 o4 am f3 f4 (th r k) ++ WC cy ad ks g u) := hD
    generalize H1 = H at hP hS ⊢
    clear hP1 hD1 hPc hDc hFc hk1 hz1 hvm ht
    refine my_topi hwm ?_
    refine lv_istore (lv' := [(7, .int (nI 0)), (6, .int rw9), (5, .int (nI (4 * n))), (4, .ref o4), (3, .ref o3), (2, .ref (am 0)), (1, .ref (ad .cl)), (0, .ref b)]) hx hb dL_law_1786 hl (by decide) rfl (fun ls hl => ?_)
    refine lv_goto (tgt := 1791) hx hb dL_law_1788 (by decide) ?_
    refine W.widen (k := cells + 603) (n := slots + 9640) (by omega) (by omega) ?_
    exact K H locs ls ⟨ad, ks, g, u, (th r k), f3, f4, hk, (hGI.thr).mono (by omega) (by omega) (by omega), hP, hD, hS, lv_sub hl [2, 3, 4, 5, 6, 7] rfl⟩
end
section
noncomputable def kq99f3_L_law_0 : List UInt8 := [0xbb, 0x00, 0x08, 0x59, 0xb7, 0x00, 0x7e, 0x4c, 0xbb, 0x00, 0x7f, 0x59, 0xb7, 0x00, 0x81, 0x4d, 0x04, 0xbc, 0x0b, 0x4e, 0x04, 0xbc, 0x07, 0x3a, 0x04, 0x03, 0x36, 0x05, 0x15, 0x05, 0x2a, 0xbe, 0x07, 0x64, 0xa3, 0x06, 0xe3, 0x2a, 0x15, 0x05]
theorem sq99f3_L_law_0 : dcSub kq99f3_L_law_0 cL_law 0 = true := by decide +kernel
noncomputable def kq99f3_L_law_2 : List UInt8 := [0x84, 0x05, 0x04, 0xa7, 0xf9, 0x1a, 0x04, 0xac]
theorem sq99f3_L_law_2 : dcSub kq99f3_L_law_2 cL_law 1791 = true := by decide +kernel
noncomputable def kq99f3_L_law_1 : List UInt8 := [0x2e, 0x10, 0x3f, 0x7e]
theorem sq99f3_L_law_1 : dcSub kq99f3_L_law_1 cL_law 40 = true := by decide +kernel
theorem dL_law_0 : decode cL_law 0 = .ok (.new 8, 3) := d_187 (dB2_p (o := 0) (p := 0) sq99f3_L_law_0 (by decide +kernel))
theorem dL_law_11 : decode cL_law 11 = .ok (.dup, 1) := d_89 (dB0_p (o := 0) (p := 11) sq99f3_L_law_0 (by decide +kernel))
theorem dL_law_12 : decode cL_law 12 = .ok (.invokespecial 129, 3) := d_183 (dB2_p (o := 0) (p := 12) sq99f3_L_law_0 (by decide +kernel))
theorem dL_law_15 : decode cL_law 15 = .ok (.astore_n 2, 1) := d_77 (dB0_p (o := 0) (p := 15) sq99f3_L_law_0 (by decide +kernel))
theorem dL_law_16 : decode cL_law 16 = .ok (.iconst 1, 1) := d_4 (dB0_p (o := 0) (p := 16) sq99f3_L_law_0 (by decide +kernel))
theorem dL_law_17 : decode cL_law 17 = .ok (.newarray .long, 2) := by decide +kernel
theorem dL_law_1791 : decode cL_law 1791 = .ok (.iinc 5 4, 3) := d_132 (dBi_p (o := 1791) (p := 0) sq99f3_L_law_2 (by decide +kernel))
theorem dL_law_1794 : decode cL_law 1794 = .ok (.goto (-1766), 3) := d_167 (dBs2_p (o := 1791) (p := 3) sq99f3_L_law_2 (by decide +kernel))
theorem dL_law_1797 : decode cL_law 1797 = .ok (.iconst 1, 1) := d_4 (dB0_p (o := 1791) (p := 6) sq99f3_L_law_2 (by decide +kernel))
theorem dL_law_1798 : decode cL_law 1798 = .ok (.ireturn, 1) := d_172 (dB0_p (o := 1791) (p := 7) sq99f3_L_law_2 (by decide +kernel))
theorem dL_law_19 : decode cL_law 19 = .ok (.astore_n 3, 1) := d_78 (dB0_p (o := 0) (p := 19) sq99f3_L_law_0 (by decide +kernel))
theorem dL_law_20 : decode cL_law 20 = .ok (.iconst 1, 1) := d_4 (dB0_p (o := 0) (p := 20) sq99f3_L_law_0 (by decide +kernel))
theorem dL_law_21 : decode cL_law 21 = .ok (.newarray .double, 2) := by decide +kernel
theorem dL_law_23 : decode cL_law 23 = .ok (.astore 4, 2) := d_58 (dB1_p (o := 0) (p := 23) sq99f3_L_law_0 (by decide +kernel))
theorem dL_law_25 : decode cL_law 25 = .ok (.iconst 0, 1) := d_3 (dB0_p (o := 0) (p := 25) sq99f3_L_law_0 (by decide +kernel))
theorem dL_law_26 : decode cL_law 26 = .ok (.istore 5, 2) := d_54 (dB1_p (o := 0) (p := 26) sq99f3_L_law_0 (by decide +kernel))
theorem dL_law_28 : decode cL_law 28 = .ok (.iload 5, 2) := d_21 (dB1_p (o := 0) (p := 28) sq99f3_L_law_0 (by decide +kernel))
theorem dL_law_3 : decode cL_law 3 = .ok (.dup, 1) := d_89 (dB0_p (o := 0) (p := 3) sq99f3_L_law_0 (by decide +kernel))
theorem dL_law_30 : decode cL_law 30 = .ok (.aload_n 0, 1) := d_42 (dB0_p (o := 0) (p := 30) sq99f3_L_law_0 (by decide +kernel))
theorem dL_law_31 : decode cL_law 31 = .ok (.arraylength, 1) := d_190 (dB0_p (o := 0) (p := 31) sq99f3_L_law_0 (by decide +kernel))
theorem dL_law_32 : decode cL_law 32 = .ok (.iconst 4, 1) := d_7 (dB0_p (o := 0) (p := 32) sq99f3_L_law_0 (by decide +kernel))
theorem dL_law_33 : decode cL_law 33 = .ok (.isub, 1) := d_100 (dB0_p (o := 0) (p := 33) sq99f3_L_law_0 (by decide +kernel))
theorem dL_law_34 : decode cL_law 34 = .ok (.if_icmp .gt 1763, 3) := d_163 (dBs2_p (o := 0) (p := 34) sq99f3_L_law_0 (by decide +kernel))
theorem dL_law_37 : decode cL_law 37 = .ok (.aload_n 0, 1) := d_42 (dB0_p (o := 0) (p := 37) sq99f3_L_law_0 (by decide +kernel))
theorem dL_law_38 : decode cL_law 38 = .ok (.iload 5, 2) := d_21 (dB1_p (o := 0) (p := 38) sq99f3_L_law_0 (by decide +kernel))
theorem dL_law_4 : decode cL_law 4 = .ok (.invokespecial 126, 3) := d_183 (dB2_p (o := 0) (p := 4) sq99f3_L_law_0 (by decide +kernel))
theorem dL_law_40 : decode cL_law 40 = .ok (.iaload, 1) := d_46 (dB0_p (o := 40) (p := 0) sq99f3_L_law_1 (by decide +kernel))
theorem dL_law_41 : decode cL_law 41 = .ok (.bipush 63, 2) := d_16 (dBs1_p (o := 40) (p := 1) sq99f3_L_law_1 (by decide +kernel))
theorem dL_law_43 : decode cL_law 43 = .ok (.iand, 1) := d_126 (dB0_p (o := 40) (p := 3) sq99f3_L_law_1 (by decide +kernel))
theorem dL_law_44 : decode cL_law 44 = .ok (.tableswitch 1747 0 51 #[224, 281, 294, 307, 320, 348, 376, 416, 456, 496, 536, 576, 601, 626, 639, 679, 719, 732, 784, 824, 852, 867, 884, 913, 926, 954, 982, 1022, 1050, 1090, 1146, 1198, 1226, 1266, 1294, 1322, 1350, 1378, 1406, 1434, 1447, 1475, 1503, 1531, 1559, 1584, 1612, 1625, 1653, 1678, 1691, 1719], 224) := by decide +kernel
theorem dL_law_7 : decode cL_law 7 = .ok (.astore_n 1, 1) := d_76 (dB0_p (o := 0) (p := 7) sq99f3_L_law_0 (by decide +kernel))
theorem dL_law_8 : decode cL_law 8 = .ok (.new 127, 3) := d_187 (dB2_p (o := 0) (p := 8) sq99f3_L_law_0 (by decide +kernel))
theorem mw_0 : Cond.classLink RL 8 RX7 ∈ wsL_law := mi_0 _ (List.mem_of_getElem? (i := 0) rfl)
theorem mw_1 : Cond.instantiable RX7 12 ∈ wsL_law := mi_0 _ (List.mem_of_getElem? (i := 1) rfl)
theorem mw_3 : Cond.classLink RL 127 RX8 ∈ wsL_law := mi_0 _ (List.mem_of_getElem? (i := 3) rfl)
theorem mw_4 : Cond.instantiable RX8 23 ∈ wsL_law := mi_0 _ (List.mem_of_getElem? (i := 4) rfl)
theorem mw_6 : Cond.arrayClass .long ∈ wsL_law := mi_0 _ (List.mem_of_getElem? (i := 6) rfl)
theorem mw_7 : Cond.arrayClass .double ∈ wsL_law := mi_0 _ (List.mem_of_getElem? (i := 7) rfl)
theorem mw_9 : Cond.methodLink RL 126 yX7_init ∈ wsL_law := mi_0 _ (List.mem_of_getElem? (i := 9) rfl)
theorem mw_10 : Cond.instanceMethod yX7_init ∈ wsL_law := mi_0 _ (List.mem_of_getElem? (i := 10) rfl)
theorem mw_11 : Cond.code yX7_init cX7_init 1 none ∈ wsL_law := mi_0 _ (List.mem_of_getElem? (i := 11) rfl)
theorem mw_93 : Cond.methodLink RL 129 yX8_init ∈ wsL_law := mi_72 _ (List.mem_of_getElem? (i := 21) rfl)
theorem mw_94 : Cond.instanceMethod yX8_init ∈ wsL_law := mi_72 _ (List.mem_of_getElem? (i := 22) rfl)
theorem mw_95 : Cond.code yX8_init cX8_init 1 none ∈ wsL_law := mi_72 _ (List.mem_of_getElem? (i := 23) rfl)
end
