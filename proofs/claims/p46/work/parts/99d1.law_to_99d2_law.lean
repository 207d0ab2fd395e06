section
set_option maxHeartbeats 8000000 in
set_option maxRecDepth 100000 in
theorem law_c0 {p : Program} {e : Env} {s : State} {m : MethodId} {below : List Frame} {meth : Method} {c : Code} (l : Launch) (hst : l.stackTraces = false) {b L : Nat} {xs : Nat → Int32} (dC : Nat → ClassId) (dI : Nat → Nat → Nat) (cy : Nat → ClassId) (nb : Nat → Nat) (o3 o4 : Nat) (am : Nat → Nat) {n : Nat} (hn : n < 512) (hL : 4 * n + 4 ≤ L) (hL2 : L ≤ 2048) (C0 : LX p s m meth c b L xs dC dI cy nb) {Q : State → Prop} {H : Heap} {locs : List Loc} {ls : Array Slot} {cells slots : Nat} (hc : cells ≤ 400000) (hs : slots ≤ 6000000) (h : LSt s dC dI cy nb b o3 o4 am n (4 * n) H locs ls) (K : ∀ (H : Heap) (locs : List Loc) (ls : Array Slot), LSt s dC dI cy nb b o3 o4 am (n + 1) (4 * n) H locs ls → W p l e room_1 s m #[Value.ref b] below meth c H locs (cells + 603) (slots + 9640) Q (F0 m 1791 ls [])) : W p l e room_1 s m #[Value.ref b] below meth c H locs cells slots Q (F0 m 268 ls []) := by
  obtain ⟨hx, hb, hr, hml, hown, hts, hX, hbl, hlocks, hK, hE⟩ := C0
  have hA : ∀ q : Nat, s.heap.size ≤ q → (fun q : Nat => s.heap.size ≤ q) q := fun _ h => h
  have hbA : ¬ (fun q : Nat => s.heap.size ≤ q) b := Nat.not_le.mpr hbl
  obtain ⟨ad, ks, g, u, r, f3, f4, hk, hGI, hP, hD, hS, hl⟩ := h
  have h9 : BT (F8_append r (((xs (4 * n + 1)).toInt64 <<< (((32 : Int32)).toInt64 &&& 63)) ||| ((xs (4 * n + 2)).toInt64 &&& 4294967295))) (C7_append g u (((xs (4 * n + 1)).toInt64 <<< (((32 : Int32)).toInt64 &&& 63)) ||| ((xs (4 * n + 2)).toInt64 &&& 4294967295))) g (2001 * n) (602 * n) := a_append hGI
  obtain ⟨x, r2, c2, e1, e2, e3, e6⟩ := h9
  refine lv_aload_n hx hb dL_law_268 rfl (lv_at hl 4 rfl) ?_
  refine lv_aload_n hx hb dL_law_269 rfl (lv_at hl 5 rfl) ?_
  refine lv_iload hx hb dL_law_270 (lv_at hl 0 rfl) ?_
  refine lv_iconst (v := 1) hx hb dL_law_272 (by decide) ?_
  refine lv_iadd hx hb dL_law_273 ?_
  refine my_topi (y := nI (4 * n + 1)) (nI_add (4 * n) 1) ?_
  refine va_sld hx hb hX hbl hbA hS (vp_in_nI (n := 4 * n + 1) (by omega) (by omega)) dL_law_274 ?_
  refine my_topi (y := xs (4 * n + 1)) (congrArg xs (nI_clamp (by omega))) ?_
  refine lv_i2l (v := ((xs (4 * n + 1)).toInt64)) hx hb dL_law_275 rfl ?_
  refine lv_bipush (v := 32) hx hb dL_law_276 (by decide) ?_
  refine lv_lshl (v := (((xs (4 * n + 1)).toInt64) <<< (((32 : Int32)).toInt64 &&& 63))) hx hb dL_law_278 rfl ?_
  refine lv_aload_n hx hb dL_law_279 rfl (lv_at hl 5 rfl) ?_
  refine lv_iload hx hb dL_law_280 (lv_at hl 0 rfl) ?_
  refine lv_iconst (v := 2) hx hb dL_law_282 (by decide) ?_
  refine lv_iadd hx hb dL_law_283 ?_
  refine my_topi (y := nI (4 * n + 2)) (nI_add (4 * n) 2) ?_
  refine va_sld hx hb hX hbl hbA hS (vp_in_nI (n := 4 * n + 2) (by omega) (by omega)) dL_law_284 ?_
  refine my_topi (y := xs (4 * n + 2)) (congrArg xs (nI_clamp (by omega))) ?_
  refine lv_i2l (v := ((xs (4 * n + 2)).toInt64)) hx hb dL_law_285 rfl ?_
  refine lv_ldc2 hx hb hown (hts _ mw_8) dL_law_286 ?_
  refine lv_land hx hb dL_law_289 ?_
  refine lv_lor hx hb dL_law_290 ?_
  have hPc : va_P (dC, dI) vwCl (WC cy ad ks g u) H := hP.part (X := XLW cy o3 o4 am f3 f4 r) (cx := []) [] rfl
  have hDc : va_D (fun q : Nat => s.heap.size ≤ q) (WC cy ad ks g u) := hD.part (X := XLW cy o3 o4 am f3 f4 r) (cx := []) [] (by decide) rfl
  have hFc : ∀ q, va_A (WC cy ad ks g u) H.size q → s.heap.size ≤ q := va_freeP (X := XLW cy o3 o4 am f3 f4 r) (cx := []) hD hS hA [] rfl
  obtain ⟨q8, h8⟩ := wc_at (cy := cy) (ad := ad) (ks := ks) (g := g) (u := u) (κ := .cl) hk.1 True.intro
  refine va_calli (va_runV (As := [.long ((((xs (4 * n + 1)).toInt64) <<< (((32 : Int32)).toInt64 &&& 63)) ||| (((xs (4 * n + 2)).toInt64) &&& 4294967295))]) (rest := []) ⟨hx, hb, hml, hown, hts⟩ (c_X7_append l dC dI cy nb ad ks g hk u (((((xs (4 * n + 1)).toInt64) <<< (((32 : Int32)).toInt64 &&& 63)) ||| (((xs (4 * n + 2)).toInt64) &&& 4294967295))) x c2 H.size e2) (cwV 1 hts (gV mw_113 mw_114 mw_115 mw_2 mw_116) rfl rfl rfl (by decide +kernel) ⟨Nat.le_of_ble_eq_true rfl, Nat.le_of_ble_eq_true rfl⟩) (my_preV hPc hK hDc hE hS hFc (va_recv (q := (RX7, TX7, 12)) hK hPc (ci := 7) (q0 := q8) rfl h8)) rfl rfl hl.1 rfl (lv_room (Nat.le_of_ble_eq_true rfl)) dL_law_291 ⟨by show _ ≤ 601024; omega, by show _ ≤ 7293034; omega⟩) hS (fun q _ h => hFc q h) hFc (fun rw9 u9 t9 H1 locs ht hvm hw hB hz1 hk1 hS => ?_)
  clear h8
  obtain ⟨hP1, hD1⟩ := hB
  rw [ht] at hP1
  obtain ⟨hP, hD⟩ := va_joinP (X := XLW cy o3 o4 am f3 f4 r) (cx := []) (wr := XLW cy o3 o4 am f3 f4 r) (rx := []) (pl := WC cy ad ks g u) (pl1 := WC cy ad ks g c2) hP hD [] [0, 1, 2, 3, 4, 5, 6, 7, 8, 9, 10, 11, 12] rfl rfl (by decide) (by decide) hk1 hFc hP1 hD1
  have hP : va_P (dC, dI) vwCl (XLW cy o3 o4 am f3 f4 r ++ WC cy ad ks g c2) H1 := hP
  have hD : va_D (fun q : Nat => s.heap.size ≤ q) (XLW cy o3 o4 am f3 f4 r ++ WC cy ad ks g c2) := hD
  generalize H1 = H at hP hS ⊢
  clear hP1 hD1 hPc hDc hFc hk1 hz1 hvm ht
  refine my_topi hw ?_
  refine lv_pop hx hb dL_law_294 rfl ?_
  refine lv_aload_n hx hb dL_law_295 rfl (lv_at hl 3 rfl) ?_
  refine lv_aload_n hx hb dL_law_296 rfl (lv_at hl 5 rfl) ?_
  refine lv_iload hx hb dL_law_297 (lv_at hl 0 rfl) ?_
  refine lv_iconst (v := 1) hx hb dL_law_299 (by decide) ?_
  refine lv_iadd hx hb dL_law_300 ?_
  refine my_topi (y := nI (4 * n + 1)) (nI_add (4 * n) 1) ?_
  refine va_sld hx hb hX hbl hbA hS (vp_in_nI (n := 4 * n + 1) (by omega) (by omega)) dL_law_301 ?_
  refine my_topi (y := xs (4 * n + 1)) (congrArg xs (nI_clamp (by omega))) ?_
  refine lv_i2l (v := ((xs (4 * n + 1)).toInt64)) hx hb dL_law_302 rfl ?_
  refine lv_bipush (v := 32) hx hb dL_law_303 (by decide) ?_
  refine lv_lshl (v := (((xs (4 * n + 1)).toInt64) <<< (((32 : Int32)).toInt64 &&& 63))) hx hb dL_law_305 rfl ?_
  refine lv_aload_n hx hb dL_law_306 rfl (lv_at hl 5 rfl) ?_
  refine lv_iload hx hb dL_law_307 (lv_at hl 0 rfl) ?_
  refine lv_iconst (v := 2) hx hb dL_law_309 (by decide) ?_
  refine lv_iadd hx hb dL_law_310 ?_
  refine my_topi (y := nI (4 * n + 2)) (nI_add (4 * n) 2) ?_
  refine va_sld hx hb hX hbl hbA hS (vp_in_nI (n := 4 * n + 2) (by omega) (by omega)) dL_law_311 ?_
  refine my_topi (y := xs (4 * n + 2)) (congrArg xs (nI_clamp (by omega))) ?_
  refine lv_i2l (v := ((xs (4 * n + 2)).toInt64)) hx hb dL_law_312 rfl ?_
  refine lv_ldc2 hx hb hown (hts _ mw_8) dL_law_313 ?_
  refine lv_land hx hb dL_law_316 ?_
  refine lv_lor hx hb dL_law_317 ?_
  have hPc := hP.sub (ws' := (WM cy am r)) [2, 3, 4, 5, 6, 7, 8, 9, 10, 11, 12] rfl
  have hDc := hD.sub (ws' := (WM cy am r)) [2, 3, 4, 5, 6, 7, 8, 9, 10, 11, 12] (by decide) rfl
  have hFc := va_free (wc := (WM cy am r)) hD hS hA [2, 3, 4, 5, 6, 7, 8, 9, 10, 11, 12] rfl
  refine va_calli (va_runV (As := [.long ((((xs (4 * n + 1)).toInt64) <<< (((32 : Int32)).toInt64 &&& 63)) ||| (((xs (4 * n + 2)).toInt64) &&& 4294967295))]) (rest := []) ⟨hx, hb, hml, hown, hts⟩ (k_X8_append l dC dI cy nb am r (((((xs (4 * n + 1)).toInt64) <<< (((32 : Int32)).toInt64 &&& 63)) ||| (((xs (4 * n + 2)).toInt64) &&& 4294967295))) x (r2) H.size e1) (cwV 1 hts (gV mw_123 mw_124 mw_125 mw_5 mw_126) rfl rfl rfl (by decide +kernel) ⟨Nat.le_of_ble_eq_true rfl, Nat.le_of_ble_eq_true rfl⟩) (my_preV hPc hK hDc hE hS hFc (va_recv (q := (RX8, TX8, 23)) hK hP (ci := 8) (q0 := 2) rfl rfl)) rfl rfl hl.1 rfl (lv_room (Nat.le_of_ble_eq_true rfl)) dL_law_318 ⟨by show _ ≤ 601024; omega, by show _ ≤ 7293034; omega⟩) hS (fun q _ h => hFc q h) hFc (fun rm9 u9 t9 H1 locs ht hvm hwm hB hz1 hk1 hS => ?_)
  obtain ⟨hP1, hD1⟩ := hB
  rw [ht] at hP1
  obtain ⟨hP, hD⟩ := va_joinQ (X := XLW cy o3 o4 am f3 f4 r) (cx := (WM cy am r)) (wr := [(o3, eL cy f3), (o4, eD cy f4)]) (w1 := (WM cy am (r2))) (pl := WC cy ad ks g c2) hP hD [2, 3, 4, 5, 6, 7, 8, 9, 10, 11, 12] [0, 1] rfl rfl (by decide) (by decide) hk1 hFc hP1 hD1
  have hP : va_P (dC, dI) vwCl (XLW cy o3 o4 am f3 f4 r2 ++ WC cy ad ks g c2) H1 := hP
  have hD : va_D (fun q : Nat => s.heap.size ≤ q) (XLW cy o3 o4 am f3 f4 r2 ++ WC cy ad ks g c2) := hD
  generalize H1 = H at hP hS ⊢
  clear hP1 hD1 hPc hDc hFc hk1 hz1 hvm ht
  refine my_topi hwm ?_
  refine lv_pop hx hb dL_law_321 rfl ?_
  refine lv_goto (tgt := 1791) hx hb dL_law_322 (by decide) ?_
  refine W.widen (k := cells + 603) (n := slots + 9640) (by omega) (by omega) ?_
  exact K H locs ls ⟨ad, ks, g, c2, r2, f3, f4, hk, e3.mono (by omega) (by omega) (by omega), hP, hD, hS, lv_sub hl [0, 1, 2, 3, 4, 5] rfl⟩
set_option maxHeartbeats 8000000 in
set_option maxRecDepth 100000 in
theorem law_c1 {p : Program} {e : Env} {s : State} {m : MethodId} {below : List Frame} {meth : Method} {c : Code} (l : Launch) (hst : l.stackTraces = false) {b L : Nat} {xs : Nat → Int32} (dC : Nat → ClassId) (dI : Nat → Nat → Nat) (cy : Nat → ClassId) (nb : Nat → Nat) (o3 o4 : Nat) (am : Nat → Nat) {n : Nat} (hn : n < 512) (hL : 4 * n + 4 ≤ L) (hL2 : L ≤ 2048) (C0 : LX p s m meth c b L xs dC dI cy nb) {Q : State → Prop} {H : Heap} {locs : List Loc} {ls : Array Slot} {cells slots : Nat} (hc : cells ≤ 400000) (hs : slots ≤ 6000000) (h : LSt s dC dI cy nb b o3 o4 am n (4 * n) H locs ls) (K : ∀ (H : Heap) (locs : List Loc) (ls : Array Slot), LSt s dC dI cy nb b o3 o4 am (n + 1) (4 * n) H locs ls → W p l e room_1 s m #[Value.ref b] below meth c H locs (cells + 603) (slots + 9640) Q (F0 m 1791 ls [])) : W p l e room_1 s m #[Value.ref b] below meth c H locs cells slots Q (F0 m 325 ls []) := by
  obtain ⟨hx, hb, hr, hml, hown, hts, hX, hbl, hlocks, hK, hE⟩ := C0
  have hA : ∀ q : Nat, s.heap.size ≤ q → (fun q : Nat => s.heap.size ≤ q) q := fun _ h => h
  have hbA : ¬ (fun q : Nat => s.heap.size ≤ q) b := Nat.not_le.mpr hbl
  obtain ⟨ad, ks, g, u, r, f3, f4, hk, hGI, hP, hD, hS, hl⟩ := h
  have h9 : ET (F8_load r) (C7_load g u) (2001 * n) (602 * n + 602) := a_load hGI (by omega) (by omega)
  obtain ⟨x, r2, c2, c2g, e1, e2, e3, e6⟩ := h9
  refine lv_aload_n hx hb dL_law_325 rfl (lv_at hl 4 rfl) ?_
  have hPc : va_P (dC, dI) vwCl (WC cy ad ks g u) H := hP.part (X := XLW cy o3 o4 am f3 f4 r) (cx := []) [] rfl
  have hDc : va_D (fun q : Nat => s.heap.size ≤ q) (WC cy ad ks g u) := hD.part (X := XLW cy o3 o4 am f3 f4 r) (cx := []) [] (by decide) rfl
  have hFc : ∀ q, va_A (WC cy ad ks g u) H.size q → s.heap.size ≤ q := va_freeP (X := XLW cy o3 o4 am f3 f4 r) (cx := []) hD hS hA [] rfl
  obtain ⟨q8, h8⟩ := wc_at (cy := cy) (ad := ad) (ks := ks) (g := g) (u := u) (κ := .cl) hk.1 True.intro
  refine va_calli (va_runV (As := []) (rest := []) ⟨hx, hb, hml, hown, hts⟩ (c_X7_load l dC dI cy nb ad ks g hk u  x c2g c2 H.size e2) (cwV 0 hts (gV mw_133 mw_134 mw_135 mw_2 mw_136) rfl rfl rfl (by decide +kernel) ⟨Nat.le_of_ble_eq_true rfl, Nat.le_of_ble_eq_true rfl⟩) (my_preV hPc hK hDc hE hS hFc (va_recv (q := (RX7, TX7, 12)) hK hPc (ci := 7) (q0 := q8) rfl h8)) rfl rfl hl.1 rfl (lv_room (Nat.le_of_ble_eq_true rfl)) dL_law_326 ⟨by show _ ≤ 601024; omega, by show _ ≤ 7293034; omega⟩) hS (fun q _ h => hFc q h) hFc (fun rw9 u9 t9 H1 locs ht hvm hw hB hz1 hk1 hS => ?_)
  clear h8
  obtain ⟨ad', ks', hkz, axz, hP1, hD1⟩ := hB
  rw [ht] at hP1
  obtain ⟨hP, hD⟩ := va_joinP (X := XLW cy o3 o4 am f3 f4 r) (cx := []) (wr := XLW cy o3 o4 am f3 f4 r) (rx := []) (pl := WC cy ad ks g u) (pl1 := WC cy ad' ks' c2g c2) hP hD [] [0, 1, 2, 3, 4, 5, 6, 7, 8, 9, 10, 11, 12] rfl rfl (by decide) (by decide) hk1 hFc hP1 hD1
  have hP : va_P (dC, dI) vwCl (XLW cy o3 o4 am f3 f4 r ++ WC cy ad' ks' c2g c2) H1 := hP
  have hD : va_D (fun q : Nat => s.heap.size ≤ q) (XLW cy o3 o4 am f3 f4 r ++ WC cy ad' ks' c2g c2) := hD
  generalize H1 = H at hP hS ⊢
  have hl : lv_has ls 10 [(5, .int (nI (4 * n))), (4, .ref o4), (3, .ref o3), (2, .ref (am 0)), (1, .ref (ad' .cl)), (0, .ref b)] := by rw [(axz .cl True.intro).2]; exact hl
  clear hP1 hD1 hPc hDc hFc hk1 hz1 hvm ht
  refine my_topi hw ?_
  refine lv_pop hx hb dL_law_329 rfl ?_
  refine lv_aload_n hx hb dL_law_330 rfl (lv_at hl 3 rfl) ?_
  have hPc := hP.sub (ws' := (WM cy am r)) [2, 3, 4, 5, 6, 7, 8, 9, 10, 11, 12] rfl
  have hDc := hD.sub (ws' := (WM cy am r)) [2, 3, 4, 5, 6, 7, 8, 9, 10, 11, 12] (by decide) rfl
  have hFc := va_free (wc := (WM cy am r)) hD hS hA [2, 3, 4, 5, 6, 7, 8, 9, 10, 11, 12] rfl
  refine va_calli (va_runV (As := []) (rest := []) ⟨hx, hb, hml, hown, hts⟩ (k_X8_load l dC dI cy nb am r  x (r2) H.size e1) (cwV 0 hts (gV mw_410 mw_411 mw_412 mw_5 mw_413) rfl rfl rfl (by decide +kernel) ⟨Nat.le_of_ble_eq_true rfl, Nat.le_of_ble_eq_true rfl⟩) (my_preV hPc hK hDc hE hS hFc (va_recv (q := (RX8, TX8, 23)) hK hP (ci := 8) (q0 := 2) rfl rfl)) rfl rfl hl.1 rfl (lv_room (Nat.le_of_ble_eq_true rfl)) dL_law_331 ⟨by show _ ≤ 601024; omega, by show _ ≤ 7293034; omega⟩) hS (fun q _ h => hFc q h) hFc (fun rm9 u9 t9 H1 locs ht hvm hwm hB hz1 hk1 hS => ?_)
  obtain ⟨hP1, hD1⟩ := hB
  rw [ht] at hP1
  obtain ⟨hP, hD⟩ := va_joinQ (X := XLW cy o3 o4 am f3 f4 r) (cx := (WM cy am r)) (wr := [(o3, eL cy f3), (o4, eD cy f4)]) (w1 := (WM cy am (r2))) (pl := WC cy ad' ks' c2g c2) hP hD [2, 3, 4, 5, 6, 7, 8, 9, 10, 11, 12] [0, 1] rfl rfl (by decide) (by decide) hk1 hFc hP1 hD1
  have hP : va_P (dC, dI) vwCl (XLW cy o3 o4 am f3 f4 r2 ++ WC cy ad' ks' c2g c2) H1 := hP
  have hD : va_D (fun q : Nat => s.heap.size ≤ q) (XLW cy o3 o4 am f3 f4 r2 ++ WC cy ad' ks' c2g c2) := hD
  generalize H1 = H at hP hS ⊢
  clear hP1 hD1 hPc hDc hFc hk1 hz1 hvm ht
  refine my_topi hwm ?_
  refine lv_pop hx hb dL_law_334 rfl ?_
  refine lv_goto (tgt := 1791) hx hb dL_law_335 (by decide) ?_
  refine W.widen (k := cells + 603) (n := slots + 9640) (by omega) (by omega) ?_
  exact K H locs ls ⟨ad', ks', c2g, c2, r2, f3, f4, hkz, e3.mono (by omega) (by omega) (by omega), hP, hD, hS, lv_sub hl [0, 1, 2, 3, 4, 5] rfl⟩
set_option maxHeartbeats 8000000 in
set_option maxRecDepth 100000 in
theorem law_c2 {p : Program} {e : Env} {s : State} {m : MethodId} {below : List Frame} {meth : Method} {c : Code} (l : Launch) (hst : l.stackTraces = false) {b L : Nat} {xs : Nat → Int32} (dC : Nat → ClassId) (dI : Nat → Nat → Nat) (cy : Nat → ClassId) (nb : Nat → Nat) (o3 o4 : Nat) (am : Nat → Nat) {n : Nat} (hn : n < 512) (hL : 4 * n + 4 ≤ L) (hL2 : L ≤ 2048) (C0 : LX p s m meth c b L xs dC dI cy nb) {Q : State → Prop} {H : Heap} {locs : List Loc} {ls : Array Slot} {cells slots : Nat} (hc : cells ≤ 400000) (hs : slots ≤ 6000000) (h : LSt s dC dI cy nb b o3 o4 am n (4 * n) H locs ls) (K : ∀ (H : Heap) (locs : List Loc) (ls : Array Slot), LSt s dC dI cy nb b o3 o4 am (n + 1) (4 * n) H locs ls → W p l e room_1 s m #[Value.ref b] below meth c H locs (cells + 603) (slots + 9640) Q (F0 m 1791 ls [])) : W p l e room_1 s m #[Value.ref b] below meth c H locs cells slots Q (F0 m 338 ls []) := by
  obtain ⟨hx, hb, hr, hml, hown, hts, hX, hbl, hlocks, hK, hE⟩ := C0
  have hA : ∀ q : Nat, s.heap.size ≤ q → (fun q : Nat => s.heap.size ≤ q) q := fun _ h => h
  have hbA : ¬ (fun q : Nat => s.heap.size ≤ q) b := Nat.not_le.mpr hbl
  obtain ⟨ad, ks, g, u, r, f3, f4, hk, hGI, hP, hD, hS, hl⟩ := h
  have h9 : QP (F8_loadError r) (C7_loadError g u) r := q_loadError hGI
  obtain ⟨x, e1, e2⟩ := h9
  refine lv_aload_n hx hb dL_law_338 rfl (lv_at hl 4 rfl) ?_
  have hPc : va_P (dC, dI) vwCl (WC cy ad ks g u) H := hP.part (X := XLW cy o3 o4 am f3 f4 r) (cx := []) [] rfl
  have hDc : va_D (fun q : Nat => s.heap.size ≤ q) (WC cy ad ks g u) := hD.part (X := XLW cy o3 o4 am f3 f4 r) (cx := []) [] (by decide) rfl
  have hFc : ∀ q, va_A (WC cy ad ks g u) H.size q → s.heap.size ≤ q := va_freeP (X := XLW cy o3 o4 am f3 f4 r) (cx := []) hD hS hA [] rfl
  obtain ⟨q8, h8⟩ := wc_at (cy := cy) (ad := ad) (ks := ks) (g := g) (u := u) (κ := .cl) hk.1 True.intro
  refine va_calli (va_runV (As := []) (rest := []) ⟨hx, hb, hml, hown, hts⟩ (c_X7_loadError l dC dI cy nb ad ks g hk u  x H.size e2) (cwV 0 hts (gV mw_544 mw_545 mw_546 mw_2 mw_547) rfl rfl rfl (by decide +kernel) ⟨Nat.le_of_ble_eq_true rfl, Nat.le_of_ble_eq_true rfl⟩) (my_preV hPc hK hDc hE hS hFc (va_recv (q := (RX7, TX7, 12)) hK hPc (ci := 7) (q0 := q8) rfl h8)) rfl rfl hl.1 rfl (lv_room (Nat.le_of_ble_eq_true rfl)) dL_law_339 ⟨by show _ ≤ 601024; omega, by show _ ≤ 7293034; omega⟩) hS (fun q _ h => hFc q h) hFc (fun rw9 u9 t9 H1 locs ht hvm hw hB hz1 hk1 hS => ?_)
  clear h8
  obtain ⟨hP1, hD1⟩ := hB
  rw [ht] at hP1
  obtain ⟨hP, hD⟩ := va_joinP (X := XLW cy o3 o4 am f3 f4 r) (cx := []) (wr := XLW cy o3 o4 am f3 f4 r) (rx := []) (pl := WC cy ad ks g u) (pl1 := WC cy ad ks g u) hP hD [] [0, 1, 2, 3, 4, 5, 6, 7, 8, 9, 10, 11, 12] rfl rfl (by decide) (by decide) hk1 hFc hP1 hD1
  have hP : va_P (dC, dI) vwCl (XLW cy o3 o4 am f3 f4 r ++ WC cy ad ks g u) H1 := hP
  have hD : va_D (fun q : Nat => s.heap.size ≤ q) (XLW cy o3 o4 am f3 f4 r ++ WC cy ad ks g u) := hD
  generalize H1 = H at hP hS ⊢
  clear hP1 hD1 hPc hDc hFc hk1 hz1 hvm ht
  refine my_topi hw ?_
  refine lv_pop hx hb dL_law_342 rfl ?_
  refine lv_aload_n hx hb dL_law_343 rfl (lv_at hl 3 rfl) ?_
  have hPc := hP.sub (ws' := (WM cy am r)) [2, 3, 4, 5, 6, 7, 8, 9, 10, 11, 12] rfl
  have hDc := hD.sub (ws' := (WM cy am r)) [2, 3, 4, 5, 6, 7, 8, 9, 10, 11, 12] (by decide) rfl
  have hFc := va_free (wc := (WM cy am r)) hD hS hA [2, 3, 4, 5, 6, 7, 8, 9, 10, 11, 12] rfl
  refine va_calli (va_runV (As := []) (rest := []) ⟨hx, hb, hml, hown, hts⟩ (k_X8_loadError l dC dI cy nb am r  x (th r 0) H.size e1) (cwV 0 hts (gV mw_548 mw_549 mw_550 mw_5 mw_551) rfl rfl rfl (by decide +kernel) ⟨Nat.le_of_ble_eq_true rfl, Nat.le_of_ble_eq_true rfl⟩) (my_preV hPc hK hDc hE hS hFc (va_recv (q := (RX8, TX8, 23)) hK hP (ci := 8) (q0 := 2) rfl rfl)) rfl rfl hl.1 rfl (lv_room (Nat.le_of_ble_eq_true rfl)) dL_law_344 ⟨by show _ ≤ 601024; omega, by show _ ≤ 7293034; omega⟩) hS (fun q _ h => hFc q h) hFc (fun rm9 u9 t9 H1 locs ht hvm hwm hB hz1 hk1 hS => ?_)
  obtain ⟨hP1, hD1⟩ := hB
  rw [ht] at hP1
  obtain ⟨hP, hD⟩ := va_joinQ (X := XLW cy o3 o4 am f3 f4 r) (cx := (WM cy am r)) (wr := [(o3, eL cy f3), (o4, eD cy f4)]) (w1 := (WM cy am (th r 0))) (pl := WC cy ad ks g u) hP hD [2, 3, 4, 5, 6, 7, 8, 9, 10, 11, 12] [0, 1] rfl rfl (by decide) (by decide) hk1 hFc hP1 hD1
  have hP : va_P (dC, dI) vwCl (XLW cy o3 o4 am f3 f4 (th r 0) ++ WC cy ad ks g u) H1 := hP
  have hD : va_D (fun q : Nat => s.heap.size ≤ q) (XLW cy o3 o4 am f3 f4 (th r 0) ++ WC cy ad ks g u) := hD
  generalize H1 = H at hP hS ⊢
  clear hP1 hD1 hPc hDc hFc hk1 hz1 hvm ht
  refine my_topi hwm ?_
  refine lv_pop hx hb dL_law_347 rfl ?_
  refine lv_goto (tgt := 1791) hx hb dL_law_348 (by decide) ?_
  refine W.widen (k := cells + 603) (n := slots + 9640) (by omega) (by omega) ?_
  exact K H locs ls ⟨ad, ks, g, u, (th r 0), f3, f4, hk, (hGI.thr).mono (by omega) (by omega) (by omega), hP, hD, hS, lv_sub hl [0, 1, 2, 3, 4, 5] rfl⟩
set_option maxHeartbeats 8000000 in
set_option maxRecDepth 100000 in
theorem law_c3 {p : Program} {e : Env} {s : State} {m : MethodId} {below : List Frame} {meth : Method} {c : Code} (l : Launch) (hst : l.stackTraces = false) {b L : Nat} {xs : Nat → Int32} (dC : Nat → ClassId) (dI : Nat → Nat → Nat) (cy : Nat → ClassId) (nb : Nat → Nat) (o3 o4 : Nat) (am : Nat → Nat) {n : Nat} (hn : n < 512) (hL : 4 * n + 4 ≤ L) (hL2 : L ≤ 2048) (C0 : LX p s m meth c b L xs dC dI cy nb) {Q : State → Prop} {H : Heap} {locs : List Loc} {ls : Array Slot} {cells slots : Nat} (hc : cells ≤ 400000) (hs : slots ≤ 6000000) (h : LSt s dC dI cy nb b o3 o4 am n (4 * n) H locs ls) (K : ∀ (H : Heap) (locs : List Loc) (ls : Array Slot), LSt s dC dI cy nb b o3 o4 am (n + 1) (4 * n) H locs ls → W p l e room_1 s m #[Value.ref b] below meth c H locs (cells + 603) (slots + 9640) Q (F0 m 1791 ls [])) : W p l e room_1 s m #[Value.ref b] below meth c H locs cells slots Q (F0 m 351 ls []) := by
  obtain ⟨hx, hb, hr, hml, hown, hts, hX, hbl, hlocks, hK, hE⟩ := C0
  have hA : ∀ q : Nat, s.heap.size ≤ q → (fun q : Nat => s.heap.size ≤ q) q := fun _ h => h
  have hbA : ¬ (fun q : Nat => s.heap.size ≤ q) b := Nat.not_le.mpr hbl
  obtain ⟨ad, ks, g, u, r, f3, f4, hk, hGI, hP, hD, hS, hl⟩ := h
  have h9 : QP (F8_loadStatement r) (C7_loadStatement g u) r := q_loadStatement hGI
  obtain ⟨x, e1, e2⟩ := h9
  refine lv_aload_n hx hb dL_law_351 rfl (lv_at hl 4 rfl) ?_
  have hPc : va_P (dC, dI) vwCl (WC cy ad ks g u) H := hP.part (X := XLW cy o3 o4 am f3 f4 r) (cx := []) [] rfl
  have hDc : va_D (fun q : Nat => s.heap.size ≤ q) (WC cy ad ks g u) := hD.part (X := XLW cy o3 o4 am f3 f4 r) (cx := []) [] (by decide) rfl
  have hFc : ∀ q, va_A (WC cy ad ks g u) H.size q → s.heap.size ≤ q := va_freeP (X := XLW cy o3 o4 am f3 f4 r) (cx := []) hD hS hA [] rfl
  obtain ⟨q8, h8⟩ := wc_at (cy := cy) (ad := ad) (ks := ks) (g := g) (u := u) (κ := .cl) hk.1 True.intro
  refine va_calli (va_runV (As := []) (rest := []) ⟨hx, hb, hml, hown, hts⟩ (c_X7_loadStatement l dC dI cy nb ad ks g hk u  x H.size e2) (cwV 0 hts (gV mw_552 mw_553 mw_554 mw_2 mw_555) rfl rfl rfl (by decide +kernel) ⟨Nat.le_of_ble_eq_true rfl, Nat.le_of_ble_eq_true rfl⟩) (my_preV hPc hK hDc hE hS hFc (va_recv (q := (RX7, TX7, 12)) hK hPc (ci := 7) (q0 := q8) rfl h8)) rfl rfl hl.1 rfl (lv_room (Nat.le_of_ble_eq_true rfl)) dL_law_352 ⟨by show _ ≤ 601024; omega, by show _ ≤ 7293034; omega⟩) hS (fun q _ h => hFc q h) hFc (fun rw9 u9 t9 H1 locs ht hvm hw hB hz1 hk1 hS => ?_)
  clear h8
  obtain ⟨hP1, hD1⟩ := hB
  rw [ht] at hP1
  obtain ⟨hP, hD⟩ := va_joinP (X := XLW cy o3 o4 am f3 f4 r) (cx := []) (wr := XLW cy o3 o4 am f3 f4 r) (rx := []) (pl := WC cy ad ks g u) (pl1 := WC cy ad ks g u) hP hD [] [0, 1, 2, 3, 4, 5, 6, 7, 8, 9, 10, 11, 12] rfl rfl (by decide) (by decide) hk1 hFc hP1 hD1
  have hP : va_P (dC, dI) vwCl (XLW cy o3 o4 am f3 f4 r ++ WC cy ad ks g u) H1 := hP
  have hD : va_D (fun q : Nat => s.heap.size ≤ q) (XLW cy o3 o4 am f3 f4 r ++ WC cy ad ks g u) := hD
  generalize H1 = H at hP hS ⊢
  clear hP1 hD1 hPc hDc hFc hk1 hz1 hvm ht
  refine my_topi hw ?_
  refine lv_pop hx hb dL_law_355 rfl ?_
  refine lv_aload_n hx hb dL_law_356 rfl (lv_at hl 3 rfl) ?_
  have hPc := hP.sub (ws' := (WM cy am r)) [2, 3, 4, 5, 6, 7, 8, 9, 10, 11, 12] rfl
  have hDc := hD.sub (ws' := (WM cy am r)) [2, 3, 4, 5, 6, 7, 8, 9, 10, 11, 12] (by decide) rfl
  have hFc := va_free (wc := (WM cy am r)) hD hS hA [2, 3, 4, 5, 6, 7, 8, 9, 10, 11, 12] rfl
  refine va_calli (va_runV (As := []) (rest := []) ⟨hx, hb, hml, hown, hts⟩ (k_X8_loadStatement l dC dI cy nb am r  x (th r 0) H.size e1) (cwV 0 hts (gV mw_556 mw_557 mw_558 mw_5 mw_559) rfl rfl rfl (by decide +kernel) ⟨Nat.le_of_ble_eq_true rfl, Nat.le_of_ble_eq_true rfl⟩) (my_preV hPc hK hDc hE hS hFc (va_recv (q := (RX8, TX8, 23)) hK hP (ci := 8) (q0 := 2) rfl rfl)) rfl rfl hl.1 rfl (lv_room (Nat.le_of_ble_eq_true rfl)) dL_law_357 ⟨by show _ ≤ 601024; omega, by show _ ≤ 7293034; omega⟩) hS (fun q _ h => hFc q h) hFc (fun rm9 u9 t9 H1 locs ht hvm hwm hB hz1 hk1 hS => ?_)
  obtain ⟨hP1, hD1⟩ := hB
  rw [ht] at hP1
  obtain ⟨hP, hD⟩ := va_joinQ (X := XLW cy o3 o4 am f3 f4 r) (cx := (WM cy am r)) (wr := [(o3, eL cy f3), (o4, eD cy f4)]) (w1 := (WM cy am (th r 0))) (pl := WC cy ad ks g u) hP hD [2, 3, 4, 5, 6, 7, 8, 9, 10, 11, 12] [0, 1] rfl rfl (by decide) (by decide) hk1 hFc hP1 hD1
  have hP : va_P (dC, dI) vwCl (XLW cy o3 o4 am f3 f4 (th r 0) ++ WC cy ad ks g u) H1 := hP
  have hD : va_D (fun q : Nat => s.heap.size ≤ q) (XLW cy o3 o4 am f3 f4 (th r 0) ++ WC cy ad ks g u) := hD
  generalize H1 = H at hP hS ⊢
  clear hP1 hD1 hPc hDc hFc hk1 hz1 hvm ht
  refine my_topi hwm ?_
  refine lv_pop hx hb dL_law_360 rfl ?_
  refine lv_goto (tgt := 1791) hx hb dL_law_361 (by decide) ?_
  refine W.widen (k := cells + 603) (n := slots + 9640) (by omega) (by omega) ?_
  exact K H locs ls ⟨ad, ks, g, u, (th r 0), f3, f4, hk, (hGI.thr).mono (by omega) (by omega) (by omega), hP, hD, hS, lv_sub hl [0, 1, 2, 3, 4, 5] rfl⟩
set_option maxHeartbeats 8000000 in
set_option maxRecDepth 100000 in
theorem law_c4 {p : Program} {e : Env} {s : State} {m : MethodId} {below : List Frame} {meth : Method} {c : Code} (l : Launch) (hst : l.stackTraces = false) {b L : Nat} {xs : Nat → Int32} (dC : Nat → ClassId) (dI : Nat → Nat → Nat) (cy : Nat → ClassId) (nb : Nat → Nat) (o3 o4 : Nat) (am : Nat → Nat) {n : Nat} (hn : n < 512) (hL : 4 * n + 4 ≤ L) (hL2 : L ≤ 2048) (C0 : LX p s m meth c b L xs dC dI cy nb) {Q : State → Prop} {H : Heap} {locs : List Loc} {ls : Array Slot} {cells slots : Nat} (hc : cells ≤ 400000) (hs : slots ≤ 6000000) (h : LSt s dC dI cy nb b o3 o4 am n (4 * n) H locs ls) (K : ∀ (H : Heap) (locs : List Loc) (ls : Array Slot), LSt s dC dI cy nb b o3 o4 am (n + 1) (4 * n) H locs ls → W p l e room_1 s m #[Value.ref b] below meth c H locs (cells + 603) (slots + 9640) Q (F0 m 1791 ls [])) : W p l e room_1 s m #[Value.ref b] below meth c H locs cells slots Q (F0 m 364 ls []) := by
  obtain ⟨hx, hb, hr, hml, hown, hts, hX, hbl, hlocks, hK, hE⟩ := C0
  have hA : ∀ q : Nat, s.heap.size ≤ q → (fun q : Nat => s.heap.size ≤ q) q := fun _ h => h
  have hbA : ¬ (fun q : Nat => s.heap.size ≤ q) b := Nat.not_le.mpr hbl
  obtain ⟨ad, ks, g, u, r, f3, f4, hk, hGI, hP, hD, hS, hl⟩ := h
  have h9 : QT (F8_count r (xs (4 * n + 1))) (C7_count g u (xs (4 * n + 1))) r 1 := q_count hGI
  rcases h9 with ⟨x, e1, e2⟩ | ⟨k, k1, k2, e1, e2⟩
  · refine lv_aload_n hx hb dL_law_364 rfl (lv_at hl 4 rfl) ?_
    refine lv_aload_n hx hb dL_law_365 rfl (lv_at hl 5 rfl) ?_
    refine lv_iload hx hb dL_law_366 (lv_at hl 0 rfl) ?_
    refine lv_iconst (v := 1) hx hb dL_law_368 (by decide) ?_
    refine lv_iadd hx hb dL_law_369 ?_
    refine my_topi (y := nI (4 * n + 1)) (nI_add (4 * n) 1) ?_
    refine va_sld hx hb hX hbl hbA hS (vp_in_nI (n := 4 * n + 1) (by omega) (by omega)) dL_law_370 ?_
    refine my_topi (y := xs (4 * n + 1)) (congrArg xs (nI_clamp (by omega))) ?_
    refine lv_aload_n hx hb dL_law_371 rfl (lv_at hl 2 rfl) ?_
    have hPc : va_P (dC, dI) vwCl ([(o3, eL cy f3)] ++ WC cy ad ks g u) H := hP.part (X := XLW cy o3 o4 am f3 f4 r) (cx := [(o3, eL cy f3)]) [0] rfl
    have hDc : va_D (fun q : Nat => s.heap.size ≤ q) ([(o3, eL cy f3)] ++ WC cy ad ks g u) := hD.part (X := XLW cy o3 o4 am f3 f4 r) (cx := [(o3, eL cy f3)]) [0] (by decide) rfl
    have hFc : ∀ q, va_A ([(o3, eL cy f3)] ++ WC cy ad ks g u) H.size q → s.heap.size ≤ q := va_freeP (X := XLW cy o3 o4 am f3 f4 r) (cx := [(o3, eL cy f3)]) hD hS hA [0] rfl
    refine vx_calli (vx_runSX (As := [.ref (ad .cl), .int (xs (4 * n + 1)), .ref o3]) (rest := []) ⟨hx, hb, hml, hown, hts⟩ (cn_count l hst dC dI cy nb ad ks g hk u ((xs (4 * n + 1))) o3 f3 x H.size e2) (vx_cwSW 3 hts (gSH mw_560 mw_561 mw_562 mw_563) rfl rfl rfl (by decide +kernel) ⟨Nat.le_of_ble_eq_true rfl, Nat.le_of_ble_eq_true rfl⟩) (my_preS hPc hK hDc hE hS hFc) rfl rfl hl.1 rfl (lv_room (Nat.le_of_ble_eq_true rfl)) dL_law_372 ⟨by show _ ≤ 601024; omega, by show _ ≤ 7293034; omega⟩) hS (fun q _ h => hFc q h) hFc (fun q _ h => hFc q h) (fun E9 ce9 q9 u9 t9 H1 locs1 ht9 hvm9 hp9 _ _ _ _ _ _ _ => hp9.elim) (fun rw9 u9 t9 H1 locs ht hvm hw hB hz1 hk1 hS => ?_)
    obtain ⟨hP1, hD1⟩ := hB
    rw [ht] at hP1
    obtain ⟨hP, hD⟩ := va_joinP (X := XLW cy o3 o4 am f3 f4 r) (cx := [(o3, eL cy f3)]) (wr := ((o4, eD cy f4) :: WM cy am r)) (rx := [(o3, eL cy (vp_updL f3 ((0 : Int32).toNatClampNeg) (x.toInt64)))]) (pl := WC cy ad ks g u) (pl1 := WC cy ad ks g u) hP hD [0] [1, 2, 3, 4, 5, 6, 7, 8, 9, 10, 11, 12] rfl rfl (by decide) (by decide) hk1 hFc hP1 hD1
    have hP : va_P (dC, dI) vwCl (XLW cy o3 o4 am (vp_updL f3 ((0 : Int32).toNatClampNeg) (x.toInt64)) f4 r ++ WC cy ad ks g u) H1 := hP.part (X := ((o4, eD cy f4) :: WM cy am r) ++ [(o3, eL cy (vp_updL f3 ((0 : Int32).toNatClampNeg) (x.toInt64)))]) (cx := XLW cy o3 o4 am (vp_updL f3 ((0 : Int32).toNatClampNeg) (x.toInt64)) f4 r) [12, 0, 1, 2, 3, 4, 5, 6, 7, 8, 9, 10, 11] rfl
    have hD : va_D (fun q : Nat => s.heap.size ≤ q) (XLW cy o3 o4 am (vp_updL f3 ((0 : Int32).toNatClampNeg) (x.toInt64)) f4 r ++ WC cy ad ks g u) := hD.part (X := ((o4, eD cy f4) :: WM cy am r) ++ [(o3, eL cy (vp_updL f3 ((0 : Int32).toNatClampNeg) (x.toInt64)))]) (cx := XLW cy o3 o4 am (vp_updL f3 ((0 : Int32).toNatClampNeg) (x.toInt64)) f4 r) [12, 0, 1, 2, 3, 4, 5, 6, 7, 8, 9, 10, 11] (by decide) rfl
    generalize H1 = H at hP hS ⊢
    clear hP1 hD1 hPc hDc hFc hk1 hz1 hvm ht
    refine lv_istore (lv' := [(6, .int rw9), (5, .int (nI (4 * n))), (4, .ref o4), (3, .ref o3), (2, .ref (am 0)), (1, .ref (ad .cl)), (0, .ref b)]) hx hb dL_law_375 hl (by decide) rfl (fun ls hl => ?_)
    refine lv_aload_n hx hb dL_law_377 rfl (lv_at hl 4 rfl) ?_
    refine lv_aload_n hx hb dL_law_378 rfl (lv_at hl 6 rfl) ?_
    refine lv_iload hx hb dL_law_379 (lv_at hl 1 rfl) ?_
    refine lv_iconst (v := 1) hx hb dL_law_381 (by decide) ?_
    refine lv_iadd hx hb dL_law_382 ?_
    refine my_topi (y := nI (4 * n + 1)) (nI_add (4 * n) 1) ?_
    refine va_sld hx hb hX hbl hbA hS (vp_in_nI (n := 4 * n + 1) (by omega) (by omega)) dL_law_383 ?_
    refine my_topi (y := xs (4 * n + 1)) (congrArg xs (nI_clamp (by omega))) ?_
    have hPc := hP.sub (ws' := (WM cy am r)) [2, 3, 4, 5, 6, 7, 8, 9, 10, 11, 12] rfl
    have hDc := hD.sub (ws' := (WM cy am r)) [2, 3, 4, 5, 6, 7, 8, 9, 10, 11, 12] (by decide) rfl
    have hFc := va_free (wc := (WM cy am r)) hD hS hA [2, 3, 4, 5, 6, 7, 8, 9, 10, 11, 12] rfl
    refine va_calli (va_runV (As := [.int (xs (4 * n + 1))]) (rest := []) ⟨hx, hb, hml, hown, hts⟩ (k_X8_count l dC dI cy nb am r ((xs (4 * n + 1))) x (th r 0) H.size e1) (cwV 1 hts (gV mw_575 mw_576 mw_577 mw_5 mw_578) rfl rfl rfl (by decide +kernel) ⟨Nat.le_of_ble_eq_true rfl, Nat.le_of_ble_eq_true rfl⟩) (my_preV hPc hK hDc hE hS hFc (va_recv (q := (RX8, TX8, 23)) hK hP (ci := 8) (q0 := 2) rfl rfl)) rfl rfl hl.1 rfl (lv_room (Nat.le_of_ble_eq_true rfl)) dL_law_384 ⟨by show _ ≤ 601024; omega, by show _ ≤ 7293034; omega⟩) hS (fun q _ h => hFc q h) hFc (fun rm9 u9 t9 H1 locs ht hvm hwm hB hz1 hk1 hS => ?_)
    obtain ⟨hP1, hD1⟩ := hB
    rw [ht] at hP1
    obtain ⟨hP, hD⟩ := va_joinQ (X := XLW cy o3 o4 am (vp_updL f3 ((0 : Int32).toNatClampNeg) (x.toInt64)) f4 r) (cx := (WM cy am r)) (wr := [(o3, eL cy (vp_updL f3 ((0 : Int32).toNatClampNeg) (x.toInt64))), (o4, eD cy f4)]) (w1 := (WM cy am (th r 0))) (pl := WC cy ad ks g u) hP hD [2, 3, 4, 5, 6, 7, 8, 9, 10, 11, 12] [0, 1] rfl rfl (by decide) (by decide) hk1 hFc hP1 hD1
    have hP : va_P (dC, dI) vwCl (XLW cy o3 o4 am (vp_updL f3 ((0 : Int32).toNatClampNeg) (x.toInt64)) f4 (th r 0) ++ WC cy ad ks g u) H1 := hP
    have hD : va_D (fun q : Nat => s.heap.size ≤ q) (XLW cy o3 o4 am (vp_updL f3 ((0 : Int32).toNatClampNeg) (x.toInt64)) f4 (th r 0) ++ WC cy ad ks g u) := hD
    generalize H1 = H at hP hS ⊢
    clear hP1 hD1 hPc hDc hFc hk1 hz1 hvm ht
    refine my_topi hwm ?_
    refine lv_istore (lv' := [(7, .int x), (6, .int rw9), (5, .int (nI (4 * n))), (4, .ref o4), (3, .ref o3), (2, .ref (am 0)), (1, .ref (ad .cl)), (0, .ref b)]) hx hb dL_law_387 hl (by decide) rfl (fun ls hl => ?_)
    refine lv_goto (tgt := 1791) hx hb dL_law_389 (by decide) ?_
    refine W.widen (k := cells + 603) (n := slots + 9640) (by omega) (by omega) ?_
    exact K H locs ls ⟨ad, ks, g, u, (th r 0), (vp_updL f3 ((0 : Int32).toNatClampNeg) (x.toInt64)), f4, hk, (hGI.thr).mono (by omega) (by omega) (by omega), hP, hD, hS, lv_sub hl [2, 3, 4, 5, 6, 7] rfl⟩
  · have e2 : C7_count g u (xs (4 * n + 1)) = some (.inl (nI (k + 1))) := e2
    generalize hxx : (nI (k + 1)) = xk at e2
    have hxk : ¬ xk = 1 := by rw [← hxx]; exact nI_ne (b := 1) (by omega) (by omega) (by omega)
    refine lv_aload_n hx hb dL_law_364 rfl (lv_at hl 4 rfl) ?_
    refine lv_aload_n hx hb dL_law_365 rfl (lv_at hl 5 rfl) ?_
    refine lv_iload hx hb dL_law_366 (lv_at hl 0 rfl) ?_
    refine lv_iconst (v := 1) hx hb dL_law_368 (by decide) ?_
    refine lv_iadd hx hb dL_law_369 ?_
    refine my_topi (y := nI (4 * n + 1)) (nI_add (4 * n) 1) ?_
    refine va_sld hx hb hX hbl hbA hS (vp_in_nI (n := 4 * n + 1) (by omega) (by omega)) dL_law_370 ?_
    refine my_topi (y := xs (4 * n + 1)) (congrArg xs (nI_clamp (by omega))) ?_
    refine lv_aload_n hx hb dL_law_371 rfl (lv_at hl 2 rfl) ?_
    have hPc : va_P (dC, dI) vwCl ([(o3, eL cy f3)] ++ WC cy ad ks g u) H := hP.part (X := XLW cy o3 o4 am f3 f4 r) (cx := [(o3, eL cy f3)]) [0] rfl
    have hDc : va_D (fun q : Nat => s.heap.size ≤ q) ([(o3, eL cy f3)] ++ WC cy ad ks g u) := hD.part (X := XLW cy o3 o4 am f3 f4 r) (cx := [(o3, eL cy f3)]) [0] (by decide) rfl
    have hFc : ∀ q, va_A ([(o3, eL cy f3)] ++ WC cy ad ks g u) H.size q → s.heap.size ≤ q := va_freeP (X := XLW cy o3 o4 am f3 f4 r) (cx := [(o3, eL cy f3)]) hD hS hA [0] rfl
    refine vx_calli (vx_runSX (As := [.ref (ad .cl), .int (xs (4 * n + 1)), .ref o3]) (rest := []) ⟨hx, hb, hml, hown, hts⟩ (ct_count l hst dC dI cy nb ad ks g hk u ((xs (4 * n + 1))) o3 f3 xk H.size hxk e2) (vx_cwSW 3 hts (gSH mw_560 mw_561 mw_562 mw_563) rfl rfl rfl (by decide +kernel) ⟨Nat.le_of_ble_eq_true rfl, Nat.le_of_ble_eq_true rfl⟩) (my_preS hPc hK hDc hE hS hFc) rfl rfl hl.1 rfl (lv_room (Nat.le_of_ble_eq_true rfl)) dL_law_372 ⟨by show _ ≤ 601024; omega, by show _ ≤ 7293034; omega⟩) hS (fun q _ h => hFc q h) hFc (fun q _ h => hFc q h) (fun E9 ce9 q9 u9 t9 H1 locs1 ht9 hvm9 hp9 _ _ _ _ _ _ _ => hp9.elim) (fun rw9 u9 t9 H1 locs ht hvm hw hB hz1 hk1 hS => ?_)
    obtain ⟨hP1, hD1⟩ := hB
    rw [ht] at hP1
    obtain ⟨hP, hD⟩ := va_joinP (X := XLW cy o3 o4 am f3 f4 r) (cx := [(o3, eL cy f3)]) (wr := ((o4, eD cy f4) :: WM cy am r)) (rx := [(o3, eL cy f3)]) (pl := WC cy ad ks g u) (pl1 := WC cy ad ks g u) hP hD [0] [1, 2, 3, 4, 5, 6, 7, 8, 9, 10, 11, 12] rfl rfl (by decide) (by decide) hk1 hFc hP1 hD1
    have hP : va_P (dC, dI) vwCl (XLW cy o3 o4 am f3 f4 r ++ WC cy ad ks g u) H1 := hP.part (X := ((o4, eD cy f4) :: WM cy am r) ++ [(o3, eL cy f3)]) (cx := XLW cy o3 o4 am f3 f4 r) [12, 0, 1, 2, 3, 4, 5, 6, 7, 8, 9, 10, 11] rfl
    have hD : va_D (fun q : Nat => s.heap.size ≤ q) (XLW cy o3 o4 am f3 f4 r ++ WC cy ad ks g u) := hD.part (X := ((o4, eD cy f4) :: WM cy am r) ++ [(o3, eL cy f3)]) (cx := XLW cy o3 o4 am f3 f4 r) [12, 0, 1, 2, 3, 4, 5, 6, 7, 8, 9, 10, 11] (by decide) rfl
    generalize H1 = H at hP hS ⊢
    clear hP1 hD1 hPc hDc hFc hk1 hz1 hvm ht
    refine lv_istore (lv' := [(6, .int rw9), (5, .int (nI (4 * n))), (4, .ref o4), (3, .ref o3), (2, .ref (am 0)), (1, .ref (ad .cl)), (0, .ref b)]) hx hb dL_law_375 hl (by decide) rfl (fun ls hl => ?_)
    refine lv_aload_n hx hb dL_law_377 rfl (lv_at hl 4 rfl) ?_
    refine lv_aload_n hx hb dL_law_378 rfl (lv_at hl 6 rfl) ?_
    refine lv_iload hx hb dL_law_379 (lv_at hl 1 rfl) ?_
    refine lv_iconst (v := 1) hx hb dL_law_381 (by decide) ?_
    refine lv_iadd hx hb dL_law_382 ?_
    refine my_topi (y := nI (4 * n + 1)) (nI_add (4 * n) 1) ?_
    refine va_sld hx hb hX hbl hbA hS (vp_in_nI (n := 4 * n + 1) (by omega) (by omega)) dL_law_383 ?_
    refine my_topi (y := xs (4 * n + 1)) (congrArg xs (nI_clamp (by omega))) ?_
    have hPc := hP.sub (ws' := (WM cy am r)) [2, 3, 4, 5, 6, 7, 8, 9, 10, 11, 12] rfl
    have hDc := hD.sub (ws' := (WM cy am r)) [2, 3, 4, 5, 6, 7, 8, 9, 10, 11, 12] (by decide) rfl
    have hFc := va_free (wc := (WM cy am r)) hD hS hA [2, 3, 4, 5, 6, 7, 8, 9, 10, 11, 12] rfl
    refine va_calli (va_runV (As := [.int (xs (4 * n + 1))]) (rest := []) ⟨hx, hb, hml, hown, hts⟩ (k_X8_count l dC dI cy nb am r ((xs (4 * n + 1))) (nI 0) (th r k) H.size e1) (cwV 1 hts (gV mw_575 mw_576 mw_577 mw_5 mw_578) rfl rfl rfl (by decide +kernel) ⟨Nat.le_of_ble_eq_true rfl, Nat.le_of_ble_eq_true rfl⟩) (my_preV hPc hK hDc hE hS hFc (va_recv (q := (RX8, TX8, 23)) hK hP (ci := 8) (q0 := 2) rfl rfl)) rfl rfl hl.1 rfl (lv_room (Nat.le_of_ble_eq_true rfl)) dL_law_384 ⟨by show _ ≤ 601024; omega, by show _ ≤ 7293034; omega⟩) hS (fun q _ h => hFc q h) hFc (fun rm9 u9 t9 H1 locs ht hvm hwm hB hz1 hk1 hS => ?_)
    obtain ⟨hP1, hD1⟩ := hB
    rw [ht] at hP1
    obtain ⟨hP, hD⟩ := va_joinQ (X := XLW cy o3 o4 am f3 f4 r) (cx := (WM cy am r)) (wr := [(o3, eL cy f3), (o4, eD cy f4)]) (w1 := (WM cy am (th r k))) (pl := WC cy ad ks g u) hP hD [2, 3, 4, 5, 6, 7, 8, 9, 10, 11, 12] [0, 1] rfl rfl (by decide) (by decide) hk1 hFc hP1 hD1
    have hP : va_P (dC, dI) vwCl (XLW cy o3 o4 am f3 f4 (th r k) ++ WC cy ad ks g u) H1 := hP
    have hD : va_D (fun q : Nat => s.heap.size ≤ q) (XLW cy o3 o4 am f3 f4 (th r k) ++ WC cy ad ks g u) := hD
    generalize H1 = H at hP hS ⊢
    clear hP1 hD1 hPc hDc hFc hk1 hz1 hvm ht
    refine my_topi hwm ?_
    refine lv_istore (lv' := [(7, .int (nI 0)), (6, .int rw9), (5, .int (nI (4 * n))), (4, .ref o4), (3, .ref o3), (2, .ref (am 0)), (1, .ref (ad .cl)), (0, .ref b)]) hx hb dL_law_387 hl (by decide) rfl (fun ls hl => ?_)
    refine lv_goto (tgt := 1791) hx hb dL_law_389 (by decide) ?_
    refine W.widen (k := cells + 603) (n := slots + 9640) (by omega) (by omega) ?_
    exact K H locs ls ⟨ad, ks, g, u, (th r k), f3, f4, hk, (hGI.thr).mono (by omega) (by omega) (by omega), hP, hD, hS, lv_sub hl [2, 3, 4, 5, 6, 7] rfl⟩
set_option maxHeartbeats 8000000 in
set_option maxRecDepth 100000 in
theorem law_c5 {p : Program} {e : Env} {s : State} {m : MethodId} {below : List Frame} {meth : Method} {c : Code} (l : Launch) (hst : l.stackTraces = false) {b L : Nat} {xs : Nat → Int32} (dC : Nat → ClassId) (dI : Nat → Nat → Nat) (cy : Nat → ClassId) (nb : Nat → Nat) (o3 o4 : Nat) (am : Nat → Nat) {n : Nat} (hn : n < 512) (hL : 4 * n + 4 ≤ L) (hL2 : L ≤ 2048) (C0 : LX p s m meth c b L xs dC dI cy nb) {Q : State → Prop} {H : Heap} {locs : List Loc} {ls : Array Slot} {cells slots : Nat} (hc : cells ≤ 400000) (hs : slots ≤ 6000000) (h : LSt s dC dI cy nb b o3 o4 am n (4 * n) H locs ls) (K : ∀ (H : Heap) (locs : List Loc) (ls : Array Slot), LSt s dC dI cy nb b o3 o4 am (n + 1) (4 * n) H locs ls → W p l e room_1 s m #[Value.ref b] below meth c H locs (cells + 603) (slots + 9640) Q (F0 m 1791 ls [])) : W p l e room_1 s m #[Value.ref b] below meth c H locs cells slots Q (F0 m 392 ls []) := by
  obtain ⟨hx, hb, hr, hml, hown, hts, hX, hbl, hlocks, hK, hE⟩ := C0
  have hA : ∀ q : Nat, s.heap.size ≤ q → (fun q : Nat => s.heap.size ≤ q) q := fun _ h => h
  have hbA : ¬ (fun q : Nat => s.heap.size ≤ q) b := Nat.not_le.mpr hbl
  obtain ⟨ad, ks, g, u, r, f3, f4, hk, hGI, hP, hD, hS, hl⟩ := h
  have h9 : QT (F8_setting r (xs (4 * n + 1))) (C7_setting g u (xs (4 * n + 1))) r 1 := q_setting hGI
  rcases h9 with ⟨x, e1, e2⟩ | ⟨k, k1, k2, e1, e2⟩
  · refine lv_aload_n hx hb dL_law_392 rfl (lv_at hl 4 rfl) ?_
    refine lv_aload_n hx hb dL_law_393 rfl (lv_at hl 5 rfl) ?_
    refine lv_iload hx hb dL_law_394 (lv_at hl 0 rfl) ?_
    refine lv_iconst (v := 1) hx hb dL_law_396 (by decide) ?_
    refine lv_iadd hx hb dL_law_397 ?_
    refine my_topi (y := nI (4 * n + 1)) (nI_add (4 * n) 1) ?_
    refine va_sld hx hb hX hbl hbA hS (vp_in_nI (n := 4 * n + 1) (by omega) (by omega)) dL_law_398 ?_
    refine my_topi (y := xs (4 * n + 1)) (congrArg xs (nI_clamp (by omega))) ?_
    refine lv_aload_n hx hb dL_law_399 rfl (lv_at hl 2 rfl) ?_
    have hPc : va_P (dC, dI) vwCl ([(o3, eL cy f3)] ++ WC cy ad ks g u) H := hP.part (X := XLW cy o3 o4 am f3 f4 r) (cx := [(o3, eL cy f3)]) [0] rfl
    have hDc : va_D (fun q : Nat => s.heap.size ≤ q) ([(o3, eL cy f3)] ++ WC cy ad ks g u) := hD.part (X := XLW cy o3 o4 am f3 f4 r) (cx := [(o3, eL cy f3)]) [0] (by decide) rfl
    have hFc : ∀ q, va_A ([(o3, eL cy f3)] ++ WC cy ad ks g u) H.size q → s.heap.size ≤ q := va_freeP (X := XLW cy o3 o4 am f3 f4 r) (cx := [(o3, eL cy f3)]) hD hS hA [0] rfl
    refine vx_calli (vx_runSX (As := [.ref (ad .cl), .int (xs (4 * n + 1)), .ref o3]) (rest := []) ⟨hx, hb, hml, hown, hts⟩ (cn_setting l hst dC dI cy nb ad ks g hk u ((xs (4 * n + 1))) o3 f3 x H.size e2) (vx_cwSW 3 hts (gSH mw_592 mw_593 mw_562 mw_594) rfl rfl rfl (by decide +kernel) ⟨Nat.le_of_ble_eq_true rfl, Nat.le_of_ble_eq_true rfl⟩) (my_preS hPc hK hDc hE hS hFc) rfl rfl hl.1 rfl (lv_room (Nat.le_of_ble_eq_true rfl)) dL_law_400 ⟨by show _ ≤ 601024; omega, by show _ ≤ 7293034; omega⟩) hS (fun q _ h => hFc q h) hFc (fun q _ h => hFc q h) (fun E9 ce9 q9 u9 t9 H1 locs1 ht9 hvm9 hp9 _ _ _ _ _ _ _ => hp9.elim) (fun rw9 u9 t9 H1 locs ht hvm hw hB hz1 hk1 hS => ?_)
    obtain ⟨hP1, hD1⟩ := hB
    rw [ht] at hP1
    obtain ⟨hP, hD⟩ := va_joinP (X := XLW cy o3 o4 am f3 f4 r) (cx := [(o3, eL cy f3)]) (wr := ((o4, eD cy f4) :: WM cy am r)) (rx := [(o3, eL cy (vp_updL f3 ((0 : Int32).toNatClampNeg) (x.toInt64)))]) (pl := WC cy ad ks g u) (pl1 := WC cy ad ks g u) hP hD [0] [1, 2, 3, 4, 5, 6, 7, 8, 9, 10, 11, 12] rfl rfl (by decide) (by decide) hk1 hFc hP1 hD1
    have hP : va_P (dC, dI) vwCl (XLW cy o3 o4 am (vp_updL f3 ((0 : Int32).toNatClampNeg) (x.toInt64)) f4 r ++ WC cy ad ks g u) H1 := hP.part (X := ((o4, eD cy f4) :: WM cy am r) ++ [(o3, eL cy (vp_updL f3 ((0 : Int32).toNatClampNeg) (x.toInt64)))]) (cx := XLW cy o3 o4 am (vp_updL f3 ((0 : Int32).toNatClampNeg) (x.toInt64)) f4 r) [12, 0, 1, 2, 3, 4, 5, 6, 7, 8, 9, 10, 11] rfl
    have hD : va_D (fun q : Nat => s.heap.size ≤ q) (XLW cy o3 o4 am (vp_updL f3 ((0 : Int32).toNatClampNeg) (x.toInt64)) f4 r ++ WC cy ad ks g u) := hD.part (X := ((o4, eD cy f4) :: WM cy am r) ++ [(o3, eL cy (vp_updL f3 ((0 : Int32).toNatClampNeg) (x.toInt64)))]) (cx := XLW cy o3 o4 am (vp_updL f3 ((0 : Int32).toNatClampNeg) (x.toInt64)) f4 r) [12, 0, 1, 2, 3, 4, 5, 6, 7, 8, 9, 10, 11] (by decide) rfl
    generalize H1 = H at hP hS ⊢
    clear hP1 hD1 hPc hDc hFc hk1 hz1 hvm ht
    refine lv_istore (lv' := [(6, .int rw9), (5, .int (nI (4 * n))), (4, .ref o4), (3, .ref o3), (2, .ref (am 0)), (1, .ref (ad .cl)), (0, .ref b)]) hx hb dL_law_403 hl (by decide) rfl (fun ls hl => ?_)
    refine lv_aload_n hx hb dL_law_405 rfl (lv_at hl 4 rfl) ?_
    refine lv_aload_n hx hb dL_law_406 rfl (lv_at hl 6 rfl) ?_
    refine lv_iload hx hb dL_law_407 (lv_at hl 1 rfl) ?_
    refine lv_iconst (v := 1) hx hb dL_law_409 (by decide) ?_
    refine lv_iadd hx hb dL_law_410 ?_
    refine my_topi (y := nI (4 * n + 1)) (nI_add (4 * n) 1) ?_
    refine va_sld hx hb hX hbl hbA hS (vp_in_nI (n := 4 * n + 1) (by omega) (by omega)) dL_law_411 ?_
    refine my_topi (y := xs (4 * n + 1)) (congrArg xs (nI_clamp (by omega))) ?_
    have hPc := hP.sub (ws' := (WM cy am r)) [2, 3, 4, 5, 6, 7, 8, 9, 10, 11, 12] rfl
    have hDc := hD.sub (ws' := (WM cy am r)) [2, 3, 4, 5, 6, 7, 8, 9, 10, 11, 12] (by decide) rfl
    have hFc := va_free (wc := (WM cy am r)) hD hS hA [2, 3, 4, 5, 6, 7, 8, 9, 10, 11, 12] rfl
    refine va_calli (va_runV (As := [.int (xs (4 * n + 1))]) (rest := []) ⟨hx, hb, hml, hown, hts⟩ (k_X8_setting l dC dI cy nb am r ((xs (4 * n + 1))) x (th r 0) H.size e1) (cwV 1 hts (gV mw_604 mw_605 mw_606 mw_5 mw_607) rfl rfl rfl (by decide +kernel) ⟨Nat.le_of_ble_eq_true rfl, Nat.le_of_ble_eq_true rfl⟩) (my_preV hPc hK hDc hE hS hFc (va_recv (q := (RX8, TX8, 23)) hK hP (ci := 8) (q0 := 2) rfl rfl)) rfl rfl hl.1 rfl (lv_room (Nat.le_of_ble_eq_true rfl)) dL_law_412 ⟨by show _ ≤ 601024; omega, by show _ ≤ 7293034; omega⟩) hS (fun q _ h => hFc q h) hFc (fun rm9 u9 t9 H1 locs ht hvm hwm hB hz1 hk1 hS => ?_)
    obtain ⟨hP1, hD1⟩ := hB
    rw [ht] at hP1
    obtain ⟨hP, hD⟩ := va_joinQ (X := XLW cy o3 o4 am (vp_updL f3 ((0 : Int32).toNatClampNeg) (x.toInt64)) f4 r) (cx := (WM cy am r)) (wr := [(o3, eL cy (vp_updL f3 ((0 : Int32).toNatClampNeg) (x.toInt64))), (o4, eD cy f4)]) (w1 := (WM cy am (th r 0))) (pl := WC cy ad ks g u) hP hD [2, 3, 4, 5, 6, 7, 8, 9, 10, 11, 12] [0, 1] rfl rfl (by decide) (by decide) hk1 hFc hP1 hD1
    have hP : va_P (dC, dI) vwCl (XLW cy o3 o4 am (vp_updL f3 ((0 : Int32).toNatClampNeg) (x.toInt64)) f4 (th r 0) ++ WC cy ad ks g u) H1 := hP
    have hD : va_D (fun q : Nat => s.heap.size ≤ q) (XLW cy o3 o4 am (vp_updL f3 ((0 : Int32).toNatClampNeg) (x.toInt64)) f4 (th r 0) ++ WC cy ad ks g u) := hD
    generalize H1 = H at hP hS ⊢
    clear hP1 hD1 hPc hDc hFc hk1 hz1 hvm ht
    refine my_topi hwm ?_
    refine lv_istore (lv' := [(7, .int x), (6, .int rw9), (5, .int (nI (4 * n))), (4, .ref o4), (3, .ref o3), (2, .ref (am 0)), (1, .ref (ad .cl)), (0, .ref b)]) hx hb dL_law_415 hl (by decide) rfl (fun ls hl => ?_)
    refine lv_goto (tgt := 1791) hx hb dL_law_417 (by decide) ?_
    refine W.widen (k := cells + 603) (n := slots + 9640) (by omega) (by omega) ?_
    exact K H locs ls ⟨ad, ks, g, u, (th r 0), (vp_updL f3 ((0 : Int32).toNatClampNeg) (x.toInt64)), f4, hk, (hGI.thr).mono (by omega) (by omega) (by omega), hP, hD, hS, lv_sub hl [2, 3, 4, 5, 6, 7] rfl⟩
  · have e2 : C7_setting g u (xs (4 * n + 1)) = some (.inl (nI (k + 1))) := e2
    generalize hxx : (nI (k + 1)) = xk at e2
    have hxk : ¬ xk = 1 := by rw [← hxx]; exact nI_ne (b := 1) (by omega) (by omega) (by omega)
    refine lv_aload_n hx hb dL_law_392 rfl (lv_at hl 4 rfl) ?_
    refine lv_aload_n hx hb dL_law_393 rfl (lv_at hl 5 rfl) ?_
    refine lv_iload hx hb dL_law_394 (lv_at hl 0 rfl) ?_
    refine lv_iconst (v := 1) hx hb dL_law_396 (by decide) ?_
    refine lv_iadd hx hb dL_law_397 ?_
    refine my_topi (y := nI (4 * n + 1)) (nI_add (4 * n) 1) ?_
    refine va_sld hx hb hX hbl hbA hS (vp_in_nI (n := 4 * n + 1) (by omega) (by omega)) dL_law_398 ?_
    refine my_topi (y := xs (4 * n + 1)) (congrArg xs (nI_clamp (by omega))) ?_
    refine lv_aload_n hx hb dL_law_399 rfl (lv_at hl 2 rfl) ?_
    have hPc : va_P (dC, dI) vwCl ([(o3, eL cy f3)] ++ WC cy ad ks g u) H := hP.part (X := XLW cy o3 o4 am f3 f4 r) (cx := [(o3, eL cy f3)]) [0] rfl
    have hDc : va_D (fun q : Nat => s.heap.size ≤ q) ([(o3, eL cy f3)] ++ WC cy ad ks g u) := hD.part (X := XLW cy o3 o4 am f3 f4 r) (cx := [(o3, eL cy f3)]) [0] (by decide) rfl
    have hFc : ∀ q, va_A ([(o3, eL cy f3)] ++ WC cy ad ks g u) H.size q → s.heap.size ≤ q := va_freeP (X := XLW cy o3 o4 am f3 f4 r) (cx := [(o3, eL cy f3)]) hD hS hA [0] rfl
    refine vx_calli (vx_runSX (As := [.ref (ad .cl), .int (xs (4 * n + 1)), .ref o3]) (rest := []) ⟨hx, hb, hml, hown, hts⟩ (ct_setting l hst dC dI cy nb ad ks g hk u ((xs (4 * n + 1))) o3 f3 xk H.size hxk e2) (vx_cwSW 3 hts (gSH mw_592 mw_593 mw_562 mw_594) rfl rfl rfl (by decide +kernel) ⟨Nat.le_of_ble_eq_true rfl, Nat.le_of_ble_eq_true rfl⟩) (my_preS hPc hK hDc hE hS hFc) rfl rfl hl.1 rfl (lv_room (Nat.le_of_ble_eq_true rfl)) dL_law_400 ⟨by show _ ≤ 601024; omega, by show _ ≤ 7293034; omega⟩) hS (fun q _ h => hFc q h) hFc (fun q _ h => hFc q h) (fun E9 ce9 q9 u9 t9 H1 locs1 ht9 hvm9 hp9 _ _ _ _ _ _ _ => hp9.elim) (fun rw9 u9 t9 H1 locs ht hvm hw hB hz1 hk1 hS => ?_)
    obtain ⟨hP1, hD1⟩ := hB
    rw [ht] at hP1
    obtain ⟨hP, hD⟩ := va_joinP (X := XLW cy o3 o4 am f3 f4 r) (cx := [(o3, eL cy f3)]) (wr := ((o4, eD cy f4) :: WM cy am r)) (rx := [(o3, eL cy f3)]) (pl := WC cy ad ks g u) (pl1 := WC cy ad ks g u) hP hD [0] [1, 2, 3, 4, 5, 6, 7, 8, 9, 10, 11, 12] rfl rfl (by decide) (by decide) hk1 hFc hP1 hD1
    have hP : va_P (dC, dI) vwCl (XLW cy o3 o4 am f3 f4 r ++ WC cy ad ks g u) H1 := hP.part (X := ((o4, eD cy f4) :: WM cy am r) ++ [(o3, eL cy f3)]) (cx := XLW cy o3 o4 am f3 f4 r) [12, 0, 1, 2, 3, 4, 5, 6, 7, 8, 9, 10, 11] rfl
    have hD : va_D (fun q : Nat => s.heap.size ≤ q) (XLW cy o3 o4 am f3 f4 r ++ WC cy ad ks g u) := hD.part (X := ((o4, eD cy f4) :: WM cy am r) ++ [(o3, eL cy f3)]) (cx := XLW cy o3 o4 am f3 f4 r) [12, 0, 1, 2, 3, 4, 5, 6, 7, 8, 9, 10, 11] (by decide) rfl
    generalize H1 = H at hP hS ⊢
    clear hP1 hD1 hPc hDc hFc hk1 hz1 hvm ht
    refine lv_istore (lv' := [(6, .int rw9), (5, .int (nI (4 * n))), (4, .ref o4), (3, .ref o3), (2, .ref (am 0)), (1, .ref (ad .cl)), (0, .ref b)]) hx hb dL_law_403 hl (by decide) rfl (fun ls hl => ?_)
    refine lv_aload_n hx hb dL_law_405 rfl (lv_at hl 4 rfl) ?_
    refine lv_aload_n hx hb dL_law_406 rfl (lv_at hl 6 rfl) ?_
    refine lv_iload hx hb dL_law_407 (lv_at hl 1 rfl) ?_
    refine lv_iconst (v := 1) hx hb dL_law_409 (by decide) ?_
    refine lv_iadd hx hb dL_law_410 ?_
    refine my_topi (y := nI (4 * n + 1)) (nI_add (4 * n) 1) ?_
    refine va_sld hx hb hX hbl hbA hS (vp_in_nI (n := 4 * n + 1) (by omega) (by omega)) dL_law_411 ?_
    refine my_topi (y := xs (4 * n + 1)) (congrArg xs (nI_clamp (by omega))) ?_
    have hPc := hP.sub (ws' := (WM cy am r)) [2, 3, 4, 5, 6, 7, 8, 9, 10, 11, 12] rfl
    have hDc := hD.sub (ws' := (WM cy am r)) [2, 3, 4, 5, 6, 7, 8, 9, 10, 11, 12] (by decide) rfl
    have hFc := va_free (wc := (WM cy am r)) hD hS hA [2, 3, 4, 5, 6, 7, 8, 9, 10, 11, 12] rfl
    refine va_calli (va_runV (As := [.int (xs (4 * n + 1))]) (rest := []) ⟨hx, hb, hml, hown, hts⟩ (k_X8_setting l dC dI cy nb am r ((xs (4 * n + 1))) (nI 0) (th r k) H.size e1) (cwV 1 hts (gV mw_604 mw_605 mw_606 mw_5 mw_607) rfl rfl rfl (by decide +kernel) ⟨Nat.le_of_ble_eq_true rfl, Nat.le_of_ble_eq_true rfl⟩) (my_preV hPc hK hDc hE hS hFc (va_recv (q := (RX8, TX8, 23)) hK hP (ci := 8) (q0 := 2) rfl rfl)) rfl rfl hl.1 rfl (lv_room (Nat.le_of_ble_eq_true rfl)) dL_law_412 ⟨by show _ ≤ 601024; omega, by show _ ≤ 7293034; omega⟩) hS (fun q _ h => hFc q h) hFc (fun rm9 u9 t9 H1 locs ht hvm hwm hB hz1 hk1 hS => ?_)
    obtain ⟨hP1, hD1⟩ := hB
    rw [ht] at hP1
    obtain ⟨hP, hD⟩ := va_joinQ (X := XLW cy o3 o4 am f3 f4 r) (cx := (WM cy am r)) (wr := [(o3, eL cy f3), (o4, eD cy f4)]) (w1 := (WM cy am (th r k))) (pl := WC cy ad ks g u) hP hD [2, 3, 4, 5, 6, 7, 8, 9, 10, 11, 12] [0, 1] rfl rfl (by decide) (by decide) hk1 hFc hP1 hD1
    have hP : va_P (dC, dI) vwCl (XLW cy o3 o4 am f3 f4 (th r k) ++ WC cy ad ks g u) H1 := hP
    have hD : va_D (fun q : Nat => s.heap.size ≤ q) (XLW cy o3 o4 am f3 f4 (th r k) ++ WC cy ad ks g u) := hD
    generalize H1 = H at hP hS ⊢
    clear hP1 hD1 hPc hDc hFc hk1 hz1 hvm ht
    refine my_topi hwm ?_
    refine lv_istore (lv' := [(7, .int (nI 0)), (6, .int rw9), (5, .int (nI (4 * n))), (4, .ref o4), (3, .ref o3), (2, .ref (am 0)), (1, .ref (ad .cl)), (0, .ref b)]) hx hb dL_law_415 hl (by decide) rfl (fun ls hl => ?_)
    refine lv_goto (tgt := 1791) hx hb dL_law_417 (by decide) ?_
    refine W.widen (k := cells + 603) (n := slots + 9640) (by omega) (by omega) ?_
    exact K H locs ls ⟨ad, ks, g, u, (th r k), f3, f4, hk, (hGI.thr).mono (by omega) (by omega) (by omega), hP, hD, hS, lv_sub hl [2, 3, 4, 5, 6, 7] rfl⟩
set_option maxHeartbeats 8000000 in
set_option maxRecDepth 100000 in
theorem law_c6 {p : Program} {e : Env} {s : State} {m : MethodId} {below : List Frame} {meth : Method} {c : Code} (l : Launch) (hst : l.stackTraces = false) {b L : Nat} {xs : Nat → Int32} (dC : Nat → ClassId) (dI : Nat → Nat → Nat) (cy : Nat → ClassId) (nb : Nat → Nat) (o3 o4 : Nat) (am : Nat → Nat) {n : Nat} (hn : n < 512) (hL : 4 * n + 4 ≤ L) (hL2 : L ≤ 2048) (C0 : LX p s m meth c b L xs dC dI cy nb) {Q : State → Prop} {H : Heap} {locs : List Loc} {ls : Array Slot} {cells slots : Nat} (hc : cells ≤ 400000) (hs : slots ≤ 6000000) (h : LSt s dC dI cy nb b o3 o4 am n (4 * n) H locs ls) (K : ∀ (H : Heap) (locs : List Loc) (ls : Array Slot), LSt s dC dI cy nb b o3 o4 am (n + 1) (4 * n) H locs ls → W p l e room_1 s m #[Value.ref b] below meth c H locs (cells + 603) (slots + 9640) Q (F0 m 1791 ls [])) : W p l e room_1 s m #[Value.ref b] below meth c H locs cells slots Q (F0 m 420 ls []) := by
  obtain ⟨hx, hb, hr, hml, hown, hts, hX, hbl, hlocks, hK, hE⟩ := C0
  have hA : ∀ q : Nat, s.heap.size ≤ q → (fun q : Nat => s.heap.size ≤ q) q := fun _ h => h
  have hbA : ¬ (fun q : Nat => s.heap.size ≤ q) b := Nat.not_le.mpr hbl
  obtain ⟨ad, ks, g, u, r, f3, f4, hk, hGI, hP, hD, hS, hl⟩ := h
  have h9 : QT (F8_station r (xs (4 * n + 1)) (xs (4 * n + 2))) (C7_station g u (xs (4 * n + 1)) (xs (4 * n + 2))) r 0 := q_station hGI
  rcases h9 with ⟨x, e1, e2⟩ | ⟨k, k1, k2, e1, e2⟩
  · refine lv_aload_n hx hb dL_law_420 rfl (lv_at hl 4 rfl) ?_
    refine lv_aload_n hx hb dL_law_421 rfl (lv_at hl 5 rfl) ?_
    refine lv_iload hx hb dL_law_422 (lv_at hl 0 rfl) ?_
    refine lv_iconst (v := 1) hx hb dL_law_424 (by decide) ?_
    refine lv_iadd hx hb dL_law_425 ?_
    refine my_topi (y := nI (4 * n + 1)) (nI_add (4 * n) 1) ?_
    refine va_sld hx hb hX hbl hbA hS (vp_in_nI (n := 4 * n + 1) (by omega) (by omega)) dL_law_426 ?_
    refine my_topi (y := xs (4 * n + 1)) (congrArg xs (nI_clamp (by omega))) ?_
    refine lv_aload_n hx hb dL_law_427 rfl (lv_at hl 5 rfl) ?_
    refine lv_iload hx hb dL_law_428 (lv_at hl 0 rfl) ?_
    refine lv_iconst (v := 2) hx hb dL_law_430 (by decide) ?_
    refine lv_iadd hx hb dL_law_431 ?_
    refine my_topi (y := nI (4 * n + 2)) (nI_add (4 * n) 2) ?_
    refine va_sld hx hb hX hbl hbA hS (vp_in_nI (n := 4 * n + 2) (by omega) (by omega)) dL_law_432 ?_
    refine my_topi (y := xs (4 * n + 2)) (congrArg xs (nI_clamp (by omega))) ?_
    refine lv_aload_n hx hb dL_law_433 rfl (lv_at hl 2 rfl) ?_
    have hPc : va_P (dC, dI) vwCl ([(o3, eL cy f3)] ++ WC cy ad ks g u) H := hP.part (X := XLW cy o3 o4 am f3 f4 r) (cx := [(o3, eL cy f3)]) [0] rfl
    have hDc : va_D (fun q : Nat => s.heap.size ≤ q) ([(o3, eL cy f3)] ++ WC cy ad ks g u) := hD.part (X := XLW cy o3 o4 am f3 f4 r) (cx := [(o3, eL cy f3)]) [0] (by decide) rfl
    have hFc : ∀ q, va_A ([(o3, eL cy f3)] ++ WC cy ad ks g u) H.size q → s.heap.size ≤ q := va_freeP (X := XLW cy o3 o4 am f3 f4 r) (cx := [(o3, eL cy f3)]) hD hS hA [0] rfl
    refine vx_calli (vx_runSX (As := [.ref (ad .cl), .int (xs (4 * n + 1)), .int (xs (4 * n + 2)), .ref o3]) (rest := []) ⟨hx, hb, hml, hown, hts⟩ (cn_station l hst dC dI cy nb ad ks g hk u ((xs (4 * n + 1))) ((xs (4 * n + 2))) o3 f3 x H.size e2) (vx_cwSW 4 hts (gSH mw_609 mw_610 mw_562 mw_611) rfl rfl rfl (by decide +kernel) ⟨Nat.le_of_ble_eq_true rfl, Nat.le_of_ble_eq_true rfl⟩) (my_preS hPc hK hDc hE hS hFc) rfl rfl hl.1 rfl (lv_room (Nat.le_of_ble_eq_true rfl)) dL_law_434 ⟨by show _ ≤ 601024; omega, by show _ ≤ 7293034; omega⟩) hS (fun q _ h => hFc q h) hFc (fun q _ h => hFc q h) (fun E9 ce9 q9 u9 t9 H1 locs1 ht9 hvm9 hp9 _ _ _ _ _ _ _ => hp9.elim) (fun rw9 u9 t9 H1 locs ht hvm hw hB hz1 hk1 hS => ?_)
    obtain ⟨hP1, hD1⟩ := hB
    rw [ht] at hP1
    obtain ⟨hP, hD⟩ := va_joinP (X := XLW cy o3 o4 am f3 f4 r) (cx := [(o3, eL cy f3)]) (wr := ((o4, eD cy f4) :: WM cy am r)) (rx := [(o3, eL cy (vp_updL f3 ((0 : Int32).toNatClampNeg) (x.toInt64)))]) (pl := WC cy ad ks g u) (pl1 := WC cy ad ks g u) hP hD [0] [1, 2, 3, 4, 5, 6, 7, 8, 9, 10, 11, 12] rfl rfl (by decide) (by decide) hk1 hFc hP1 hD1
    have hP : va_P (dC, dI) vwCl (XLW cy o3 o4 am (vp_updL f3 ((0 : Int32).toNatClampNeg) (x.toInt64)) f4 r ++ WC cy ad ks g u) H1 := hP.part (X := ((o4, eD cy f4) :: WM cy am r) ++ [(o3, eL cy (vp_updL f3 ((0 : Int32).toNatClampNeg) (x.toInt64)))]) (cx := XLW cy o3 o4 am (vp_updL f3 ((0 : Int32).toNatClampNeg) (x.toInt64)) f4 r) [12, 0, 1, 2, 3, 4, 5, 6, 7, 8, 9, 10, 11] rfl
    have hD : va_D (fun q : Nat => s.heap.size ≤ q) (XLW cy o3 o4 am (vp_updL f3 ((0 : Int32).toNatClampNeg) (x.toInt64)) f4 r ++ WC cy ad ks g u) := hD.part (X := ((o4, eD cy f4) :: WM cy am r) ++ [(o3, eL cy (vp_updL f3 ((0 : Int32).toNatClampNeg) (x.toInt64)))]) (cx := XLW cy o3 o4 am (vp_updL f3 ((0 : Int32).toNatClampNeg) (x.toInt64)) f4 r) [12, 0, 1, 2, 3, 4, 5, 6, 7, 8, 9, 10, 11] (by decide) rfl
    generalize H1 = H at hP hS ⊢
    clear hP1 hD1 hPc hDc hFc hk1 hz1 hvm ht
    refine lv_istore (lv' := [(6, .int rw9), (5, .int (nI (4 * n))), (4, .ref o4), (3, .ref o3), (2, .ref (am 0)), (1, .ref (ad .cl)), (0, .ref b)]) hx hb dL_law_437 hl (by decide) rfl (fun ls hl => ?_)
    refine lv_aload_n hx hb dL_law_439 rfl (lv_at hl 4 rfl) ?_
    refine lv_aload_n hx hb dL_law_440 rfl (lv_at hl 6 rfl) ?_
    refine lv_iload hx hb dL_law_441 (lv_at hl 1 rfl) ?_
    refine lv_iconst (v := 1) hx hb dL_law_443 (by decide) ?_
    refine lv_iadd hx hb dL_law_444 ?_
    refine my_topi (y := nI (4 * n + 1)) (nI_add (4 * n) 1) ?_
    refine va_sld hx hb hX hbl hbA hS (vp_in_nI (n := 4 * n + 1) (by omega) (by omega)) dL_law_445 ?_
    refine my_topi (y := xs (4 * n + 1)) (congrArg xs (nI_clamp (by omega))) ?_
    refine lv_aload_n hx hb dL_law_446 rfl (lv_at hl 6 rfl) ?_
    refine lv_iload hx hb dL_law_447 (lv_at hl 1 rfl) ?_
    refine lv_iconst (v := 2) hx hb dL_law_449 (by decide) ?_
    refine lv_iadd hx hb dL_law_450 ?_
    refine my_topi (y := nI (4 * n + 2)) (nI_add (4 * n) 2) ?_
    refine va_sld hx hb hX hbl hbA hS (vp_in_nI (n := 4 * n + 2) (by omega) (by omega)) dL_law_451 ?_
    refine my_topi (y := xs (4 * n + 2)) (congrArg xs (nI_clamp (by omega))) ?_
    have hPc := hP.sub (ws' := (WM cy am r)) [2, 3, 4, 5, 6, 7, 8, 9, 10, 11, 12] rfl
    have hDc := hD.sub (ws' := (WM cy am r)) [2, 3, 4, 5, 6, 7, 8, 9, 10, 11, 12] (by decide) rfl
    have hFc := va_free (wc := (WM cy am r)) hD hS hA [2, 3, 4, 5, 6, 7, 8, 9, 10, 11, 12] rfl
    refine va_calli (va_runV (As := [.int (xs (4 * n + 1)), .int (xs (4 * n + 2))]) (rest := []) ⟨hx, hb, hml, hown, hts⟩ (k_X8_station l dC dI cy nb am r ((xs (4 * n + 1))) ((xs (4 * n + 2))) x (th r 0) H.size e1) (cwV 2 hts (gV mw_637 mw_638 mw_639 mw_5 mw_640) rfl rfl rfl (by decide +kernel) ⟨Nat.le_of_ble_eq_true rfl, Nat.le_of_ble_eq_true rfl⟩) (my_preV hPc hK hDc hE hS hFc (va_recv (q := (RX8, TX8, 23)) hK hP (ci := 8) (q0 := 2) rfl rfl)) rfl rfl hl.1 rfl (lv_room (Nat.le_of_ble_eq_true rfl)) dL_law_452 ⟨by show _ ≤ 601024; omega, by show _ ≤ 7293034; omega⟩) hS (fun q _ h => hFc q h) hFc (fun rm9 u9 t9 H1 locs ht hvm hwm hB hz1 hk1 hS => ?_)
    obtain ⟨hP1, hD1⟩ := hB
    rw [ht] at hP1
    obtain ⟨hP, hD⟩ := va_joinQ (X := XLW cy o3 o4 am (vp_updL f3 ((0 : Int32).toNatClampNeg) (x.toInt64)) f4 r) (cx := (WM cy am r)) (wr := [(o3, eL cy (vp_updL f3 ((0 : Int32).toNatClampNeg) (x.toInt64))), (o4, eD cy f4)]) (w1 := (WM cy am (th r 0))) (pl := WC cy ad ks g u) hP hD [2, 3, 4, 5, 6, 7, 8, 9, 10, 11, 12] [0, 1] rfl rfl (by decide) (by decide) hk1 hFc hP1 hD1
    have hP : va_P (dC, dI) vwCl (XLW cy o3 o4 am (vp_updL f3 ((0 : Int32).toNatClampNeg) (x.toInt64)) f4 (th r 0) ++ WC cy ad ks g u) H1 := hP
    have hD : va_D (fun q : Nat => s.heap.size ≤ q) (XLW cy o3 o4 am (vp_updL f3 ((0 : Int32).toNatClampNeg) (x.toInt64)) f4 (th r 0) ++ WC cy ad ks g u) := hD
    generalize H1 = H at hP hS ⊢
    clear hP1 hD1 hPc hDc hFc hk1 hz1 hvm ht
    refine my_topi hwm ?_
    refine lv_istore (lv' := [(7, .int x), (6, .int rw9), (5, .int (nI (4 * n))), (4, .ref o4), (3, .ref o3), (2, .ref (am 0)), (1, .ref (ad .cl)), (0, .ref b)]) hx hb dL_law_455 hl (by decide) rfl (fun ls hl => ?_)
    refine lv_goto (tgt := 1791) hx hb dL_law_457 (by decide) ?_
    refine W.widen (k := cells + 603) (n := slots + 9640) (by omega) (by omega) ?_
    exact K H locs ls ⟨ad, ks, g, u, (th r 0), (vp_updL f3 ((0 : Int32).toNatClampNeg) (x.toInt64)), f4, hk, (hGI.thr).mono (by omega) (by omega) (by omega), hP, hD, hS, lv_sub hl [2, 3, 4, 5, 6, 7] rfl⟩
  · have e2 : C7_station g u (xs (4 * n + 1)) (xs (4 * n + 2)) = some (.inl (nI (k + 0))) := e2
    generalize hxx : (nI (k + 0)) = xk at e2
    refine lv_aload_n hx hb dL_law_420 rfl (lv_at hl 4 rfl) ?_
    refine lv_aload_n hx hb dL_law_421 rfl (lv_at hl 5 rfl) ?_
    refine lv_iload hx hb dL_law_422 (lv_at hl 0 rfl) ?_
    refine lv_iconst (v := 1) hx hb dL_law_424 (by decide) ?_
    refine lv_iadd hx hb dL_law_425 ?_
    refine my_topi (y := nI (4 * n + 1)) (nI_add (4 * n) 1) ?_
    refine va_sld hx hb hX hbl hbA hS (vp_in_nI (n := 4 * n + 1) (by omega) (by omega)) dL_law_426 ?_
    refine my_topi (y := xs (4 * n + 1)) (congrArg xs (nI_clamp (by omega))) ?_
    refine lv_aload_n hx hb dL_law_427 rfl (lv_at hl 5 rfl) ?_
    refine lv_iload hx hb dL_law_428 (lv_at hl 0 rfl) ?_
    refine lv_iconst (v := 2) hx hb dL_law_430 (by decide) ?_
    refine lv_iadd hx hb dL_law_431 ?_
    refine my_topi (y := nI (4 * n + 2)) (nI_add (4 * n) 2) ?_
    refine va_sld hx hb hX hbl hbA hS (vp_in_nI (n := 4 * n + 2) (by omega) (by omega)) dL_law_432 ?_
    refine my_topi (y := xs (4 * n + 2)) (congrArg xs (nI_clamp (by omega))) ?_
    refine lv_aload_n hx hb dL_law_433 rfl (lv_at hl 2 rfl) ?_
    have hPc : va_P (dC, dI) vwCl ([(o3, eL cy f3)] ++ WC cy ad ks g u) H := hP.part (X := XLW cy o3 o4 am f3 f4 r) (cx := [(o3, eL cy f3)]) [0] rfl
    have hDc : va_D (fun q : Nat => s.heap.size ≤ q) ([(o3, eL cy f3)] ++ WC cy ad ks g u) := hD.part (X := XLW cy o3 o4 am f3 f4 r) (cx := [(o3, eL cy f3)]) [0] (by decide) rfl
    have hFc : ∀ q, va_A ([(o3, eL cy f3)] ++ WC cy ad ks g u) H.size q → s.heap.size ≤ q := va_freeP (X := XLW cy o3 o4 am f3 f4 r) (cx := [(o3, eL cy f3)]) hD hS hA [0] rfl
    refine vx_calli (vx_runSX (As := [.ref (ad .cl), .int (xs (4 * n + 1)), .int (xs (4 * n + 2)), .ref o3]) (rest := []) ⟨hx, hb, hml, hown, hts⟩ (ct_station l hst dC dI cy nb ad ks g hk u ((xs (4 * n + 1))) ((xs (4 * n + 2))) o3 f3 xk H.size e2) (vx_cwSW 4 hts (gSH mw_609 mw_610 mw_562 mw_611) rfl rfl rfl (by decide +kernel) ⟨Nat.le_of_ble_eq_true rfl, Nat.le_of_ble_eq_true rfl⟩) (my_preS hPc hK hDc hE hS hFc) rfl rfl hl.1 rfl (lv_room (Nat.le_of_ble_eq_true rfl)) dL_law_434 ⟨by show _ ≤ 601024; omega, by show _ ≤ 7293034; omega⟩) hS (fun q _ h => hFc q h) hFc (fun q _ h => hFc q h) (fun E9 ce9 q9 u9 t9 H1 locs1 ht9 hvm9 hp9 _ _ _ _ _ _ _ => hp9.elim) (fun rw9 u9 t9 H1 locs ht hvm hw hB hz1 hk1 hS => ?_)
    obtain ⟨hP1, hD1⟩ := hB
    rw [ht] at hP1
    obtain ⟨hP, hD⟩ := va_joinP (X := XLW cy o3 o4 am f3 f4 r) (cx := [(o3, eL cy f3)]) (wr := ((o4, eD cy f4) :: WM cy am r)) (rx := [(o3, eL cy f3)]) (pl := WC cy ad ks g u) (pl1 := WC cy ad ks g u) hP hD [0] [1, 2, 3, 4, 5, 6, 7, 8, 9, 10, 11, 12] rfl rfl (by decide) (by decide) hk1 hFc hP1 hD1
    have hP : va_P (dC, dI) vwCl (XLW cy o3 o4 am f3 f4 r ++ WC cy ad ks g u) H1 := hP.part (X := ((o4, eD cy f4) :: WM cy am r) ++ [(o3, eL cy f3)]) (cx := XLW cy o3 o4 am f3 f4 r) [12, 0, 1, 2, 3, 4, 5, 6, 7, 8, 9, 10, 11] rfl
    have hD : va_D (fun q : Nat => s.heap.size ≤ q) (XLW cy o3 o4 am f3 f4 r ++ WC cy ad ks g u) := hD.part (X := ((o4, eD cy f4) :: WM cy am r) ++ [(o3, eL cy f3)]) (cx := XLW cy o3 o4 am f3 f4 r) [12, 0, 1, 2, 3, 4, 5, 6, 7, 8, 9, 10, 11] (by decide) rfl
    generalize H1 = H at hP hS ⊢
    clear hP1 hD1 hPc hDc hFc hk1 hz1 hvm ht
    refine lv_istore (lv' := [(6, .int rw9), (5, .int (nI (4 * n))), (4, .ref o4), (3, .ref o3), (2, .ref (am 0)), (1, .ref (ad .cl)), (0, .ref b)]) hx hb dL_law_437 hl (by decide) rfl (fun ls hl => ?_)
    refine lv_aload_n hx hb dL_law_439 rfl (lv_at hl 4 rfl) ?_
    refine lv_aload_n hx hb dL_law_440 rfl (lv_at hl 6 rfl) ?_
    refine lv_iload hx hb dL_law_441 (lv_at hl 1 rfl) ?_
    refine lv_iconst (v := 1) hx hb dL_law_443 (by decide) ?_
    refine lv_iadd hx hb dL_law_444 ?_
    refine my_topi (y := nI (4 * n + 1)) (nI_add (4 * n) 1) ?_
    refine va_sld hx hb hX hbl hbA hS (vp_in_nI (n := 4 * n + 1) (by omega) (by omega)) dL_law_445 ?_
    refine my_topi (y := xs (4 * n + 1)) (congrArg xs (nI_clamp (by omega))) ?_
    refine lv_aload_n hx hb dL_law_446 rfl (lv_at hl 6 rfl) ?_
    refine lv_iload hx hb dL_law_447 (lv_at hl 1 rfl) ?_
    refine lv_iconst (v := 2) hx hb dL_law_449 (by decide) ?_
    refine lv_iadd hx hb dL_law_450 ?_
    refine my_topi (y := nI (4 * n + 2)) (nI_add (4 * n) 2) ?_
    refine va_sld hx hb hX hbl hbA hS (vp_in_nI (n := 4 * n + 2) (by omega) (by omega)) dL_law_451 ?_
    refine my_topi (y := xs (4 * n + 2)) (congrArg xs (nI_clamp (by omega))) ?_
    have hPc := hP.sub (ws' := (WM cy am r)) [2, 3, 4, 5, 6, 7, 8, 9, 10, 11, 12] rfl
    have hDc := hD.sub (ws' := (WM cy am r)) [2, 3, 4, 5, 6, 7, 8, 9, 10, 11, 12] (by decide) rfl
    have hFc := va_free (wc := (WM cy am r)) hD hS hA [2, 3, 4, 5, 6, 7, 8, 9, 10, 11, 12] rfl
    refine va_calli (va_runV (As := [.int (xs (4 * n + 1)), .int (xs (4 * n + 2))]) (rest := []) ⟨hx, hb, hml, hown, hts⟩ (k_X8_station l dC dI cy nb am r ((xs (4 * n + 1))) ((xs (4 * n + 2))) (nI 0) (th r k) H.size e1) (cwV 2 hts (gV mw_637 mw_638 mw_639 mw_5 mw_640) rfl rfl rfl (by decide +kernel) ⟨Nat.le_of_ble_eq_true rfl, Nat.le_of_ble_eq_true rfl⟩) (my_preV hPc hK hDc hE hS hFc (va_recv (q := (RX8, TX8, 23)) hK hP (ci := 8) (q0 := 2) rfl rfl)) rfl rfl hl.1 rfl (lv_room (Nat.le_of_ble_eq_true rfl)) dL_law_452 ⟨by show _ ≤ 601024; omega, by show _ ≤ 7293034; omega⟩) hS (fun q _ h => hFc q h) hFc (fun rm9 u9 t9 H1 locs ht hvm hwm hB hz1 hk1 hS => ?_)
    obtain ⟨hP1, hD1⟩ := hB
    rw [ht] at hP1
    obtain ⟨hP, hD⟩ := va_joinQ (X := XLW cy o3 o4 am f3 f4 r) (cx := (WM cy am r)) (wr := [(o3, eL cy f3), (o4, eD cy f4)]) (w1 := (WM cy am (th r k))) (pl := WC cy ad ks g u) hP hD [2, 3, 4, 5, 6, 7, 8, 9, 10, 11, 12] [0, 1] rfl rfl (by decide) (by decide) hk1 hFc hP1 hD1
    have hP : va_P (dC, dI) vwCl (XLW cy o3 o4 am f3 f4 (th r k) ++ WC cy ad ks g u) H1 := hP
    have hD : va_D (fun q : Nat => s.heap.size ≤ q) (XLW cy o3 o4 am f3 f4 (th r k) ++ WC cy ad ks g u) := hD
    generalize H1 = H at hP hS ⊢
    clear hP1 hD1 hPc hDc hFc hk1 hz1 hvm ht
    refine my_topi hwm ?_
    refine lv_istore (lv' := [(7, .int (nI 0)), (6, .int rw9), (5, .int (nI (4 * n))), (4, .ref o4), (3, .ref o3), (2, .ref (am 0)), (1, .ref (ad .cl)), (0, .ref b)]) hx hb dL_law_455 hl (by decide) rfl (fun ls hl => ?_)
    refine lv_goto (tgt := 1791) hx hb dL_law_457 (by decide) ?_
    refine W.widen (k := cells + 603) (n := slots + 9640) (by omega) (by omega) ?_
    exact K H locs ls ⟨ad, ks, g, u, (th r k), f3, f4, hk, (hGI.thr).mono (by omega) (by omega) (by omega), hP, hD, hS, lv_sub hl [2, 3, 4, 5, 6, 7] rfl⟩
set_option maxHeartbeats 8000000 in
set_option maxRecDepth 100000 in
theorem law_c7 {p : Program} {e : Env} {s : State} {m : MethodId} {below : List Frame} {meth : Method} {c : Code} (l : Launch) (hst : l.stackTraces = false) {b L : Nat} {xs : Nat → Int32} (dC : Nat → ClassId) (dI : Nat → Nat → Nat) (cy : Nat → ClassId) (nb : Nat → Nat) (o3 o4 : Nat) (am : Nat → Nat) {n : Nat} (hn : n < 512) (hL : 4 * n + 4 ≤ L) (hL2 : L ≤ 2048) (C0 : LX p s m meth c b L xs dC dI cy nb) {Q : State → Prop} {H : Heap} {locs : List Loc} {ls : Array Slot} {cells slots : Nat} (hc : cells ≤ 400000) (hs : slots ≤ 6000000) (h : LSt s dC dI cy nb b o3 o4 am n (4 * n) H locs ls) (K : ∀ (H : Heap) (locs : List Loc) (ls : Array Slot), LSt s dC dI cy nb b o3 o4 am (n + 1) (4 * n) H locs ls → W p l e room_1 s m #[Value.ref b] below meth c H locs (cells + 603) (slots + 9640) Q (F0 m 1791 ls [])) : W p l e room_1 s m #[Value.ref b] below meth c H locs cells slots Q (F0 m 460 ls []) := by
  obtain ⟨hx, hb, hr, hml, hown, hts, hX, hbl, hlocks, hK, hE⟩ := C0
  have hA : ∀ q : Nat, s.heap.size ≤ q → (fun q : Nat => s.heap.size ≤ q) q := fun _ h => h
  have hbA : ¬ (fun q : Nat => s.heap.size ≤ q) b := Nat.not_le.mpr hbl
  obtain ⟨ad, ks, g, u, r, f3, f4, hk, hGI, hP, hD, hS, hl⟩ := h
  have h9 : QT (F8_card r (xs (4 * n + 1)) (xs (4 * n + 2))) (C7_card g u (xs (4 * n + 1)) (xs (4 * n + 2))) r 0 := q_card hGI (by omega)
  rcases h9 with ⟨x, e1, e2⟩ | ⟨k, k1, k2, e1, e2⟩
  · refine lv_aload_n hx hb dL_law_460 rfl (lv_at hl 4 rfl) ?_
    refine lv_aload_n hx hb dL_law_461 rfl (lv_at hl 5 rfl) ?_
    refine lv_iload hx hb dL_law_462 (lv_at hl 0 rfl) ?_
    refine lv_iconst (v := 1) hx hb dL_law_464 (by decide) ?_
    refine lv_iadd hx hb dL_law_465 ?_
    refine my_topi (y := nI (4 * n + 1)) (nI_add (4 * n) 1) ?_
    refine va_sld hx hb hX hbl hbA hS (vp_in_nI (n := 4 * n + 1) (by omega) (by omega)) dL_law_466 ?_
    refine my_topi (y := xs (4 * n + 1)) (congrArg xs (nI_clamp (by omega))) ?_
    refine lv_aload_n hx hb dL_law_467 rfl (lv_at hl 5 rfl) ?_
    refine lv_iload hx hb dL_law_468 (lv_at hl 0 rfl) ?_
    refine lv_iconst (v := 2) hx hb dL_law_470 (by decide) ?_
    refine lv_iadd hx hb dL_law_471 ?_
    refine my_topi (y := nI (4 * n + 2)) (nI_add (4 * n) 2) ?_
    refine va_sld hx hb hX hbl hbA hS (vp_in_nI (n := 4 * n + 2) (by omega) (by omega)) dL_law_472 ?_
    refine my_topi (y := xs (4 * n + 2)) (congrArg xs (nI_clamp (by omega))) ?_
    refine lv_aload_n hx hb dL_law_473 rfl (lv_at hl 2 rfl) ?_
    have hPc : va_P (dC, dI) vwCl ([(o3, eL cy f3)] ++ WC cy ad ks g u) H := hP.part (X := XLW cy o3 o4 am f3 f4 r) (cx := [(o3, eL cy f3)]) [0] rfl
    have hDc : va_D (fun q : Nat => s.heap.size ≤ q) ([(o3, eL cy f3)] ++ WC cy ad ks g u) := hD.part (X := XLW cy o3 o4 am f3 f4 r) (cx := [(o3, eL cy f3)]) [0] (by decide) rfl
    have hFc : ∀ q, va_A ([(o3, eL cy f3)] ++ WC cy ad ks g u) H.size q → s.heap.size ≤ q := va_freeP (X := XLW cy o3 o4 am f3 f4 r) (cx := [(o3, eL cy f3)]) hD hS hA [0] rfl
    refine vx_calli (vx_runSX (As := [.ref (ad .cl), .int (xs (4 * n + 1)), .int (xs (4 * n + 2)), .ref o3]) (rest := []) ⟨hx, hb, hml, hown, hts⟩ (cn_card l hst dC dI cy nb ad ks g hk u ((xs (4 * n + 1))) ((xs (4 * n + 2))) o3 f3 x H.size e2) (vx_cwSW 4 hts (gSH mw_650 mw_651 mw_562 mw_652) rfl rfl rfl (by decide +kernel) ⟨Nat.le_of_ble_eq_true rfl, Nat.le_of_ble_eq_true rfl⟩) (my_preS hPc hK hDc hE hS hFc) rfl rfl hl.1 rfl (lv_room (Nat.le_of_ble_eq_true rfl)) dL_law_474 ⟨by show _ ≤ 601024; omega, by show _ ≤ 7293034; omega⟩) hS (fun q _ h => hFc q h) hFc (fun q _ h => hFc q h) (fun E9 ce9 q9 u9 t9 H1 locs1 ht9 hvm9 hp9 _ _ _ _ _ _ _ => hp9.elim) (fun rw9 u9 t9 H1 locs ht hvm hw hB hz1 hk1 hS => ?_)
    obtain ⟨hP1, hD1⟩ := hB
    rw [ht] at hP1
    obtain ⟨hP, hD⟩ := va_joinP (X := XLW cy o3 o4 am f3 f4 r) (cx := [(o3, eL cy f3)]) (wr := ((o4, eD cy f4) :: WM cy am r)) (rx := [(o3, eL cy (vp_updL f3 ((0 : Int32).toNatClampNeg) (x.toInt64)))]) (pl := WC cy ad ks g u) (pl1 := WC cy ad ks g u) hP hD [0] [1, 2, 3, 4, 5, 6, 7, 8, 9, 10, 11, 12] rfl rfl (by decide) (by decide) hk1 hFc hP1 hD1
    have hP : va_P (dC, dI) vwCl (XLW cy o3 o4 am (vp_updL f3 ((0 : Int32).toNatClampNeg) (x.toInt64)) f4 r ++ WC cy ad ks g u) H1 := hP.part (X := ((o4, eD cy f4) :: WM cy am r) ++ [(o3, eL cy (vp_updL f3 ((0 : Int32).toNatClampNeg) (x.toInt64)))]) (cx := XLW cy o3 o4 am (vp_updL f3 ((0 : Int32).toNatClampNeg) (x.toInt64)) f4 r) [12, 0, 1, 2, 3, 4, 5, 6, 7, 8, 9, 10, 11] rfl
    have hD : va_D (fun q : Nat => s.heap.size ≤ q) (XLW cy o3 o4 am (vp_updL f3 ((0 : Int32).toNatClampNeg) (x.toInt64)) f4 r ++ WC cy ad ks g u) := hD.part (X := ((o4, eD cy f4) :: WM cy am r) ++ [(o3, eL cy (vp_updL f3 ((0 : Int32).toNatClampNeg) (x.toInt64)))]) (cx := XLW cy o3 o4 am (vp_updL f3 ((0 : Int32).toNatClampNeg) (x.toInt64)) f4 r) [12, 0, 1, 2, 3, 4, 5, 6, 7, 8, 9, 10, 11] (by decide) rfl
    generalize H1 = H at hP hS ⊢
    clear hP1 hD1 hPc hDc hFc hk1 hz1 hvm ht
    refine lv_istore (lv' := [(6, .int rw9), (5, .int (nI (4 * n))), (4, .ref o4), (3, .ref o3), (2, .ref (am 0)), (1, .ref (ad .cl)), (0, .ref b)]) hx hb dL_law_477 hl (by decide) rfl (fun ls hl => ?_)
    refine lv_aload_n hx hb dL_law_479 rfl (lv_at hl 4 rfl) ?_
    refine lv_aload_n hx hb dL_law_480 rfl (lv_at hl 6 rfl) ?_
    refine lv_iload hx hb dL_law_481 (lv_at hl 1 rfl) ?_
    refine lv_iconst (v := 1) hx hb dL_law_483 (by decide) ?_
    refine lv_iadd hx hb dL_law_484 ?_
    refine my_topi (y := nI (4 * n + 1)) (nI_add (4 * n) 1) ?_
    refine va_sld hx hb hX hbl hbA hS (vp_in_nI (n := 4 * n + 1) (by omega) (by omega)) dL_law_485 ?_
    refine my_topi (y := xs (4 * n + 1)) (congrArg xs (nI_clamp (by omega))) ?_
    refine lv_aload_n hx hb dL_law_486 rfl (lv_at hl 6 rfl) ?_
    refine lv_iload hx hb dL_law_487 (lv_at hl 1 rfl) ?_
    refine lv_iconst (v := 2) hx hb dL_law_489 (by decide) ?_
    refine lv_iadd hx hb dL_law_490 ?_
    refine my_topi (y := nI (4 * n + 2)) (nI_add (4 * n) 2) ?_
    refine va_sld hx hb hX hbl hbA hS (vp_in_nI (n := 4 * n + 2) (by omega) (by omega)) dL_law_491 ?_
    refine my_topi (y := xs (4 * n + 2)) (congrArg xs (nI_clamp (by omega))) ?_
    have hPc := hP.sub (ws' := (WM cy am r)) [2, 3, 4, 5, 6, 7, 8, 9, 10, 11, 12] rfl
    have hDc := hD.sub (ws' := (WM cy am r)) [2, 3, 4, 5, 6, 7, 8, 9, 10, 11, 12] (by decide) rfl
    have hFc := va_free (wc := (WM cy am r)) hD hS hA [2, 3, 4, 5, 6, 7, 8, 9, 10, 11, 12] rfl
    refine va_calli (va_runV (As := [.int (xs (4 * n + 1)), .int (xs (4 * n + 2))]) (rest := []) ⟨hx, hb, hml, hown, hts⟩ (k_X8_card l dC dI cy nb am r ((xs (4 * n + 1))) ((xs (4 * n + 2))) x (th r 0) H.size e1) (cwV 2 hts (gV mw_670 mw_671 mw_672 mw_5 mw_673) rfl rfl rfl (by decide +kernel) ⟨Nat.le_of_ble_eq_true rfl, Nat.le_of_ble_eq_true rfl⟩) (my_preV hPc hK hDc hE hS hFc (va_recv (q := (RX8, TX8, 23)) hK hP (ci := 8) (q0 := 2) rfl rfl)) rfl rfl hl.1 rfl (lv_room (Nat.le_of_ble_eq_true rfl)) dL_law_492 ⟨by show _ ≤ 601024; omega, by show _ ≤ 7293034; omega⟩) hS (fun q _ h => hFc q h) hFc (fun rm9 u9 t9 H1 locs ht hvm hwm hB hz1 hk1 hS => ?_)
    obtain ⟨hP1, hD1⟩ := hB
    rw [ht] at hP1
    obtain ⟨hP, hD⟩ := va_joinQ (X := XLW cy o3 o4 am (vp_updL f3 ((0 : Int32).toNatClampNeg) (x.toInt64)) f4 r) (cx := (WM cy am r)) (wr := [(o3, eL cy (vp_updL f3 ((0 : Int32).toNatClampNeg) (x.toInt64))), (o4, eD cy f4)]) (w1 := (WM cy am (th r 0))) (pl := WC cy ad ks g u) hP hD [2, 3, 4, 5, 6, 7, 8, 9, 10, 11, 12] [0, 1] rfl rfl (by decide) (by decide) hk1 hFc hP1 hD1
    have hP : va_P (dC, dI) vwCl (XLW cy o3 o4 am (vp_updL f3 ((0 : Int32).toNatClampNeg) (x.toInt64)) f4 (th r 0) ++ WC cy ad ks g u) H1 := hP
    have hD : va_D (fun q : Nat => s.heap.size ≤ q) (XLW cy o3 o4 am (vp_updL f3 ((0 : Int32).toNatClampNeg) (x.toInt64)) f4 (th r 0) ++ WC cy ad ks g u) := hD
    generalize H1 = H at hP hS ⊢
    clear hP1 hD1 hPc hDc hFc hk1 hz1 hvm ht
    refine my_topi hwm ?_
    refine lv_istore (lv' := [(7, .int x), (6, .int rw9), (5, .int (nI (4 * n))), (4, .ref o4), (3, .ref o3), (2, .ref (am 0)), (1, .ref (ad .cl)), (0, .ref b)]) hx hb dL_law_495 hl (by decide) rfl (fun ls hl => ?_)
    refine lv_goto (tgt := 1791) hx hb dL_law_497 (by decide) ?_
    refine W.widen (k := cells + 603) (n := slots + 9640) (by omega) (by omega) ?_
    exact K H locs ls ⟨ad, ks, g, u, (th r 0), (vp_updL f3 ((0 : Int32).toNatClampNeg) (x.toInt64)), f4, hk, (hGI.thr).mono (by omega) (by omega) (by omega), hP, hD, hS, lv_sub hl [2, 3, 4, 5, 6, 7] rfl⟩
  · have e2 : C7_card g u (xs (4 * n + 1)) (xs (4 * n + 2)) = some (.inl (nI (k + 0))) := e2
    generalize hxx : (nI (k + 0)) = xk at e2
    refine lv_aload_n hx hb dL_law_460 rfl (lv_at hl 4 rfl) ?_
    refine lv_aload_n hx hb dL_law_461 rfl (lv_at hl 5 rfl) ?_
    refine lv_iload hx hb dL_law_462 (lv_at hl 0 rfl) ?_
    refine lv_iconst (v := 1) hx hb dL_law_464 (by decide) ?_
    refine lv_iadd hx hb dL_law_465 ?_
    refine my_topi (y := nI (4 * n + 1)) (nI_add (4 * n) 1) ?_
    refine va_sld hx hb hX hbl hbA hS (vp_in_nI (n := 4 * n + 1) (by omega) (by omega)) dL_law_466 ?_
    refine my_topi (y := xs (4 * n + 1)) (congrArg xs (nI_clamp (by omega))) ?_
    refine lv_aload_n hx hb dL_law_467 rfl (lv_at hl 5 rfl) ?_
    refine lv_iload hx hb dL_law_468 (lv_at hl 0 rfl) ?_
    refine lv_iconst (v := 2) hx hb dL_law_470 (by decide) ?_
    refine lv_iadd hx hb dL_law_471 ?_
    refine my_topi (y := nI (4 * n + 2)) (nI_add (4 * n) 2) ?_
    refine va_sld hx hb hX hbl hbA hS (vp_in_nI (n := 4 * n + 2) (by omega) (by omega)) dL_law_472 ?_
    refine my_topi (y := xs (4 * n + 2)) (congrArg xs (nI_clamp (by omega))) ?_
    refine lv_aload_n hx hb dL_law_473 rfl (lv_at hl 2 rfl) ?_
    have hPc : va_P (dC, dI) vwCl ([(o3, eL cy f3)] ++ WC cy ad ks g u) H := hP.part (X := XLW cy o3 o4 am f3 f4 r) (cx := [(o3, eL cy f3)]) [0] rfl
    have hDc : va_D (fun q : Nat => s.heap.size ≤ q) ([(o3, eL cy f3)] ++ WC cy ad ks g u) := hD.part (X := XLW cy o3 o4 am f3 f4 r) (cx := [(o3, eL cy f3)]) [0] (by decide) rfl
    have hFc : ∀ q, va_A ([(o3, eL cy f3)] ++ WC cy ad ks g u) H.size q → s.heap.size ≤ q := va_freeP (X := XLW cy o3 o4 am f3 f4 r) (cx := [(o3, eL cy f3)]) hD hS hA [0] rfl
    refine vx_calli (vx_runSX (As := [.ref (ad .cl), .int (xs (4 * n + 1)), .int (xs (4 * n + 2)), .ref o3]) (rest := []) ⟨hx, hb, hml, hown, hts⟩ (ct_card l hst dC dI cy nb ad ks g hk u ((xs (4 * n + 1))) ((xs (4 * n + 2))) o3 f3 xk H.size e2) (vx_cwSW 4 hts (gSH mw_650 mw_651 mw_562 mw_652) rfl rfl rfl (by decide +kernel) ⟨Nat.le_of_ble_eq_true rfl, Nat.le_of_ble_eq_true rfl⟩) (my_preS hPc hK hDc hE hS hFc) rfl rfl hl.1 rfl (lv_room (Nat.le_of_ble_eq_true rfl)) dL_law_474 ⟨by show _ ≤ 601024; omega, by show _ ≤ 7293034; omega⟩) hS (fun q _ h => hFc q h) hFc (fun q _ h => hFc q h) (fun E9 ce9 q9 u9 t9 H1 locs1 ht9 hvm9 hp9 _ _ _ _ _ _ _ => hp9.elim) (fun rw9 u9 t9 H1 locs ht hvm hw hB hz1 hk1 hS => ?_)
    obtain ⟨hP1, hD1⟩ := hB
    rw [ht] at hP1
    obtain ⟨hP, hD⟩ := va_joinP (X := XLW cy o3 o4 am f3 f4 r) (cx := [(o3, eL cy f3)]) (wr := ((o4, eD cy f4) :: WM cy am r)) (rx := [(o3, eL cy f3)]) (pl := WC cy ad ks g u) (pl1 := WC cy ad ks g u) hP hD [0] [1, 2, 3, 4, 5, 6, 7, 8, 9, 10, 11, 12] rfl rfl (by decide) (by decide) hk1 hFc hP1 hD1
    have hP : va_P (dC, dI) vwCl (XLW cy o3 o4 am f3 f4 r ++ WC cy ad ks g u) H1 := hP.part (X := ((o4, eD cy f4) :: WM cy am r) ++ [(o3, eL cy f3)]) (cx := XLW cy o3 o4 am f3 f4 r) [12, 0, 1, 2, 3, 4, 5, 6, 7, 8, 9, 10, 11] rfl
    have hD : va_D (fun q : Nat => s.heap.size ≤ q) (XLW cy o3 o4 am f3 f4 r ++ WC cy ad ks g u) := hD.part (X := ((o4, eD cy f4) :: WM cy am r) ++ [(o3, eL cy f3)]) (cx := XLW cy o3 o4 am f3 f4 r) [12, 0, 1, 2, 3, 4, 5, 6, 7, 8, 9, 10, 11] (by decide) rfl
    generalize H1 = H at hP hS ⊢
    clear hP1 hD1 hPc hDc hFc hk1 hz1 hvm ht
    refine lv_istore (lv' := [(6, .int rw9), (5, .int (nI (4 * n))), (4, .ref o4), (3, .ref o3), (2, .ref (am 0)), (1, .ref (ad .cl)), (0, .ref b)]) hx hb dL_law_477 hl (by decide) rfl (fun ls hl => ?_)
    refine lv_aload_n hx hb dL_law_479 rfl (lv_at hl 4 rfl) ?_
    refine lv_aload_n hx hb dL_law_480 rfl (lv_at hl 6 rfl) ?_
    refine lv_iload hx hb dL_law_481 (lv_at hl 1 rfl) ?_
    refine lv_iconst (v := 1) hx hb dL_law_483 (by decide) ?_
    refine lv_iadd hx hb dL_law_484 ?_
    refine my_topi (y := nI (4 * n + 1)) (nI_add (4 * n) 1) ?_
    refine va_sld hx hb hX hbl hbA hS (vp_in_nI (n := 4 * n + 1) (by omega) (by omega)) dL_law_485 ?_
    refine my_topi (y := xs (4 * n + 1)) (congrArg xs (nI_clamp (by omega))) ?_
    refine lv_aload_n hx hb dL_law_486 rfl (lv_at hl 6 rfl) ?_
    refine lv_iload hx hb dL_law_487 (lv_at hl 1 rfl) ?_
    refine lv_iconst (v := 2) hx hb dL_law_489 (by decide) ?_
    refine lv_iadd hx hb dL_law_490 ?_
    refine my_topi (y := nI (4 * n + 2)) (nI_add (4 * n) 2) ?_
    refine va_sld hx hb hX hbl hbA hS (vp_in_nI (n := 4 * n + 2) (by omega) (by omega)) dL_law_491 ?_
    refine my_topi (y := xs (4 * n + 2)) (congrArg xs (nI_clamp (by omega))) ?_
    have hPc := hP.sub (ws' := (WM cy am r)) [2, 3, 4, 5, 6, 7, 8, 9, 10, 11, 12] rfl
    have hDc := hD.sub (ws' := (WM cy am r)) [2, 3, 4, 5, 6, 7, 8, 9, 10, 11, 12] (by decide) rfl
    have hFc := va_free (wc := (WM cy am r)) hD hS hA [2, 3, 4, 5, 6, 7, 8, 9, 10, 11, 12] rfl
    refine va_calli (va_runV (As := [.int (xs (4 * n + 1)), .int (xs (4 * n + 2))]) (rest := []) ⟨hx, hb, hml, hown, hts⟩ (k_X8_card l dC dI cy nb am r ((xs (4 * n + 1))) ((xs (4 * n + 2))) (nI 0) (th r k) H.size e1) (cwV 2 hts (gV mw_670 mw_671 mw_672 mw_5 mw_673) rfl rfl rfl (by decide +kernel) ⟨Nat.le_of_ble_eq_true rfl, Nat.le_of_ble_eq_true rfl⟩) (my_preV hPc hK hDc hE hS hFc (va_recv (q := (RX8, TX8, 23)) hK hP (ci := 8) (q0 := 2) rfl rfl)) rfl rfl hl.1 rfl (lv_room (Nat.le_of_ble_eq_true rfl)) dL_law_492 ⟨by show _ ≤ 601024; omega, by show _ ≤ 7293034; omega⟩) hS (fun q _ h => hFc q h) hFc (fun rm9 u9 t9 H1 locs ht hvm hwm hB hz1 hk1 hS => ?_)
    obtain ⟨hP1, hD1⟩ := hB
    rw [ht] at hP1
    obtain ⟨hP, hD⟩ := va_joinQ (X := XLW cy o3 o4 am f3 f4 r) (cx := (WM cy am r)) (wr := [(o3, eL cy f3), (o4, eD cy f4)]) (w1 := (WM cy am (th r k))) (pl := WC cy ad ks g u) hP hD [2, 3, 4, 5, 6, 7, 8, 9, 10, 11, 12] [0, 1] rfl rfl (by decide) (by decide) hk1 hFc hP1 hD1
    have hP : va_P (dC, dI) vwCl (XLW cy o3 o4 am f3 f4 (th r k) ++ WC cy ad ks g u) H1 := hP
    have hD : va_D (fun q : Nat => s.heap.size ≤ q) (XLW cy o3 o4 am f3 f4 (th r k) ++ WC cy ad ks g u) := hD
    generalize H1 = H at hP hS ⊢
    clear hP1 hD1 hPc hDc hFc hk1 hz1 hvm ht
    refine my_topi hwm ?_
    refine lv_istore (lv' := [(7, .int (nI 0)), (6, .int rw9), (5, .int (nI (4 * n))), (4, .ref o4), (3, .ref o3), (2, .ref (am 0)), (1, .ref (ad .cl)), (0, .ref b)]) hx hb dL_law_495 hl (by decide) rfl (fun ls hl => ?_)
    refine lv_goto (tgt := 1791) hx hb dL_law_497 (by decide) ?_
    refine W.widen (k := cells + 603) (n := slots + 9640) (by omega) (by omega) ?_
    exact K H locs ls ⟨ad, ks, g, u, (th r k), f3, f4, hk, (hGI.thr).mono (by omega) (by omega) (by omega), hP, hD, hS, lv_sub hl [2, 3, 4, 5, 6, 7] rfl⟩
set_option maxHeartbeats 8000000 in
set_option maxRecDepth 100000 in
theorem law_c8 {p : Program} {e : Env} {s : State} {m : MethodId} {below : List Frame} {meth : Method} {c : Code} (l : Launch) (hst : l.stackTraces = false) {b L : Nat} {xs : Nat → Int32} (dC : Nat → ClassId) (dI : Nat → Nat → Nat) (cy : Nat → ClassId) (nb : Nat → Nat) (o3 o4 : Nat) (am : Nat → Nat) {n : Nat} (hn : n < 512) (hL : 4 * n + 4 ≤ L) (hL2 : L ≤ 2048) (C0 : LX p s m meth c b L xs dC dI cy nb) {Q : State → Prop} {H : Heap} {locs : List Loc} {ls : Array Slot} {cells slots : Nat} (hc : cells ≤ 400000) (hs : slots ≤ 6000000) (h : LSt s dC dI cy nb b o3 o4 am n (4 * n) H locs ls) (K : ∀ (H : Heap) (locs : List Loc) (ls : Array Slot), LSt s dC dI cy nb b o3 o4 am (n + 1) (4 * n) H locs ls → W p l e room_1 s m #[Value.ref b] below meth c H locs (cells + 603) (slots + 9640) Q (F0 m 1791 ls [])) : W p l e room_1 s m #[Value.ref b] below meth c H locs cells slots Q (F0 m 500 ls []) := by
  obtain ⟨hx, hb, hr, hml, hown, hts, hX, hbl, hlocks, hK, hE⟩ := C0
  have hA : ∀ q : Nat, s.heap.size ≤ q → (fun q : Nat => s.heap.size ≤ q) q := fun _ h => h
  have hbA : ¬ (fun q : Nat => s.heap.size ≤ q) b := Nat.not_le.mpr hbl
  obtain ⟨ad, ks, g, u, r, f3, f4, hk, hGI, hP, hD, hS, hl⟩ := h
  have h9 : QT (F8_letter r (xs (4 * n + 1)) (xs (4 * n + 2))) (C7_letter g u (xs (4 * n + 1)) (xs (4 * n + 2))) r 0 := q_letter hGI (by omega)
  rcases h9 with ⟨x, e1, e2⟩ | ⟨k, k1, k2, e1, e2⟩
  · refine lv_aload_n hx hb dL_law_500 rfl (lv_at hl 4 rfl) ?_
    refine lv_aload_n hx hb dL_law_501 rfl (lv_at hl 5 rfl) ?_
    refine lv_iload hx hb dL_law_502 (lv_at hl 0 rfl) ?_
    refine lv_iconst (v := 1) hx hb dL_law_504 (by decide) ?_
    refine lv_iadd hx hb dL_law_505 ?_
    refine my_topi (y := nI (4 * n + 1)) (nI_add (4 * n) 1) ?_
    refine va_sld hx hb hX hbl hbA hS (vp_in_nI (n := 4 * n + 1) (by omega) (by omega)) dL_law_506 ?_
    refine my_topi (y := xs (4 * n + 1)) (congrArg xs (nI_clamp (by omega))) ?_
    refine lv_aload_n hx hb dL_law_507 rfl (lv_at hl 5 rfl) ?_
    refine lv_iload hx hb dL_law_508 (lv_at hl 0 rfl) ?_
    refine lv_iconst (v := 2) hx hb dL_law_510 (by decide) ?_
    refine lv_iadd hx hb dL_law_511 ?_
    refine my_topi (y := nI (4 * n + 2)) (nI_add (4 * n) 2) ?_
    refine va_sld hx hb hX hbl hbA hS (vp_in_nI (n := 4 * n + 2) (by omega) (by omega)) dL_law_512 ?_
    refine my_topi (y := xs (4 * n + 2)) (congrArg xs (nI_clamp (by omega))) ?_
    refine lv_aload_n hx hb dL_law_513 rfl (lv_at hl 2 rfl) ?_
    have hPc : va_P (dC, dI) vwCl ([(o3, eL cy f3)] ++ WC cy ad ks g u) H := hP.part (X := XLW cy o3 o4 am f3 f4 r) (cx := [(o3, eL cy f3)]) [0] rfl
    have hDc : va_D (fun q : Nat => s.heap.size ≤ q) ([(o3, eL cy f3)] ++ WC cy ad ks g u) := hD.part (X := XLW cy o3 o4 am f3 f4 r) (cx := [(o3, eL cy f3)]) [0] (by decide) rfl
    have hFc : ∀ q, va_A ([(o3, eL cy f3)] ++ WC cy ad ks g u) H.size q → s.heap.size ≤ q := va_freeP (X := XLW cy o3 o4 am f3 f4 r) (cx := [(o3, eL cy f3)]) hD hS hA [0] rfl
    refine vx_calli (vx_runSX (As := [.ref (ad .cl), .int (xs (4 * n + 1)), .int (xs (4 * n + 2)), .ref o3]) (rest := []) ⟨hx, hb, hml, hown, hts⟩ (cn_letter l hst dC dI cy nb ad ks g hk u ((xs (4 * n + 1))) ((xs (4 * n + 2))) o3 f3 x H.size e2) (vx_cwSW 4 hts (gSH mw_679 mw_680 mw_562 mw_681) rfl rfl rfl (by decide +kernel) ⟨Nat.le_of_ble_eq_true rfl, Nat.le_of_ble_eq_true rfl⟩) (my_preS hPc hK hDc hE hS hFc) rfl rfl hl.1 rfl (lv_room (Nat.le_of_ble_eq_true rfl)) dL_law_514 ⟨by show _ ≤ 601024; omega, by show _ ≤ 7293034; omega⟩) hS (fun q _ h => hFc q h) hFc (fun q _ h => hFc q h) (fun E9 ce9 q9 u9 t9 H1 locs1 ht9 hvm9 hp9 _ _ _ _ _ _ _ => hp9.elim) (fun rw9 u9 t9 H1 locs ht hvm hw hB hz1 hk1 hS => ?_)
    obtain ⟨hP1, hD1⟩ := hB
    rw [ht] at hP1
    obtain ⟨hP, hD⟩ := va_joinP (X := XLW cy o3 o4 am f3 f4 r) (cx := [(o3, eL cy f3)]) (wr := ((o4, eD cy f4) :: WM cy am r)) (rx := [(o3, eL cy (vp_updL f3 ((0 : Int32).toNatClampNeg) (x.toInt64)))]) (pl := WC cy ad ks g u) (pl1 := WC cy ad ks g u) hP hD [0] [1, 2, 3, 4, 5, 6, 7, 8, 9, 10, 11, 12] rfl rfl (by decide) (by decide) hk1 hFc hP1 hD1
    have hP : va_P (dC, dI) vwCl (XLW cy o3 o4 am (vp_updL f3 ((0 : Int32).toNatClampNeg) (x.toInt64)) f4 r ++ WC cy ad ks g u) H1 := hP.part (X := ((o4, eD cy f4) :: WM cy am r) ++ [(o3, eL cy (vp_updL f3 ((0 : Int32).toNatClampNeg) (x.toInt64)))]) (cx := XLW cy o3 o4 am (vp_updL f3 ((0 : Int32).toNatClampNeg) (x.toInt64)) f4 r) [12, 0, 1, 2, 3, 4, 5, 6, 7, 8, 9, 10, 11] rfl
    have hD : va_D (fun q : Nat => s.heap.size ≤ q) (XLW cy o3 o4 am (vp_updL f3 ((0 : Int32).toNatClampNeg) (x.toInt64)) f4 r ++ WC cy ad ks g u) := hD.part (X := ((o4, eD cy f4) :: WM cy am r) ++ [(o3, eL cy (vp_updL f3 ((0 : Int32).toNatClampNeg) (x.toInt64)))]) (cx := XLW cy o3 o4 am (vp_updL f3 ((0 : Int32).toNatClampNeg) (x.toInt64)) f4 r) [12, 0, 1, 2, 3, 4, 5, 6, 7, 8, 9, 10, 11] (by decide) rfl
    generalize H1 = H at hP hS ⊢
    clear hP1 hD1 hPc hDc hFc hk1 hz1 hvm ht
    refine lv_istore (lv' := [(6, .int rw9), (5, .int (nI (4 * n))), (4, .ref o4), (3, .ref o3), (2, .ref (am 0)), (1, .ref (ad .cl)), (0, .ref b)]) hx hb dL_law_517 hl (by decide) rfl (fun ls hl => ?_)
    refine lv_aload_n hx hb dL_law_519 rfl (lv_at hl 4 rfl) ?_
    refine lv_aload_n hx hb dL_law_520 rfl (lv_at hl 6 rfl) ?_
    refine lv_iload hx hb dL_law_521 (lv_at hl 1 rfl) ?_
    refine lv_iconst (v := 1) hx hb dL_law_523 (by decide) ?_
    refine lv_iadd hx hb dL_law_524 ?_
    refine my_topi (y := nI (4 * n + 1)) (nI_add (4 * n) 1) ?_
    refine va_sld hx hb hX hbl hbA hS (vp_in_nI (n := 4 * n + 1) (by omega) (by omega)) dL_law_525 ?_
    refine my_topi (y := xs (4 * n + 1)) (congrArg xs (nI_clamp (by omega))) ?_
    refine lv_aload_n hx hb dL_law_526 rfl (lv_at hl 6 rfl) ?_
    refine lv_iload hx hb dL_law_527 (lv_at hl 1 rfl) ?_
    refine lv_iconst (v := 2) hx hb dL_law_529 (by decide) ?_
    refine lv_iadd hx hb dL_law_530 ?_
    refine my_topi (y := nI (4 * n + 2)) (nI_add (4 * n) 2) ?_
    refine va_sld hx hb hX hbl hbA hS (vp_in_nI (n := 4 * n + 2) (by omega) (by omega)) dL_law_531 ?_
    refine my_topi (y := xs (4 * n + 2)) (congrArg xs (nI_clamp (by omega))) ?_
    have hPc := hP.sub (ws' := (WM cy am r)) [2, 3, 4, 5, 6, 7, 8, 9, 10, 11, 12] rfl
    have hDc := hD.sub (ws' := (WM cy am r)) [2, 3, 4, 5, 6, 7, 8, 9, 10, 11, 12] (by decide) rfl
    have hFc := va_free (wc := (WM cy am r)) hD hS hA [2, 3, 4, 5, 6, 7, 8, 9, 10, 11, 12] rfl
    refine va_calli (va_runV (As := [.int (xs (4 * n + 1)), .int (xs (4 * n + 2))]) (rest := []) ⟨hx, hb, hml, hown, hts⟩ (k_X8_letter l dC dI cy nb am r ((xs (4 * n + 1))) ((xs (4 * n + 2))) x (th r 0) H.size e1) (cwV 2 hts (gV mw_686 mw_687 mw_688 mw_5 mw_689) rfl rfl rfl (by decide +kernel) ⟨Nat.le_of_ble_eq_true rfl, Nat.le_of_ble_eq_true rfl⟩) (my_preV hPc hK hDc hE hS hFc (va_recv (q := (RX8, TX8, 23)) hK hP (ci := 8) (q0 := 2) rfl rfl)) rfl rfl hl.1 rfl (lv_room (Nat.le_of_ble_eq_true rfl)) dL_law_532 ⟨by show _ ≤ 601024; omega, by show _ ≤ 7293034; omega⟩) hS (fun q _ h => hFc q h) hFc (fun rm9 u9 t9 H1 locs ht hvm hwm hB hz1 hk1 hS => ?_)
    obtain ⟨hP1, hD1⟩ := hB
    rw [ht] at hP1
    obtain ⟨hP, hD⟩ := va_joinQ (X := XLW cy o3 o4 am (vp_updL f3 ((0 : Int32).toNatClampNeg) (x.toInt64)) f4 r) (cx := (WM cy am r)) (wr := [(o3, eL cy (vp_updL f3 ((0 : Int32).toNatClampNeg) (x.toInt64))), (o4, eD cy f4)]) (w1 := (WM cy am (th r 0))) (pl := WC cy ad ks g u) hP hD [2, 3, 4, 5, 6, 7, 8, 9, 10, 11, 12] [0, 1] rfl rfl (by decide) (by decide) hk1 hFc hP1 hD1
    have hP : va_P (dC, dI) vwCl (XLW cy o3 o4 am (vp_updL f3 ((0 : Int32).toNatClampNeg) (x.toInt64)) f4 (th r 0) ++ WC cy ad ks g u) H1 := hP
    have hD : va_D (fun q : Nat => s.heap.size ≤ q) (XLW cy o3 o4 am (vp_updL f3 ((0 : Int32).toNatClampNeg) (x.toInt64)) f4 (th r 0) ++ WC cy ad ks g u) := hD
    generalize H1 = H at hP hS ⊢
    clear hP1 hD1 hPc hDc hFc hk1 hz1 hvm ht
    refine my_topi hwm ?_
    refine lv_istore (lv' := [(7, .int x), (6, .int rw9), (5, .int (nI (4 * n))), (4, .ref o4), (3, .ref o3), (2, .ref (am 0)), (1, .ref (ad .cl)), (0, .ref b)]) hx hb dL_law_535 hl (by decide) rfl (fun ls hl => ?_)
    refine lv_goto (tgt := 1791) hx hb dL_law_537 (by decide) ?_
    refine W.widen (k := cells + 603) (n := slots + 9640) (by omega) (by omega) ?_
    exact K H locs ls ⟨ad, ks, g, u, (th r 0), (vp_updL f3 ((0 : Int32).toNatClampNeg) (x.toInt64)), f4, hk, (hGI.thr).mono (by omega) (by omega) (by omega), hP, hD, hS, lv_sub hl [2, 3, 4, 5, 6, 7] rfl⟩
  · have e2 : C7_letter g u (xs (4 * n + 1)) (xs (4 * n + 2)) = some (.inl (nI (k + 0))) := e2
    generalize hxx : (nI (k + 0)) = xk at e2
    have hxk : xk = 1 := x1_letter e2
    refine lv_aload_n hx hb dL_law_500 rfl (lv_at hl 4 rfl) ?_
    refine lv_aload_n hx hb dL_law_501 rfl (lv_at hl 5 rfl) ?_
    refine lv_iload hx hb dL_law_502 (lv_at hl 0 rfl) ?_
    refine lv_iconst (v := 1) hx hb dL_law_504 (by decide) ?_
    refine lv_iadd hx hb dL_law_505 ?_
    refine my_topi (y := nI (4 * n + 1)) (nI_add (4 * n) 1) ?_
    refine va_sld hx hb hX hbl hbA hS (vp_in_nI (n := 4 * n + 1) (by omega) (by omega)) dL_law_506 ?_
    refine my_topi (y := xs (4 * n + 1)) (congrArg xs (nI_clamp (by omega))) ?_
    refine lv_aload_n hx hb dL_law_507 rfl (lv_at hl 5 rfl) ?_
    refine lv_iload hx hb dL_law_508 (lv_at hl 0 rfl) ?_
    refine lv_iconst (v := 2) hx hb dL_law_510 (by decide) ?_
    refine lv_iadd hx hb dL_law_511 ?_
    refine my_topi (y := nI (4 * n + 2)) (nI_add (4 * n) 2) ?_
    refine va_sld hx hb hX hbl hbA hS (vp_in_nI (n := 4 * n + 2) (by omega) (by omega)) dL_law_512 ?_
    refine my_topi (y := xs (4 * n + 2)) (congrArg xs (nI_clamp (by omega))) ?_
    refine lv_aload_n hx hb dL_law_513 rfl (lv_at hl 2 rfl) ?_
    have hPc : va_P (dC, dI) vwCl ([(o3, eL cy f3)] ++ WC cy ad ks g u) H := hP.part (X := XLW cy o3 o4 am f3 f4 r) (cx := [(o3, eL cy f3)]) [0] rfl
    have hDc : va_D (fun q : Nat => s.heap.size ≤ q) ([(o3, eL cy f3)] ++ WC cy ad ks g u) := hD.part (X := XLW cy o3 o4 am f3 f4 r) (cx := [(o3, eL cy f3)]) [0] (by decide) rfl
    have hFc : ∀ q, va_A ([(o3, eL cy f3)] ++ WC cy ad ks g u) H.size q → s.heap.size ≤ q := va_freeP (X := XLW cy o3 o4 am f3 f4 r) (cx := [(o3, eL cy f3)]) hD hS hA [0] rfl
    refine vx_calli (vx_runSX (As := [.ref (ad .cl), .int (xs (4 * n + 1)), .int (xs (4 * n + 2)), .ref o3]) (rest := []) ⟨hx, hb, hml, hown, hts⟩ (ct_letter l hst dC dI cy nb ad ks g hk u ((xs (4 * n + 1))) ((xs (4 * n + 2))) o3 f3 xk H.size hxk e2) (vx_cwSW 4 hts (gSH mw_679 mw_680 mw_562 mw_681) rfl rfl rfl (by decide +kernel) ⟨Nat.le_of_ble_eq_true rfl, Nat.le_of_ble_eq_true rfl⟩) (my_preS hPc hK hDc hE hS hFc) rfl rfl hl.1 rfl (lv_room (Nat.le_of_ble_eq_true rfl)) dL_law_514 ⟨by show _ ≤ 601024; omega, by show _ ≤ 7293034; omega⟩) hS (fun q _ h => hFc q h) hFc (fun q _ h => hFc q h) (fun E9 ce9 q9 u9 t9 H1 locs1 ht9 hvm9 hp9 _ _ _ _ _ _ _ => hp9.elim) (fun rw9 u9 t9 H1 locs ht hvm hw hB hz1 hk1 hS => ?_)
    obtain ⟨hP1, hD1⟩ := hB
    rw [ht] at hP1
    obtain ⟨hP, hD⟩ := va_joinP (X := XLW cy o3 o4 am f3 f4 r) (cx := [(o3, eL cy f3)]) (wr := ((o4, eD cy f4) :: WM cy am r)) (rx := [(o3, eL cy f3)]) (pl := WC cy ad ks g u) (pl1 := WC cy ad ks g u) hP hD [0] [1, 2, 3, 4, 5, 6, 7, 8, 9, 10, 11, 12] rfl rfl (by decide) (by decide) hk1 hFc hP1 hD1
    have hP : va_P (dC, dI) vwCl (XLW cy o3 o4 am f3 f4 r ++ WC cy ad ks g u) H1 := hP.part (X := ((o4, eD cy f4) :: WM cy am r) ++ [(o3, eL cy f3)]) (cx := XLW cy o3 o4 am f3 f4 r) [12, 0, 1, 2, 3, 4, 5, 6, 7, 8, 9, 10, 11] rfl
    have hD : va_D (fun q : Nat => s.heap.size ≤ q) (XLW cy o3 o4 am f3 f4 r ++ WC cy ad ks g u) := hD.part (X := ((o4, eD cy f4) :: WM cy am r) ++ [(o3, eL cy f3)]) (cx := XLW cy o3 o4 am f3 f4 r) [12, 0, 1, 2, 3, 4, 5, 6, 7, 8, 9, 10, 11] (by decide) rfl
    generalize H1 = H at hP hS ⊢
    clear hP1 hD1 hPc hDc hFc hk1 hz1 hvm ht
    refine lv_istore (lv' := [(6, .int rw9), (5, .int (nI (4 * n))), (4, .ref o4), (3, .ref o3), (2, .ref (am 0)), (1, .ref (ad .cl)), (0, .ref b)]) hx hb dL_law_517 hl (by decide) rfl (fun ls hl => ?_)
    refine lv_aload_n hx hb dL_law_519 rfl (lv_at hl 4 rfl) ?_
    refine lv_aload_n hx hb dL_law_520 rfl (lv_at hl 6 rfl) ?_
    refine lv_iload hx hb dL_law_521 (lv_at hl 1 rfl) ?_
    refine lv_iconst (v := 1) hx hb dL_law_523 (by decide) ?_
    refine lv_iadd hx hb dL_law_524 ?_
    refine my_topi (y := nI (4 * n + 1)) (nI_add (4 * n) 1) ?_
    refine va_sld hx hb hX hbl hbA hS (vp_in_nI (n := 4 * n + 1) (by omega) (by omega)) dL_law_525 ?_
    refine my_topi (y := xs (4 * n + 1)) (congrArg xs (nI_clamp (by omega))) ?_
    refine lv_aload_n hx hb dL_law_526 rfl (lv_at hl 6 rfl) ?_
    refine lv_iload hx hb dL_law_527 (lv_at hl 1 rfl) ?_
    refine lv_iconst (v := 2) hx hb dL_law_529 (by decide) ?_
    refine lv_iadd hx hb dL_law_530 ?_
    refine my_topi (y := nI (4 * n + 2)) (nI_add (4 * n) 2) ?_
    refine va_sld hx hb hX hbl hbA hS (vp_in_nI (n := 4 * n + 2) (by omega) (by omega)) dL_law_531 ?_
    refine my_topi (y := xs (4 * n + 2)) (congrArg xs (nI_clamp (by omega))) ?_
    have hPc := hP.sub (ws' := (WM cy am r)) [2, 3, 4, 5, 6, 7, 8, 9, 10, 11, 12] rfl
    have hDc := hD.sub (ws' := (WM cy am r)) [2, 3, 4, 5, 6, 7, 8, 9, 10, 11, 12] (by decide) rfl
    have hFc := va_free (wc := (WM cy am r)) hD hS hA [2, 3, 4, 5, 6, 7, 8, 9, 10, 11, 12] rfl
    refine va_calli (va_runV (As := [.int (xs (4 * n + 1)), .int (xs (4 * n + 2))]) (rest := []) ⟨hx, hb, hml, hown, hts⟩ (k_X8_letter l dC dI cy nb am r ((xs (4 * n + 1))) ((xs (4 * n + 2))) (nI 0) (th r k) H.size e1) (cwV 2 hts (gV mw_686 mw_687 mw_688 mw_5 mw_689) rfl rfl rfl (by decide +kernel) ⟨Nat.le_of_ble_eq_true rfl, Nat.le_of_ble_eq_true rfl⟩) (my_preV hPc hK hDc hE hS hFc (va_recv (q := (RX8, TX8, 23)) hK hP (ci := 8) (q0 := 2) rfl rfl)) rfl rfl hl.1 rfl (lv_room (Nat.le_of_ble_eq_true rfl)) dL_law_532 ⟨by show _ ≤ 601024; omega, by show _ ≤ 7293034; omega⟩) hS (fun q _ h => hFc q h) hFc (fun rm9 u9 t9 H1 locs ht hvm hwm hB hz1 hk1 hS => ?_)
    obtain ⟨hP1, hD1⟩ := hB
    rw [ht] at hP1
    obtain ⟨hP, hD⟩ := va_joinQ (X := XLW cy o3 o4 am f3 f4 r) (cx := (WM cy am r)) (wr := [(o3, eL cy f3), (o4, eD cy f4)]) (w1 := (WM cy am (th r k))) (pl := WC cy ad ks g u) hP hD [2, 3, 4, 5, 6, 7, 8, 9, 10, 11, 12] [0, 1] rfl rfl (by decide) (by decide) hk1 hFc hP1 hD1
    have hP : va_P (dC, dI) vwCl (XLW cy o3 o4 am f3 f4 (th r k) ++ WC cy ad ks g u) H1 := hP
    have hD : va_D (fun q : Nat => s.heap.size ≤ q) (XLW cy o3 o4 am f3 f4 (th r k) ++ WC cy ad ks g u) := hD
    generalize H1 = H at hP hS ⊢
    clear hP1 hD1 hPc hDc hFc hk1 hz1 hvm ht
    refine my_topi hwm ?_
    refine lv_istore (lv' := [(7, .int (nI 0)), (6, .int rw9), (5, .int (nI (4 * n))), (4, .ref o4), (3, .ref o3), (2, .ref (am 0)), (1, .ref (ad .cl)), (0, .ref b)]) hx hb dL_law_535 hl (by decide) rfl (fun ls hl => ?_)
    refine lv_goto (tgt := 1791) hx hb dL_law_537 (by decide) ?_
    refine W.widen (k := cells + 603) (n := slots + 9640) (by omega) (by omega) ?_
    exact K H locs ls ⟨ad, ks, g, u, (th r k), f3, f4, hk, (hGI.thr).mono (by omega) (by omega) (by omega), hP, hD, hS, lv_sub hl [2, 3, 4, 5, 6, 7] rfl⟩
end
section
set_option maxHeartbeats 8000000 in
set_option maxRecDepth 100000 in
theorem law_c9 {p : Program} {e : Env} {s : State} {m : MethodId} {below : List Frame} {meth : Method} {c : Code} (l : Launch) (hst : l.stackTraces = false) {b L : Nat} {xs : Nat → Int32} (dC : Nat → ClassId) (dI : Nat → Nat → Nat) (cy : Nat → ClassId) (nb : Nat → Nat) (o3 o4 : Nat) (am : Nat → Nat) {n : Nat} (hn : n < 512) (hL : 4 * n + 4 ≤ L) (hL2 : L ≤ 2048) (C0 : LX p s m meth c b L xs dC dI cy nb) {Q : State → Prop} {H : Heap} {locs : List Loc} {ls : Array Slot} {cells slots : Nat} (hc : cells ≤ 400000) (hs : slots ≤ 6000000) (h : LSt s dC dI cy nb b o3 o4 am n (4 * n) H locs ls) (K : ∀ (H : Heap) (locs : List Loc) (ls : Array Slot), LSt s dC dI cy nb b o3 o4 am (n + 1) (4 * n) H locs ls → W p l e room_1 s m #[Value.ref b] below meth c H locs (cells + 603) (slots + 9640) Q (F0 m 1791 ls [])) : W p l e room_1 s m #[Value.ref b] below meth c H locs cells slots Q (F0 m 540 ls []) := by
  obtain ⟨hx, hb, hr, hml, hown, hts, hX, hbl, hlocks, hK, hE⟩ := C0
  have hA : ∀ q : Nat, s.heap.size ≤ q → (fun q : Nat => s.heap.size ≤ q) q := fun _ h => h
  have hbA : ¬ (fun q : Nat => s.heap.size ≤ q) b := Nat.not_le.mpr hbl
  obtain ⟨ad, ks, g, u, r, f3, f4, hk, hGI, hP, hD, hS, hl⟩ := h
  have h9 : QT (F8_lot r (xs (4 * n + 1)) (xs (4 * n + 2))) (C7_lot g u (xs (4 * n + 1)) (xs (4 * n + 2))) r 0 := q_lot hGI
  rcases h9 with ⟨x, e1, e2⟩ | ⟨k, k1, k2, e1, e2⟩
  · refine lv_aload_n hx hb dL_law_540 rfl (lv_at hl 4 rfl) ?_
    refine lv_aload_n hx hb dL_law_541 rfl (lv_at hl 5 rfl) ?_
    refine lv_iload hx hb dL_law_542 (lv_at hl 0 rfl) ?_
    refine lv_iconst (v := 1) hx hb dL_law_544 (by decide) ?_
    refine lv_iadd hx hb dL_law_545 ?_
    refine my_topi (y := nI (4 * n + 1)) (nI_add (4 * n) 1) ?_
    refine va_sld hx hb hX hbl hbA hS (vp_in_nI (n := 4 * n + 1) (by omega) (by omega)) dL_law_546 ?_
    refine my_topi (y := xs (4 * n + 1)) (congrArg xs (nI_clamp (by omega))) ?_
    refine lv_aload_n hx hb dL_law_547 rfl (lv_at hl 5 rfl) ?_
    refine lv_iload hx hb dL_law_548 (lv_at hl 0 rfl) ?_
    refine lv_iconst (v := 2) hx hb dL_law_550 (by decide) ?_
    refine lv_iadd hx hb dL_law_551 ?_
    refine my_topi (y := nI (4 * n + 2)) (nI_add (4 * n) 2) ?_
    refine va_sld hx hb hX hbl hbA hS (vp_in_nI (n := 4 * n + 2) (by omega) (by omega)) dL_law_552 ?_
    refine my_topi (y := xs (4 * n + 2)) (congrArg xs (nI_clamp (by omega))) ?_
    refine lv_aload_n hx hb dL_law_553 rfl (lv_at hl 2 rfl) ?_
    have hPc : va_P (dC, dI) vwCl ([(o3, eL cy f3)] ++ WC cy ad ks g u) H := hP.part (X := XLW cy o3 o4 am f3 f4 r) (cx := [(o3, eL cy f3)]) [0] rfl
    have hDc : va_D (fun q : Nat => s.heap.size ≤ q) ([(o3, eL cy f3)] ++ WC cy ad ks g u) := hD.part (X := XLW cy o3 o4 am f3 f4 r) (cx := [(o3, eL cy f3)]) [0] (by decide) rfl
    have hFc : ∀ q, va_A ([(o3, eL cy f3)] ++ WC cy ad ks g u) H.size q → s.heap.size ≤ q := va_freeP (X := XLW cy o3 o4 am f3 f4 r) (cx := [(o3, eL cy f3)]) hD hS hA [0] rfl
    refine vx_calli (vx_runSX (As := [.ref (ad .cl), .int (xs (4 * n + 1)), .int (xs (4 * n + 2)), .ref o3]) (rest := []) ⟨hx, hb, hml, hown, hts⟩ (cn_lot l hst dC dI cy nb ad ks g hk u ((xs (4 * n + 1))) ((xs (4 * n + 2))) o3 f3 x H.size e2) (vx_cwSW 4 hts (gSH mw_690 mw_691 mw_562 mw_692) rfl rfl rfl (by decide +kernel) ⟨Nat.le_of_ble_eq_true rfl, Nat.le_of_ble_eq_true rfl⟩) (my_preS hPc hK hDc hE hS hFc) rfl rfl hl.1 rfl (lv_room (Nat.le_of_ble_eq_true rfl)) dL_law_554 ⟨by show _ ≤ 601024; omega, by show _ ≤ 7293034; omega⟩) hS (fun q _ h => hFc q h) hFc (fun q _ h => hFc q h) (fun E9 ce9 q9 u9 t9 H1 locs1 ht9 hvm9 hp9 _ _ _ _ _ _ _ => hp9.elim) (fun rw9 u9 t9 H1 locs ht hvm hw hB hz1 hk1 hS => ?_)
    obtain ⟨hP1, hD1⟩ := hB
    rw [ht] at hP1
    obtain ⟨hP, hD⟩ := va_joinP (X := XLW cy o3 o4 am f3 f4 r) (cx := [(o3, eL cy f3)]) (wr := ((o4, eD cy f4) :: WM cy am r)) (rx := [(o3, eL cy (vp_updL f3 ((0 : Int32).toNatClampNeg) (x.toInt64)))]) (pl := WC cy ad ks g u) (pl1 := WC cy ad ks g u) hP hD [0] [1, 2, 3, 4, 5, 6, 7, 8, 9, 10, 11, 12] rfl rfl (by decide) (by decide) hk1 hFc hP1 hD1
    have hP : va_P (dC, dI) vwCl (XLW cy o3 o4 am (vp_updL f3 ((0 : Int32).toNatClampNeg) (x.toInt64)) f4 r ++ WC cy ad ks g u) H1 := hP.part (X := ((o4, eD cy f4) :: WM cy am r) ++ [(o3, eL cy (vp_updL f3 ((0 : Int32).toNatClampNeg) (x.toInt64)))]) (cx := XLW cy o3 o4 am (vp_updL f3 ((0 : Int32).toNatClampNeg) (x.toInt64)) f4 r) [12, 0, 1, 2, 3, 4, 5, 6, 7, 8, 9, 10, 11] rfl
    have hD : va_D (fun q : Nat => s.heap.size ≤ q) (XLW cy o3 o4 am (vp_updL f3 ((0 : Int32).toNatClampNeg) (x.toInt64)) f4 r ++ WC cy ad ks g u) := hD.part (X := ((o4, eD cy f4) :: WM cy am r) ++ [(o3, eL cy (vp_updL f3 ((0 : Int32).toNatClampNeg) (x.toInt64)))]) (cx := XLW cy o3 o4 am (vp_updL f3 ((0 : Int32).toNatClampNeg) (x.toInt64)) f4 r) [12, 0, 1, 2, 3, 4, 5, 6, 7, 8, 9, 10, 11] (by decide) rfl
    generalize H1 = H at hP hS ⊢
    clear hP1 hD1 hPc hDc hFc hk1 hz1 hvm ht
    refine lv_istore (lv' := [(6, .int rw9), (5, .int (nI (4 * n))), (4, .ref o4), (3, .ref o3), (2, .ref (am 0)), (1, .ref (ad .cl)), (0, .ref b)]) hx hb dL_law_557 hl (by decide) rfl (fun ls hl => ?_)
    refine lv_aload_n hx hb dL_law_559 rfl (lv_at hl 4 rfl) ?_
    refine lv_aload_n hx hb dL_law_560 rfl (lv_at hl 6 rfl) ?_
    refine lv_iload hx hb dL_law_561 (lv_at hl 1 rfl) ?_
    refine lv_iconst (v := 1) hx hb dL_law_563 (by decide) ?_
    refine lv_iadd hx hb dL_law_564 ?_
    refine my_topi (y := nI (4 * n + 1)) (nI_add (4 * n) 1) ?_
    refine va_sld hx hb hX hbl hbA hS (vp_in_nI (n := 4 * n + 1) (by omega) (by omega)) dL_law_565 ?_
    refine my_topi (y := xs (4 * n + 1)) (congrArg xs (nI_clamp (by omega))) ?_
    refine lv_aload_n hx hb dL_law_566 rfl (lv_at hl 6 rfl) ?_
    refine lv_iload hx hb dL_law_567 (lv_at hl 1 rfl) ?_
    refine lv_iconst (v := 2) hx hb dL_law_569 (by decide) ?_
    refine lv_iadd hx hb dL_law_570 ?_
    refine my_topi (y := nI (4 * n + 2)) (nI_add (4 * n) 2) ?_
    refine va_sld hx hb hX hbl hbA hS (vp_in_nI (n := 4 * n + 2) (by omega) (by omega)) dL_law_571 ?_
    refine my_topi (y := xs (4 * n + 2)) (congrArg xs (nI_clamp (by omega))) ?_
    have hPc := hP.sub (ws' := (WM cy am r)) [2, 3, 4, 5, 6, 7, 8, 9, 10, 11, 12] rfl
    have hDc := hD.sub (ws' := (WM cy am r)) [2, 3, 4, 5, 6, 7, 8, 9, 10, 11, 12] (by decide) rfl
    have hFc := va_free (wc := (WM cy am r)) hD hS hA [2, 3, 4, 5, 6, 7, 8, 9, 10, 11, 12] rfl
    refine va_calli (va_runV (As := [.int (xs (4 * n + 1)), .int (xs (4 * n + 2))]) (rest := []) ⟨hx, hb, hml, hown, hts⟩ (k_X8_lot l dC dI cy nb am r ((xs (4 * n + 1))) ((xs (4 * n + 2))) x (th r 0) H.size e1) (cwV 2 hts (gV mw_716 mw_717 mw_718 mw_5 mw_719) rfl rfl rfl (by decide +kernel) ⟨Nat.le_of_ble_eq_true rfl, Nat.le_of_ble_eq_true rfl⟩) (my_preV hPc hK hDc hE hS hFc (va_recv (q := (RX8, TX8, 23)) hK hP (ci := 8) (q0 := 2) rfl rfl)) rfl rfl hl.1 rfl (lv_room (Nat.le_of_ble_eq_true rfl)) dL_law_572 ⟨by show _ ≤ 601024; omega, by show _ ≤ 7293034; omega⟩) hS (fun q _ h => hFc q h) hFc (fun rm9 u9 t9 H1 locs ht hvm hwm hB hz1 hk1 hS => ?_)
    obtain ⟨hP1, hD1⟩ := hB
    rw [ht] at hP1
    obtain ⟨hP, hD⟩ := va_joinQ (X := XLW cy o3 o4 am (vp_updL f3 ((0 : Int32).toNatClampNeg) (x.toInt64)) f4 r) (cx := (WM cy am r)) (wr := [(o3, eL cy (vp_updL f3 ((0 : Int32).toNatClampNeg) (x.toInt64))), (o4, eD cy f4)]) (w1 := (WM cy am (th r 0))) (pl := WC cy ad ks g u) hP hD [2, 3, 4, 5, 6, 7, 8, 9, 10, 11, 12] [0, 1] rfl rfl (by decide) (by decide) hk1 hFc hP1 hD1
    have hP : va_P (dC, dI) vwCl (XLW cy o3 o4 am (vp_updL f3 ((0 : Int32).toNatClampNeg) (x.toInt64)) f4 (th r 0) ++ WC cy ad ks g u) H1 := hP
    have hD : va_D (fun q : Nat => s.heap.size ≤ q) (XLW cy o3 o4 am (vp_updL f3 ((0 : Int32).toNatClampNeg) (x.toInt64)) f4 (th r 0) ++ WC cy ad ks g u) := hD
    generalize H1 = H at hP hS ⊢
    clear hP1 hD1 hPc hDc hFc hk1 hz1 hvm ht
    refine my_topi hwm ?_
    refine lv_istore (lv' := [(7, .int x), (6, .int rw9), (5, .int (nI (4 * n))), (4, .ref o4), (3, .ref o3), (2, .ref (am 0)), (1, .ref (ad .cl)), (0, .ref b)]) hx hb dL_law_575 hl (by decide) rfl (fun ls hl => ?_)
    refine lv_goto (tgt := 1791) hx hb dL_law_577 (by decide) ?_
    refine W.widen (k := cells + 603) (n := slots + 9640) (by omega) (by omega) ?_
    exact K H locs ls ⟨ad, ks, g, u, (th r 0), (vp_updL f3 ((0 : Int32).toNatClampNeg) (x.toInt64)), f4, hk, (hGI.thr).mono (by omega) (by omega) (by omega), hP, hD, hS, lv_sub hl [2, 3, 4, 5, 6, 7] rfl⟩
  · have e2 : C7_lot g u (xs (4 * n + 1)) (xs (4 * n + 2)) = some (.inl (nI (k + 0))) := e2
    generalize hxx : (nI (k + 0)) = xk at e2
    refine lv_aload_n hx hb dL_law_540 rfl (lv_at hl 4 rfl) ?_
    refine lv_aload_n hx hb dL_law_541 rfl (lv_at hl 5 rfl) ?_
    refine lv_iload hx hb dL_law_542 (lv_at hl 0 rfl) ?_
    refine lv_iconst (v := 1) hx hb dL_law_544 (by decide) ?_
    refine lv_iadd hx hb dL_law_545 ?_
    refine my_topi (y := nI (4 * n + 1)) (nI_add (4 * n) 1) ?_
    refine va_sld hx hb hX hbl hbA hS (vp_in_nI (n := 4 * n + 1) (by omega) (by omega)) dL_law_546 ?_
    refine my_topi (y := xs (4 * n + 1)) (congrArg xs (nI_clamp (by omega))) ?_
    refine lv_aload_n hx hb dL_law_547 rfl (lv_at hl 5 rfl) ?_
    refine lv_iload hx hb dL_law_548 (lv_at hl 0 rfl) ?_
    refine lv_iconst (v := 2) hx hb dL_law_550 (by decide) ?_
    refine lv_iadd hx hb dL_law_551 ?_
    refine my_topi (y := nI (4 * n + 2)) (nI_add (4 * n) 2) ?_
    refine va_sld hx hb hX hbl hbA hS (vp_in_nI (n := 4 * n + 2) (by omega) (by omega)) dL_law_552 ?_
    refine my_topi (y := xs (4 * n + 2)) (congrArg xs (nI_clamp (by omega))) ?_
    refine lv_aload_n hx hb dL_law_553 rfl (lv_at hl 2 rfl) ?_
    have hPc : va_P (dC, dI) vwCl ([(o3, eL cy f3)] ++ WC cy ad ks g u) H := hP.part (X := XLW cy o3 o4 am f3 f4 r) (cx := [(o3, eL cy f3)]) [0] rfl
    have hDc : va_D (fun q : Nat => s.heap.size ≤ q) ([(o3, eL cy f3)] ++ WC cy ad ks g u) := hD.part (X := XLW cy o3 o4 am f3 f4 r) (cx := [(o3, eL cy f3)]) [0] (by decide) rfl
    have hFc : ∀ q, va_A ([(o3, eL cy f3)] ++ WC cy ad ks g u) H.size q → s.heap.size ≤ q := va_freeP (X := XLW cy o3 o4 am f3 f4 r) (cx := [(o3, eL cy f3)]) hD hS hA [0] rfl
    refine vx_calli (vx_runSX (As := [.ref (ad .cl), .int (xs (4 * n + 1)), .int (xs (4 * n + 2)), .ref o3]) (rest := []) ⟨hx, hb, hml, hown, hts⟩ (ct_lot l hst dC dI cy nb ad ks g hk u ((xs (4 * n + 1))) ((xs (4 * n + 2))) o3 f3 xk H.size e2) (vx_cwSW 4 hts (gSH mw_690 mw_691 mw_562 mw_692) rfl rfl rfl (by decide +kernel) ⟨Nat.le_of_ble_eq_true rfl, Nat.le_of_ble_eq_true rfl⟩) (my_preS hPc hK hDc hE hS hFc) rfl rfl hl.1 rfl (lv_room (Nat.le_of_ble_eq_true rfl)) dL_law_554 ⟨by show _ ≤ 601024; omega, by show _ ≤ 7293034; omega⟩) hS (fun q _ h => hFc q h) hFc (fun q _ h => hFc q h) (fun E9 ce9 q9 u9 t9 H1 locs1 ht9 hvm9 hp9 _ _ _ _ _ _ _ => hp9.elim) (fun rw9 u9 t9 H1 locs ht hvm hw hB hz1 hk1 hS => ?_)
    obtain ⟨hP1, hD1⟩ := hB
    rw [ht] at hP1
    obtain ⟨hP, hD⟩ := va_joinP (X := XLW cy o3 o4 am f3 f4 r) (cx := [(o3, eL cy f3)]) (wr := ((o4, eD cy f4) :: WM cy am r)) (rx := [(o3, eL cy f3)]) (pl := WC cy ad ks g u) (pl1 := WC cy ad ks g u) hP hD [0] [1, 2, 3, 4, 5, 6, 7, 8, 9, 10, 11, 12] rfl rfl (by decide) (by decide) hk1 hFc hP1 hD1
    have hP : va_P (dC, dI) vwCl (XLW cy o3 o4 am f3 f4 r ++ WC cy ad ks g u) H1 := hP.part (X := ((o4, eD cy f4) :: WM cy am r) ++ [(o3, eL cy f3)]) (cx := XLW cy o3 o4 am f3 f4 r) [12, 0, 1, 2, 3, 4, 5, 6, 7, 8, 9, 10, 11] rfl
    have hD : va_D (fun q : Nat => s.heap.size ≤ q) (XLW cy o3 o4 am f3 f4 r ++ WC cy ad ks g u) := hD.part (X := ((o4, eD cy f4) :: WM cy am r) ++ [(o3, eL cy f3)]) (cx := XLW cy o3 o4 am f3 f4 r) [12, 0, 1, 2, 3, 4, 5, 6, 7, 8, 9, 10, 11] (by decide) rfl
    generalize H1 = H at hP hS ⊢
    clear hP1 hD1 hPc hDc hFc hk1 hz1 hvm ht
    refine lv_istore (lv' := [(6, .int rw9), (5, .int (nI (4 * n))), (4, .ref o4), (3, .ref o3), (2, .ref (am 0)), (1, .ref (ad .cl)), (0, .ref b)]) hx hb dL_law_557 hl (by decide) rfl (fun ls hl => ?_)
    refine lv_aload_n hx hb dL_law_559 rfl (lv_at hl 4 rfl) ?_
    refine lv_aload_n hx hb dL_law_560 rfl (lv_at hl 6 rfl) ?_
    refine lv_iload hx hb dL_law_561 (lv_at hl 1 rfl) ?_
    refine lv_iconst (v := 1) hx hb dL_law_563 (by decide) ?_
    refine lv_iadd hx hb dL_law_564 ?_
    refine my_topi (y := nI (4 * n + 1)) (nI_add (4 * n) 1) ?_
    refine va_sld hx hb hX hbl hbA hS (vp_in_nI (n := 4 * n + 1) (by omega) (by omega)) dL_law_565 ?_
    refine my_topi (y := xs (4 * n + 1)) (congrArg xs (nI_clamp (by omega))) ?_
    refine lv_aload_n hx hb dL_law_566 rfl (lv_at hl 6 rfl) ?_
    refine lv_iload hx hb dL_law_567 (lv_at hl 1 rfl) ?_
    refine lv_iconst (v := 2) hx hb dL_law_569 (by decide) ?_
    refine lv_iadd hx hb dL_law_570 ?_
    refine my_topi (y := nI (4 * n + 2)) (nI_add (4 * n) 2) ?_
    refine va_sld hx hb hX hbl hbA hS (vp_in_nI (n := 4 * n + 2) (by omega) (by omega)) dL_law_571 ?_
    refine my_topi (y := xs (4 * n + 2)) (congrArg xs (nI_clamp (by omega))) ?_
    have hPc := hP.sub (ws' := (WM cy am r)) [2, 3, 4, 5, 6, 7, 8, 9, 10, 11, 12] rfl
    have hDc := hD.sub (ws' := (WM cy am r)) [2, 3, 4, 5, 6, 7, 8, 9, 10, 11, 12] (by decide) rfl
    have hFc := va_free (wc := (WM cy am r)) hD hS hA [2, 3, 4, 5, 6, 7, 8, 9, 10, 11, 12] rfl
    refine va_calli (va_runV (As := [.int (xs (4 * n + 1)), .int (xs (4 * n + 2))]) (rest := []) ⟨hx, hb, hml, hown, hts⟩ (k_X8_lot l dC dI cy nb am r ((xs (4 * n + 1))) ((xs (4 * n + 2))) (nI 0) (th r k) H.size e1) (cwV 2 hts (gV mw_716 mw_717 mw_718 mw_5 mw_719) rfl rfl rfl (by decide +kernel) ⟨Nat.le_of_ble_eq_true rfl, Nat.le_of_ble_eq_true rfl⟩) (my_preV hPc hK hDc hE hS hFc (va_recv (q := (RX8, TX8, 23)) hK hP (ci := 8) (q0 := 2) rfl rfl)) rfl rfl hl.1 rfl (lv_room (Nat.le_of_ble_eq_true rfl)) dL_law_572 ⟨by show _ ≤ 601024; omega, by show _ ≤ 7293034; omega⟩) hS (fun q _ h => hFc q h) hFc (fun rm9 u9 t9 H1 locs ht hvm hwm hB hz1 hk1 hS => ?_)
    obtain ⟨hP1, hD1⟩ := hB
    rw [ht] at hP1
    obtain ⟨hP, hD⟩ := va_joinQ (X := XLW cy o3 o4 am f3 f4 r) (cx := (WM cy am r)) (wr := [(o3, eL cy f3), (o4, eD cy f4)]) (w1 := (WM cy am (th r k))) (pl := WC cy ad ks g u) hP hD [2, 3, 4, 5, 6, 7, 8, 9, 10, 11, 12] [0, 1] rfl rfl (by decide) (by decide) hk1 hFc hP1 hD1
    have hP : va_P (dC, dI) vwCl (XLW cy o3 o4 am f3 f4 (th r k) ++ WC cy ad ks g u) H1 := hP
    have hD : va_D (fun q : Nat => s.heap.size ≤ q) (XLW cy o3 o4 am f3 f4 (th r k) ++ WC cy ad ks g u) := hD
    generalize H1 = H at hP hS ⊢
    clear hP1 hD1 hPc hDc hFc hk1 hz1 hvm ht
    refine my_topi hwm ?_
    refine lv_istore (lv' := [(7, .int (nI 0)), (6, .int rw9), (5, .int (nI (4 * n))), (4, .ref o4), (3, .ref o3), (2, .ref (am 0)), (1, .ref (ad .cl)), (0, .ref b)]) hx hb dL_law_575 hl (by decide) rfl (fun ls hl => ?_)
    refine lv_goto (tgt := 1791) hx hb dL_law_577 (by decide) ?_
    refine W.widen (k := cells + 603) (n := slots + 9640) (by omega) (by omega) ?_
    exact K H locs ls ⟨ad, ks, g, u, (th r k), f3, f4, hk, (hGI.thr).mono (by omega) (by omega) (by omega), hP, hD, hS, lv_sub hl [2, 3, 4, 5, 6, 7] rfl⟩
set_option maxHeartbeats 8000000 in
set_option maxRecDepth 100000 in
theorem law_c10 {p : Program} {e : Env} {s : State} {m : MethodId} {below : List Frame} {meth : Method} {c : Code} (l : Launch) (hst : l.stackTraces = false) {b L : Nat} {xs : Nat → Int32} (dC : Nat → ClassId) (dI : Nat → Nat → Nat) (cy : Nat → ClassId) (nb : Nat → Nat) (o3 o4 : Nat) (am : Nat → Nat) {n : Nat} (hn : n < 512) (hL : 4 * n + 4 ≤ L) (hL2 : L ≤ 2048) (C0 : LX p s m meth c b L xs dC dI cy nb) {Q : State → Prop} {H : Heap} {locs : List Loc} {ls : Array Slot} {cells slots : Nat} (hc : cells ≤ 400000) (hs : slots ≤ 6000000) (h : LSt s dC dI cy nb b o3 o4 am n (4 * n) H locs ls) (K : ∀ (H : Heap) (locs : List Loc) (ls : Array Slot), LSt s dC dI cy nb b o3 o4 am (n + 1) (4 * n) H locs ls → W p l e room_1 s m #[Value.ref b] below meth c H locs (cells + 603) (slots + 9640) Q (F0 m 1791 ls [])) : W p l e room_1 s m #[Value.ref b] below meth c H locs cells slots Q (F0 m 580 ls []) := by
  obtain ⟨hx, hb, hr, hml, hown, hts, hX, hbl, hlocks, hK, hE⟩ := C0
  have hA : ∀ q : Nat, s.heap.size ≤ q → (fun q : Nat => s.heap.size ≤ q) q := fun _ h => h
  have hbA : ¬ (fun q : Nat => s.heap.size ≤ q) b := Nat.not_le.mpr hbl
  obtain ⟨ad, ks, g, u, r, f3, f4, hk, hGI, hP, hD, hS, hl⟩ := h
  have h9 : QT (F8_cardOf r (xs (4 * n + 1)) (xs (4 * n + 2))) (C7_cardOf g u (xs (4 * n + 1)) (xs (4 * n + 2))) r 0 := q_cardOf hGI
  rcases h9 with ⟨x, e1, e2⟩ | ⟨k, k1, k2, e1, e2⟩
  · refine lv_aload_n hx hb dL_law_580 rfl (lv_at hl 4 rfl) ?_
    refine lv_aload_n hx hb dL_law_581 rfl (lv_at hl 5 rfl) ?_
    refine lv_iload hx hb dL_law_582 (lv_at hl 0 rfl) ?_
    refine lv_iconst (v := 1) hx hb dL_law_584 (by decide) ?_
    refine lv_iadd hx hb dL_law_585 ?_
    refine my_topi (y := nI (4 * n + 1)) (nI_add (4 * n) 1) ?_
    refine va_sld hx hb hX hbl hbA hS (vp_in_nI (n := 4 * n + 1) (by omega) (by omega)) dL_law_586 ?_
    refine my_topi (y := xs (4 * n + 1)) (congrArg xs (nI_clamp (by omega))) ?_
    refine lv_aload_n hx hb dL_law_587 rfl (lv_at hl 5 rfl) ?_
    refine lv_iload hx hb dL_law_588 (lv_at hl 0 rfl) ?_
    refine lv_iconst (v := 2) hx hb dL_law_590 (by decide) ?_
    refine lv_iadd hx hb dL_law_591 ?_
    refine my_topi (y := nI (4 * n + 2)) (nI_add (4 * n) 2) ?_
    refine va_sld hx hb hX hbl hbA hS (vp_in_nI (n := 4 * n + 2) (by omega) (by omega)) dL_law_592 ?_
    refine my_topi (y := xs (4 * n + 2)) (congrArg xs (nI_clamp (by omega))) ?_
    refine lv_aload_n hx hb dL_law_593 rfl (lv_at hl 2 rfl) ?_
    have hPc : va_P (dC, dI) vwCl ([(o3, eL cy f3)] ++ WC cy ad ks g u) H := hP.part (X := XLW cy o3 o4 am f3 f4 r) (cx := [(o3, eL cy f3)]) [0] rfl
    have hDc : va_D (fun q : Nat => s.heap.size ≤ q) ([(o3, eL cy f3)] ++ WC cy ad ks g u) := hD.part (X := XLW cy o3 o4 am f3 f4 r) (cx := [(o3, eL cy f3)]) [0] (by decide) rfl
    have hFc : ∀ q, va_A ([(o3, eL cy f3)] ++ WC cy ad ks g u) H.size q → s.heap.size ≤ q := va_freeP (X := XLW cy o3 o4 am f3 f4 r) (cx := [(o3, eL cy f3)]) hD hS hA [0] rfl
    refine vx_calli (vx_runSX (As := [.ref (ad .cl), .int (xs (4 * n + 1)), .int (xs (4 * n + 2)), .ref o3]) (rest := []) ⟨hx, hb, hml, hown, hts⟩ (cn_cardOf l hst dC dI cy nb ad ks g hk u ((xs (4 * n + 1))) ((xs (4 * n + 2))) o3 f3 x H.size e2) (vx_cwSW 4 hts (gSH mw_741 mw_742 mw_562 mw_743) rfl rfl rfl (by decide +kernel) ⟨Nat.le_of_ble_eq_true rfl, Nat.le_of_ble_eq_true rfl⟩) (my_preS hPc hK hDc hE hS hFc) rfl rfl hl.1 rfl (lv_room (Nat.le_of_ble_eq_true rfl)) dL_law_594 ⟨by show _ ≤ 601024; omega, by show _ ≤ 7293034; omega⟩) hS (fun q _ h => hFc q h) hFc (fun q _ h => hFc q h) (fun E9 ce9 q9 u9 t9 H1 locs1 ht9 hvm9 hp9 _ _ _ _ _ _ _ => hp9.elim) (fun rw9 u9 t9 H1 locs ht hvm hw hB hz1 hk1 hS => ?_)
    obtain ⟨hP1, hD1⟩ := hB
    rw [ht] at hP1
    obtain ⟨hP, hD⟩ := va_joinP (X := XLW cy o3 o4 am f3 f4 r) (cx := [(o3, eL cy f3)]) (wr := ((o4, eD cy f4) :: WM cy am r)) (rx := [(o3, eL cy (vp_updL f3 ((0 : Int32).toNatClampNeg) (x.toInt64)))]) (pl := WC cy ad ks g u) (pl1 := WC cy ad ks g u) hP hD [0] [1, 2, 3, 4, 5, 6, 7, 8, 9, 10, 11, 12] rfl rfl (by decide) (by decide) hk1 hFc hP1 hD1
    have hP : va_P (dC, dI) vwCl (XLW cy o3 o4 am (vp_updL f3 ((0 : Int32).toNatClampNeg) (x.toInt64)) f4 r ++ WC cy ad ks g u) H1 := hP.part (X := ((o4, eD cy f4) :: WM cy am r) ++ [(o3, eL cy (vp_updL f3 ((0 : Int32).toNatClampNeg) (x.toInt64)))]) (cx := XLW cy o3 o4 am (vp_updL f3 ((0 : Int32).toNatClampNeg) (x.toInt64)) f4 r) [12, 0, 1, 2, 3, 4, 5, 6, 7, 8, 9, 10, 11] rfl
    have hD : va_D (fun q : Nat => s.heap.size ≤ q) (XLW cy o3 o4 am (vp_updL f3 ((0 : Int32).toNatClampNeg) (x.toInt64)) f4 r ++ WC cy ad ks g u) := hD.part (X := ((o4, eD cy f4) :: WM cy am r) ++ [(o3, eL cy (vp_updL f3 ((0 : Int32).toNatClampNeg) (x.toInt64)))]) (cx := XLW cy o3 o4 am (vp_updL f3 ((0 : Int32).toNatClampNeg) (x.toInt64)) f4 r) [12, 0, 1, 2, 3, 4, 5, 6, 7, 8, 9, 10, 11] (by decide) rfl
    generalize H1 = H at hP hS ⊢
    clear hP1 hD1 hPc hDc hFc hk1 hz1 hvm ht
    refine lv_istore (lv' := [(6, .int rw9), (5, .int (nI (4 * n))), (4, .ref o4), (3, .ref o3), (2, .ref (am 0)), (1, .ref (ad .cl)), (0, .ref b)]) hx hb dL_law_597 hl (by decide) rfl (fun ls hl => ?_)
    refine lv_aload_n hx hb dL_law_599 rfl (lv_at hl 4 rfl) ?_
    refine lv_aload_n hx hb dL_law_600 rfl (lv_at hl 6 rfl) ?_
    refine lv_iload hx hb dL_law_601 (lv_at hl 1 rfl) ?_
    refine lv_iconst (v := 1) hx hb dL_law_603 (by decide) ?_
    refine lv_iadd hx hb dL_law_604 ?_
    refine my_topi (y := nI (4 * n + 1)) (nI_add (4 * n) 1) ?_
    refine va_sld hx hb hX hbl hbA hS (vp_in_nI (n := 4 * n + 1) (by omega) (by omega)) dL_law_605 ?_
    refine my_topi (y := xs (4 * n + 1)) (congrArg xs (nI_clamp (by omega))) ?_
    refine lv_aload_n hx hb dL_law_606 rfl (lv_at hl 6 rfl) ?_
    refine lv_iload hx hb dL_law_607 (lv_at hl 1 rfl) ?_
    refine lv_iconst (v := 2) hx hb dL_law_609 (by decide) ?_
    refine lv_iadd hx hb dL_law_610 ?_
    refine my_topi (y := nI (4 * n + 2)) (nI_add (4 * n) 2) ?_
    refine va_sld hx hb hX hbl hbA hS (vp_in_nI (n := 4 * n + 2) (by omega) (by omega)) dL_law_611 ?_
    refine my_topi (y := xs (4 * n + 2)) (congrArg xs (nI_clamp (by omega))) ?_
    have hPc := hP.sub (ws' := (WM cy am r)) [2, 3, 4, 5, 6, 7, 8, 9, 10, 11, 12] rfl
    have hDc := hD.sub (ws' := (WM cy am r)) [2, 3, 4, 5, 6, 7, 8, 9, 10, 11, 12] (by decide) rfl
    have hFc := va_free (wc := (WM cy am r)) hD hS hA [2, 3, 4, 5, 6, 7, 8, 9, 10, 11, 12] rfl
    refine va_calli (va_runV (As := [.int (xs (4 * n + 1)), .int (xs (4 * n + 2))]) (rest := []) ⟨hx, hb, hml, hown, hts⟩ (k_X8_cardOf l dC dI cy nb am r ((xs (4 * n + 1))) ((xs (4 * n + 2))) x (th r 0) H.size e1) (cwV 2 hts (gV mw_749 mw_750 mw_751 mw_5 mw_752) rfl rfl rfl (by decide +kernel) ⟨Nat.le_of_ble_eq_true rfl, Nat.le_of_ble_eq_true rfl⟩) (my_preV hPc hK hDc hE hS hFc (va_recv (q := (RX8, TX8, 23)) hK hP (ci := 8) (q0 := 2) rfl rfl)) rfl rfl hl.1 rfl (lv_room (Nat.le_of_ble_eq_true rfl)) dL_law_612 ⟨by show _ ≤ 601024; omega, by show _ ≤ 7293034; omega⟩) hS (fun q _ h => hFc q h) hFc (fun rm9 u9 t9 H1 locs ht hvm hwm hB hz1 hk1 hS => ?_)
    obtain ⟨hP1, hD1⟩ := hB
    rw [ht] at hP1
    obtain ⟨hP, hD⟩ := va_joinQ (X := XLW cy o3 o4 am (vp_updL f3 ((0 : Int32).toNatClampNeg) (x.toInt64)) f4 r) (cx := (WM cy am r)) (wr := [(o3, eL cy (vp_updL f3 ((0 : Int32).toNatClampNeg) (x.toInt64))), (o4, eD cy f4)]) (w1 := (WM cy am (th r 0))) (pl := WC cy ad ks g u) hP hD [2, 3, 4, 5, 6, 7, 8, 9, 10, 11, 12] [0, 1] rfl rfl (by decide) (by decide) hk1 hFc hP1 hD1
    have hP : va_P (dC, dI) vwCl (XLW cy o3 o4 am (vp_updL f3 ((0 : Int32).toNatClampNeg) (x.toInt64)) f4 (th r 0) ++ WC cy ad ks g u) H1 := hP
    have hD : va_D (fun q : Nat => s.heap.size ≤ q) (XLW cy o3 o4 am (vp_updL f3 ((0 : Int32).toNatClampNeg) (x.toInt64)) f4 (th r 0) ++ WC cy ad ks g u) := hD
    generalize H1 = H at hP hS ⊢
    clear hP1 hD1 hPc hDc hFc hk1 hz1 hvm ht
    refine my_topi hwm ?_
    refine lv_istore (lv' := [(7, .int x), (6, .int rw9), (5, .int (nI (4 * n))), (4, .ref o4), (3, .ref o3), (2, .ref (am 0)), (1, .ref (ad .cl)), (0, .ref b)]) hx hb dL_law_615 hl (by decide) rfl (fun ls hl => ?_)
    refine lv_goto (tgt := 1791) hx hb dL_law_617 (by decide) ?_
    refine W.widen (k := cells + 603) (n := slots + 9640) (by omega) (by omega) ?_
    exact K H locs ls ⟨ad, ks, g, u, (th r 0), (vp_updL f3 ((0 : Int32).toNatClampNeg) (x.toInt64)), f4, hk, (hGI.thr).mono (by omega) (by omega) (by omega), hP, hD, hS, lv_sub hl [2, 3, 4, 5, 6, 7] rfl⟩
  · have e2 : C7_cardOf g u (xs (4 * n + 1)) (xs (4 * n + 2)) = some (.inl (nI (k + 0))) := e2
    generalize hxx : (nI (k + 0)) = xk at e2
    have hxk : xk = 1 := x1_cardOf e2
    refine lv_aload_n hx hb dL_law_580 rfl (lv_at hl 4 rfl) ?_
    refine lv_aload_n hx hb dL_law_581 rfl (lv_at hl 5 rfl) ?_
    refine lv_iload hx hb dL_law_582 (lv_at hl 0 rfl) ?_
    refine lv_iconst (v := 1) hx hb dL_law_584 (by decide) ?_
    refine lv_iadd hx hb dL_law_585 ?_
    refine my_topi (y := nI (4 * n + 1)) (nI_add (4 * n) 1) ?_
    refine va_sld hx hb hX hbl hbA hS (vp_in_nI (n := 4 * n + 1) (by omega) (by omega)) dL_law_586 ?_
    refine my_topi (y := xs (4 * n + 1)) (congrArg xs (nI_clamp (by omega))) ?_
    refine lv_aload_n hx hb dL_law_587 rfl (lv_at hl 5 rfl) ?_
    refine lv_iload hx hb dL_law_588 (lv_at hl 0 rfl) ?_
    refine lv_iconst (v := 2) hx hb dL_law_590 (by decide) ?_
    refine lv_iadd hx hb dL_law_591 ?_
    refine my_topi (y := nI (4 * n + 2)) (nI_add (4 * n) 2) ?_
    refine va_sld hx hb hX hbl hbA hS (vp_in_nI (n := 4 * n + 2) (by omega) (by omega)) dL_law_592 ?_
    refine my_topi (y := xs (4 * n + 2)) (congrArg xs (nI_clamp (by omega))) ?_
    refine lv_aload_n hx hb dL_law_593 rfl (lv_at hl 2 rfl) ?_
    have hPc : va_P (dC, dI) vwCl ([(o3, eL cy f3)] ++ WC cy ad ks g u) H := hP.part (X := XLW cy o3 o4 am f3 f4 r) (cx := [(o3, eL cy f3)]) [0] rfl
    have hDc : va_D (fun q : Nat => s.heap.size ≤ q) ([(o3, eL cy f3)] ++ WC cy ad ks g u) := hD.part (X := XLW cy o3 o4 am f3 f4 r) (cx := [(o3, eL cy f3)]) [0] (by decide) rfl
    have hFc : ∀ q, va_A ([(o3, eL cy f3)] ++ WC cy ad ks g u) H.size q → s.heap.size ≤ q := va_freeP (X := XLW cy o3 o4 am f3 f4 r) (cx := [(o3, eL cy f3)]) hD hS hA [0] rfl
    refine vx_calli (vx_runSX (As := [.ref (ad .cl), .int (xs (4 * n + 1)), .int (xs (4 * n + 2)), .ref o3]) (rest := []) ⟨hx, hb, hml, hown, hts⟩ (ct_cardOf l hst dC dI cy nb ad ks g hk u ((xs (4 * n + 1))) ((xs (4 * n + 2))) o3 f3 xk H.size hxk e2) (vx_cwSW 4 hts (gSH mw_741 mw_742 mw_562 mw_743) rfl rfl rfl (by decide +kernel) ⟨Nat.le_of_ble_eq_true rfl, Nat.le_of_ble_eq_true rfl⟩) (my_preS hPc hK hDc hE hS hFc) rfl rfl hl.1 rfl (lv_room (Nat.le_of_ble_eq_true rfl)) dL_law_594 ⟨by show _ ≤ 601024; omega, by show _ ≤ 7293034; omega⟩) hS (fun q _ h => hFc q h) hFc (fun q _ h => hFc q h) (fun E9 ce9 q9 u9 t9 H1 locs1 ht9 hvm9 hp9 _ _ _ _ _ _ _ => hp9.elim) (fun rw9 u9 t9 H1 locs ht hvm hw hB hz1 hk1 hS => ?_)
    obtain ⟨hP1, hD1⟩ := hB
    rw [ht] at hP1
    obtain ⟨hP, hD⟩ := va_joinP (X := XLW cy o3 o4 am f3 f4 r) (cx := [(o3, eL cy f3)]) (wr := ((o4, eD cy f4) :: WM cy am r)) (rx := [(o3, eL cy f3)]) (pl := WC cy ad ks g u) (pl1 := WC cy ad ks g u) hP hD [0] [1, 2, 3, 4, 5, 6, 7, 8, 9, 10, 11, 12] rfl rfl (by decide) (by decide) hk1 hFc hP1 hD1
    have hP : va_P (dC, dI) vwCl (XLW cy o3 o4 am f3 f4 r ++ WC cy ad ks g u) H1 := hP.part (X := ((o4, eD cy f4) :: WM cy am r) ++ [(o3, eL cy f3)]) (cx := XLW cy o3 o4 am f3 f4 r) [12, 0, 1, 2, 3, 4, 5, 6, 7, 8, 9, 10, 11] rfl
    have hD : va_D (fun q : Nat => s.heap.size ≤ q) (XLW cy o3 o4 am f3 f4 r ++ WC cy ad ks g u) := hD.part (X := ((o4, eD cy f4) :: WM cy am r) ++ [(o3, eL cy f3)]) (cx := XLW cy o3 o4 am f3 f4 r) [12, 0, 1, 2, 3, 4, 5, 6, 7, 8, 9, 10, 11] (by decide) rfl
    generalize H1 = H at hP hS ⊢
    clear hP1 hD1 hPc hDc hFc hk1 hz1 hvm ht
    refine lv_istore (lv' := [(6, .int rw9), (5, .int (nI (4 * n))), (4, .ref o4), (3, .ref o3), (2, .ref (am 0)), (1, .ref (ad .cl)), (0, .ref b)]) hx hb dL_law_597 hl (by decide) rfl (fun ls hl => ?_)
    refine lv_aload_n hx hb dL_law_599 rfl (lv_at hl 4 rfl) ?_
    refine lv_aload_n hx hb dL_law_600 rfl (lv_at hl 6 rfl) ?_
    refine lv_iload hx hb dL_law_601 (lv_at hl 1 rfl) ?_
    refine lv_iconst (v := 1) hx hb dL_law_603 (by decide) ?_
    refine lv_iadd hx hb dL_law_604 ?_
    refine my_topi (y := nI (4 * n + 1)) (nI_add (4 * n) 1) ?_
    refine va_sld hx hb hX hbl hbA hS (vp_in_nI (n := 4 * n + 1) (by omega) (by omega)) dL_law_605 ?_
    refine my_topi (y := xs (4 * n + 1)) (congrArg xs (nI_clamp (by omega))) ?_
    refine lv_aload_n hx hb dL_law_606 rfl (lv_at hl 6 rfl) ?_
    refine lv_iload hx hb dL_law_607 (lv_at hl 1 rfl) ?_
    refine lv_iconst (v := 2) hx hb dL_law_609 (by decide) ?_
    refine lv_iadd hx hb dL_law_610 ?_
    refine my_topi (y := nI (4 * n + 2)) (nI_add (4 * n) 2) ?_
    refine va_sld hx hb hX hbl hbA hS (vp_in_nI (n := 4 * n + 2) (by omega) (by omega)) dL_law_611 ?_
    refine my_topi (y := xs (4 * n + 2)) (congrArg xs (nI_clamp (by omega))) ?_
    have hPc := hP.sub (ws' := (WM cy am r)) [2, 3, 4, 5, 6, 7, 8, 9, 10, 11, 12] rfl
    have hDc := hD.sub (ws' := (WM cy am r)) [2, 3, 4, 5, 6, 7, 8, 9, 10, 11, 12] (by decide) rfl
    have hFc := va_free (wc := (WM cy am r)) hD hS hA [2, 3, 4, 5, 6, 7, 8, 9, 10, 11, 12] rfl
    refine va_calli (va_runV (As := [.int (xs (4 * n + 1)), .int (xs (4 * n + 2))]) (rest := []) ⟨hx, hb, hml, hown, hts⟩ (k_X8_cardOf l dC dI cy nb am r ((xs (4 * n + 1))) ((xs (4 * n + 2))) (nI 0) (th r k) H.size e1) (cwV 2 hts (gV mw_749 mw_750 mw_751 mw_5 mw_752) rfl rfl rfl (by decide +kernel) ⟨Nat.le_of_ble_eq_true rfl, Nat.le_of_ble_eq_true rfl⟩) (my_preV hPc hK hDc hE hS hFc (va_recv (q := (RX8, TX8, 23)) hK hP (ci := 8) (q0 := 2) rfl rfl)) rfl rfl hl.1 rfl (lv_room (Nat.le_of_ble_eq_true rfl)) dL_law_612 ⟨by show _ ≤ 601024; omega, by show _ ≤ 7293034; omega⟩) hS (fun q _ h => hFc q h) hFc (fun rm9 u9 t9 H1 locs ht hvm hwm hB hz1 hk1 hS => ?_)
    obtain ⟨hP1, hD1⟩ := hB
    rw [ht] at hP1
    obtain ⟨hP, hD⟩ := va_joinQ (X := XLW cy o3 o4 am f3 f4 r) (cx := (WM cy am r)) (wr := [(o3, eL cy f3), (o4, eD cy f4)]) (w1 := (WM cy am (th r k))) (pl := WC cy ad ks g u) hP hD [2, 3, 4, 5, 6, 7, 8, 9, 10, 11, 12] [0, 1] rfl rfl (by decide) (by decide) hk1 hFc hP1 hD1
    have hP : va_P (dC, dI) vwCl (XLW cy o3 o4 am f3 f4 (th r k) ++ WC cy ad ks g u) H1 := hP
    have hD : va_D (fun q : Nat => s.heap.size ≤ q) (XLW cy o3 o4 am f3 f4 (th r k) ++ WC cy ad ks g u) := hD
    generalize H1 = H at hP hS ⊢
    clear hP1 hD1 hPc hDc hFc hk1 hz1 hvm ht
    refine my_topi hwm ?_
    refine lv_istore (lv' := [(7, .int (nI 0)), (6, .int rw9), (5, .int (nI (4 * n))), (4, .ref o4), (3, .ref o3), (2, .ref (am 0)), (1, .ref (ad .cl)), (0, .ref b)]) hx hb dL_law_615 hl (by decide) rfl (fun ls hl => ?_)
    refine lv_goto (tgt := 1791) hx hb dL_law_617 (by decide) ?_
    refine W.widen (k := cells + 603) (n := slots + 9640) (by omega) (by omega) ?_
    exact K H locs ls ⟨ad, ks, g, u, (th r k), f3, f4, hk, (hGI.thr).mono (by omega) (by omega) (by omega), hP, hD, hS, lv_sub hl [2, 3, 4, 5, 6, 7] rfl⟩
set_option maxHeartbeats 8000000 in
set_option maxRecDepth 100000 in
theorem law_c11 {p : Program} {e : Env} {s : State} {m : MethodId} {below : List Frame} {meth : Method} {c : Code} (l : Launch) (hst : l.stackTraces = false) {b L : Nat} {xs : Nat → Int32} (dC : Nat → ClassId) (dI : Nat → Nat → Nat) (cy : Nat → ClassId) (nb : Nat → Nat) (o3 o4 : Nat) (am : Nat → Nat) {n : Nat} (hn : n < 512) (hL : 4 * n + 4 ≤ L) (hL2 : L ≤ 2048) (C0 : LX p s m meth c b L xs dC dI cy nb) {Q : State → Prop} {H : Heap} {locs : List Loc} {ls : Array Slot} {cells slots : Nat} (hc : cells ≤ 400000) (hs : slots ≤ 6000000) (h : LSt s dC dI cy nb b o3 o4 am n (4 * n) H locs ls) (K : ∀ (H : Heap) (locs : List Loc) (ls : Array Slot), LSt s dC dI cy nb b o3 o4 am (n + 1) (4 * n) H locs ls → W p l e room_1 s m #[Value.ref b] below meth c H locs (cells + 603) (slots + 9640) Q (F0 m 1791 ls [])) : W p l e room_1 s m #[Value.ref b] below meth c H locs cells slots Q (F0 m 620 ls []) := by
  obtain ⟨hx, hb, hr, hml, hown, hts, hX, hbl, hlocks, hK, hE⟩ := C0
  have hA : ∀ q : Nat, s.heap.size ≤ q → (fun q : Nat => s.heap.size ≤ q) q := fun _ h => h
  have hbA : ¬ (fun q : Nat => s.heap.size ≤ q) b := Nat.not_le.mpr hbl
  obtain ⟨ad, ks, g, u, r, f3, f4, hk, hGI, hP, hD, hS, hl⟩ := h
  have h9 : QP (F8_trayAt r (xs (4 * n + 1))) (C7_trayAt g u (xs (4 * n + 1))) r := q_trayAt hGI
  obtain ⟨x, e1, e2⟩ := h9
  refine lv_aload_n hx hb dL_law_620 rfl (lv_at hl 4 rfl) ?_
  refine lv_aload_n hx hb dL_law_621 rfl (lv_at hl 5 rfl) ?_
  refine lv_iload hx hb dL_law_622 (lv_at hl 0 rfl) ?_
  refine lv_iconst (v := 1) hx hb dL_law_624 (by decide) ?_
  refine lv_iadd hx hb dL_law_625 ?_
  refine my_topi (y := nI (4 * n + 1)) (nI_add (4 * n) 1) ?_
  refine va_sld hx hb hX hbl hbA hS (vp_in_nI (n := 4 * n + 1) (by omega) (by omega)) dL_law_626 ?_
  refine my_topi (y := xs (4 * n + 1)) (congrArg xs (nI_clamp (by omega))) ?_
  have hPc : va_P (dC, dI) vwCl (WC cy ad ks g u) H := hP.part (X := XLW cy o3 o4 am f3 f4 r) (cx := []) [] rfl
  have hDc : va_D (fun q : Nat => s.heap.size ≤ q) (WC cy ad ks g u) := hD.part (X := XLW cy o3 o4 am f3 f4 r) (cx := []) [] (by decide) rfl
  have hFc : ∀ q, va_A (WC cy ad ks g u) H.size q → s.heap.size ≤ q := va_freeP (X := XLW cy o3 o4 am f3 f4 r) (cx := []) hD hS hA [] rfl
  obtain ⟨q8, h8⟩ := wc_at (cy := cy) (ad := ad) (ks := ks) (g := g) (u := u) (κ := .cl) hk.1 True.intro
  refine va_calli (va_runV (As := [.int (xs (4 * n + 1))]) (rest := []) ⟨hx, hb, hml, hown, hts⟩ (c_X7_trayAt l dC dI cy nb ad ks g hk u ((xs (4 * n + 1))) x H.size e2) (cwV 1 hts (gV mw_757 mw_758 mw_759 mw_2 mw_760) rfl rfl rfl (by decide +kernel) ⟨Nat.le_of_ble_eq_true rfl, Nat.le_of_ble_eq_true rfl⟩) (my_preV hPc hK hDc hE hS hFc (va_recv (q := (RX7, TX7, 12)) hK hPc (ci := 7) (q0 := q8) rfl h8)) rfl rfl hl.1 rfl (lv_room (Nat.le_of_ble_eq_true rfl)) dL_law_627 ⟨by show _ ≤ 601024; omega, by show _ ≤ 7293034; omega⟩) hS (fun q _ h => hFc q h) hFc (fun rw9 u9 t9 H1 locs ht hvm hw hB hz1 hk1 hS => ?_)
  clear h8
  obtain ⟨hP1, hD1⟩ := hB
  rw [ht] at hP1
  obtain ⟨hP, hD⟩ := va_joinP (X := XLW cy o3 o4 am f3 f4 r) (cx := []) (wr := XLW cy o3 o4 am f3 f4 r) (rx := []) (pl := WC cy ad ks g u) (pl1 := WC cy ad ks g u) hP hD [] [0, 1, 2, 3, 4, 5, 6, 7, 8, 9, 10, 11, 12] rfl rfl (by decide) (by decide) hk1 hFc hP1 hD1
  have hP : va_P (dC, dI) vwCl (XLW cy o3 o4 am f3 f4 r ++ WC cy ad ks g u) H1 := hP
  have hD : va_D (fun q : Nat => s.heap.size ≤ q) (XLW cy o3 o4 am f3 f4 r ++ WC cy ad ks g u) := hD
  generalize H1 = H at hP hS ⊢
  clear hP1 hD1 hPc hDc hFc hk1 hz1 hvm ht
  refine my_topi hw ?_
  refine lv_pop hx hb dL_law_630 rfl ?_
  refine lv_aload_n hx hb dL_law_631 rfl (lv_at hl 3 rfl) ?_
  refine lv_aload_n hx hb dL_law_632 rfl (lv_at hl 5 rfl) ?_
  refine lv_iload hx hb dL_law_633 (lv_at hl 0 rfl) ?_
  refine lv_iconst (v := 1) hx hb dL_law_635 (by decide) ?_
  refine lv_iadd hx hb dL_law_636 ?_
  refine my_topi (y := nI (4 * n + 1)) (nI_add (4 * n) 1) ?_
  refine va_sld hx hb hX hbl hbA hS (vp_in_nI (n := 4 * n + 1) (by omega) (by omega)) dL_law_637 ?_
  refine my_topi (y := xs (4 * n + 1)) (congrArg xs (nI_clamp (by omega))) ?_
  have hPc := hP.sub (ws' := (WM cy am r)) [2, 3, 4, 5, 6, 7, 8, 9, 10, 11, 12] rfl
  have hDc := hD.sub (ws' := (WM cy am r)) [2, 3, 4, 5, 6, 7, 8, 9, 10, 11, 12] (by decide) rfl
  have hFc := va_free (wc := (WM cy am r)) hD hS hA [2, 3, 4, 5, 6, 7, 8, 9, 10, 11, 12] rfl
  refine va_calli (va_runV (As := [.int (xs (4 * n + 1))]) (rest := []) ⟨hx, hb, hml, hown, hts⟩ (k_X8_trayAt l dC dI cy nb am r ((xs (4 * n + 1))) x (th r 0) H.size e1) (cwV 1 hts (gV mw_761 mw_762 mw_763 mw_5 mw_764) rfl rfl rfl (by decide +kernel) ⟨Nat.le_of_ble_eq_true rfl, Nat.le_of_ble_eq_true rfl⟩) (my_preV hPc hK hDc hE hS hFc (va_recv (q := (RX8, TX8, 23)) hK hP (ci := 8) (q0 := 2) rfl rfl)) rfl rfl hl.1 rfl (lv_room (Nat.le_of_ble_eq_true rfl)) dL_law_638 ⟨by show _ ≤ 601024; omega, by show _ ≤ 7293034; omega⟩) hS (fun q _ h => hFc q h) hFc (fun rm9 u9 t9 H1 locs ht hvm hwm hB hz1 hk1 hS => ?_)
  obtain ⟨hP1, hD1⟩ := hB
  rw [ht] at hP1
  obtain ⟨hP, hD⟩ := va_joinQ (X := XLW cy o3 o4 am f3 f4 r) (cx := (WM cy am r)) (wr := [(o3, eL cy f3), (o4, eD cy f4)]) (w1 := (WM cy am (th r 0))) (pl := WC cy ad ks g u) hP hD [2, 3, 4, 5, 6, 7, 8, 9, 10, 11, 12] [0, 1] rfl rfl (by decide) (by decide) hk1 hFc hP1 hD1
  have hP : va_P (dC, dI) vwCl (XLW cy o3 o4 am f3 f4 (th r 0) ++ WC cy ad ks g u) H1 := hP
  have hD : va_D (fun q : Nat => s.heap.size ≤ q) (XLW cy o3 o4 am f3 f4 (th r 0) ++ WC cy ad ks g u) := hD
  generalize H1 = H at hP hS ⊢
  clear hP1 hD1 hPc hDc hFc hk1 hz1 hvm ht
  refine my_topi hwm ?_
  refine lv_pop hx hb dL_law_641 rfl ?_
  refine lv_goto (tgt := 1791) hx hb dL_law_642 (by decide) ?_
  refine W.widen (k := cells + 603) (n := slots + 9640) (by omega) (by omega) ?_
  exact K H locs ls ⟨ad, ks, g, u, (th r 0), f3, f4, hk, (hGI.thr).mono (by omega) (by omega) (by omega), hP, hD, hS, lv_sub hl [0, 1, 2, 3, 4, 5] rfl⟩
set_option maxHeartbeats 8000000 in
set_option maxRecDepth 100000 in
theorem law_c12 {p : Program} {e : Env} {s : State} {m : MethodId} {below : List Frame} {meth : Method} {c : Code} (l : Launch) (hst : l.stackTraces = false) {b L : Nat} {xs : Nat → Int32} (dC : Nat → ClassId) (dI : Nat → Nat → Nat) (cy : Nat → ClassId) (nb : Nat → Nat) (o3 o4 : Nat) (am : Nat → Nat) {n : Nat} (hn : n < 512) (hL : 4 * n + 4 ≤ L) (hL2 : L ≤ 2048) (C0 : LX p s m meth c b L xs dC dI cy nb) {Q : State → Prop} {H : Heap} {locs : List Loc} {ls : Array Slot} {cells slots : Nat} (hc : cells ≤ 400000) (hs : slots ≤ 6000000) (h : LSt s dC dI cy nb b o3 o4 am n (4 * n) H locs ls) (K : ∀ (H : Heap) (locs : List Loc) (ls : Array Slot), LSt s dC dI cy nb b o3 o4 am (n + 1) (4 * n) H locs ls → W p l e room_1 s m #[Value.ref b] below meth c H locs (cells + 603) (slots + 9640) Q (F0 m 1791 ls [])) : W p l e room_1 s m #[Value.ref b] below meth c H locs cells slots Q (F0 m 645 ls []) := by
  obtain ⟨hx, hb, hr, hml, hown, hts, hX, hbl, hlocks, hK, hE⟩ := C0
  have hA : ∀ q : Nat, s.heap.size ≤ q → (fun q : Nat => s.heap.size ≤ q) q := fun _ h => h
  have hbA : ¬ (fun q : Nat => s.heap.size ≤ q) b := Nat.not_le.mpr hbl
  obtain ⟨ad, ks, g, u, r, f3, f4, hk, hGI, hP, hD, hS, hl⟩ := h
  have h9 : QP (F8_leftAt r (xs (4 * n + 1))) (C7_leftAt g u (xs (4 * n + 1))) r := q_leftAt hGI
  obtain ⟨x, e1, e2⟩ := h9
  refine lv_aload_n hx hb dL_law_645 rfl (lv_at hl 4 rfl) ?_
  refine lv_aload_n hx hb dL_law_646 rfl (lv_at hl 5 rfl) ?_
  refine lv_iload hx hb dL_law_647 (lv_at hl 0 rfl) ?_
  refine lv_iconst (v := 1) hx hb dL_law_649 (by decide) ?_
  refine lv_iadd hx hb dL_law_650 ?_
  refine my_topi (y := nI (4 * n + 1)) (nI_add (4 * n) 1) ?_
  refine va_sld hx hb hX hbl hbA hS (vp_in_nI (n := 4 * n + 1) (by omega) (by omega)) dL_law_651 ?_
  refine my_topi (y := xs (4 * n + 1)) (congrArg xs (nI_clamp (by omega))) ?_
  have hPc : va_P (dC, dI) vwCl (WC cy ad ks g u) H := hP.part (X := XLW cy o3 o4 am f3 f4 r) (cx := []) [] rfl
  have hDc : va_D (fun q : Nat => s.heap.size ≤ q) (WC cy ad ks g u) := hD.part (X := XLW cy o3 o4 am f3 f4 r) (cx := []) [] (by decide) rfl
  have hFc : ∀ q, va_A (WC cy ad ks g u) H.size q → s.heap.size ≤ q := va_freeP (X := XLW cy o3 o4 am f3 f4 r) (cx := []) hD hS hA [] rfl
  obtain ⟨q8, h8⟩ := wc_at (cy := cy) (ad := ad) (ks := ks) (g := g) (u := u) (κ := .cl) hk.1 True.intro
  refine va_calli (va_runV (As := [.int (xs (4 * n + 1))]) (rest := []) ⟨hx, hb, hml, hown, hts⟩ (c_X7_leftAt l dC dI cy nb ad ks g hk u ((xs (4 * n + 1))) x H.size e2) (cwV 1 hts (gV mw_765 mw_766 mw_767 mw_2 mw_768) rfl rfl rfl (by decide +kernel) ⟨Nat.le_of_ble_eq_true rfl, Nat.le_of_ble_eq_true rfl⟩) (my_preV hPc hK hDc hE hS hFc (va_recv (q := (RX7, TX7, 12)) hK hPc (ci := 7) (q0 := q8) rfl h8)) rfl rfl hl.1 rfl (lv_room (Nat.le_of_ble_eq_true rfl)) dL_law_652 ⟨by show _ ≤ 601024; omega, by show _ ≤ 7293034; omega⟩) hS (fun q _ h => hFc q h) hFc (fun rw9 u9 t9 H1 locs ht hvm hw hB hz1 hk1 hS => ?_)
  clear h8
  obtain ⟨hP1, hD1⟩ := hB
  rw [ht] at hP1
  obtain ⟨hP, hD⟩ := va_joinP (X := XLW cy o3 o4 am f3 f4 r) (cx := []) (wr := XLW cy o3 o4 am f3 f4 r) (rx := []) (pl := WC cy ad ks g u) (pl1 := WC cy ad ks g u) hP hD [] [0, 1, 2, 3, 4, 5, 6, 7, 8, 9, 10, 11, 12] rfl rfl (by decide) (by decide) hk1 hFc hP1 hD1
  have hP : va_P (dC, dI) vwCl (XLW cy o3 o4 am f3 f4 r ++ WC cy ad ks g u) H1 := hP
  have hD : va_D (fun q : Nat => s.heap.size ≤ q) (XLW cy o3 o4 am f3 f4 r ++ WC cy ad ks g u) := hD
  generalize H1 = H at hP hS ⊢
  clear hP1 hD1 hPc hDc hFc hk1 hz1 hvm ht
  refine my_topi hw ?_
  refine lv_pop hx hb dL_law_655 rfl ?_
  refine lv_aload_n hx hb dL_law_656 rfl (lv_at hl 3 rfl) ?_
  refine lv_aload_n hx hb dL_law_657 rfl (lv_at hl 5 rfl) ?_
  refine lv_iload hx hb dL_law_658 (lv_at hl 0 rfl) ?_
  refine lv_iconst (v := 1) hx hb dL_law_660 (by decide) ?_
  refine lv_iadd hx hb dL_law_661 ?_
  refine my_topi (y := nI (4 * n + 1)) (nI_add (4 * n) 1) ?_
  refine va_sld hx hb hX hbl hbA hS (vp_in_nI (n := 4 * n + 1) (by omega) (by omega)) dL_law_662 ?_
  refine my_topi (y := xs (4 * n + 1)) (congrArg xs (nI_clamp (by omega))) ?_
  have hPc := hP.sub (ws' := (WM cy am r)) [2, 3, 4, 5, 6, 7, 8, 9, 10, 11, 12] rfl
  have hDc := hD.sub (ws' := (WM cy am r)) [2, 3, 4, 5, 6, 7, 8, 9, 10, 11, 12] (by decide) rfl
  have hFc := va_free (wc := (WM cy am r)) hD hS hA [2, 3, 4, 5, 6, 7, 8, 9, 10, 11, 12] rfl
  refine va_calli (va_runV (As := [.int (xs (4 * n + 1))]) (rest := []) ⟨hx, hb, hml, hown, hts⟩ (k_X8_leftAt l dC dI cy nb am r ((xs (4 * n + 1))) x (th r 0) H.size e1) (cwV 1 hts (gV mw_770 mw_771 mw_772 mw_5 mw_773) rfl rfl rfl (by decide +kernel) ⟨Nat.le_of_ble_eq_true rfl, Nat.le_of_ble_eq_true rfl⟩) (my_preV hPc hK hDc hE hS hFc (va_recv (q := (RX8, TX8, 23)) hK hP (ci := 8) (q0 := 2) rfl rfl)) rfl rfl hl.1 rfl (lv_room (Nat.le_of_ble_eq_true rfl)) dL_law_663 ⟨by show _ ≤ 601024; omega, by show _ ≤ 7293034; omega⟩) hS (fun q _ h => hFc q h) hFc (fun rm9 u9 t9 H1 locs ht hvm hwm hB hz1 hk1 hS => ?_)
  obtain ⟨hP1, hD1⟩ := hB
  rw [ht] at hP1
  obtain ⟨hP, hD⟩ := va_joinQ (X := XLW cy o3 o4 am f3 f4 r) (cx := (WM cy am r)) (wr := [(o3, eL cy f3), (o4, eD cy f4)]) (w1 := (WM cy am (th r 0))) (pl := WC cy ad ks g u) hP hD [2, 3, 4, 5, 6, 7, 8, 9, 10, 11, 12] [0, 1] rfl rfl (by decide) (by decide) hk1 hFc hP1 hD1
  have hP : va_P (dC, dI) vwCl (XLW cy o3 o4 am f3 f4 (th r 0) ++ WC cy ad ks g u) H1 := hP
  have hD : va_D (fun q : Nat => s.heap.size ≤ q) (XLW cy o3 o4 am f3 f4 (th r 0) ++ WC cy ad ks g u) := hD
  generalize H1 = H at hP hS ⊢
  clear hP1 hD1 hPc hDc hFc hk1 hz1 hvm ht
  refine my_topi hwm ?_
  refine lv_pop hx hb dL_law_666 rfl ?_
  refine lv_goto (tgt := 1791) hx hb dL_law_667 (by decide) ?_
  refine W.widen (k := cells + 603) (n := slots + 9640) (by omega) (by omega) ?_
  exact K H locs ls ⟨ad, ks, g, u, (th r 0), f3, f4, hk, (hGI.thr).mono (by omega) (by omega) (by omega), hP, hD, hS, lv_sub hl [0, 1, 2, 3, 4, 5] rfl⟩
set_option maxHeartbeats 8000000 in
set_option maxRecDepth 100000 in
theorem law_c13 {p : Program} {e : Env} {s : State} {m : MethodId} {below : List Frame} {meth : Method} {c : Code} (l : Launch) (hst : l.stackTraces = false) {b L : Nat} {xs : Nat → Int32} (dC : Nat → ClassId) (dI : Nat → Nat → Nat) (cy : Nat → ClassId) (nb : Nat → Nat) (o3 o4 : Nat) (am : Nat → Nat) {n : Nat} (hn : n < 512) (hL : 4 * n + 4 ≤ L) (hL2 : L ≤ 2048) (C0 : LX p s m meth c b L xs dC dI cy nb) {Q : State → Prop} {H : Heap} {locs : List Loc} {ls : Array Slot} {cells slots : Nat} (hc : cells ≤ 400000) (hs : slots ≤ 6000000) (h : LSt s dC dI cy nb b o3 o4 am n (4 * n) H locs ls) (K : ∀ (H : Heap) (locs : List Loc) (ls : Array Slot), LSt s dC dI cy nb b o3 o4 am (n + 1) (4 * n) H locs ls → W p l e room_1 s m #[Value.ref b] below meth c H locs (cells + 603) (slots + 9640) Q (F0 m 1791 ls [])) : W p l e room_1 s m #[Value.ref b] below meth c H locs cells slots Q (F0 m 670 ls []) := by
  obtain ⟨hx, hb, hr, hml, hown, hts, hX, hbl, hlocks, hK, hE⟩ := C0
  have hA : ∀ q : Nat, s.heap.size ≤ q → (fun q : Nat => s.heap.size ≤ q) q := fun _ h => h
  have hbA : ¬ (fun q : Nat => s.heap.size ≤ q) b := Nat.not_le.mpr hbl
  obtain ⟨ad, ks, g, u, r, f3, f4, hk, hGI, hP, hD, hS, hl⟩ := h
  have h9 : QP (F8_nextFed r) (C7_nextFed g u) r := q_nextFed hGI
  obtain ⟨x, e1, e2⟩ := h9
  refine lv_aload_n hx hb dL_law_670 rfl (lv_at hl 4 rfl) ?_
  have hPc : va_P (dC, dI) vwCl (WC cy ad ks g u) H := hP.part (X := XLW cy o3 o4 am f3 f4 r) (cx := []) [] rfl
  have hDc : va_D (fun q : Nat => s.heap.size ≤ q) (WC cy ad ks g u) := hD.part (X := XLW cy o3 o4 am f3 f4 r) (cx := []) [] (by decide) rfl
  have hFc : ∀ q, va_A (WC cy ad ks g u) H.size q → s.heap.size ≤ q := va_freeP (X := XLW cy o3 o4 am f3 f4 r) (cx := []) hD hS hA [] rfl
  obtain ⟨q8, h8⟩ := wc_at (cy := cy) (ad := ad) (ks := ks) (g := g) (u := u) (κ := .cl) hk.1 True.intro
  refine va_calli (va_runV (As := []) (rest := []) ⟨hx, hb, hml, hown, hts⟩ (c_X7_nextFed l dC dI cy nb ad ks g hk u  x H.size e2) (cwV 0 hts (gV mw_774 mw_775 mw_776 mw_2 mw_777) rfl rfl rfl (by decide +kernel) ⟨Nat.le_of_ble_eq_true rfl, Nat.le_of_ble_eq_true rfl⟩) (my_preV hPc hK hDc hE hS hFc (va_recv (q := (RX7, TX7, 12)) hK hPc (ci := 7) (q0 := q8) rfl h8)) rfl rfl hl.1 rfl (lv_room (Nat.le_of_ble_eq_true rfl)) dL_law_671 ⟨by show _ ≤ 601024; omega, by show _ ≤ 7293034; omega⟩) hS (fun q _ h => hFc q h) hFc (fun rw9 u9 t9 H1 locs ht hvm hw hB hz1 hk1 hS => ?_)
  clear h8
  obtain ⟨hP1, hD1⟩ := hB
  rw [ht] at hP1
  obtain ⟨hP, hD⟩ := va_joinP (X := XLW cy o3 o4 am f3 f4 r) (cx := []) (wr := XLW cy o3 o4 am f3 f4 r) (rx := []) (pl := WC cy ad ks g u) (pl1 := WC cy ad ks g u) hP hD [] [0, 1, 2, 3, 4, 5, 6, 7, 8, 9, 10, 11, 12] rfl rfl (by decide) (by decide) hk1 hFc hP1 hD1
  have hP : va_P (dC, dI) vwCl (XLW cy o3 o4 am f3 f4 r ++ WC cy ad ks g u) H1 := hP
  have hD : va_D (fun q : Nat => s.heap.size ≤ q) (XLW cy o3 o4 am f3 f4 r ++ WC cy ad ks g u) := hD
  generalize H1 = H at hP hS ⊢
  clear hP1 hD1 hPc hDc hFc hk1 hz1 hvm ht
  refine my_topi hw ?_
  refine lv_pop hx hb dL_law_674 rfl ?_
  refine lv_aload_n hx hb dL_law_675 rfl (lv_at hl 3 rfl) ?_
  have hPc := hP.sub (ws' := (WM cy am r)) [2, 3, 4, 5, 6, 7, 8, 9, 10, 11, 12] rfl
  have hDc := hD.sub (ws' := (WM cy am r)) [2, 3, 4, 5, 6, 7, 8, 9, 10, 11, 12] (by decide) rfl
  have hFc := va_free (wc := (WM cy am r)) hD hS hA [2, 3, 4, 5, 6, 7, 8, 9, 10, 11, 12] rfl
  refine va_calli (va_runV (As := []) (rest := []) ⟨hx, hb, hml, hown, hts⟩ (k_X8_nextFed l dC dI cy nb am r  x (th r 0) H.size e1) (cwV 0 hts (gV mw_788 mw_789 mw_790 mw_5 mw_791) rfl rfl rfl (by decide +kernel) ⟨Nat.le_of_ble_eq_true rfl, Nat.le_of_ble_eq_true rfl⟩) (my_preV hPc hK hDc hE hS hFc (va_recv (q := (RX8, TX8, 23)) hK hP (ci := 8) (q0 := 2) rfl rfl)) rfl rfl hl.1 rfl (lv_room (Nat.le_of_ble_eq_true rfl)) dL_law_676 ⟨by show _ ≤ 601024; omega, by show _ ≤ 7293034; omega⟩) hS (fun q _ h => hFc q h) hFc (fun rm9 u9 t9 H1 locs ht hvm hwm hB hz1 hk1 hS => ?_)
  obtain ⟨hP1, hD1⟩ := hB
  rw [ht] at hP1
  obtain ⟨hP, hD⟩ := va_joinQ (X := XLW cy o3 o4 am f3 f4 r) (cx := (WM cy am r)) (wr := [(o3, eL cy f3), (o4, eD cy f4)]) (w1 := (WM cy am (th r 0))) (pl := WC cy ad ks g u) hP hD [2, 3, 4, 5, 6, 7, 8, 9, 10, 11, 12] [0, 1] rfl rfl (by decide) (by decide) hk1 hFc hP1 hD1
  have hP : va_P (dC, dI) vwCl (XLW cy o3 o4 am f3 f4 (th r 0) ++ WC cy ad ks g u) H1 := hP
  have hD : va_D (fun q : Nat => s.heap.size ≤ q) (XLW cy o3 o4 am f3 f4 (th r 0) ++ WC cy ad ks g u) := hD
  generalize H1 = H at hP hS ⊢
  clear hP1 hD1 hPc hDc hFc hk1 hz1 hvm ht
  refine my_topi hwm ?_
  refine lv_pop hx hb dL_law_679 rfl ?_
  refine lv_goto (tgt := 1791) hx hb dL_law_680 (by decide) ?_
  refine W.widen (k := cells + 603) (n := slots + 9640) (by omega) (by omega) ?_
  exact K H locs ls ⟨ad, ks, g, u, (th r 0), f3, f4, hk, (hGI.thr).mono (by omega) (by omega) (by omega), hP, hD, hS, lv_sub hl [0, 1, 2, 3, 4, 5] rfl⟩
set_option maxHeartbeats 8000000 in
set_option maxRecDepth 100000 in
theorem law_c14 {p : Program} {e : Env} {s : State} {m : MethodId} {below : List Frame} {meth : Method} {c : Code} (l : Launch) (hst : l.stackTraces = false) {b L : Nat} {xs : Nat → Int32} (dC : Nat → ClassId) (dI : Nat → Nat → Nat) (cy : Nat → ClassId) (nb : Nat → Nat) (o3 o4 : Nat) (am : Nat → Nat) {n : Nat} (hn : n < 512) (hL : 4 * n + 4 ≤ L) (hL2 : L ≤ 2048) (C0 : LX p s m meth c b L xs dC dI cy nb) {Q : State → Prop} {H : Heap} {locs : List Loc} {ls : Array Slot} {cells slots : Nat} (hc : cells ≤ 400000) (hs : slots ≤ 6000000) (h : LSt s dC dI cy nb b o3 o4 am n (4 * n) H locs ls) (K : ∀ (H : Heap) (locs : List Loc) (ls : Array Slot), LSt s dC dI cy nb b o3 o4 am (n + 1) (4 * n) H locs ls → W p l e room_1 s m #[Value.ref b] below meth c H locs (cells + 603) (slots + 9640) Q (F0 m 1791 ls [])) : W p l e room_1 s m #[Value.ref b] below meth c H locs cells slots Q (F0 m 683 ls []) := by
  obtain ⟨hx, hb, hr, hml, hown, hts, hX, hbl, hlocks, hK, hE⟩ := C0
  have hA : ∀ q : Nat, s.heap.size ≤ q → (fun q : Nat => s.heap.size ≤ q) q := fun _ h => h
  have hbA : ¬ (fun q : Nat => s.heap.size ≤ q) b := Nat.not_le.mpr hbl
  obtain ⟨ad, ks, g, u, r, f3, f4, hk, hGI, hP, hD, hS, hl⟩ := h
  have h9 : QT (F8_steps r (xs (4 * n + 1)) (xs (4 * n + 2))) (C7_steps g u (xs (4 * n + 1)) (xs (4 * n + 2))) r 0 := q_steps hGI (by omega)
  rcases h9 with ⟨x, e1, e2⟩ | ⟨k, k1, k2, e1, e2⟩
  · refine lv_aload_n hx hb dL_law_683 rfl (lv_at hl 4 rfl) ?_
    refine lv_aload_n hx hb dL_law_684 rfl (lv_at hl 5 rfl) ?_
    refine lv_iload hx hb dL_law_685 (lv_at hl 0 rfl) ?_
    refine lv_iconst (v := 1) hx hb dL_law_687 (by decide) ?_
    refine lv_iadd hx hb dL_law_688 ?_
    refine my_topi (y := nI (4 * n + 1)) (nI_add (4 * n) 1) ?_
    refine va_sld hx hb hX hbl hbA hS (vp_in_nI (n := 4 * n + 1) (by omega) (by omega)) dL_law_689 ?_
    refine my_topi (y := xs (4 * n + 1)) (congrArg xs (nI_clamp (by omega))) ?_
    refine lv_aload_n hx hb dL_law_690 rfl (lv_at hl 5 rfl) ?_
    refine lv_iload hx hb dL_law_691 (lv_at hl 0 rfl) ?_
    refine lv_iconst (v := 2) hx hb dL_law_693 (by decide) ?_
    refine lv_iadd hx hb dL_law_694 ?_
    refine my_topi (y := nI (4 * n + 2)) (nI_add (4 * n) 2) ?_
    refine va_sld hx hb hX hbl hbA hS (vp_in_nI (n := 4 * n + 2) (by omega) (by omega)) dL_law_695 ?_
    refine my_topi (y := xs (4 * n + 2)) (congrArg xs (nI_clamp (by omega))) ?_
    refine lv_aload_n hx hb dL_law_696 rfl (lv_at hl 2 rfl) ?_
    have hPc : va_P (dC, dI) vwCl ([(o3, eL cy f3)] ++ WC cy ad ks g u) H := hP.part (X := XLW cy o3 o4 am f3 f4 r) (cx := [(o3, eL cy f3)]) [0] rfl
    have hDc : va_D (fun q : Nat => s.heap.size ≤ q) ([(o3, eL cy f3)] ++ WC cy ad ks g u) := hD.part (X := XLW cy o3 o4 am f3 f4 r) (cx := [(o3, eL cy f3)]) [0] (by decide) rfl
    have hFc : ∀ q, va_A ([(o3, eL cy f3)] ++ WC cy ad ks g u) H.size q → s.heap.size ≤ q := va_freeP (X := XLW cy o3 o4 am f3 f4 r) (cx := [(o3, eL cy f3)]) hD hS hA [0] rfl
    refine vx_calli (vx_runSX (As := [.ref (ad .cl), .int (xs (4 * n + 1)), .int (xs (4 * n + 2)), .ref o3]) (rest := []) ⟨hx, hb, hml, hown, hts⟩ (cn_steps l hst dC dI cy nb ad ks g hk u ((xs (4 * n + 1))) ((xs (4 * n + 2))) o3 f3 x H.size e2) (vx_cwSW 4 hts (gSH mw_808 mw_809 mw_562 mw_810) rfl rfl rfl (by decide +kernel) ⟨Nat.le_of_ble_eq_true rfl, Nat.le_of_ble_eq_true rfl⟩) (my_preS hPc hK hDc hE hS hFc) rfl rfl hl.1 rfl (lv_room (Nat.le_of_ble_eq_true rfl)) dL_law_697 ⟨by show _ ≤ 601024; omega, by show _ ≤ 7293034; omega⟩) hS (fun q _ h => hFc q h) hFc (fun q _ h => hFc q h) (fun E9 ce9 q9 u9 t9 H1 locs1 ht9 hvm9 hp9 _ _ _ _ _ _ _ => hp9.elim) (fun rw9 u9 t9 H1 locs ht hvm hw hB hz1 hk1 hS => ?_)
    obtain ⟨hP1, hD1⟩ := hB
    rw [ht] at hP1
    obtain ⟨hP, hD⟩ := va_joinP (X := XLW cy o3 o4 am f3 f4 r) (cx := [(o3, eL cy f3)]) (wr := ((o4, eD cy f4) :: WM cy am r)) (rx := [(o3, eL cy (vp_updL f3 ((0 : Int32).toNatClampNeg) (x.toInt64)))]) (pl := WC cy ad ks g u) (pl1 := WC cy ad ks g u) hP hD [0] [1, 2, 3, 4, 5, 6, 7, 8, 9, 10, 11, 12] rfl rfl (by decide) (by decide) hk1 hFc hP1 hD1
    have hP : va_P (dC, dI) vwCl (XLW cy o3 o4 am (vp_updL f3 ((0 : Int32).toNatClampNeg) (x.toInt64)) f4 r ++ WC cy ad ks g u) H1 := hP.part (X := ((o4, eD cy f4) :: WM cy am r) ++ [(o3, eL cy (vp_updL f3 ((0 : Int32).toNatClampNeg) (x.toInt64)))]) (cx := XLW cy o3 o4 am (vp_updL f3 ((0 : Int32).toNatClampNeg) (x.toInt64)) f4 r) [12, 0, 1, 2, 3, 4, 5, 6, 7, 8, 9, 10, 11] rfl
    have hD : va_D (fun q : Nat => s.heap.size ≤ q) (XLW cy o3 o4 am (vp_updL f3 ((0 : Int32).toNatClampNeg) (x.toInt64)) f4 r ++ WC cy ad ks g u) := hD.part (X := ((o4, eD cy f4) :: WM cy am r) ++ [(o3, eL cy (vp_updL f3 ((0 : Int32).toNatClampNeg) (x.toInt64)))]) (cx := XLW cy o3 o4 am (vp_updL f3 ((0 : Int32).toNatClampNeg) (x.toInt64)) f4 r) [12, 0, 1, 2, 3, 4, 5, 6, 7, 8, 9, 10, 11] (by decide) rfl
    generalize H1 = H at hP hS ⊢
    clear hP1 hD1 hPc hDc hFc hk1 hz1 hvm ht
    refine lv_istore (lv' := [(6, .int rw9), (5, .int (nI (4 * n))), (4, .ref o4), (3, .ref o3), (2, .ref (am 0)), (1, .ref (ad .cl)), (0, .ref b)]) hx hb dL_law_700 hl (by decide) rfl (fun ls hl => ?_)
    refine lv_aload_n hx hb dL_law_702 rfl (lv_at hl 4 rfl) ?_
    refine lv_aload_n hx hb dL_law_703 rfl (lv_at hl 6 rfl) ?_
    refine lv_iload hx hb dL_law_704 (lv_at hl 1 rfl) ?_
    refine lv_iconst (v := 1) hx hb dL_law_706 (by decide) ?_
    refine lv_iadd hx hb dL_law_707 ?_
    refine my_topi (y := nI (4 * n + 1)) (nI_add (4 * n) 1) ?_
    refine va_sld hx hb hX hbl hbA hS (vp_in_nI (n := 4 * n + 1) (by omega) (by omega)) dL_law_708 ?_
    refine my_topi (y := xs (4 * n + 1)) (congrArg xs (nI_clamp (by omega))) ?_
    refine lv_aload_n hx hb dL_law_709 rfl (lv_at hl 6 rfl) ?_
    refine lv_iload hx hb dL_law_710 (lv_at hl 1 rfl) ?_
    refine lv_iconst (v := 2) hx hb dL_law_712 (by decide) ?_
    refine lv_iadd hx hb dL_law_713 ?_
    refine my_topi (y := nI (4 * n + 2)) (nI_add (4 * n) 2) ?_
    refine va_sld hx hb hX hbl hbA hS (vp_in_nI (n := 4 * n + 2) (by omega) (by omega)) dL_law_714 ?_
    refine my_topi (y := xs (4 * n + 2)) (congrArg xs (nI_clamp (by omega))) ?_
    have hPc := hP.sub (ws' := (WM cy am r)) [2, 3, 4, 5, 6, 7, 8, 9, 10, 11, 12] rfl
    have hDc := hD.sub (ws' := (WM cy am r)) [2, 3, 4, 5, 6, 7, 8, 9, 10, 11, 12] (by decide) rfl
    have hFc := va_free (wc := (WM cy am r)) hD hS hA [2, 3, 4, 5, 6, 7, 8, 9, 10, 11, 12] rfl
    refine va_calli (va_runV (As := [.int (xs (4 * n + 1)), .int (xs (4 * n + 2))]) (rest := []) ⟨hx, hb, hml, hown, hts⟩ (k_X8_steps l dC dI cy nb am r ((xs (4 * n + 1))) ((xs (4 * n + 2))) x (th r 0) H.size e1) (cwV 2 hts (gV mw_821 mw_822 mw_823 mw_5 mw_824) rfl rfl rfl (by decide +kernel) ⟨Nat.le_of_ble_eq_true rfl, Nat.le_of_ble_eq_true rfl⟩) (my_preV hPc hK hDc hE hS hFc (va_recv (q := (RX8, TX8, 23)) hK hP (ci := 8) (q0 := 2) rfl rfl)) rfl rfl hl.1 rfl (lv_room (Nat.le_of_ble_eq_true rfl)) dL_law_715 ⟨by show _ ≤ 601024; omega, by show _ ≤ 7293034; omega⟩) hS (fun q _ h => hFc q h) hFc (fun rm9 u9 t9 H1 locs ht hvm hwm hB hz1 hk1 hS => ?_)
    obtain ⟨hP1, hD1⟩ := hB
    rw [ht] at hP1
    obtain ⟨hP, hD⟩ := va_joinQ (X := XLW cy o3 o4 am (vp_updL f3 ((0 : Int32).toNatClampNeg) (x.toInt64)) f4 r) (cx := (WM cy am r)) (wr := [(o3, eL cy (vp_updL f3 ((0 : Int32).toNatClampNeg) (x.toInt64))), (o4, eD cy f4)]) (w1 := (WM cy am (th r 0))) (pl := WC cy ad ks g u) hP hD [2, 3, 4, 5, 6, 7, 8, 9, 10, 11, 12] [0, 1] rfl rfl (by decide) (by decide) hk1 hFc hP1 hD1
    have hP : va_P (dC, dI) vwCl (XLW cy o3 o4 am (vp_updL f3 ((0 : Int32).toNatClampNeg) (x.toInt64)) f4 (th r 0) ++ WC cy ad ks g u) H1 := hP
    have hD : va_D (fun q : Nat => s.heap.size ≤ q) (XLW cy o3 o4 am (vp_updL f3 ((0 : Int32).toNatClampNeg) (x.toInt64)) f4 (th r 0) ++ WC cy ad ks g u) := hD
    generalize H1 = H at hP hS ⊢
    clear hP1 hD1 hPc hDc hFc hk1 hz1 hvm ht
    refine my_topi hwm ?_
    refine lv_istore (lv' := [(7, .int x), (6, .int rw9), (5, .int (nI (4 * n))), (4, .ref o4), (3, .ref o3), (2, .ref (am 0)), (1, .ref (ad .cl)), (0, .ref b)]) hx hb dL_law_718 hl (by decide) rfl (fun ls hl => ?_)
    refine lv_goto (tgt := 1791) hx hb dL_law_720 (by decide) ?_
    refine W.widen (k := cells + 603) (n := slots + 9640) (by omega) (by omega) ?_
    exact K H locs ls ⟨ad, ks, g, u, (th r 0), (vp_updL f3 ((0 : Int32).toNatClampNeg) (x.toInt64)), f4, hk, (hGI.thr).mono (by omega) (by omega) (by omega), hP, hD, hS, lv_sub hl [2, 3, 4, 5, 6, 7] rfl⟩
  · have e2 : C7_steps g u (xs (4 * n + 1)) (xs (4 * n + 2)) = some (.inl (nI (k + 0))) := e2
    generalize hxx : (nI (k + 0)) = xk at e2
    refine lv_aload_n hx hb dL_law_683 rfl (lv_at hl 4 rfl) ?_
    refine lv_aload_n hx hb dL_law_684 rfl (lv_at hl 5 rfl) ?_
    refine lv_iload hx hb dL_law_685 (lv_at hl 0 rfl) ?_
    refine lv_iconst (v := 1) hx hb dL_law_687 (by decide) ?_
    refine lv_iadd hx hb dL_law_688 ?_
    refine my_topi (y := nI (4 * n + 1)) (nI_add (4 * n) 1) ?_
    refine va_sld hx hb hX hbl hbA hS (vp_in_nI (n := 4 * n + 1) (by omega) (by omega)) dL_law_689 ?_
    refine my_topi (y := xs (4 * n + 1)) (congrArg xs (nI_clamp (by omega))) ?_
    refine lv_aload_n hx hb dL_law_690 rfl (lv_at hl 5 rfl) ?_
    refine lv_iload hx hb dL_law_691 (lv_at hl 0 rfl) ?_
    refine lv_iconst (v := 2) hx hb dL_law_693 (by decide) ?_
    refine lv_iadd hx hb dL_law_694 ?_
    refine my_topi (y := nI (4 * n + 2)) (nI_add (4 * n) 2) ?_
    refine va_sld hx hb hX hbl hbA hS (vp_in_nI (n := 4 * n + 2) (by omega) (by omega)) dL_law_695 ?_
    refine my_topi (y := xs (4 * n + 2)) (congrArg xs (nI_clamp (by omega))) ?_
    refine lv_aload_n hx hb dL_law_696 rfl (lv_at hl 2 rfl) ?_
    have hPc : va_P (dC, dI) vwCl ([(o3, eL cy f3)] ++ WC cy ad ks g u) H := hP.part (X := XLW cy o3 o4 am f3 f4 r) (cx := [(o3, eL cy f3)]) [0] rfl
    have hDc : va_D (fun q : Nat => s.heap.size ≤ q) ([(o3, eL cy f3)] ++ WC cy ad ks g u) := hD.part (X := XLW cy o3 o4 am f3 f4 r) (cx := [(o3, eL cy f3)]) [0] (by decide) rfl
    have hFc : ∀ q, va_A ([(o3, eL cy f3)] ++ WC cy ad ks g u) H.size q → s.heap.size ≤ q := va_freeP (X := XLW cy o3 o4 am f3 f4 r) (cx := [(o3, eL cy f3)]) hD hS hA [0] rfl
    refine vx_calli (vx_runSX (As := [.ref (ad .cl), .int (xs (4 * n + 1)), .int (xs (4 * n + 2)), .ref o3]) (rest := []) ⟨hx, hb, hml, hown, hts⟩ (ct_steps l hst dC dI cy nb ad ks g hk u ((xs (4 * n + 1))) ((xs (4 * n + 2))) o3 f3 xk H.size e2) (vx_cwSW 4 hts (gSH mw_808 mw_809 mw_562 mw_810) rfl rfl rfl (by decide +kernel) ⟨Nat.le_of_ble_eq_true rfl, Nat.le_of_ble_eq_true rfl⟩) (my_preS hPc hK hDc hE hS hFc) rfl rfl hl.1 rfl (lv_room (Nat.le_of_ble_eq_true rfl)) dL_law_697 ⟨by show _ ≤ 601024; omega, by show _ ≤ 7293034; omega⟩) hS (fun q _ h => hFc q h) hFc (fun q _ h => hFc q h) (fun E9 ce9 q9 u9 t9 H1 locs1 ht9 hvm9 hp9 _ _ _ _ _ _ _ => hp9.elim) (fun rw9 u9 t9 H1 locs ht hvm hw hB hz1 hk1 hS => ?_)
    obtain ⟨hP1, hD1⟩ := hB
    rw [ht] at hP1
    obtain ⟨hP, hD⟩ := va_joinP (X := XLW cy o3 o4 am f3 f4 r) (cx := [(o3, eL cy f3)]) (wr := ((o4, eD cy f4) :: WM cy am r)) (rx := [(o3, eL cy f3)]) (pl := WC cy ad ks g u) (pl1 := WC cy ad ks g u) hP hD [0] [1, 2, 3, 4, 5, 6, 7, 8, 9, 10, 11, 12] rfl rfl (by decide) (by decide) hk1 hFc hP1 hD1
    have hP : va_P (dC, dI) vwCl (XLW cy o3 o4 am f3 f4 r ++ WC cy ad ks g u) H1 := hP.part (X := ((o4, eD cy f4) :: WM cy am r) ++ [(o3, eL cy f3)]) (cx := XLW cy o3 o4 am f3 f4 r) [12, 0, 1, 2, 3, 4, 5, 6, 7, 8, 9, 10, 11] rfl
    have hD : va_D (fun q : Nat => s.heap.size ≤ q) (XLW cy o3 o4 am f3 f4 r ++ WC cy ad ks g u) := hD.part (X := ((o4, eD cy f4) :: WM cy am r) ++ [(o3, eL cy f3)]) (cx := XLW cy o3 o4 am f3 f4 r) [12, 0, 1, 2, 3, 4, 5, 6, 7, 8, 9, 10, 11] (by decide) rfl
    generalize H1 = H at hP hS ⊢
    clear hP1 hD1 hPc hDc hFc hk1 hz1 hvm ht
    refine lv_istore (lv' := [(6, .int rw9), (5, .int (nI (4 * n))), (4, .ref o4), (3, .ref o3), (2, .ref (am 0)), (1, .ref (ad .cl)), (0, .ref b)]) hx hb dL_law_700 hl (by decide) rfl (fun ls hl => ?_)
    refine lv_aload_n hx hb dL_law_702 rfl (lv_at hl 4 rfl) ?_
    refine lv_aload_n hx hb dL_law_703 rfl (lv_at hl 6 rfl) ?_
    refine lv_iload hx hb dL_law_704 (lv_at hl 1 rfl) ?_
    refine lv_iconst (v := 1) hx hb dL_law_706 (by decide) ?_
    refine lv_iadd hx hb dL_law_707 ?_
    refine my_topi (y := nI (4 * n + 1)) (nI_add (4 * n) 1) ?_
    refine va_sld hx hb hX hbl hbA hS (vp_in_nI (n := 4 * n + 1) (by omega) (by omega)) dL_law_708 ?_
    refine my_topi (y := xs (4 * n + 1)) (congrArg xs (nI_clamp (by omega))) ?_
    refine lv_aload_n hx hb dL_law_709 rfl (lv_at hl 6 rfl) ?_
    refine lv_iload hx hb dL_law_710 (lv_at hl 1 rfl) ?_
    refine lv_iconst (v := 2) hx hb dL_law_712 (by decide) ?_
    refine lv_iadd hx hb dL_law_713 ?_
    refine my_topi (y := nI (4 * n + 2)) (nI_add (4 * n) 2) ?_
    refine va_sld hx hb hX hbl hbA hS (vp_in_nI (n := 4 * n + 2) (by omega) (by omega)) dL_law_714 ?_
    refine my_topi (y := xs (4 * n + 2)) (congrArg xs (nI_clamp (by omega))) ?_
    have hPc := hP.sub (ws' := (WM cy am r)) [2, 3, 4, 5, 6, 7, 8, 9, 10, 11, 12] rfl
    have hDc := hD.sub (ws' := (WM cy am r)) [2, 3, 4, 5, 6, 7, 8, 9, 10, 11, 12] (by decide) rfl
    have hFc := va_free (wc := (WM cy am r)) hD hS hA [2, 3, 4, 5, 6, 7, 8, 9, 10, 11, 12] rfl
    refine va_calli (va_runV (As := [.int (xs (4 * n + 1)), .int (xs (4 * n + 2))]) (rest := []) ⟨hx, hb, hml, hown, hts⟩ (k_X8_steps l dC dI cy nb am r ((xs (4 * n + 1))) ((xs (4 * n + 2))) (nI 0) (th r k) H.size e1) (cwV 2 hts (gV mw_821 mw_822 mw_823 mw_5 mw_824) rfl rfl rfl (by decide +kernel) ⟨Nat.le_of_ble_eq_true rfl, Nat.le_of_ble_eq_true rfl⟩) (my_preV hPc hK hDc hE hS hFc (va_recv (q := (RX8, TX8, 23)) hK hP (ci := 8) (q0 := 2) rfl rfl)) rfl rfl hl.1 rfl (lv_room (Nat.le_of_ble_eq_true rfl)) dL_law_715 ⟨by show _ ≤ 601024; omega, by show _ ≤ 7293034; omega⟩) hS (fun q _ h => hFc q h) hFc (fun rm9 u9 t9 H1 locs ht hvm hwm hB hz1 hk1 hS => ?_)
    obtain ⟨hP1, hD1⟩ := hB
    rw [ht] at hP1
    obtain ⟨hP, hD⟩ := va_joinQ (X := XLW cy o3 o4 am f3 f4 r) (cx := (WM cy am r)) (wr := [(o3, eL cy f3), (o4, eD cy f4)]) (w1 := (WM cy am (th r k))) (pl := WC cy ad ks g u) hP hD [2, 3, 4, 5, 6, 7, 8, 9, 10, 11, 12] [0, 1] rfl rfl (by decide) (by decide) hk1 hFc hP1 hD1
    have hP : va_P (dC, dI) vwCl (XLW cy o3 o4 am f3 f4 (th r k) ++ WC cy ad ks g u) H1 := hP
    have hD : va_D (fun q : Nat => s.heap.size ≤ q) (XLW cy o3 o4 am f3 f4 (th r k) ++ WC cy ad ks g u) := hD
    generalize H1 = H at hP hS ⊢
    clear hP1 hD1 hPc hDc hFc hk1 hz1 hvm ht
    refine my_topi hwm ?_
    refine lv_istore (lv' := [(7, .int (nI 0)), (6, .int rw9), (5, .int (nI (4 * n))), (4, .ref o4), (3, .ref o3), (2, .ref (am 0)), (1, .ref (ad .cl)), (0, .ref b)]) hx hb dL_law_718 hl (by decide) rfl (fun ls hl => ?_)
    refine lv_goto (tgt := 1791) hx hb dL_law_720 (by decide) ?_
    refine W.widen (k := cells + 603) (n := slots + 9640) (by omega) (by omega) ?_
    exact K H locs ls ⟨ad, ks, g, u, (th r k), f3, f4, hk, (hGI.thr).mono (by omega) (by omega) (by omega), hP, hD, hS, lv_sub hl [2, 3, 4, 5, 6, 7] rfl⟩
set_option maxHeartbeats 8000000 in
set_option maxRecDepth 100000 in
theorem law_c15 {p : Program} {e : Env} {s : State} {m : MethodId} {below : List Frame} {meth : Method} {c : Code} (l : Launch) (hst : l.stackTraces = false) {b L : Nat} {xs : Nat → Int32} (dC : Nat → ClassId) (dI : Nat → Nat → Nat) (cy : Nat → ClassId) (nb : Nat → Nat) (o3 o4 : Nat) (am : Nat → Nat) {n : Nat} (hn : n < 512) (hL : 4 * n + 4 ≤ L) (hL2 : L ≤ 2048) (C0 : LX p s m meth c b L xs dC dI cy nb) {Q : State → Prop} {H : Heap} {locs : List Loc} {ls : Array Slot} {cells slots : Nat} (hc : cells ≤ 400000) (hs : slots ≤ 6000000) (h : LSt s dC dI cy nb b o3 o4 am n (4 * n) H locs ls) (K : ∀ (H : Heap) (locs : List Loc) (ls : Array Slot), LSt s dC dI cy nb b o3 o4 am (n + 1) (4 * n) H locs ls → W p l e room_1 s m #[Value.ref b] below meth c H locs (cells + 603) (slots + 9640) Q (F0 m 1791 ls [])) : W p l e room_1 s m #[Value.ref b] below meth c H locs cells slots Q (F0 m 723 ls []) := by
  obtain ⟨hx, hb, hr, hml, hown, hts, hX, hbl, hlocks, hK, hE⟩ := C0
  have hA : ∀ q : Nat, s.heap.size ≤ q → (fun q : Nat => s.heap.size ≤ q) q := fun _ h => h
  have hbA : ¬ (fun q : Nat => s.heap.size ≤ q) b := Nat.not_le.mpr hbl
  obtain ⟨ad, ks, g, u, r, f3, f4, hk, hGI, hP, hD, hS, hl⟩ := h
  have h9 : QT (F8_ticksFor r (xs (4 * n + 1)) (xs (4 * n + 2))) (C7_ticksFor g u (xs (4 * n + 1)) (xs (4 * n + 2))) r 0 := q_ticksFor hGI (by omega)
  rcases h9 with ⟨x, e1, e2⟩ | ⟨k, k1, k2, e1, e2⟩
  · refine lv_aload_n hx hb dL_law_723 rfl (lv_at hl 4 rfl) ?_
    refine lv_aload_n hx hb dL_law_724 rfl (lv_at hl 5 rfl) ?_
    refine lv_iload hx hb dL_law_725 (lv_at hl 0 rfl) ?_
    refine lv_iconst (v := 1) hx hb dL_law_727 (by decide) ?_
    refine lv_iadd hx hb dL_law_728 ?_
    refine my_topi (y := nI (4 * n + 1)) (nI_add (4 * n) 1) ?_
    refine va_sld hx hb hX hbl hbA hS (vp_in_nI (n := 4 * n + 1) (by omega) (by omega)) dL_law_729 ?_
    refine my_topi (y := xs (4 * n + 1)) (congrArg xs (nI_clamp (by omega))) ?_
    refine lv_aload_n hx hb dL_law_730 rfl (lv_at hl 5 rfl) ?_
    refine lv_iload hx hb dL_law_731 (lv_at hl 0 rfl) ?_
    refine lv_iconst (v := 2) hx hb dL_law_733 (by decide) ?_
    refine lv_iadd hx hb dL_law_734 ?_
    refine my_topi (y := nI (4 * n + 2)) (nI_add (4 * n) 2) ?_
    refine va_sld hx hb hX hbl hbA hS (vp_in_nI (n := 4 * n + 2) (by omega) (by omega)) dL_law_735 ?_
    refine my_topi (y := xs (4 * n + 2)) (congrArg xs (nI_clamp (by omega))) ?_
    refine lv_aload_n hx hb dL_law_736 rfl (lv_at hl 2 rfl) ?_
    have hPc : va_P (dC, dI) vwCl ([(o3, eL cy f3)] ++ WC cy ad ks g u) H := hP.part (X := XLW cy o3 o4 am f3 f4 r) (cx := [(o3, eL cy f3)]) [0] rfl
    have hDc : va_D (fun q : Nat => s.heap.size ≤ q) ([(o3, eL cy f3)] ++ WC cy ad ks g u) := hD.part (X := XLW cy o3 o4 am f3 f4 r) (cx := [(o3, eL cy f3)]) [0] (by decide) rfl
    have hFc : ∀ q, va_A ([(o3, eL cy f3)] ++ WC cy ad ks g u) H.size q → s.heap.size ≤ q := va_freeP (X := XLW cy o3 o4 am f3 f4 r) (cx := [(o3, eL cy f3)]) hD hS hA [0] rfl
    refine vx_calli (vx_runSX (As := [.ref (ad .cl), .int (xs (4 * n + 1)), .int (xs (4 * n + 2)), .ref o3]) (rest := []) ⟨hx, hb, hml, hown, hts⟩ (cn_ticksFor l hst dC dI cy nb ad ks g hk u ((xs (4 * n + 1))) ((xs (4 * n + 2))) o3 f3 x H.size e2) (vx_cwSW 4 hts (gSH mw_836 mw_837 mw_562 mw_838) rfl rfl rfl (by decide +kernel) ⟨Nat.le_of_ble_eq_true rfl, Nat.le_of_ble_eq_true rfl⟩) (my_preS hPc hK hDc hE hS hFc) rfl rfl hl.1 rfl (lv_room (Nat.le_of_ble_eq_true rfl)) dL_law_737 ⟨by show _ ≤ 601024; omega, by show _ ≤ 7293034; omega⟩) hS (fun q _ h => hFc q h) hFc (fun q _ h => hFc q h) (fun E9 ce9 q9 u9 t9 H1 locs1 ht9 hvm9 hp9 _ _ _ _ _ _ _ => hp9.elim) (fun rw9 u9 t9 H1 locs ht hvm hw hB hz1 hk1 hS => ?_)
    obtain ⟨hP1, hD1⟩ := hB
    rw [ht] at hP1
    obtain ⟨hP, hD⟩ := va_joinP (X := XLW cy o3 o4 am f3 f4 r) (cx := [(o3, eL cy f3)]) (wr := ((o4, eD cy f4) :: WM cy am r)) (rx := [(o3, eL cy (vp_updL f3 ((0 : Int32).toNatClampNeg) (x.toInt64)))]) (pl := WC cy ad ks g u) (pl1 := WC cy ad ks g u) hP hD [0] [1, 2, 3, 4, 5, 6, 7, 8, 9, 10, 11, 12] rfl rfl (by decide) (by decide) hk1 hFc hP1 hD1
    have hP : va_P (dC, dI) vwCl (XLW cy o3 o4 am (vp_updL f3 ((0 : Int32).toNatClampNeg) (x.toInt64)) f4 r ++ WC cy ad ks g u) H1 := hP.part (X := ((o4, eD cy f4) :: WM cy am r) ++ [(o3, eL cy (vp_updL f3 ((0 : Int32).toNatClampNeg) (x.toInt64)))]) (cx := XLW cy o3 o4 am (vp_updL f3 ((0 : Int32).toNatClampNeg) (x.toInt64)) f4 r) [12, 0, 1, 2, 3, 4, 5, 6, 7, 8, 9, 10, 11] rfl
    have hD : va_D (fun q : Nat => s.heap.size ≤ q) (XLW cy o3 o4 am (vp_updL f3 ((0 : Int32).toNatClampNeg) (x.toInt64)) f4 r ++ WC cy ad ks g u) := hD.part (X := ((o4, eD cy f4) :: WM cy am r) ++ [(o3, eL cy (vp_updL f3 ((0 : Int32).toNatClampNeg) (x.toInt64)))]) (cx := XLW cy o3 o4 am (vp_updL f3 ((0 : Int32).toNatClampNeg) (x.toInt64)) f4 r) [12, 0, 1, 2, 3, 4, 5, 6, 7, 8, 9, 10, 11] (by decide) rfl
    generalize H1 = H at hP hS ⊢
    clear hP1 hD1 hPc hDc hFc hk1 hz1 hvm ht
    refine lv_istore (lv' := [(6, .int rw9), (5, .int (nI (4 * n))), (4, .ref o4), (3, .ref o3), (2, .ref (am 0)), (1, .ref (ad .cl)), (0, .ref b)]) hx hb dL_law_740 hl (by decide) rfl (fun ls hl => ?_)
    refine lv_aload_n hx hb dL_law_742 rfl (lv_at hl 4 rfl) ?_
    refine lv_aload_n hx hb dL_law_743 rfl (lv_at hl 6 rfl) ?_
    refine lv_iload hx hb dL_law_744 (lv_at hl 1 rfl) ?_
    refine lv_iconst (v := 1) hx hb dL_law_746 (by decide) ?_
    refine lv_iadd hx hb dL_law_747 ?_
    refine my_topi (y := nI (4 * n + 1)) (nI_add (4 * n) 1) ?_
    refine va_sld hx hb hX hbl hbA hS (vp_in_nI (n := 4 * n + 1) (by omega) (by omega)) dL_law_748 ?_
    refine my_topi (y := xs (4 * n + 1)) (congrArg xs (nI_clamp (by omega))) ?_
    refine lv_aload_n hx hb dL_law_749 rfl (lv_at hl 6 rfl) ?_
    refine lv_iload hx hb dL_law_750 (lv_at hl 1 rfl) ?_
    refine lv_iconst (v := 2) hx hb dL_law_752 (by decide) ?_
    refine lv_iadd hx hb dL_law_753 ?_
    refine my_topi (y := nI (4 * n + 2)) (nI_add (4 * n) 2) ?_
    refine va_sld hx hb hX hbl hbA hS (vp_in_nI (n := 4 * n + 2) (by omega) (by omega)) dL_law_754 ?_
    refine my_topi (y := xs (4 * n + 2)) (congrArg xs (nI_clamp (by omega))) ?_
    have hPc := hP.sub (ws' := (WM cy am r)) [2, 3, 4, 5, 6, 7, 8, 9, 10, 11, 12] rfl
    have hDc := hD.sub (ws' := (WM cy am r)) [2, 3, 4, 5, 6, 7, 8, 9, 10, 11, 12] (by decide) rfl
    have hFc := va_free (wc := (WM cy am r)) hD hS hA [2, 3, 4, 5, 6, 7, 8, 9, 10, 11, 12] rfl
    refine va_calli (va_runV (As := [.int (xs (4 * n + 1)), .int (xs (4 * n + 2))]) (rest := []) ⟨hx, hb, hml, hown, hts⟩ (k_X8_ticksFor l dC dI cy nb am r ((xs (4 * n + 1))) ((xs (4 * n + 2))) x (th r 0) H.size e1) (cwV 2 hts (gV mw_855 mw_856 mw_857 mw_5 mw_858) rfl rfl rfl (by decide +kernel) ⟨Nat.le_of_ble_eq_true rfl, Nat.le_of_ble_eq_true rfl⟩) (my_preV hPc hK hDc hE hS hFc (va_recv (q := (RX8, TX8, 23)) hK hP (ci := 8) (q0 := 2) rfl rfl)) rfl rfl hl.1 rfl (lv_room (Nat.le_of_ble_eq_true rfl)) dL_law_755 ⟨by show _ ≤ 601024; omega, by show _ ≤ 7293034; omega⟩) hS (fun q _ h => hFc q h) hFc (fun rm9 u9 t9 H1 locs ht hvm hwm hB hz1 hk1 hS => ?_)
    obtain ⟨hP1, hD1⟩ := hB
    rw [ht] at hP1
    obtain ⟨hP, hD⟩ := va_joinQ (X := XLW cy o3 o4 am (vp_updL f3 ((0 : Int32).toNatClampNeg) (x.toInt64)) f4 r) (cx := (WM cy am r)) (wr := [(o3, eL cy (vp_updL f3 ((0 : Int32).toNatClampNeg) (x.toInt64))), (o4, eD cy f4)]) (w1 := (WM cy am (th r 0))) (pl := WC cy ad ks g u) hP hD [2, 3, 4, 5, 6, 7, 8, 9, 10, 11, 12] [0, 1] rfl rfl (by decide) (by decide) hk1 hFc hP1 hD1
    have hP : va_P (dC, dI) vwCl (XLW cy o3 o4 am (vp_updL f3 ((0 : Int32).toNatClampNeg) (x.toInt64)) f4 (th r 0) ++ WC cy ad ks g u) H1 := hP
    have hD : va_D (fun q : Nat => s.heap.size ≤ q) (XLW cy o3 o4 am (vp_updL f3 ((0 : Int32).toNatClampNeg) (x.toInt64)) f4 (th r 0) ++ WC cy ad ks g u) := hD
    generalize H1 = H at hP hS ⊢
    clear hP1 hD1 hPc hDc hFc hk1 hz1 hvm ht
    refine my_topi hwm ?_
    refine lv_istore (lv' := [(7, .int x), (6, .int rw9), (5, .int (nI (4 * n))), (4, .ref o4), (3, .ref o3), (2, .ref (am 0)), (1, .ref (ad .cl)), (0, .ref b)]) hx hb dL_law_758 hl (by decide) rfl (fun ls hl => ?_)
    refine lv_goto (tgt := 1791) hx hb dL_law_760 (by decide) ?_
    refine W.widen (k := cells + 603) (n := slots + 9640) (by omega) (by omega) ?_
    exact K H locs ls ⟨ad, ks, g, u, (th r 0), (vp_updL f3 ((0 : Int32).toNatClampNeg) (x.toInt64)), f4, hk, (hGI.thr).mono (by omega) (by omega) (by omega), hP, hD, hS, lv_sub hl [2, 3, 4, 5, 6, 7] rfl⟩
  · have e2 : C7_ticksFor g u (xs (4 * n + 1)) (xs (4 * n + 2)) = some (.inl (nI (k + 0))) := e2
    generalize hxx : (nI (k + 0)) = xk at e2
    have hxk : xk = 1 := x1_ticksFor e2
    refine lv_aload_n hx hb dL_law_723 rfl (lv_at hl 4 rfl) ?_
    refine lv_aload_n hx hb dL_law_724 rfl (lv_at hl 5 rfl) ?_
    refine lv_iload hx hb dL_law_725 (lv_at hl 0 rfl) ?_
    refine lv_iconst (v := 1) hx hb dL_law_727 (by decide) ?_
    refine lv_iadd hx hb dL_law_728 ?_
    refine my_topi (y := nI (4 * n + 1)) (nI_add (4 * n) 1) ?_
    refine va_sld hx hb hX hbl hbA hS (vp_in_nI (n := 4 * n + 1) (by omega) (by omega)) dL_law_729 ?_
    refine my_topi (y := xs (4 * n + 1)) (congrArg xs (nI_clamp (by omega))) ?_
    refine lv_aload_n hx hb dL_law_730 rfl (lv_at hl 5 rfl) ?_
    refine lv_iload hx hb dL_law_731 (lv_at hl 0 rfl) ?_
    refine lv_iconst (v := 2) hx hb dL_law_733 (by decide) ?_
    refine lv_iadd hx hb dL_law_734 ?_
    refine my_topi (y := nI (4 * n + 2)) (nI_add (4 * n) 2) ?_
    refine va_sld hx hb hX hbl hbA hS (vp_in_nI (n := 4 * n + 2) (by omega) (by omega)) dL_law_735 ?_
    refine my_topi (y := xs (4 * n + 2)) (congrArg xs (nI_clamp (by omega))) ?_
    refine lv_aload_n hx hb dL_law_736 rfl (lv_at hl 2 rfl) ?_
    have hPc : va_P (dC, dI) vwCl ([(o3, eL cy f3)] ++ WC cy ad ks g u) H := hP.part (X := XLW cy o3 o4 am f3 f4 r) (cx := [(o3, eL cy f3)]) [0] rfl
    have hDc : va_D (fun q : Nat => s.heap.size ≤ q) ([(o3, eL cy f3)] ++ WC cy ad ks g u) := hD.part (X := XLW cy o3 o4 am f3 f4 r) (cx := [(o3, eL cy f3)]) [0] (by decide) rfl
    have hFc : ∀ q, va_A ([(o3, eL cy f3)] ++ WC cy ad ks g u) H.size q → s.heap.size ≤ q := va_freeP (X := XLW cy o3 o4 am f3 f4 r) (cx := [(o3, eL cy f3)]) hD hS hA [0] rfl
    refine vx_calli (vx_runSX (As := [.ref (ad .cl), .int (xs (4 * n + 1)), .int (xs (4 * n + 2)), .ref o3]) (rest := []) ⟨hx, hb, hml, hown, hts⟩ (ct_ticksFor l hst dC dI cy nb ad ks g hk u ((xs (4 * n + 1))) ((xs (4 * n + 2))) o3 f3 xk H.size hxk e2) (vx_cwSW 4 hts (gSH mw_836 mw_837 mw_562 mw_838) rfl rfl rfl (by decide +kernel) ⟨Nat.le_of_ble_eq_true rfl, Nat.le_of_ble_eq_true rfl⟩) (my_preS hPc hK hDc hE hS hFc) rfl rfl hl.1 rfl (lv_room (Nat.le_of_ble_eq_true rfl)) dL_law_737 ⟨by show _ ≤ 601024; omega, by show _ ≤ 7293034; omega⟩) hS (fun q _ h => hFc q h) hFc (fun q _ h => hFc q h) (fun E9 ce9 q9 u9 t9 H1 locs1 ht9 hvm9 hp9 _ _ _ _ _ _ _ => hp9.elim) (fun rw9 u9 t9 H1 locs ht hvm hw hB hz1 hk1 hS => ?_)
    obtain ⟨hP1, hD1⟩ := hB
    rw [ht] at hP1
    obtain ⟨hP, hD⟩ := va_joinP (X := XLW cy o3 o4 am f3 f4 r) (cx := [(o3, eL cy f3)]) (wr := ((o4, eD cy f4) :: WM cy am r)) (rx := [(o3, eL cy f3)]) (pl := WC cy ad ks g u) (pl1 := WC cy ad ks g u) hP hD [0] [1, 2, 3, 4, 5, 6, 7, 8, 9, 10, 11, 12] rfl rfl (by decide) (by decide) hk1 hFc hP1 hD1
    have hP : va_P (dC, dI) vwCl (XLW cy o3 o4 am f3 f4 r ++ WC cy ad ks g u) H1 := hP.part (X := ((o4, eD cy f4) :: WM cy am r) ++ [(o3, eL cy f3)]) (cx := XLW cy o3 o4 am f3 f4 r) [12, 0, 1, 2, 3, 4, 5, 6, 7, 8, 9, 10, 11] rfl
    have hD : va_D (fun q : Nat => s.heap.size ≤ q) (XLW cy o3 o4 am f3 f4 r ++ WC cy ad ks g u) := hD.part (X := ((o4, eD cy f4) :: WM cy am r) ++ [(o3, eL cy f3)]) (cx := XLW cy o3 o4 am f3 f4 r) [12, 0, 1, 2, 3, 4, 5, 6, 7, 8, 9, 10, 11] (by decide) rfl
    generalize H1 = H at hP hS ⊢
    clear hP1 hD1 hPc hDc hFc hk1 hz1 hvm ht
    refine lv_istore (lv' := [(6, .int rw9), (5, .int (nI (4 * n))), (4, .ref o4), (3, .ref o3), (2, .ref (am 0)), (1, .ref (ad .cl)), (0, .ref b)]) hx hb dL_law_740 hl (by decide) rfl (fun ls hl => ?_)
    refine lv_aload_n hx hb dL_law_742 rfl (lv_at hl 4 rfl) ?_
    refine lv_aload_n hx hb dL_law_743 rfl (lv_at hl 6 rfl) ?_
    refine lv_iload hx hb dL_law_744 (lv_at hl 1 rfl) ?_
    refine lv_iconst (v := 1) hx hb dL_law_746 (by decide) ?_
    refine lv_iadd hx hb dL_law_747 ?_
    refine my_topi (y := nI (4 * n + 1)) (nI_add (4 * n) 1) ?_
    refine va_sld hx hb hX hbl hbA hS (vp_in_nI (n := 4 * n + 1) (by omega) (by omega)) dL_law_748 ?_
    refine my_topi (y := xs (4 * n + 1)) (congrArg xs (nI_clamp (by omega))) ?_
    refine lv_aload_n hx hb dL_law_749 rfl (lv_at hl 6 rfl) ?_
    refine lv_iload hx hb dL_law_750 (lv_at hl 1 rfl) ?_
    refine lv_iconst (v := 2) hx hb dL_law_752 (by decide) ?_
    refine lv_iadd hx hb dL_law_753 ?_
    refine my_topi (y := nI (4 * n + 2)) (nI_add (4 * n) 2) ?_
    refine va_sld hx hb hX hbl hbA hS (vp_in_nI (n := 4 * n + 2) (by omega) (by omega)) dL_law_754 ?_
    refine my_topi (y := xs (4 * n + 2)) (congrArg xs (nI_clamp (by omega))) ?_
    have hPc := hP.sub (ws' := (WM cy am r)) [2, 3, 4, 5, 6, 7, 8, 9, 10, 11, 12] rfl
    have hDc := hD.sub (ws' := (WM cy am r)) [2, 3, 4, 5, 6, 7, 8, 9, 10, 11, 12] (by decide) rfl
    have hFc := va_free (wc := (WM cy am r)) hD hS hA [2, 3, 4, 5, 6, 7, 8, 9, 10, 11, 12] rfl
    refine va_calli (va_runV (As := [.int (xs (4 * n + 1)), .int (xs (4 * n + 2))]) (rest := []) ⟨hx, hb, hml, hown, hts⟩ (k_X8_ticksFor l dC dI cy nb am r ((xs (4 * n + 1))) ((xs (4 * n + 2))) (nI 0) (th r k) H.size e1) (cwV 2 hts (gV mw_855 mw_856 mw_857 mw_5 mw_858) rfl rfl rfl (by decide +kernel) ⟨Nat.le_of_ble_eq_true rfl, Nat.le_of_ble_eq_true rfl⟩) (my_preV hPc hK hDc hE hS hFc (va_recv (q := (RX8, TX8, 23)) hK hP (ci := 8) (q0 := 2) rfl rfl)) rfl rfl hl.1 rfl (lv_room (Nat.le_of_ble_eq_true rfl)) dL_law_755 ⟨by show _ ≤ 601024; omega, by show _ ≤ 7293034; omega⟩) hS (fun q _ h => hFc q h) hFc (fun rm9 u9 t9 H1 locs ht hvm hwm hB hz1 hk1 hS => ?_)
    obtain ⟨hP1, hD1⟩ := hB
    rw [ht] at hP1
    obtain ⟨hP, hD⟩ := va_joinQ (X := XLW cy o3 o4 am f3 f4 r) (cx := (WM cy am r)) (wr := [(o3, eL cy f3), (o4, eD cy f4)]) (w1 := (WM cy am (th r k))) (pl := WC cy ad ks g u) hP hD [2, 3, 4, 5, 6, 7, 8, 9, 10, 11, 12] [0, 1] rfl rfl (by decide) (by decide) hk1 hFc hP1 hD1
    have hP : va_P (dC, dI) vwCl (XLW cy o3 o4 am f3 f4 (th r k) ++ WC cy ad ks g u) H1 := hP
    have hD : va_D (fun q : Nat => s.heap.size ≤ q) (XLW cy o3 o4 am f3 f4 (th r k) ++ WC cy ad ks g u) := hD
    generalize H1 = H at hP hS ⊢
    clear hP1 hD1 hPc hDc hFc hk1 hz1 hvm ht
    refine my_topi hwm ?_
    refine lv_istore (lv' := [(7, .int (nI 0)), (6, .int rw9), (5, .int (nI (4 * n))), (4, .ref o4), (3, .ref o3), (2, .ref (am 0)), (1, .ref (ad .cl)), (0, .ref b)]) hx hb dL_law_758 hl (by decide) rfl (fun ls hl => ?_)
    refine lv_goto (tgt := 1791) hx hb dL_law_760 (by decide) ?_
    refine W.widen (k := cells + 603) (n := slots + 9640) (by omega) (by omega) ?_
    exact K H locs ls ⟨ad, ks, g, u, (th r k), f3, f4, hk, (hGI.thr).mono (by omega) (by omega) (by omega), hP, hD, hS, lv_sub hl [2, 3, 4, 5, 6, 7] rfl⟩
set_option maxHeartbeats 8000000 in
set_option maxRecDepth 100000 in
theorem law_c16 {p : Program} {e : Env} {s : State} {m : MethodId} {below : List Frame} {meth : Method} {c : Code} (l : Launch) (hst : l.stackTraces = false) {b L : Nat} {xs : Nat → Int32} (dC : Nat → ClassId) (dI : Nat → Nat → Nat) (cy : Nat → ClassId) (nb : Nat → Nat) (o3 o4 : Nat) (am : Nat → Nat) {n : Nat} (hn : n < 512) (hL : 4 * n + 4 ≤ L) (hL2 : L ≤ 2048) (C0 : LX p s m meth c b L xs dC dI cy nb) {Q : State → Prop} {H : Heap} {locs : List Loc} {ls : Array Slot} {cells slots : Nat} (hc : cells ≤ 400000) (hs : slots ≤ 6000000) (h : LSt s dC dI cy nb b o3 o4 am n (4 * n) H locs ls) (K : ∀ (H : Heap) (locs : List Loc) (ls : Array Slot), LSt s dC dI cy nb b o3 o4 am (n + 1) (4 * n) H locs ls → W p l e room_1 s m #[Value.ref b] below meth c H locs (cells + 603) (slots + 9640) Q (F0 m 1791 ls [])) : W p l e room_1 s m #[Value.ref b] below meth c H locs cells slots Q (F0 m 763 ls []) := by
  obtain ⟨hx, hb, hr, hml, hown, hts, hX, hbl, hlocks, hK, hE⟩ := C0
  have hA : ∀ q : Nat, s.heap.size ≤ q → (fun q : Nat => s.heap.size ≤ q) q := fun _ h => h
  have hbA : ¬ (fun q : Nat => s.heap.size ≤ q) b := Nat.not_le.mpr hbl
  obtain ⟨ad, ks, g, u, r, f3, f4, hk, hGI, hP, hD, hS, hl⟩ := h
  have h9 : QP (F8_now r) (C7_now g u) r := q_now hGI
  obtain ⟨x, e1, e2⟩ := h9
  refine lv_aload_n hx hb dL_law_763 rfl (lv_at hl 4 rfl) ?_
  have hPc : va_P (dC, dI) vwCl (WC cy ad ks g u) H := hP.part (X := XLW cy o3 o4 am f3 f4 r) (cx := []) [] rfl
  have hDc : va_D (fun q : Nat => s.heap.size ≤ q) (WC cy ad ks g u) := hD.part (X := XLW cy o3 o4 am f3 f4 r) (cx := []) [] (by decide) rfl
  have hFc : ∀ q, va_A (WC cy ad ks g u) H.size q → s.heap.size ≤ q := va_freeP (X := XLW cy o3 o4 am f3 f4 r) (cx := []) hD hS hA [] rfl
  obtain ⟨q8, h8⟩ := wc_at (cy := cy) (ad := ad) (ks := ks) (g := g) (u := u) (κ := .cl) hk.1 True.intro
  refine va_calli (va_runV (As := []) (rest := []) ⟨hx, hb, hml, hown, hts⟩ (c_X7_now l dC dI cy nb ad ks g hk u  x H.size e2) (cwV 0 hts (gV mw_863 mw_864 mw_865 mw_2 mw_866) rfl rfl rfl (by decide +kernel) ⟨Nat.le_of_ble_eq_true rfl, Nat.le_of_ble_eq_true rfl⟩) (my_preV hPc hK hDc hE hS hFc (va_recv (q := (RX7, TX7, 12)) hK hPc (ci := 7) (q0 := q8) rfl h8)) rfl rfl hl.1 rfl (lv_room (Nat.le_of_ble_eq_true rfl)) dL_law_764 ⟨by show _ ≤ 601024; omega, by show _ ≤ 7293034; omega⟩) hS (fun q _ h => hFc q h) hFc (fun rw9 u9 t9 H1 locs ht hvm hw hB hz1 hk1 hS => ?_)
  clear h8
  obtain ⟨hP1, hD1⟩ := hB
  rw [ht] at hP1
  obtain ⟨hP, hD⟩ := va_joinP (X := XLW cy o3 o4 am f3 f4 r) (cx := []) (wr := XLW cy o3 o4 am f3 f4 r) (rx := []) (pl := WC cy ad ks g u) (pl1 := WC cy ad ks g u) hP hD [] [0, 1, 2, 3, 4, 5, 6, 7, 8, 9, 10, 11, 12] rfl rfl (by decide) (by decide) hk1 hFc hP1 hD1
  have hP : va_P (dC, dI) vwCl (XLW cy o3 o4 am f3 f4 r ++ WC cy ad ks g u) H1 := hP
  have hD : va_D (fun q : Nat => s.heap.size ≤ q) (XLW cy o3 o4 am f3 f4 r ++ WC cy ad ks g u) := hD
  generalize H1 = H at hP hS ⊢
  clear hP1 hD1 hPc hDc hFc hk1 hz1 hvm ht
  refine my_topi hw ?_
  refine lv_pop hx hb dL_law_767 rfl ?_
  refine lv_aload_n hx hb dL_law_768 rfl (lv_at hl 3 rfl) ?_
  have hPc := hP.sub (ws' := (WM cy am r)) [2, 3, 4, 5, 6, 7, 8, 9, 10, 11, 12] rfl
  have hDc := hD.sub (ws' := (WM cy am r)) [2, 3, 4, 5, 6, 7, 8, 9, 10, 11, 12] (by decide) rfl
  have hFc := va_free (wc := (WM cy am r)) hD hS hA [2, 3, 4, 5, 6, 7, 8, 9, 10, 11, 12] rfl
  refine va_calli (va_runV (As := []) (rest := []) ⟨hx, hb, hml, hown, hts⟩ (k_X8_now l dC dI cy nb am r  x (th r 0) H.size e1) (cwV 0 hts (gV mw_868 mw_869 mw_870 mw_5 mw_871) rfl rfl rfl (by decide +kernel) ⟨Nat.le_of_ble_eq_true rfl, Nat.le_of_ble_eq_true rfl⟩) (my_preV hPc hK hDc hE hS hFc (va_recv (q := (RX8, TX8, 23)) hK hP (ci := 8) (q0 := 2) rfl rfl)) rfl rfl hl.1 rfl (lv_room (Nat.le_of_ble_eq_true rfl)) dL_law_769 ⟨by show _ ≤ 601024; omega, by show _ ≤ 7293034; omega⟩) hS (fun q _ h => hFc q h) hFc (fun rm9 u9 t9 H1 locs ht hvm hwm hB hz1 hk1 hS => ?_)
  obtain ⟨hP1, hD1⟩ := hB
  rw [ht] at hP1
  obtain ⟨hP, hD⟩ := va_joinQ (X := XLW cy o3 o4 am f3 f4 r) (cx := (WM cy am r)) (wr := [(o3, eL cy f3), (o4, eD cy f4)]) (w1 := (WM cy am (th r 0))) (pl := WC cy ad ks g u) hP hD [2, 3, 4, 5, 6, 7, 8, 9, 10, 11, 12] [0, 1] rfl rfl (by decide) (by decide) hk1 hFc hP1 hD1
  have hP : va_P (dC, dI) vwCl (XLW cy o3 o4 am f3 f4 (th r 0) ++ WC cy ad ks g u) H1 := hP
  have hD : va_D (fun q : Nat => s.heap.size ≤ q) (XLW cy o3 o4 am f3 f4 (th r 0) ++ WC cy ad ks g u) := hD
  generalize H1 = H at hP hS ⊢
  clear hP1 hD1 hPc hDc hFc hk1 hz1 hvm ht
  refine my_topi hwm ?_
  refine lv_pop hx hb dL_law_772 rfl ?_
  refine lv_goto (tgt := 1791) hx hb dL_law_773 (by decide) ?_
  refine W.widen (k := cells + 603) (n := slots + 9640) (by omega) (by omega) ?_
  exact K H locs ls ⟨ad, ks, g, u, (th r 0), f3, f4, hk, (hGI.thr).mono (by omega) (by omega) (by omega), hP, hD, hS, lv_sub hl [0, 1, 2, 3, 4, 5] rfl⟩
end
