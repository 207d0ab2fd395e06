section
set_option maxHeartbeats 8000000 in
set_option maxRecDepth 100000 in
theorem law_c29 {p : Program} {e : Env} {s : State} {m : MethodId} {below : List Frame} {meth : Method} {c : Code} (l : Launch) (hst : l.stackTraces = false) {b L : Nat} {xs : Nat → Int32} (dC : Nat → ClassId) (dI : Nat → Nat → Nat) (cy : Nat → ClassId) (nb : Nat → Nat) (o3 o4 : Nat) (am : Nat → Nat) {n : Nat} (hn : n < 512) (hL : 4 * n + 4 ≤ L) (hL2 : L ≤ 2048) (C0 : LX p s m meth c b L xs dC dI cy nb) {Q : State → Prop} {H : Heap} {locs : List Loc} {ls : Array Slot} {cells slots : Nat} (hc : cells ≤ 400000) (hs : slots ≤ 6000000) (h : LSt s dC dI cy nb b o3 o4 am n (4 * n) H locs ls) (K : ∀ (H : Heap) (locs : List Loc) (ls : Array Slot), LSt s dC dI cy nb b o3 o4 am (n + 1) (4 * n) H locs ls → W p l e room_1 s m #[Value.ref b] below meth c H locs (cells + 603) (slots + 9640) Q (F0 m 1819 ls [])) : W p l e room_1 s m #[Value.ref b] below meth c H locs cells slots Q (F0 m 1134 ls []) := by
  obtain ⟨hx, hb, hr, hml, hown, hts, hX, hbl, hlocks, hK, hE⟩ := C0
  have hA : ∀ q : Nat, s.heap.size ≤ q → (fun q : Nat => s.heap.size ≤ q) q := fun _ h => h
  have hbA : ¬ (fun q : Nat => s.heap.size ≤ q) b := Nat.not_le.mpr hbl
  obtain ⟨ad, ks, g, u, r, f3, f4, hk, hGI, hP, hD, hS, hl⟩ := h
  by_cases hsb : xs (4 * n + 2) = 0
  · have hzz : True := trivial
    have h9 : AT (F8_stop r (xs (4 * n + 1)) 0) (C7_stop g u (xs (4 * n + 1)) 0) r 0 (2001 * n) (602 * n) := a_stop (Or.inl rfl) hGI
    rcases h9 with ⟨x, r2, c2, c2g, e1, e2, e3, e6⟩ | ⟨k, k1, k2, e1, e2⟩
    · refine lv_aload_n hx hb dL_law_1134 rfl (lv_at hl 4 rfl) ?_
      refine lv_aload_n hx hb dL_law_1135 rfl (lv_at hl 5 rfl) ?_
      refine lv_iload hx hb dL_law_1136 (lv_at hl 0 rfl) ?_
      refine lv_iconst (v := 1) hx hb dL_law_1138 (by decide) ?_
      refine lv_iadd hx hb dL_law_1139 ?_
      refine my_topi (y := nI (4 * n + 1)) (nI_add (4 * n) 1) ?_
      refine va_sld hx hb hX hbl hbA hS (vp_in_nI (n := 4 * n + 1) (by omega) (by omega)) dL_law_1140 ?_
      refine my_topi (y := xs (4 * n + 1)) (congrArg xs (nI_clamp (by omega))) ?_
      refine lv_aload_n hx hb dL_law_1141 rfl (lv_at hl 5 rfl) ?_
      refine lv_iload hx hb dL_law_1142 (lv_at hl 0 rfl) ?_
      refine lv_iconst (v := 2) hx hb dL_law_1144 (by decide) ?_
      refine lv_iadd hx hb dL_law_1145 ?_
      refine my_topi (y := nI (4 * n + 2)) (nI_add (4 * n) 2) ?_
      refine va_sld hx hb hX hbl hbA hS (vp_in_nI (n := 4 * n + 2) (by omega) (by omega)) dL_law_1146 ?_
      refine my_topi (y := xs (4 * n + 2)) (congrArg xs (nI_clamp (by omega))) ?_
      refine lv_if_eq (tgt := 1154) hx hb dL_law_1147 (by decide) (fun _ => ?_) (fun h9 => absurd hsb h9)
      refine lv_iconst (v := 0) hx hb dL_law_1154 (by decide) ?_
      refine lv_aload_n hx hb dL_law_1155 rfl (lv_at hl 2 rfl) ?_
      have hPc : va_P (dC, dI) vwCl ([(o3, eL cy f3)] ++ WC cy ad ks g u) H := hP.part (X := XLW cy o3 o4 am f3 f4 r) (cx := [(o3, eL cy f3)]) [0] rfl
      have hDc : va_D (fun q : Nat => s.heap.size ≤ q) ([(o3, eL cy f3)] ++ WC cy ad ks g u) := hD.part (X := XLW cy o3 o4 am f3 f4 r) (cx := [(o3, eL cy f3)]) [0] (by decide) rfl
      have hFc : ∀ q, va_A ([(o3, eL cy f3)] ++ WC cy ad ks g u) H.size q → s.heap.size ≤ q := va_freeP (X := XLW cy o3 o4 am f3 f4 r) (cx := [(o3, eL cy f3)]) hD hS hA [0] rfl
      refine vx_calli (vx_runSX (As := [.ref (ad .cl), .int (xs (4 * n + 1)), .int 0, .ref o3]) (rest := []) ⟨hx, hb, hml, hown, hts⟩ (cn_stop l hst dC dI cy nb ad ks g hk u ((xs (4 * n + 1))) (0) o3 f3 x c2g c2 H.size e2) (vx_cwSW 4 hts (gSH mw_1056 mw_1057 mw_562 mw_1058) rfl rfl rfl (by decide +kernel) ⟨Nat.le_of_ble_eq_true rfl, Nat.le_of_ble_eq_true rfl⟩) (my_preS hPc hK hDc hE hS hFc) rfl rfl hl.1 rfl (lv_room (Nat.le_of_ble_eq_true rfl)) dL_law_1156 ⟨by show _ ≤ 601024; omega, by show _ ≤ 7293034; omega⟩) hS (fun q _ h => hFc q h) hFc (fun q _ h => hFc q h) (fun E9 ce9 q9 u9 t9 H1 locs1 ht9 hvm9 hp9 _ _ _ _ _ _ _ => hp9.elim) (fun rw9 u9 t9 H1 locs ht hvm hw hB hz1 hk1 hS => ?_)
      obtain ⟨ad', ks', hkz, axz, hP1, hD1⟩ := hB
      rw [ht] at hP1
      obtain ⟨hP, hD⟩ := va_joinP (X := XLW cy o3 o4 am f3 f4 r) (cx := [(o3, eL cy f3)]) (wr := ((o4, eD cy f4) :: WM cy am r)) (rx := [(o3, eL cy (vp_updL f3 ((0 : Int32).toNatClampNeg) (x.toInt64)))]) (pl := WC cy ad ks g u) (pl1 := WC cy ad' ks' c2g c2) hP hD [0] [1, 2, 3, 4, 5, 6, 7, 8, 9, 10, 11, 12] rfl rfl (by decide) (by decide) hk1 hFc hP1 hD1
      have hP : va_P (dC, dI) vwCl (XLW cy o3 o4 am (vp_updL f3 ((0 : Int32).toNatClampNeg) (x.toInt64)) f4 r ++ WC cy ad' ks' c2g c2) H1 := hP.part (X := ((o4, eD cy f4) :: WM cy am r) ++ [(o3, eL cy (vp_updL f3 ((0 : Int32).toNatClampNeg) (x.toInt64)))]) (cx := XLW cy o3 o4 am (vp_updL f3 ((0 : Int32).toNatClampNeg) (x.toInt64)) f4 r) [12, 0, 1, 2, 3, 4, 5, 6, 7, 8, 9, 10, 11] rfl
      have hD : va_D (fun q : Nat => s.heap.size ≤ q) (XLW cy o3 o4 am (vp_updL f3 ((0 : Int32).toNatClampNeg) (x.toInt64)) f4 r ++ WC cy ad' ks' c2g c2) := hD.part (X := ((o4, eD cy f4) :: WM cy am r) ++ [(o3, eL cy (vp_updL f3 ((0 : Int32).toNatClampNeg) (x.toInt64)))]) (cx := XLW cy o3 o4 am (vp_updL f3 ((0 : Int32).toNatClampNeg) (x.toInt64)) f4 r) [12, 0, 1, 2, 3, 4, 5, 6, 7, 8, 9, 10, 11] (by decide) rfl
      generalize H1 = H at hP hS ⊢
      have hl : lv_has ls 10 [(5, .int (nI (4 * n))), (4, .ref o4), (3, .ref o3), (2, .ref (am 0)), (1, .ref (ad' .cl)), (0, .ref b)] := by rw [(axz .cl True.intro).2]; exact hl
      clear hP1 hD1 hPc hDc hFc hk1 hz1 hvm ht
      refine my_topi (y := 0) (hw) ?_
      refine lv_istore (lv' := [(6, .int 0), (5, .int (nI (4 * n))), (4, .ref o4), (3, .ref o3), (2, .ref (am 0)), (1, .ref (ad' .cl)), (0, .ref b)]) hx hb dL_law_1159 hl (by decide) rfl (fun ls hl => ?_)
      refine lv_aload_n hx hb dL_law_1161 rfl (lv_at hl 4 rfl) ?_
      refine lv_aload_n hx hb dL_law_1162 rfl (lv_at hl 6 rfl) ?_
      refine lv_iload hx hb dL_law_1163 (lv_at hl 1 rfl) ?_
      refine lv_iconst (v := 1) hx hb dL_law_1165 (by decide) ?_
      refine lv_iadd hx hb dL_law_1166 ?_
      refine my_topi (y := nI (4 * n + 1)) (nI_add (4 * n) 1) ?_
      refine va_sld hx hb hX hbl hbA hS (vp_in_nI (n := 4 * n + 1) (by omega) (by omega)) dL_law_1167 ?_
      refine my_topi (y := xs (4 * n + 1)) (congrArg xs (nI_clamp (by omega))) ?_
      refine lv_aload_n hx hb dL_law_1168 rfl (lv_at hl 6 rfl) ?_
      refine lv_iload hx hb dL_law_1169 (lv_at hl 1 rfl) ?_
      refine lv_iconst (v := 2) hx hb dL_law_1171 (by decide) ?_
      refine lv_iadd hx hb dL_law_1172 ?_
      refine my_topi (y := nI (4 * n + 2)) (nI_add (4 * n) 2) ?_
      refine va_sld hx hb hX hbl hbA hS (vp_in_nI (n := 4 * n + 2) (by omega) (by omega)) dL_law_1173 ?_
      refine my_topi (y := xs (4 * n + 2)) (congrArg xs (nI_clamp (by omega))) ?_
      refine lv_if_eq (tgt := 1181) hx hb dL_law_1174 (by decide) (fun _ => ?_) (fun h9 => absurd hsb h9)
      refine lv_iconst (v := 0) hx hb dL_law_1181 (by decide) ?_
      have hPc := hP.sub (ws' := (WM cy am r)) [2, 3, 4, 5, 6, 7, 8, 9, 10, 11, 12] rfl
      have hDc := hD.sub (ws' := (WM cy am r)) [2, 3, 4, 5, 6, 7, 8, 9, 10, 11, 12] (by decide) rfl
      have hFc := va_free (wc := (WM cy am r)) hD hS hA [2, 3, 4, 5, 6, 7, 8, 9, 10, 11, 12] rfl
      refine va_calli (va_runV (As := [.int (xs (4 * n + 1)), .int 0]) (rest := []) ⟨hx, hb, hml, hown, hts⟩ (k_X8_stop l dC dI cy nb am r ((xs (4 * n + 1))) (0) x (r2) H.size e1) (cwV 2 hts (gV mw_1063 mw_1064 mw_1065 mw_5 mw_1066) rfl rfl rfl (by decide +kernel) ⟨Nat.le_of_ble_eq_true rfl, Nat.le_of_ble_eq_true rfl⟩) (my_preV hPc hK hDc hE hS hFc (va_recv (q := (RX8, TX8, 23)) hK hP (ci := 8) (q0 := 2) rfl rfl)) rfl rfl hl.1 rfl (lv_room (Nat.le_of_ble_eq_true rfl)) dL_law_1182 ⟨by show _ ≤ 601024; omega, by show _ ≤ 7293034; omega⟩) hS (fun q _ h => hFc q h) hFc (fun rm9 u9 t9 H1 locs ht hvm hwm hB hz1 hk1 hS => ?_)
      obtain ⟨hP1, hD1⟩ := hB
      rw [ht] at hP1
      obtain ⟨hP, hD⟩ := va_joinQ (X := XLW cy o3 o4 am (vp_updL f3 ((0 : Int32).toNatClampNeg) (x.toInt64)) f4 r) (cx := (WM cy am r)) (wr := [(o3, eL cy (vp_updL f3 ((0 : Int32).toNatClampNeg) (x.toInt64))), (o4, eD cy f4)]) (w1 := (WM cy am (r2))) (pl := WC cy ad' ks' c2g c2) hP hD [2, 3, 4, 5, 6, 7, 8, 9, 10, 11, 12] [0, 1] rfl rfl (by decide) (by decide) hk1 hFc hP1 hD1
      have hP : va_P (dC, dI) vwCl (XLW cy o3 o4 am (vp_updL f3 ((0 : Int32).toNatClampNeg) (x.toInt64)) f4 r2 ++ WC cy ad' ks' c2g c2) H1 := hP
      have hD : va_D (fun q : Nat => s.heap.size ≤ q) (XLW cy o3 o4 am (vp_updL f3 ((0 : Int32).toNatClampNeg) (x.toInt64)) f4 r2 ++ WC cy ad' ks' c2g c2) := hD
      generalize H1 = H at hP hS ⊢
      clear hP1 hD1 hPc hDc hFc hk1 hz1 hvm ht
      refine my_topi hwm ?_
      refine lv_istore (lv' := [(7, .int x), (6, .int 0), (5, .int (nI (4 * n))), (4, .ref o4), (3, .ref o3), (2, .ref (am 0)), (1, .ref (ad' .cl)), (0, .ref b)]) hx hb dL_law_1185 hl (by decide) rfl (fun ls hl => ?_)
      refine lv_aload_n hx hb dL_law_1187 rfl (lv_at hl 5 rfl) ?_
      have hPc := hP.sub (ws' := (WM cy am r2)) [2, 3, 4, 5, 6, 7, 8, 9, 10, 11, 12] rfl
      have hDc := hD.sub (ws' := (WM cy am r2)) [2, 3, 4, 5, 6, 7, 8, 9, 10, 11, 12] (by decide) rfl
      have hFc := va_free (wc := (WM cy am r2)) hD hS hA [2, 3, 4, 5, 6, 7, 8, 9, 10, 11, 12] rfl
      refine va_calli (va_runV (As := []) (rest := []) ⟨hx, hb, hml, hown, hts⟩ (k_X8_thrown l dC dI cy nb am r2 (r2 0 6) H.size rfl) (cwV 0 hts (gV mw_1067 mw_1068 mw_1069 mw_5 mw_1070) rfl rfl rfl (by decide +kernel) ⟨Nat.le_of_ble_eq_true rfl, Nat.le_of_ble_eq_true rfl⟩) (my_preV hPc hK hDc hE hS hFc (va_recv (q := (RX8, TX8, 23)) hK hP (ci := 8) (q0 := 2) rfl rfl)) rfl rfl hl.1 rfl (lv_room (Nat.le_of_ble_eq_true rfl)) dL_law_1188 ⟨by show _ ≤ 601024; omega, by show _ ≤ 7293034; omega⟩) hS (fun q _ h => hFc q h) hFc (fun rm9 u9 t9 H1 locs ht hvm hwm hB hz1 hk1 hS => ?_)
      obtain ⟨hP1, hD1⟩ := hB
      rw [ht] at hP1
      obtain ⟨hP, hD⟩ := va_joinQ (X := XLW cy o3 o4 am (vp_updL f3 ((0 : Int32).toNatClampNeg) (x.toInt64)) f4 r2) (cx := (WM cy am r2)) (wr := [(o3, eL cy (vp_updL f3 ((0 : Int32).toNatClampNeg) (x.toInt64))), (o4, eD cy f4)]) (w1 := (WM cy am r2)) (pl := WC cy ad' ks' c2g c2) hP hD [2, 3, 4, 5, 6, 7, 8, 9, 10, 11, 12] [0, 1] rfl rfl (by decide) (by decide) hk1 hFc hP1 hD1
      have hP : va_P (dC, dI) vwCl (XLW cy o3 o4 am (vp_updL f3 ((0 : Int32).toNatClampNeg) (x.toInt64)) f4 r2 ++ WC cy ad' ks' c2g c2) H1 := hP
      have hD : va_D (fun q : Nat => s.heap.size ≤ q) (XLW cy o3 o4 am (vp_updL f3 ((0 : Int32).toNatClampNeg) (x.toInt64)) f4 r2 ++ WC cy ad' ks' c2g c2) := hD
      generalize H1 = H at hP hS ⊢
      clear hP1 hD1 hPc hDc hFc hk1 hz1 hvm ht
      refine my_topi (y := 0) (hwm.trans e6) ?_
      refine lv_iload hx hb dL_law_1191 (lv_at hl 1 rfl) ?_
      refine lv_icmp_eq (tgt := 1198) hx hb dL_law_1193 (by decide) (fun _ => ?_) (fun h9 => absurd rfl h9)
      refine lv_iload hx hb dL_law_1198 (lv_at hl 1 rfl) ?_
      refine lv_if_ne (tgt := 1215) hx hb dL_law_1200 (by decide) (fun h9 => absurd rfl h9) (fun _ => ?_)
      refine lv_aload_n hx hb dL_law_1203 rfl (lv_at hl 4 rfl) ?_
      refine lv_iconst (v := 0) hx hb dL_law_1204 (by decide) ?_
      refine va_lald hx hb hK hP 0 3 rfl rfl (vp_in_nI (n := 0) (by decide) (by decide)) dL_law_1205 ?_
      refine my_topl (y := x.toInt64) (by rfl) ?_
      refine lv_iload hx hb dL_law_1206 (lv_at hl 0 rfl) ?_
      refine lv_i2l (v := (x.toInt64)) hx hb dL_law_1208 rfl ?_
      refine W.lcmp hx hb dL_law_1209 ?_
      refine my_topi (y := 0) (by exact my_cmp_eq.mpr rfl) ?_
      refine lv_if_eq (tgt := 1215) hx hb dL_law_1210 (by decide) (fun _ => ?_) (fun h9 => absurd rfl h9)
      refine lv_goto (tgt := 1819) hx hb dL_law_1215 (by decide) ?_
      refine W.widen (k := cells + 603) (n := slots + 9640) (by omega) (by omega) ?_
      exact K H locs ls ⟨ad', ks', c2g, c2, r2, (vp_updL f3 ((0 : Int32).toNatClampNeg) (x.toInt64)), f4, hkz, e3.mono (by omega) (by omega) (by omega), hP, hD, hS, lv_sub hl [2, 3, 4, 5, 6, 7] rfl⟩
    · have e2 : C7_stop g u (xs (4 * n + 1)) 0 = some (.inl (nI (k + 0))) := e2
      generalize hxx : (nI (k + 0)) = xk at e2
      have hxk : xk = 1 := x1_stop e2
      have hk7 : k = 1 := by rw [← hxx] at hxk; exact nI_inj (b := 1) (by omega) (by omega) hxk
      have hkk : (1 : Int32) = nI k := by rw [hk7]; rfl
      refine lv_aload_n hx hb dL_law_1134 rfl (lv_at hl 4 rfl) ?_
      refine lv_aload_n hx hb dL_law_1135 rfl (lv_at hl 5 rfl) ?_
      refine lv_iload hx hb dL_law_1136 (lv_at hl 0 rfl) ?_
      refine lv_iconst (v := 1) hx hb dL_law_1138 (by decide) ?_
      refine lv_iadd hx hb dL_law_1139 ?_
      refine my_topi (y := nI (4 * n + 1)) (nI_add (4 * n) 1) ?_
      refine va_sld hx hb hX hbl hbA hS (vp_in_nI (n := 4 * n + 1) (by omega) (by omega)) dL_law_1140 ?_
      refine my_topi (y := xs (4 * n + 1)) (congrArg xs (nI_clamp (by omega))) ?_
      refine lv_aload_n hx hb dL_law_1141 rfl (lv_at hl 5 rfl) ?_
      refine lv_iload hx hb dL_law_1142 (lv_at hl 0 rfl) ?_
      refine lv_iconst (v := 2) hx hb dL_law_1144 (by decide) ?_
      refine lv_iadd hx hb dL_law_1145 ?_
      refine my_topi (y := nI (4 * n + 2)) (nI_add (4 * n) 2) ?_
      refine va_sld hx hb hX hbl hbA hS (vp_in_nI (n := 4 * n + 2) (by omega) (by omega)) dL_law_1146 ?_
      refine my_topi (y := xs (4 * n + 2)) (congrArg xs (nI_clamp (by omega))) ?_
      refine lv_if_eq (tgt := 1154) hx hb dL_law_1147 (by decide) (fun _ => ?_) (fun h9 => absurd hsb h9)
      refine lv_iconst (v := 0) hx hb dL_law_1154 (by decide) ?_
      refine lv_aload_n hx hb dL_law_1155 rfl (lv_at hl 2 rfl) ?_
      have hPc : va_P (dC, dI) vwCl ([(o3, eL cy f3)] ++ WC cy ad ks g u) H := hP.part (X := XLW cy o3 o4 am f3 f4 r) (cx := [(o3, eL cy f3)]) [0] rfl
      have hDc : va_D (fun q : Nat => s.heap.size ≤ q) ([(o3, eL cy f3)] ++ WC cy ad ks g u) := hD.part (X := XLW cy o3 o4 am f3 f4 r) (cx := [(o3, eL cy f3)]) [0] (by decide) rfl
      have hFc : ∀ q, va_A ([(o3, eL cy f3)] ++ WC cy ad ks g u) H.size q → s.heap.size ≤ q := va_freeP (X := XLW cy o3 o4 am f3 f4 r) (cx := [(o3, eL cy f3)]) hD hS hA [0] rfl
      refine vx_calli (vx_runSX (As := [.ref (ad .cl), .int (xs (4 * n + 1)), .int 0, .ref o3]) (rest := []) ⟨hx, hb, hml, hown, hts⟩ (ct_stop l hst dC dI cy nb ad ks g hk u ((xs (4 * n + 1))) (0) o3 f3 xk H.size hxk e2) (vx_cwSW 4 hts (gSH mw_1056 mw_1057 mw_562 mw_1058) rfl rfl rfl (by decide +kernel) ⟨Nat.le_of_ble_eq_true rfl, Nat.le_of_ble_eq_true rfl⟩) (my_preS hPc hK hDc hE hS hFc) rfl rfl hl.1 rfl (lv_room (Nat.le_of_ble_eq_true rfl)) dL_law_1156 ⟨by show _ ≤ 601024; omega, by show _ ≤ 7293034; omega⟩) hS (fun q _ h => hFc q h) hFc (fun q _ h => hFc q h) (fun E9 ce9 q9 u9 t9 H1 locs1 ht9 hvm9 hp9 _ _ _ _ _ _ _ => hp9.elim) (fun rw9 u9 t9 H1 locs ht hvm hw hB hz1 hk1 hS => ?_)
      obtain ⟨hP1, hD1⟩ := hB
      rw [ht] at hP1
      obtain ⟨hP, hD⟩ := va_joinP (X := XLW cy o3 o4 am f3 f4 r) (cx := [(o3, eL cy f3)]) (wr := ((o4, eD cy f4) :: WM cy am r)) (rx := [(o3, eL cy f3)]) (pl := WC cy ad ks g u) (pl1 := WC cy ad ks g u) hP hD [0] [1, 2, 3, 4, 5, 6, 7, 8, 9, 10, 11, 12] rfl rfl (by decide) (by decide) hk1 hFc hP1 hD1
      have hP : va_P (dC, dI) vwCl (XLW cy o3 o4 am f3 f4 r ++ WC cy ad ks g u) H1 := hP.part (X := ((o4, eD cy f4) :: WM cy am r) ++ [(o3, eL cy f3)]) (cx := XLW cy o3 o4 am f3 f4 r) [12, 0, 1, 2, 3, 4, 5, 6, 7, 8, 9, 10, 11] rfl
      have hD : va_D (fun q : Nat => s.heap.size ≤ q) (XLW cy o3 o4 am f3 f4 r ++ WC cy ad ks g u) := hD.part (X := ((o4, eD cy f4) :: WM cy am r) ++ [(o3, eL cy f3)]) (cx := XLW cy o3 o4 am f3 f4 r) [12, 0, 1, 2, 3, 4, 5, 6, 7, 8, 9, 10, 11] (by decide) rfl
      generalize H1 = H at hP hS ⊢
      clear hP1 hD1 hPc hDc hFc hk1 hz1 hvm ht
      refine my_topi (y := (nI k)) (hw.trans hkk) ?_
      refine lv_istore (lv' := [(6, .int (nI k)), (5, .int (nI (4 * n))), (4, .ref o4), (3, .ref o3), (2, .ref (am 0)), (1, .ref (ad .cl)), (0, .ref b)]) hx hb dL_law_1159 hl (by decide) rfl (fun ls hl => ?_)
      refine lv_aload_n hx hb dL_law_1161 rfl (lv_at hl 4 rfl) ?_
      refine lv_aload_n hx hb dL_law_1162 rfl (lv_at hl 6 rfl) ?_
      refine lv_iload hx hb dL_law_1163 (lv_at hl 1 rfl) ?_
      refine lv_iconst (v := 1) hx hb dL_law_1165 (by decide) ?_
      refine lv_iadd hx hb dL_law_1166 ?_
      refine my_topi (y := nI (4 * n + 1)) (nI_add (4 * n) 1) ?_
      refine va_sld hx hb hX hbl hbA hS (vp_in_nI (n := 4 * n + 1) (by omega) (by omega)) dL_law_1167 ?_
      refine my_topi (y := xs (4 * n + 1)) (congrArg xs (nI_clamp (by omega))) ?_
      refine lv_aload_n hx hb dL_law_1168 rfl (lv_at hl 6 rfl) ?_
      refine lv_iload hx hb dL_law_1169 (lv_at hl 1 rfl) ?_
      refine lv_iconst (v := 2) hx hb dL_law_1171 (by decide) ?_
      refine lv_iadd hx hb dL_law_1172 ?_
      refine my_topi (y := nI (4 * n + 2)) (nI_add (4 * n) 2) ?_
      refine va_sld hx hb hX hbl hbA hS (vp_in_nI (n := 4 * n + 2) (by omega) (by omega)) dL_law_1173 ?_
      refine my_topi (y := xs (4 * n + 2)) (congrArg xs (nI_clamp (by omega))) ?_
      refine lv_if_eq (tgt := 1181) hx hb dL_law_1174 (by decide) (fun _ => ?_) (fun h9 => absurd hsb h9)
      refine lv_iconst (v := 0) hx hb dL_law_1181 (by decide) ?_
      have hPc := hP.sub (ws' := (WM cy am r)) [2, 3, 4, 5, 6, 7, 8, 9, 10, 11, 12] rfl
      have hDc := hD.sub (ws' := (WM cy am r)) [2, 3, 4, 5, 6, 7, 8, 9, 10, 11, 12] (by decide) rfl
      have hFc := va_free (wc := (WM cy am r)) hD hS hA [2, 3, 4, 5, 6, 7, 8, 9, 10, 11, 12] rfl
      refine va_calli (va_runV (As := [.int (xs (4 * n + 1)), .int 0]) (rest := []) ⟨hx, hb, hml, hown, hts⟩ (k_X8_stop l dC dI cy nb am r ((xs (4 * n + 1))) (0) (nI 0) (th r k) H.size e1) (cwV 2 hts (gV mw_1063 mw_1064 mw_1065 mw_5 mw_1066) rfl rfl rfl (by decide +kernel) ⟨Nat.le_of_ble_eq_true rfl, Nat.le_of_ble_eq_true rfl⟩) (my_preV hPc hK hDc hE hS hFc (va_recv (q := (RX8, TX8, 23)) hK hP (ci := 8) (q0 := 2) rfl rfl)) rfl rfl hl.1 rfl (lv_room (Nat.le_of_ble_eq_true rfl)) dL_law_1182 ⟨by show _ ≤ 601024; omega, by show _ ≤ 7293034; omega⟩) hS (fun q _ h => hFc q h) hFc (fun rm9 u9 t9 H1 locs ht hvm hwm hB hz1 hk1 hS => ?_)
      obtain ⟨hP1, hD1⟩ := hB
      rw [ht] at hP1
      obtain ⟨hP, hD⟩ := va_joinQ (X := XLW cy o3 o4 am f3 f4 r) (cx := (WM cy am r)) (wr := [(o3, eL cy f3), (o4, eD cy f4)]) (w1 := (WM cy am (th r k))) (pl := WC cy ad ks g u) hP hD [2, 3, 4, 5, 6, 7, 8, 9, 10, 11, 12] [0, 1] rfl rfl (by decide) (by decide) hk1 hFc hP1 hD1
      have hP : va_P (dC, dI) vwCl (XLW cy o3 o4 am f3 f4 (th r k) ++ WC cy ad ks g u) H1 := hP
      have hD : va_D (fun q : Nat => s.heap.size ≤ q) (XLW cy o3 o4 am f3 f4 (th r k) ++ WC cy ad ks g u) := hD
      generalize H1 = H at hP hS ⊢
      clear hP1 hD1 hPc hDc hFc hk1 hz1 hvm ht
      refine my_topi hwm ?_
      refine lv_istore (lv' := [(7, .int (nI 0)), (6, .int (nI k)), (5, .int (nI (4 * n))), (4, .ref o4), (3, .ref o3), (2, .ref (am 0)), (1, .ref (ad .cl)), (0, .ref b)]) hx hb dL_law_1185 hl (by decide) rfl (fun ls hl => ?_)
      refine lv_aload_n hx hb dL_law_1187 rfl (lv_at hl 5 rfl) ?_
      have hPc := hP.sub (ws' := (WM cy am (th r k))) [2, 3, 4, 5, 6, 7, 8, 9, 10, 11, 12] rfl
      have hDc := hD.sub (ws' := (WM cy am (th r k))) [2, 3, 4, 5, 6, 7, 8, 9, 10, 11, 12] (by decide) rfl
      have hFc := va_free (wc := (WM cy am (th r k))) hD hS hA [2, 3, 4, 5, 6, 7, 8, 9, 10, 11, 12] rfl
      refine va_calli (va_runV (As := []) (rest := []) ⟨hx, hb, hml, hown, hts⟩ (k_X8_thrown l dC dI cy nb am (th r k) ((th r k) 0 6) H.size rfl) (cwV 0 hts (gV mw_1067 mw_1068 mw_1069 mw_5 mw_1070) rfl rfl rfl (by decide +kernel) ⟨Nat.le_of_ble_eq_true rfl, Nat.le_of_ble_eq_true rfl⟩) (my_preV hPc hK hDc hE hS hFc (va_recv (q := (RX8, TX8, 23)) hK hP (ci := 8) (q0 := 2) rfl rfl)) rfl rfl hl.1 rfl (lv_room (Nat.le_of_ble_eq_true rfl)) dL_law_1188 ⟨by show _ ≤ 601024; omega, by show _ ≤ 7293034; omega⟩) hS (fun q _ h => hFc q h) hFc (fun rm9 u9 t9 H1 locs ht hvm hwm hB hz1 hk1 hS => ?_)
      obtain ⟨hP1, hD1⟩ := hB
      rw [ht] at hP1
      obtain ⟨hP, hD⟩ := va_joinQ (X := XLW cy o3 o4 am f3 f4 (th r k)) (cx := (WM cy am (th r k))) (wr := [(o3, eL cy f3), (o4, eD cy f4)]) (w1 := (WM cy am (th r k))) (pl := WC cy ad ks g u) hP hD [2, 3, 4, 5, 6, 7, 8, 9, 10, 11, 12] [0, 1] rfl rfl (by decide) (by decide) hk1 hFc hP1 hD1
      have hP : va_P (dC, dI) vwCl (XLW cy o3 o4 am f3 f4 (th r k) ++ WC cy ad ks g u) H1 := hP
      have hD : va_D (fun q : Nat => s.heap.size ≤ q) (XLW cy o3 o4 am f3 f4 (th r k) ++ WC cy ad ks g u) := hD
      generalize H1 = H at hP hS ⊢
      clear hP1 hD1 hPc hDc hFc hk1 hz1 hvm ht
      refine my_topi (y := (nI k)) (hwm.trans up_eq) ?_
      refine lv_iload hx hb dL_law_1191 (lv_at hl 1 rfl) ?_
      refine lv_icmp_eq (tgt := 1198) hx hb dL_law_1193 (by decide) (fun _ => ?_) (fun h9 => absurd rfl h9)
      refine lv_iload hx hb dL_law_1198 (lv_at hl 1 rfl) ?_
      refine lv_if_ne (tgt := 1215) hx hb dL_law_1200 (by decide) (fun _ => ?_) (fun h9 => absurd h9 (show ¬ (nI k) = (0 : Int32) from nI_ne (b := 0) (by omega) (by omega) (by omega)))
      refine lv_goto (tgt := 1819) hx hb dL_law_1215 (by decide) ?_
      refine W.widen (k := cells + 603) (n := slots + 9640) (by omega) (by omega) ?_
      exact K H locs ls ⟨ad, ks, g, u, (th r k), f3, f4, hk, (hGI.thr).mono (by omega) (by omega) (by omega), hP, hD, hS, lv_sub hl [2, 3, 4, 5, 6, 7] rfl⟩
  · have hzz : True := trivial
    have h9 : AT (F8_stop r (xs (4 * n + 1)) 1) (C7_stop g u (xs (4 * n + 1)) 1) r 0 (2001 * n) (602 * n) := a_stop (Or.inr rfl) hGI
    rcases h9 with ⟨x, r2, c2, c2g, e1, e2, e3, e6⟩ | ⟨k, k1, k2, e1, e2⟩
    · refine lv_aload_n hx hb dL_law_1134 rfl (lv_at hl 4 rfl) ?_
      refine lv_aload_n hx hb dL_law_1135 rfl (lv_at hl 5 rfl) ?_
      refine lv_iload hx hb dL_law_1136 (lv_at hl 0 rfl) ?_
      refine lv_iconst (v := 1) hx hb dL_law_1138 (by decide) ?_
      refine lv_iadd hx hb dL_law_1139 ?_
      refine my_topi (y := nI (4 * n + 1)) (nI_add (4 * n) 1) ?_
      refine va_sld hx hb hX hbl hbA hS (vp_in_nI (n := 4 * n + 1) (by omega) (by omega)) dL_law_1140 ?_
      refine my_topi (y := xs (4 * n + 1)) (congrArg xs (nI_clamp (by omega))) ?_
      refine lv_aload_n hx hb dL_law_1141 rfl (lv_at hl 5 rfl) ?_
      refine lv_iload hx hb dL_law_1142 (lv_at hl 0 rfl) ?_
      refine lv_iconst (v := 2) hx hb dL_law_1144 (by decide) ?_
      refine lv_iadd hx hb dL_law_1145 ?_
      refine my_topi (y := nI (4 * n + 2)) (nI_add (4 * n) 2) ?_
      refine va_sld hx hb hX hbl hbA hS (vp_in_nI (n := 4 * n + 2) (by omega) (by omega)) dL_law_1146 ?_
      refine my_topi (y := xs (4 * n + 2)) (congrArg xs (nI_clamp (by omega))) ?_
      refine lv_if_eq (tgt := 1154) hx hb dL_law_1147 (by decide) (fun h9 => absurd h9 hsb) (fun _ => ?_)
      refine lv_iconst (v := 1) hx hb dL_law_1150 (by decide) ?_
      refine lv_goto (tgt := 1155) hx hb dL_law_1151 (by decide) ?_
      refine lv_aload_n hx hb dL_law_1155 rfl (lv_at hl 2 rfl) ?_
      have hPc : va_P (dC, dI) vwCl ([(o3, eL cy f3)] ++ WC cy ad ks g u) H := hP.part (X := XLW cy o3 o4 am f3 f4 r) (cx := [(o3, eL cy f3)]) [0] rfl
      have hDc : va_D (fun q : Nat => s.heap.size ≤ q) ([(o3, eL cy f3)] ++ WC cy ad ks g u) := hD.part (X := XLW cy o3 o4 am f3 f4 r) (cx := [(o3, eL cy f3)]) [0] (by decide) rfl
      have hFc : ∀ q, va_A ([(o3, eL cy f3)] ++ WC cy ad ks g u) H.size q → s.heap.size ≤ q := va_freeP (X := XLW cy o3 o4 am f3 f4 r) (cx := [(o3, eL cy f3)]) hD hS hA [0] rfl
      refine vx_calli (vx_runSX (As := [.ref (ad .cl), .int (xs (4 * n + 1)), .int 1, .ref o3]) (rest := []) ⟨hx, hb, hml, hown, hts⟩ (cn_stop l hst dC dI cy nb ad ks g hk u ((xs (4 * n + 1))) (1) o3 f3 x c2g c2 H.size e2) (vx_cwSW 4 hts (gSH mw_1056 mw_1057 mw_562 mw_1058) rfl rfl rfl (by decide +kernel) ⟨Nat.le_of_ble_eq_true rfl, Nat.le_of_ble_eq_true rfl⟩) (my_preS hPc hK hDc hE hS hFc) rfl rfl hl.1 rfl (lv_room (Nat.le_of_ble_eq_true rfl)) dL_law_1156 ⟨by show _ ≤ 601024; omega, by show _ ≤ 7293034; omega⟩) hS (fun q _ h => hFc q h) hFc (fun q _ h => hFc q h) (fun E9 ce9 q9 u9 t9 H1 locs1 ht9 hvm9 hp9 _ _ _ _ _ _ _ => hp9.elim) (fun rw9 u9 t9 H1 locs ht hvm hw hB hz1 hk1 hS => ?_)
      obtain ⟨ad', ks', hkz, axz, hP1, hD1⟩ := hB
      rw [ht] at hP1
      obtain ⟨hP, hD⟩ := va_joinP (X := XLW cy o3 o4 am f3 f4 r) (cx := [(o3, eL cy f3)]) (wr := ((o4, eD cy f4) :: WM cy am r)) (rx := [(o3, eL cy (vp_updL f3 ((0 : Int32).toNatClampNeg) (x.toInt64)))]) (pl := WC cy ad ks g u) (pl1 := WC cy ad' ks' c2g c2) hP hD [0] [1, 2, 3, 4, 5, 6, 7, 8, 9, 10, 11, 12] rfl rfl (by decide) (by decide) hk1 hFc hP1 hD1
      have hP : va_P (dC, dI) vwCl (XLW cy o3 o4 am (vp_updL f3 ((0 : Int32).toNatClampNeg) (x.toInt64)) f4 r ++ WC cy ad' ks' c2g c2) H1 := hP.part (X := ((o4, eD cy f4) :: WM cy am r) ++ [(o3, eL cy (vp_updL f3 ((0 : Int32).toNatClampNeg) (x.toInt64)))]) (cx := XLW cy o3 o4 am (vp_updL f3 ((0 : Int32).toNatClampNeg) (x.toInt64)) f4 r) [12, 0, 1, 2, 3, 4, 5, 6, 7, 8, 9, 10, 11] rfl
      have hD : va_D (fun q : Nat => s.heap.size ≤ q) (XLW cy o3 o4 am (vp_updL f3 ((0 : Int32).toNatClampNeg) (x.toInt64)) f4 r ++ WC cy ad' ks' c2g c2) := hD.part (X := ((o4, eD cy f4) :: WM cy am r) ++ [(o3, eL cy (vp_updL f3 ((0 : Int32).toNatClampNeg) (x.toInt64)))]) (cx := XLW cy o3 o4 am (vp_updL f3 ((0 : Int32).toNatClampNeg) (x.toInt64)) f4 r) [12, 0, 1, 2, 3, 4, 5, 6, 7, 8, 9, 10, 11] (by decide) rfl
      generalize H1 = H at hP hS ⊢
      have hl : lv_has ls 10 [(5, .int (nI (4 * n))), (4, .ref o4), (3, .ref o3), (2, .ref (am 0)), (1, .ref (ad' .cl)), (0, .ref b)] := by rw [(axz .cl True.intro).2]; exact hl
      clear hP1 hD1 hPc hDc hFc hk1 hz1 hvm ht
      refine my_topi (y := 0) (hw) ?_
      refine lv_istore (lv' := [(6, .int 0), (5, .int (nI (4 * n))), (4, .ref o4), (3, .ref o3), (2, .ref (am 0)), (1, .ref (ad' .cl)), (0, .ref b)]) hx hb dL_law_1159 hl (by decide) rfl (fun ls hl => ?_)
      refine lv_aload_n hx hb dL_law_1161 rfl (lv_at hl 4 rfl) ?_
      refine lv_aload_n hx hb dL_law_1162 rfl (lv_at hl 6 rfl) ?_
      refine lv_iload hx hb dL_law_1163 (lv_at hl 1 rfl) ?_
      refine lv_iconst (v := 1) hx hb dL_law_1165 (by decide) ?_
      refine lv_iadd hx hb dL_law_1166 ?_
      refine my_topi (y := nI (4 * n + 1)) (nI_add (4 * n) 1) ?_
      refine va_sld hx hb hX hbl hbA hS (vp_in_nI (n := 4 * n + 1) (by omega) (by omega)) dL_law_1167 ?_
      refine my_topi (y := xs (4 * n + 1)) (congrArg xs (nI_clamp (by omega))) ?_
      refine lv_aload_n hx hb dL_law_1168 rfl (lv_at hl 6 rfl) ?_
      refine lv_iload hx hb dL_law_1169 (lv_at hl 1 rfl) ?_
      refine lv_iconst (v := 2) hx hb dL_law_1171 (by decide) ?_
      refine lv_iadd hx hb dL_law_1172 ?_
      refine my_topi (y := nI (4 * n + 2)) (nI_add (4 * n) 2) ?_
      refine va_sld hx hb hX hbl hbA hS (vp_in_nI (n := 4 * n + 2) (by omega) (by omega)) dL_law_1173 ?_
      refine my_topi (y := xs (4 * n + 2)) (congrArg xs (nI_clamp (by omega))) ?_
      refine lv_if_eq (tgt := 1181) hx hb dL_law_1174 (by decide) (fun h9 => absurd h9 hsb) (fun _ => ?_)
      refine lv_iconst (v := 1) hx hb dL_law_1177 (by decide) ?_
      refine lv_goto (tgt := 1182) hx hb dL_law_1178 (by decide) ?_
      have hPc := hP.sub (ws' := (WM cy am r)) [2, 3, 4, 5, 6, 7, 8, 9, 10, 11, 12] rfl
      have hDc := hD.sub (ws' := (WM cy am r)) [2, 3, 4, 5, 6, 7, 8, 9, 10, 11, 12] (by decide) rfl
      have hFc := va_free (wc := (WM cy am r)) hD hS hA [2, 3, 4, 5, 6, 7, 8, 9, 10, 11, 12] rfl
      refine va_calli (va_runV (As := [.int (xs (4 * n + 1)), .int 1]) (rest := []) ⟨hx, hb, hml, hown, hts⟩ (k_X8_stop l dC dI cy nb am r ((xs (4 * n + 1))) (1) x (r2) H.size e1) (cwV 2 hts (gV mw_1063 mw_1064 mw_1065 mw_5 mw_1066) rfl rfl rfl (by decide +kernel) ⟨Nat.le_of_ble_eq_true rfl, Nat.le_of_ble_eq_true rfl⟩) (my_preV hPc hK hDc hE hS hFc (va_recv (q := (RX8, TX8, 23)) hK hP (ci := 8) (q0 := 2) rfl rfl)) rfl rfl hl.1 rfl (lv_room (Nat.le_of_ble_eq_true rfl)) dL_law_1182 ⟨by show _ ≤ 601024; omega, by show _ ≤ 7293034; omega⟩) hS (fun q _ h => hFc q h) hFc (fun rm9 u9 t9 H1 locs ht hvm hwm hB hz1 hk1 hS => ?_)
      obtain ⟨hP1, hD1⟩ := hB
      rw [ht] at hP1
      obtain ⟨hP, hD⟩ := va_joinQ (X := XLW cy o3 o4 am (vp_updL f3 ((0 : Int32).toNatClampNeg) (x.toInt64)) f4 r) (cx := (WM cy am r)) (wr := [(o3, eL cy (vp_updL f3 ((0 : Int32).toNatClampNeg) (x.toInt64))), (o4, eD cy f4)]) (w1 := (WM cy am (r2))) (pl := WC cy ad' ks' c2g c2) hP hD [2, 3, 4, 5, 6, 7, 8, 9, 10, 11, 12] [0, 1] rfl rfl (by decide) (by decide) hk1 hFc hP1 hD1
      have hP : va_P (dC, dI) vwCl (XLW cy o3 o4 am (vp_updL f3 ((0 : Int32).toNatClampNeg) (x.toInt64)) f4 r2 ++ WC cy ad' ks' c2g c2) H1 := hP
      have hD : va_D (fun q : Nat => s.heap.size ≤ q) (XLW cy o3 o4 am (vp_updL f3 ((0 : Int32).toNatClampNeg) (x.toInt64)) f4 r2 ++ WC cy ad' ks' c2g c2) := hD
      generalize H1 = H at hP hS ⊢
      clear hP1 hD1 hPc hDc hFc hk1 hz1 hvm ht
      refine my_topi hwm ?_
      refine lv_istore (lv' := [(7, .int x), (6, .int 0), (5, .int (nI (4 * n))), (4, .ref o4), (3, .ref o3), (2, .ref (am 0)), (1, .ref (ad' .cl)), (0, .ref b)]) hx hb dL_law_1185 hl (by decide) rfl (fun ls hl => ?_)
      refine lv_aload_n hx hb dL_law_1187 rfl (lv_at hl 5 rfl) ?_
      have hPc := hP.sub (ws' := (WM cy am r2)) [2, 3, 4, 5, 6, 7, 8, 9, 10, 11, 12] rfl
      have hDc := hD.sub (ws' := (WM cy am r2)) [2, 3, 4, 5, 6, 7, 8, 9, 10, 11, 12] (by decide) rfl
      have hFc := va_free (wc := (WM cy am r2)) hD hS hA [2, 3, 4, 5, 6, 7, 8, 9, 10, 11, 12] rfl
      refine va_calli (va_runV (As := []) (rest := []) ⟨hx, hb, hml, hown, hts⟩ (k_X8_thrown l dC dI cy nb am r2 (r2 0 6) H.size rfl) (cwV 0 hts (gV mw_1067 mw_1068 mw_1069 mw_5 mw_1070) rfl rfl rfl (by decide +kernel) ⟨Nat.le_of_ble_eq_true rfl, Nat.le_of_ble_eq_true rfl⟩) (my_preV hPc hK hDc hE hS hFc (va_recv (q := (RX8, TX8, 23)) hK hP (ci := 8) (q0 := 2) rfl rfl)) rfl rfl hl.1 rfl (lv_room (Nat.le_of_ble_eq_true rfl)) dL_law_1188 ⟨by show _ ≤ 601024; omega, by show _ ≤ 7293034; omega⟩) hS (fun q _ h => hFc q h) hFc (fun rm9 u9 t9 H1 locs ht hvm hwm hB hz1 hk1 hS => ?_)
      obtain ⟨hP1, hD1⟩ := hB
      rw [ht] at hP1
      obtain ⟨hP, hD⟩ := va_joinQ (X := XLW cy o3 o4 am (vp_updL f3 ((0 : Int32).toNatClampNeg) (x.toInt64)) f4 r2) (cx := (WM cy am r2)) (wr := [(o3, eL cy (vp_updL f3 ((0 : Int32).toNatClampNeg) (x.toInt64))), (o4, eD cy f4)]) (w1 := (WM cy am r2)) (pl := WC cy ad' ks' c2g c2) hP hD [2, 3, 4, 5, 6, 7, 8, 9, 10, 11, 12] [0, 1] rfl rfl (by decide) (by decide) hk1 hFc hP1 hD1
      have hP : va_P (dC, dI) vwCl (XLW cy o3 o4 am (vp_updL f3 ((0 : Int32).toNatClampNeg) (x.toInt64)) f4 r2 ++ WC cy ad' ks' c2g c2) H1 := hP
      have hD : va_D (fun q : Nat => s.heap.size ≤ q) (XLW cy o3 o4 am (vp_updL f3 ((0 : Int32).toNatClampNeg) (x.toInt64)) f4 r2 ++ WC cy ad' ks' c2g c2) := hD
      generalize H1 = H at hP hS ⊢
      clear hP1 hD1 hPc hDc hFc hk1 hz1 hvm ht
      refine my_topi (y := 0) (hwm.trans e6) ?_
      refine lv_iload hx hb dL_law_1191 (lv_at hl 1 rfl) ?_
      refine lv_icmp_eq (tgt := 1198) hx hb dL_law_1193 (by decide) (fun _ => ?_) (fun h9 => absurd rfl h9)
      refine lv_iload hx hb dL_law_1198 (lv_at hl 1 rfl) ?_
      refine lv_if_ne (tgt := 1215) hx hb dL_law_1200 (by decide) (fun h9 => absurd rfl h9) (fun _ => ?_)
      refine lv_aload_n hx hb dL_law_1203 rfl (lv_at hl 4 rfl) ?_
      refine lv_iconst (v := 0) hx hb dL_law_1204 (by decide) ?_
      refine va_lald hx hb hK hP 0 3 rfl rfl (vp_in_nI (n := 0) (by decide) (by decide)) dL_law_1205 ?_
      refine my_topl (y := x.toInt64) (by rfl) ?_
      refine lv_iload hx hb dL_law_1206 (lv_at hl 0 rfl) ?_
      refine lv_i2l (v := (x.toInt64)) hx hb dL_law_1208 rfl ?_
      refine W.lcmp hx hb dL_law_1209 ?_
      refine my_topi (y := 0) (by exact my_cmp_eq.mpr rfl) ?_
      refine lv_if_eq (tgt := 1215) hx hb dL_law_1210 (by decide) (fun _ => ?_) (fun h9 => absurd rfl h9)
      refine lv_goto (tgt := 1819) hx hb dL_law_1215 (by decide) ?_
      refine W.widen (k := cells + 603) (n := slots + 9640) (by omega) (by omega) ?_
      exact K H locs ls ⟨ad', ks', c2g, c2, r2, (vp_updL f3 ((0 : Int32).toNatClampNeg) (x.toInt64)), f4, hkz, e3.mono (by omega) (by omega) (by omega), hP, hD, hS, lv_sub hl [2, 3, 4, 5, 6, 7] rfl⟩
    · have e2 : C7_stop g u (xs (4 * n + 1)) 1 = some (.inl (nI (k + 0))) := e2
      generalize hxx : (nI (k + 0)) = xk at e2
      have hxk : xk = 1 := x1_stop e2
      have hk7 : k = 1 := by rw [← hxx] at hxk; exact nI_inj (b := 1) (by omega) (by omega) hxk
      have hkk : (1 : Int32) = nI k := by rw [hk7]; rfl
      refine lv_aload_n hx hb dL_law_1134 rfl (lv_at hl 4 rfl) ?_
      refine lv_aload_n hx hb dL_law_1135 rfl (lv_at hl 5 rfl) ?_
      refine lv_iload hx hb dL_law_1136 (lv_at hl 0 rfl) ?_
      refine lv_iconst (v := 1) hx hb dL_law_1138 (by decide) ?_
      refine lv_iadd hx hb dL_law_1139 ?_
      refine my_topi (y := nI (4 * n + 1)) (nI_add (4 * n) 1) ?_
      refine va_sld hx hb hX hbl hbA hS (vp_in_nI (n := 4 * n + 1) (by omega) (by omega)) dL_law_1140 ?_
      refine my_topi (y := xs (4 * n + 1)) (congrArg xs (nI_clamp (by omega))) ?_
      refine lv_aload_n hx hb dL_law_1141 rfl (lv_at hl 5 rfl) ?_
      refine lv_iload hx hb dL_law_1142 (lv_at hl 0 rfl) ?_
      refine lv_iconst (v := 2) hx hb dL_law_1144 (by decide) ?_
      refine lv_iadd hx hb dL_law_1145 ?_
      refine my_topi (y := nI (4 * n + 2)) (nI_add (4 * n) 2) ?_
      refine va_sld hx hb hX hbl hbA hS (vp_in_nI (n := 4 * n + 2) (by omega) (by omega)) dL_law_1146 ?_
      refine my_topi (y := xs (4 * n + 2)) (congrArg xs (nI_clamp (by omega))) ?_
      refine lv_if_eq (tgt := 1154) hx hb dL_law_1147 (by decide) (fun h9 => absurd h9 hsb) (fun _ => ?_)
      refine lv_iconst (v := 1) hx hb dL_law_1150 (by decide) ?_
      refine lv_goto (tgt := 1155) hx hb dL_law_1151 (by decide) ?_
      refine lv_aload_n hx hb dL_law_1155 rfl (lv_at hl 2 rfl) ?_
      have hPc : va_P (dC, dI) vwCl ([(o3, eL cy f3)] ++ WC cy ad ks g u) H := hP.part (X := XLW cy o3 o4 am f3 f4 r) (cx := [(o3, eL cy f3)]) [0] rfl
      have hDc : va_D (fun q : Nat => s.heap.size ≤ q) ([(o3, eL cy f3)] ++ WC cy ad ks g u) := hD.part (X := XLW cy o3 o4 am f3 f4 r) (cx := [(o3, eL cy f3)]) [0] (by decide) rfl
      have hFc : ∀ q, va_A ([(o3, eL cy f3)] ++ WC cy ad ks g u) H.size q → s.heap.size ≤ q := va_freeP (X := XLW cy o3 o4 am f3 f4 r) (cx := [(o3, eL cy f3)]) hD hS hA [0] rfl
      refine vx_calli (vx_runSX (As := [.ref (ad .cl), .int (xs (4 * n + 1)), .int 1, .ref o3]) (rest := []) ⟨hx, hb, hml, hown, hts⟩ (ct_stop l hst dC dI cy nb ad ks g hk u ((xs (4 * n + 1))) (1) o3 f3 xk H.size hxk e2) (vx_cwSW 4 hts (gSH mw_1056 mw_1057 mw_562 mw_1058) rfl rfl rfl (by decide +kernel) ⟨Nat.le_of_ble_eq_true rfl, Nat.le_of_ble_eq_true rfl⟩) (my_preS hPc hK hDc hE hS hFc) rfl rfl hl.1 rfl (lv_room (Nat.le_of_ble_eq_true rfl)) dL_law_1156 ⟨by show _ ≤ 601024; omega, by show _ ≤ 7293034; omega⟩) hS (fun q _ h => hFc q h) hFc (fun q _ h => hFc q h) (fun E9 ce9 q9 u9 t9 H1 locs1 ht9 hvm9 hp9 _ _ _ _ _ _ _ => hp9.elim) (fun rw9 u9 t9 H1 locs ht hvm hw hB hz1 hk1 hS => ?_)
      obtain ⟨hP1, hD1⟩ := hB
      rw [ht] at hP1
      obtain ⟨hP, hD⟩ := va_joinP (X := XLW cy o3 o4 am f3 f4 r) (cx := [(o3, eL cy f3)]) (wr := ((o4, eD cy f4) :: WM cy am r)) (rx := [(o3, eL cy f3)]) (pl := WC cy ad ks g u) (pl1 := WC cy ad ks g u) hP hD [0] [1, 2, 3, 4, 5, 6, 7, 8, 9, 10, 11, 12] rfl rfl (by decide) (by decide) hk1 hFc hP1 hD1
      have hP : va_P (dC, dI) vwCl (XLW cy o3 o4 am f3 f4 r ++ WC cy ad ks g u) H1 := hP.part (X := ((o4, eD cy f4) :: WM cy am r) ++ [(o3, eL cy f3)]) (cx := XLW cy o3 o4 am f3 f4 r) [12, 0, 1, 2, 3, 4, 5, 6, 7, 8, 9, 10, 11] rfl
      have hD : va_D (fun q : Nat => s.heap.size ≤ q) (XLW cy o3 o4 am f3 f4 r ++ WC cy ad ks g u) := hD.part (X := ((o4, eD cy f4) :: WM cy am r) ++ [(o3, eL cy f3)]) (cx := XLW cy o3 o4 am f3 f4 r) [12, 0, 1, 2, 3, 4, 5, 6, 7, 8, 9, 10, 11] (by decide) rfl
      generalize H1 = H at hP hS ⊢
      clear hP1 hD1 hPc hDc hFc hk1 hz1 hvm ht
      refine my_topi (y := (nI k)) (hw.trans hkk) ?_
      refine lv_istore (lv' := [(6, .int (nI k)), (5, .int (nI (4 * n))), (4, .ref o4), (3, .ref o3), (2, .ref (am 0)), (1, .ref (ad .cl)), (0, .ref b)]) hx hb dL_law_1159 hl (by decide) rfl (fun ls hl => ?_)
      refine lv_aload_n hx hb dL_law_1161 rfl (lv_at hl 4 rfl) ?_
      refine lv_aload_n hx hb dL_law_1162 rfl (lv_at hl 6 rfl) ?_
      refine lv_iload hx hb dL_law_1163 (lv_at hl 1 rfl) ?_
      refine lv_iconst (v := 1) hx hb dL_law_1165 (by decide) ?_
      refine lv_iadd hx hb dL_law_1166 ?_
      refine my_topi (y := nI (4 * n + 1)) (nI_add (4 * n) 1) ?_
      refine va_sld hx hb hX hbl hbA hS (vp_in_nI (n := 4 * n + 1) (by omega) (by omega)) dL_law_1167 ?_
      refine my_topi (y := xs (4 * n + 1)) (congrArg xs (nI_clamp (by omega))) ?_
      refine lv_aload_n hx hb dL_law_1168 rfl (lv_at hl 6 rfl) ?_
      refine lv_iload hx hb dL_law_1169 (lv_at hl 1 rfl) ?_
      refine lv_iconst (v := 2) hx hb dL_law_1171 (by decide) ?_
      refine lv_iadd hx hb dL_law_1172 ?_
      refine my_topi (y := nI (4 * n + 2)) (nI_add (4 * n) 2) ?_
      refine va_sld hx hb hX hbl hbA hS (vp_in_nI (n := 4 * n + 2) (by omega) (by omega)) dL_law_1173 ?_
      refine my_topi (y := xs (4 * n + 2)) (congrArg xs (nI_clamp (by omega))) ?_
      refine lv_if_eq (tgt := 1181) hx hb dL_law_1174 (by decide) (fun h9 => absurd h9 hsb) (fun _ => ?_)
      refine lv_iconst (v := 1) hx hb dL_law_1177 (by decide) ?_
      refine lv_goto (tgt := 1182) hx hb dL_law_1178 (by decide) ?_
      have hPc := hP.sub (ws' := (WM cy am r)) [2, 3, 4, 5, 6, 7, 8, 9, 10, 11, 12] rfl
      have hDc := hD.sub (ws' := (WM cy am r)) [2, 3, 4, 5, 6, 7, 8, 9, 10, 11, 12] (by decide) rfl
      have hFc := va_free (wc := (WM cy am r)) hD hS hA [2, 3, 4, 5, 6, 7, 8, 9, 10, 11, 12] rfl
      refine va_calli (va_runV (As := [.int (xs (4 * n + 1)), .int 1]) (rest := []) ⟨hx, hb, hml, hown, hts⟩ (k_X8_stop l dC dI cy nb am r ((xs (4 * n + 1))) (1) (nI 0) (th r k) H.size e1) (cwV 2 hts (gV mw_1063 mw_1064 mw_1065 mw_5 mw_1066) rfl rfl rfl (by decide +kernel) ⟨Nat.le_of_ble_eq_true rfl, Nat.le_of_ble_eq_true rfl⟩) (my_preV hPc hK hDc hE hS hFc (va_recv (q := (RX8, TX8, 23)) hK hP (ci := 8) (q0 := 2) rfl rfl)) rfl rfl hl.1 rfl (lv_room (Nat.le_of_ble_eq_true rfl)) dL_law_1182 ⟨by show _ ≤ 601024; omega, by show _ ≤ 7293034; omega⟩) hS (fun q _ h => hFc q h) hFc (fun rm9 u9 t9 H1 locs ht hvm hwm hB hz1 hk1 hS => ?_)
      obtain ⟨hP1, hD1⟩ := hB
      rw [ht] at hP1
      obtain ⟨hP, hD⟩ := va_joinQ (X := XLW cy o3 o4 am f3 f4 r) (cx := (WM cy am r)) (wr := [(o3, eL cy f3), (o4, eD cy f4)]) (w1 := (WM cy am (th r k))) (pl := WC cy ad ks g u) hP hD [2, 3, 4, 5, 6, 7, 8, 9, 10, 11, 12] [0, 1] rfl rfl (by decide) (by decide) hk1 hFc hP1 hD1
      have hP : va_P (dC, dI) vwCl (XLW cy o3 o4 am f3 f4 (th r k) ++ WC cy ad ks g u) H1 := hP
      have hD : va_D (fun q : Nat => s.heap.size ≤ q) (XLW cy o3 o4 am f3 f4 (th r k) ++ WC cy ad ks g u) := hD
      generalize H1 = H at hP hS ⊢
      clear hP1 hD1 hPc hDc hFc hk1 hz1 hvm ht
      refine my_topi hwm ?_
      refine lv_istore (lv' := [(7, .int (nI 0)), (6, .int (nI k)), (5, .int (nI (4 * n))), (4, .ref o4), (3, .ref o3), (2, .ref (am 0)), (1, .ref (ad .cl)), (0, .ref b)]) hx hb dL_law_1185 hl (by decide) rfl (fun ls hl => ?_)
      refine lv_aload_n hx hb dL_law_1187 rfl (lv_at hl 5 rfl) ?_
      have hPc := hP.sub (ws' := (WM cy am (th r k))) [2, 3, 4, 5, 6, 7, 8, 9, 10, 11, 12] rfl
      have hDc := hD.sub (ws' := (WM cy am (th r k))) [2, 3, 4, 5, 6, 7, 8, 9, 10, 11, 12] (by decide) rfl
      have hFc := va_free (wc := (WM cy am (th r k))) hD hS hA [2, 3, 4, 5, 6, 7, 8, 9, 10, 11, 12] rfl
      refine va_calli (va_runV (As := []) (rest := []) ⟨hx, hb, hml, hown, hts⟩ (k_X8_thrown l dC dI cy nb am (th r k) ((th r k) 0 6) H.size rfl) (cwV 0 hts (gV mw_1067 mw_1068 mw_1069 mw_5 mw_1070) rfl rfl rfl (by decide +kernel) ⟨Nat.le_of_ble_eq_true rfl, Nat.le_of_ble_eq_true rfl⟩) (my_preV hPc hK hDc hE hS hFc (va_recv (q := (RX8, TX8, 23)) hK hP (ci := 8) (q0 := 2) rfl rfl)) rfl rfl hl.1 rfl (lv_room (Nat.le_of_ble_eq_true rfl)) dL_law_1188 ⟨by show _ ≤ 601024; omega, by show _ ≤ 7293034; omega⟩) hS (fun q _ h => hFc q h) hFc (fun rm9 u9 t9 H1 locs ht hvm hwm hB hz1 hk1 hS => ?_)
      obtain ⟨hP1, hD1⟩ := hB
      rw [ht] at hP1
      obtain ⟨hP, hD⟩ := va_joinQ (X := XLW cy o3 o4 am f3 f4 (th r k)) (cx := (WM cy am (th r k))) (wr := [(o3, eL cy f3), (o4, eD cy f4)]) (w1 := (WM cy am (th r k))) (pl := WC cy ad ks g u) hP hD [2, 3, 4, 5, 6, 7, 8, 9, 10, 11, 12] [0, 1] rfl rfl (by decide) (by decide) hk1 hFc hP1 hD1
      have hP : va_P (dC, dI) vwCl (XLW cy o3 o4 am f3 f4 (th r k) ++ WC cy ad ks g u) H1 := hP
      have hD : va_D (fun q : Nat => s.heap.size ≤ q) (XLW cy o3 o4 am f3 f4 (th r k) ++ WC cy ad ks g u) := hD
      generalize H1 = H at hP hS ⊢
      clear hP1 hD1 hPc hDc hFc hk1 hz1 hvm ht
      refine my_topi (y := (nI k)) (hwm.trans up_eq) ?_
      refine lv_iload hx hb dL_law_1191 (lv_at hl 1 rfl) ?_
      refine lv_icmp_eq (tgt := 1198) hx hb dL_law_1193 (by decide) (fun _ => ?_) (fun h9 => absurd rfl h9)
      refine lv_iload hx hb dL_law_1198 (lv_at hl 1 rfl) ?_
      refine lv_if_ne (tgt := 1215) hx hb dL_law_1200 (by decide) (fun _ => ?_) (fun h9 => absurd h9 (show ¬ (nI k) = (0 : Int32) from nI_ne (b := 0) (by omega) (by omega) (by omega)))
      refine lv_goto (tgt := 1819) hx hb dL_law_1215 (by decide) ?_
      refine W.widen (k := cells + 603) (n := slots + 9640) (by omega) (by omega) ?_
      exact K H locs ls ⟨ad, ks, g, u, (th r k), f3, f4, hk, (hGI.thr).mono (by omega) (by omega) (by omega), hP, hD, hS, lv_sub hl [2, 3, 4, 5, 6, 7] rfl⟩
set_option maxHeartbeats 8000000 in
set_option maxRecDepth 100000 in
theorem law_c30 {p : Program} {e : Env} {s : State} {m : MethodId} {below : List Frame} {meth : Method} {c : Code} (l : Launch) (hst : l.stackTraces = false) {b L : Nat} {xs : Nat → Int32} (dC : Nat → ClassId) (dI : Nat → Nat → Nat) (cy : Nat → ClassId) (nb : Nat → Nat) (o3 o4 : Nat) (am : Nat → Nat) {n : Nat} (hn : n < 512) (hL : 4 * n + 4 ≤ L) (hL2 : L ≤ 2048) (C0 : LX p s m meth c b L xs dC dI cy nb) {Q : State → Prop} {H : Heap} {locs : List Loc} {ls : Array Slot} {cells slots : Nat} (hc : cells ≤ 400000) (hs : slots ≤ 6000000) (h : LSt s dC dI cy nb b o3 o4 am n (4 * n) H locs ls) (K : ∀ (H : Heap) (locs : List Loc) (ls : Array Slot), LSt s dC dI cy nb b o3 o4 am (n + 1) (4 * n) H locs ls → W p l e room_1 s m #[Value.ref b] below meth c H locs (cells + 603) (slots + 9640) Q (F0 m 1819 ls [])) : W p l e room_1 s m #[Value.ref b] below meth c H locs cells slots Q (F0 m 1218 ls []) := by
  obtain ⟨hx, hb, hr, hml, hown, hts, hX, hbl, hlocks, hK, hE⟩ := C0
  have hA : ∀ q : Nat, s.heap.size ≤ q → (fun q : Nat => s.heap.size ≤ q) q := fun _ h => h
  have hbA : ¬ (fun q : Nat => s.heap.size ≤ q) b := Nat.not_le.mpr hbl
  obtain ⟨ad, ks, g, u, r, f3, f4, hk, hGI, hP, hD, hS, hl⟩ := h
  have h9 : AT (F8_setRest r (xs (4 * n + 1)) (xs (4 * n + 2)) (xs (4 * n + 3))) (C7_setRest g u (xs (4 * n + 1)) (xs (4 * n + 2)) (xs (4 * n + 3))) r 0 (2001 * n) (602 * n) := a_setRest hGI
  rcases h9 with ⟨x, r2, c2, c2g, e1, e2, e3, e6⟩ | ⟨k, k1, k2, e1, e2⟩
  · refine lv_aload_n hx hb dL_law_1218 rfl (lv_at hl 4 rfl) ?_
    refine lv_aload_n hx hb dL_law_1219 rfl (lv_at hl 5 rfl) ?_
    refine lv_iload hx hb dL_law_1220 (lv_at hl 0 rfl) ?_
    refine lv_iconst (v := 1) hx hb dL_law_1222 (by decide) ?_
    refine lv_iadd hx hb dL_law_1223 ?_
    refine my_topi (y := nI (4 * n + 1)) (nI_add (4 * n) 1) ?_
    refine va_sld hx hb hX hbl hbA hS (vp_in_nI (n := 4 * n + 1) (by omega) (by omega)) dL_law_1224 ?_
    refine my_topi (y := xs (4 * n + 1)) (congrArg xs (nI_clamp (by omega))) ?_
    refine lv_aload_n hx hb dL_law_1225 rfl (lv_at hl 5 rfl) ?_
    refine lv_iload hx hb dL_law_1226 (lv_at hl 0 rfl) ?_
    refine lv_iconst (v := 2) hx hb dL_law_1228 (by decide) ?_
    refine lv_iadd hx hb dL_law_1229 ?_
    refine my_topi (y := nI (4 * n + 2)) (nI_add (4 * n) 2) ?_
    refine va_sld hx hb hX hbl hbA hS (vp_in_nI (n := 4 * n + 2) (by omega) (by omega)) dL_law_1230 ?_
    refine my_topi (y := xs (4 * n + 2)) (congrArg xs (nI_clamp (by omega))) ?_
    refine lv_aload_n hx hb dL_law_1231 rfl (lv_at hl 5 rfl) ?_
    refine lv_iload hx hb dL_law_1232 (lv_at hl 0 rfl) ?_
    refine lv_iconst (v := 3) hx hb dL_law_1234 (by decide) ?_
    refine lv_iadd hx hb dL_law_1235 ?_
    refine my_topi (y := nI (4 * n + 3)) (nI_add (4 * n) 3) ?_
    refine va_sld hx hb hX hbl hbA hS (vp_in_nI (n := 4 * n + 3) (by omega) (by omega)) dL_law_1236 ?_
    refine my_topi (y := xs (4 * n + 3)) (congrArg xs (nI_clamp (by omega))) ?_
    refine lv_aload_n hx hb dL_law_1237 rfl (lv_at hl 2 rfl) ?_
    have hPc : va_P (dC, dI) vwCl ([(o3, eL cy f3)] ++ WC cy ad ks g u) H := hP.part (X := XLW cy o3 o4 am f3 f4 r) (cx := [(o3, eL cy f3)]) [0] rfl
    have hDc : va_D (fun q : Nat => s.heap.size ≤ q) ([(o3, eL cy f3)] ++ WC cy ad ks g u) := hD.part (X := XLW cy o3 o4 am f3 f4 r) (cx := [(o3, eL cy f3)]) [0] (by decide) rfl
    have hFc : ∀ q, va_A ([(o3, eL cy f3)] ++ WC cy ad ks g u) H.size q → s.heap.size ≤ q := va_freeP (X := XLW cy o3 o4 am f3 f4 r) (cx := [(o3, eL cy f3)]) hD hS hA [0] rfl
    refine vx_calli (vx_runSX (As := [.ref (ad .cl), .int (xs (4 * n + 1)), .int (xs (4 * n + 2)), .int (xs (4 * n + 3)), .ref o3]) (rest := []) ⟨hx, hb, hml, hown, hts⟩ (cn_setRest l hst dC dI cy nb ad ks g hk u ((xs (4 * n + 1))) ((xs (4 * n + 2))) ((xs (4 * n + 3))) o3 f3 x c2g c2 H.size e2) (vx_cwSW 5 hts (gSH mw_1071 mw_1072 mw_562 mw_1073) rfl rfl rfl (by decide +kernel) ⟨Nat.le_of_ble_eq_true rfl, Nat.le_of_ble_eq_true rfl⟩) (my_preS hPc hK hDc hE hS hFc) rfl rfl hl.1 rfl (lv_room (Nat.le_of_ble_eq_true rfl)) dL_law_1238 ⟨by show _ ≤ 601024; omega, by show _ ≤ 7293034; omega⟩) hS (fun q _ h => hFc q h) hFc (fun q _ h => hFc q h) (fun E9 ce9 q9 u9 t9 H1 locs1 ht9 hvm9 hp9 _ _ _ _ _ _ _ => hp9.elim) (fun rw9 u9 t9 H1 locs ht hvm hw hB hz1 hk1 hS => ?_)
    obtain ⟨ad', ks', hkz, axz, hP1, hD1⟩ := hB
    rw [ht] at hP1
    obtain ⟨hP, hD⟩ := va_joinP (X := XLW cy o3 o4 am f3 f4 r) (cx := [(o3, eL cy f3)]) (wr := ((o4, eD cy f4) :: WM cy am r)) (rx := [(o3, eL cy (vp_updL f3 ((0 : Int32).toNatClampNeg) (x.toInt64)))]) (pl := WC cy ad ks g u) (pl1 := WC cy ad' ks' c2g c2) hP hD [0] [1, 2, 3, 4, 5, 6, 7, 8, 9, 10, 11, 12] rfl rfl (by decide) (by decide) hk1 hFc hP1 hD1
    have hP : va_P (dC, dI) vwCl (XLW cy o3 o4 am (vp_updL f3 ((0 : Int32).toNatClampNeg) (x.toInt64)) f4 r ++ WC cy ad' ks' c2g c2) H1 := hP.part (X := ((o4, eD cy f4) :: WM cy am r) ++ [(o3, eL cy (vp_updL f3 ((0 : Int32).toNatClampNeg) (x.toInt64)))]) (cx := XLW cy o3 o4 am (vp_updL f3 ((0 : Int32).toNatClampNeg) (x.toInt64)) f4 r) [12, 0, 1, 2, 3, 4, 5, 6, 7, 8, 9, 10, 11] rfl
    have hD : va_D (fun q : Nat => s.heap.size ≤ q) (XLW cy o3 o4 am (vp_updL f3 ((0 : Int32).toNatClampNeg) (x.toInt64)) f4 r ++ WC cy ad' ks' c2g c2) := hD.part (X := ((o4, eD cy f4) :: WM cy am r) ++ [(o3, eL cy (vp_updL f3 ((0 : Int32).toNatClampNeg) (x.toInt64)))]) (cx := XLW cy o3 o4 am (vp_updL f3 ((0 : Int32).toNatClampNeg) (x.toInt64)) f4 r) [12, 0, 1, 2, 3, 4, 5, 6, 7, 8, 9, 10, 11] (by decide) rfl
    generalize H1 = H at hP hS ⊢
    have hl : lv_has ls 10 [(5, .int (nI (4 * n))), (4, .ref o4), (3, .ref o3), (2, .ref (am 0)), (1, .ref (ad' .cl)), (0, .ref b)] := by rw [(axz .cl True.intro).2]; exact hl
    clear hP1 hD1 hPc hDc hFc hk1 hz1 hvm ht
    refine lv_istore (lv' := [(6, .int rw9), (5, .int (nI (4 * n))), (4, .ref o4), (3, .ref o3), (2, .ref (am 0)), (1, .ref (ad' .cl)), (0, .ref b)]) hx hb dL_law_1241 hl (by decide) rfl (fun ls hl => ?_)
    refine lv_aload_n hx hb dL_law_1243 rfl (lv_at hl 4 rfl) ?_
    refine lv_aload_n hx hb dL_law_1244 rfl (lv_at hl 6 rfl) ?_
    refine lv_iload hx hb dL_law_1245 (lv_at hl 1 rfl) ?_
    refine lv_iconst (v := 1) hx hb dL_law_1247 (by decide) ?_
    refine lv_iadd hx hb dL_law_1248 ?_
    refine my_topi (y := nI (4 * n + 1)) (nI_add (4 * n) 1) ?_
    refine va_sld hx hb hX hbl hbA hS (vp_in_nI (n := 4 * n + 1) (by omega) (by omega)) dL_law_1249 ?_
    refine my_topi (y := xs (4 * n + 1)) (congrArg xs (nI_clamp (by omega))) ?_
    refine lv_aload_n hx hb dL_law_1250 rfl (lv_at hl 6 rfl) ?_
    refine lv_iload hx hb dL_law_1251 (lv_at hl 1 rfl) ?_
    refine lv_iconst (v := 2) hx hb dL_law_1253 (by decide) ?_
    refine lv_iadd hx hb dL_law_1254 ?_
    refine my_topi (y := nI (4 * n + 2)) (nI_add (4 * n) 2) ?_
    refine va_sld hx hb hX hbl hbA hS (vp_in_nI (n := 4 * n + 2) (by omega) (by omega)) dL_law_1255 ?_
    refine my_topi (y := xs (4 * n + 2)) (congrArg xs (nI_clamp (by omega))) ?_
    refine lv_aload_n hx hb dL_law_1256 rfl (lv_at hl 6 rfl) ?_
    refine lv_iload hx hb dL_law_1257 (lv_at hl 1 rfl) ?_
    refine lv_iconst (v := 3) hx hb dL_law_1259 (by decide) ?_
    refine lv_iadd hx hb dL_law_1260 ?_
    refine my_topi (y := nI (4 * n + 3)) (nI_add (4 * n) 3) ?_
    refine va_sld hx hb hX hbl hbA hS (vp_in_nI (n := 4 * n + 3) (by omega) (by omega)) dL_law_1261 ?_
    refine my_topi (y := xs (4 * n + 3)) (congrArg xs (nI_clamp (by omega))) ?_
    have hPc := hP.sub (ws' := (WM cy am r)) [2, 3, 4, 5, 6, 7, 8, 9, 10, 11, 12] rfl
    have hDc := hD.sub (ws' := (WM cy am r)) [2, 3, 4, 5, 6, 7, 8, 9, 10, 11, 12] (by decide) rfl
    have hFc := va_free (wc := (WM cy am r)) hD hS hA [2, 3, 4, 5, 6, 7, 8, 9, 10, 11, 12] rfl
    refine va_calli (va_runV (As := [.int (xs (4 * n + 1)), .int (xs (4 * n + 2)), .int (xs (4 * n + 3))]) (rest := []) ⟨hx, hb, hml, hown, hts⟩ (k_X8_setRest l dC dI cy nb am r ((xs (4 * n + 1))) ((xs (4 * n + 2))) ((xs (4 * n + 3))) x (r2) H.size e1) (cwV 3 hts (gV mw_1078 mw_1079 mw_1080 mw_5 mw_1081) rfl rfl rfl (by decide +kernel) ⟨Nat.le_of_ble_eq_true rfl, Nat.le_of_ble_eq_true rfl⟩) (my_preV hPc hK hDc hE hS hFc (va_recv (q := (RX8, TX8, 23)) hK hP (ci := 8) (q0 := 2) rfl rfl)) rfl rfl hl.1 rfl (lv_room (Nat.le_of_ble_eq_true rfl)) dL_law_1262 ⟨by show _ ≤ 601024; omega, by show _ ≤ 7293034; omega⟩) hS (fun q _ h => hFc q h) hFc (fun rm9 u9 t9 H1 locs ht hvm hwm hB hz1 hk1 hS => ?_)
    obtain ⟨hP1, hD1⟩ := hB
    rw [ht] at hP1
    obtain ⟨hP, hD⟩ := va_joinQ (X := XLW cy o3 o4 am (vp_updL f3 ((0 : Int32).toNatClampNeg) (x.toInt64)) f4 r) (cx := (WM cy am r)) (wr := [(o3, eL cy (vp_updL f3 ((0 : Int32).toNatClampNeg) (x.toInt64))), (o4, eD cy f4)]) (w1 := (WM cy am (r2))) (pl := WC cy ad' ks' c2g c2) hP hD [2, 3, 4, 5, 6, 7, 8, 9, 10, 11, 12] [0, 1] rfl rfl (by decide) (by decide) hk1 hFc hP1 hD1
    have hP : va_P (dC, dI) vwCl (XLW cy o3 o4 am (vp_updL f3 ((0 : Int32).toNatClampNeg) (x.toInt64)) f4 r2 ++ WC cy ad' ks' c2g c2) H1 := hP
    have hD : va_D (fun q : Nat => s.heap.size ≤ q) (XLW cy o3 o4 am (vp_updL f3 ((0 : Int32).toNatClampNeg) (x.toInt64)) f4 r2 ++ WC cy ad' ks' c2g c2) := hD
    generalize H1 = H at hP hS ⊢
    clear hP1 hD1 hPc hDc hFc hk1 hz1 hvm ht
    refine my_topi hwm ?_
    refine lv_istore (lv' := [(7, .int x), (6, .int rw9), (5, .int (nI (4 * n))), (4, .ref o4), (3, .ref o3), (2, .ref (am 0)), (1, .ref (ad' .cl)), (0, .ref b)]) hx hb dL_law_1265 hl (by decide) rfl (fun ls hl => ?_)
    refine lv_goto (tgt := 1819) hx hb dL_law_1267 (by decide) ?_
    refine W.widen (k := cells + 603) (n := slots + 9640) (by omega) (by omega) ?_
    exact K H locs ls ⟨ad', ks', c2g, c2, r2, (vp_updL f3 ((0 : Int32).toNatClampNeg) (x.toInt64)), f4, hkz, e3.mono (by omega) (by omega) (by omega), hP, hD, hS, lv_sub hl [2, 3, 4, 5, 6, 7] rfl⟩
  · have e2 : C7_setRest g u (xs (4 * n + 1)) (xs (4 * n + 2)) (xs (4 * n + 3)) = some (.inl (nI (k + 0))) := e2
    generalize hxx : (nI (k + 0)) = xk at e2
    refine lv_aload_n hx hb dL_law_1218 rfl (lv_at hl 4 rfl) ?_
    refine lv_aload_n hx hb dL_law_1219 rfl (lv_at hl 5 rfl) ?_
    refine lv_iload hx hb dL_law_1220 (lv_at hl 0 rfl) ?_
    refine lv_iconst (v := 1) hx hb dL_law_1222 (by decide) ?_
    refine lv_iadd hx hb dL_law_1223 ?_
    refine my_topi (y := nI (4 * n + 1)) (nI_add (4 * n) 1) ?_
    refine va_sld hx hb hX hbl hbA hS (vp_in_nI (n := 4 * n + 1) (by omega) (by omega)) dL_law_1224 ?_
    refine my_topi (y := xs (4 * n + 1)) (congrArg xs (nI_clamp (by omega))) ?_
    refine lv_aload_n hx hb dL_law_1225 rfl (lv_at hl 5 rfl) ?_
    refine lv_iload hx hb dL_law_1226 (lv_at hl 0 rfl) ?_
    refine lv_iconst (v := 2) hx hb dL_law_1228 (by decide) ?_
    refine lv_iadd hx hb dL_law_1229 ?_
    refine my_topi (y := nI (4 * n + 2)) (nI_add (4 * n) 2) ?_
    refine va_sld hx hb hX hbl hbA hS (vp_in_nI (n := 4 * n + 2) (by omega) (by omega)) dL_law_1230 ?_
    refine my_topi (y := xs (4 * n + 2)) (congrArg xs (nI_clamp (by omega))) ?_
    refine lv_aload_n hx hb dL_law_1231 rfl (lv_at hl 5 rfl) ?_
    refine lv_iload hx hb dL_law_1232 (lv_at hl 0 rfl) ?_
    refine lv_iconst (v := 3) hx hb dL_law_1234 (by decide) ?_
    refine lv_iadd hx hb dL_law_1235 ?_
    refine my_topi (y := nI (4 * n + 3)) (nI_add (4 * n) 3) ?_
    refine va_sld hx hb hX hbl hbA hS (vp_in_nI (n := 4 * n + 3) (by omega) (by omega)) dL_law_1236 ?_
    refine my_topi (y := xs (4 * n + 3)) (congrArg xs (nI_clamp (by omega))) ?_
    refine lv_aload_n hx hb dL_law_1237 rfl (lv_at hl 2 rfl) ?_
    have hPc : va_P (dC, dI) vwCl ([(o3, eL cy f3)] ++ WC cy ad ks g u) H := hP.part (X := XLW cy o3 o4 am f3 f4 r) (cx := [(o3, eL cy f3)]) [0] rfl
    have hDc : va_D (fun q : Nat => s.heap.size ≤ q) ([(o3, eL cy f3)] ++ WC cy ad ks g u) := hD.part (X := XLW cy o3 o4 am f3 f4 r) (cx := [(o3, eL cy f3)]) [0] (by decide) rfl
    have hFc : ∀ q, va_A ([(o3, eL cy f3)] ++ WC cy ad ks g u) H.size q → s.heap.size ≤ q := va_freeP (X := XLW cy o3 o4 am f3 f4 r) (cx := [(o3, eL cy f3)]) hD hS hA [0] rfl
    refine vx_calli (vx_runSX (As := [.ref (ad .cl), .int (xs (4 * n + 1)), .int (xs (4 * n + 2)), .int (xs (4 * n + 3)), .ref o3]) (rest := []) ⟨hx, hb, hml, hown, hts⟩ (ct_setRest l hst dC dI cy nb ad ks g hk u ((xs (4 * n + 1))) ((xs (4 * n + 2))) ((xs (4 * n + 3))) o3 f3 xk H.size e2) (vx_cwSW 5 hts (gSH mw_1071 mw_1072 mw_562 mw_1073) rfl rfl rfl (by decide +kernel) ⟨Nat.le_of_ble_eq_true rfl, Nat.le_of_ble_eq_true rfl⟩) (my_preS hPc hK hDc hE hS hFc) rfl rfl hl.1 rfl (lv_room (Nat.le_of_ble_eq_true rfl)) dL_law_1238 ⟨by show _ ≤ 601024; omega, by show _ ≤ 7293034; omega⟩) hS (fun q _ h => hFc q h) hFc (fun q _ h => hFc q h) (fun E9 ce9 q9 u9 t9 H1 locs1 ht9 hvm9 hp9 _ _ _ _ _ _ _ => hp9.elim) (fun rw9 u9 t9 H1 locs ht hvm hw hB hz1 hk1 hS => ?_)
    obtain ⟨hP1, hD1⟩ := hB
    rw [ht] at hP1
    obtain ⟨hP, hD⟩ := va_joinP (X := XLW cy o3 o4 am f3 f4 r) (cx := [(o3, eL cy f3)]) (wr := ((o4, eD cy f4) :: WM cy am r)) (rx := [(o3, eL cy f3)]) (pl := WC cy ad ks g u) (pl1 := WC cy ad ks g u) hP hD [0] [1, 2, 3, 4, 5, 6, 7, 8, 9, 10, 11, 12] rfl rfl (by decide) (by decide) hk1 hFc hP1 hD1
    have hP : va_P (dC, dI) vwCl (XLW cy o3 o4 am f3 f4 r ++ WC cy ad ks g u) H1 := hP.part (X := ((o4, eD cy f4) :: WM cy am r) ++ [(o3, eL cy f3)]) (cx := XLW cy o3 o4 am f3 f4 r) [12, 0, 1, 2, 3, 4, 5, 6, 7, 8, 9, 10, 11] rfl
    have hD : va_D (fun q : Nat => s.heap.size ≤ q) (XLW cy o3 o4 am f3 f4 r ++ WC cy ad ks g u) := hD.part (X := ((o4, eD cy f4) :: WM cy am r) ++ [(o3, eL cy f3)]) (cx := XLW cy o3 o4 am f3 f4 r) [12, 0, 1, 2, 3, 4, 5, 6, 7, 8, 9, 10, 11] (by decide) rfl
    generalize H1 = H at hP hS ⊢
    clear hP1 hD1 hPc hDc hFc hk1 hz1 hvm ht
    refine lv_istore (lv' := [(6, .int rw9), (5, .int (nI (4 * n))), (4, .ref o4), (3, .ref o3), (2, .ref (am 0)), (1, .ref (ad .cl)), (0, .ref b)]) hx hb dL_law_1241 hl (by decide) rfl (fun ls hl => ?_)
    refine lv_aload_n hx hb dL_law_1243 rfl (lv_at hl 4 rfl) ?_
    refine lv_aload_n hx hb dL_law_1244 rfl (lv_at hl 6 rfl) ?_
    refine lv_iload hx hb dL_law_1245 (lv_at hl 1 rfl) ?_
    refine lv_iconst (v := 1) hx hb dL_law_1247 (by decide) ?_
    refine lv_iadd hx hb dL_law_1248 ?_
    refine my_topi (y := nI (4 * n + 1)) (nI_add (4 * n) 1) ?_
    refine va_sld hx hb hX hbl hbA hS (vp_in_nI (n := 4 * n + 1) (by omega) (by omega)) dL_law_1249 ?_
    refine my_topi (y := xs (4 * n + 1)) (congrArg xs (nI_clamp (by omega))) ?_
    refine lv_aload_n hx hb dL_law_1250 rfl (lv_at hl 6 rfl) ?_
    refine lv_iload hx hb dL_law_1251 (lv_at hl 1 rfl) ?_
    refine lv_iconst (v := 2) hx hb dL_law_1253 (by decide) ?_
    refine lv_iadd hx hb dL_law_1254 ?_
    refine my_topi (y := nI (4 * n + 2)) (nI_add (4 * n) 2) ?_
    refine va_sld hx hb hX hbl hbA hS (vp_in_nI (n := 4 * n + 2) (by omega) (by omega)) dL_law_1255 ?_
    refine my_topi (y := xs (4 * n + 2)) (congrArg xs (nI_clamp (by omega))) ?_
    refine lv_aload_n hx hb dL_law_1256 rfl (lv_at hl 6 rfl) ?_
    refine lv_iload hx hb dL_law_1257 (lv_at hl 1 rfl) ?_
    refine lv_iconst (v := 3) hx hb dL_law_1259 (by decide) ?_
    refine lv_iadd hx hb dL_law_1260 ?_
    refine my_topi (y := nI (4 * n + 3)) (nI_add (4 * n) 3) ?_
    refine va_sld hx hb hX hbl hbA hS (vp_in_nI (n := 4 * n + 3) (by omega) (by omega)) dL_law_1261 ?_
    refine my_topi (y := xs (4 * n + 3)) (congrArg xs (nI_clamp (by omega))) ?_
    have hPc := hP.sub (ws' := (WM cy am r)) [2, 3, 4, 5, 6, 7, 8, 9, 10, 11, 12] rfl
    have hDc := hD.sub (ws' := (WM cy am r)) [2, 3, 4, 5, 6, 7, 8, 9, 10, 11, 12] (by decide) rfl
    have hFc := va_free (wc := (WM cy am r)) hD hS hA [2, 3, 4, 5, 6, 7, 8, 9, 10, 11, 12] rfl
    refine va_calli (va_runV (As := [.int (xs (4 * n + 1)), .int (xs (4 * n + 2)), .int (xs (4 * n + 3))]) (rest := []) ⟨hx, hb, hml, hown, hts⟩ (k_X8_setRest l dC dI cy nb am r ((xs (4 * n + 1))) ((xs (4 * n + 2))) ((xs (4 * n + 3))) (nI 0) (th r k) H.size e1) (cwV 3 hts (gV mw_1078 mw_1079 mw_1080 mw_5 mw_1081) rfl rfl rfl (by decide +kernel) ⟨Nat.le_of_ble_eq_true rfl, Nat.le_of_ble_eq_true rfl⟩) (my_preV hPc hK hDc hE hS hFc (va_recv (q := (RX8, TX8, 23)) hK hP (ci := 8) (q0 := 2) rfl rfl)) rfl rfl hl.1 rfl (lv_room (Nat.le_of_ble_eq_true rfl)) dL_law_1262 ⟨by show _ ≤ 601024; omega, by show _ ≤ 7293034; omega⟩) hS (fun q _ h => hFc q h) hFc (fun rm9 u9 t9 H1 locs ht hvm hwm hB hz1 hk1 hS => ?_)
    obtain ⟨hP1, hD1⟩ := hB
    rw [ht] at hP1
    obtain ⟨hP, hD⟩ := va_joinQ (X := XLW cy o3 o4 am f3 f4 r) (cx := (WM cy am r)) (wr := [(o3, eL cy f3), (o4, eD cy f4)]) (w1 := (WM cy am (th r k))) (pl := WC cy ad ks g u) hP hD [2, 3, 4, 5, 6, 7, 8, 9, 10, 11, 12] [0, 1] rfl rfl (by decide) (by decide) hk1 hFc hP1 hD1
    have hP : va_P (dC, dI) vwCl (XLW cy o3 o4 am f3 f4 (th r k) ++ WC cy ad ks g u) H1 := hP
    have hD : va_D (fun q : Nat => s.heap.size ≤ q) (XLW cy o3 o4 am f3 f4 (th r k) ++ WC cy ad ks g u) := hD
    generalize H1 = H at hP hS ⊢
    clear hP1 hD1 hPc hDc hFc hk1 hz1 hvm ht
    refine my_topi hwm ?_
    refine lv_istore (lv' := [(7, .int (nI 0)), (6, .int rw9), (5, .int (nI (4 * n))), (4, .ref o4), (3, .ref o3), (2, .ref (am 0)), (1, .ref (ad .cl)), (0, .ref b)]) hx hb dL_law_1265 hl (by decide) rfl (fun ls hl => ?_)
    refine lv_goto (tgt := 1819) hx hb dL_law_1267 (by decide) ?_
    refine W.widen (k := cells + 603) (n := slots + 9640) (by omega) (by omega) ?_
    exact K H locs ls ⟨ad, ks, g, u, (th r k), f3, f4, hk, (hGI.thr).mono (by omega) (by omega) (by omega), hP, hD, hS, lv_sub hl [2, 3, 4, 5, 6, 7] rfl⟩
set_option maxHeartbeats 8000000 in
set_option maxRecDepth 100000 in
theorem law_c31 {p : Program} {e : Env} {s : State} {m : MethodId} {below : List Frame} {meth : Method} {c : Code} (l : Launch) (hst : l.stackTraces = false) {b L : Nat} {xs : Nat → Int32} (dC : Nat → ClassId) (dI : Nat → Nat → Nat) (cy : Nat → ClassId) (nb : Nat → Nat) (o3 o4 : Nat) (am : Nat → Nat) {n : Nat} (hn : n < 512) (hL : 4 * n + 4 ≤ L) (hL2 : L ≤ 2048) (C0 : LX p s m meth c b L xs dC dI cy nb) {Q : State → Prop} {H : Heap} {locs : List Loc} {ls : Array Slot} {cells slots : Nat} (hc : cells ≤ 400000) (hs : slots ≤ 6000000) (h : LSt s dC dI cy nb b o3 o4 am n (4 * n) H locs ls) (K : ∀ (H : Heap) (locs : List Loc) (ls : Array Slot), LSt s dC dI cy nb b o3 o4 am (n + 1) (4 * n) H locs ls → W p l e room_1 s m #[Value.ref b] below meth c H locs (cells + 603) (slots + 9640) Q (F0 m 1819 ls [])) : W p l e room_1 s m #[Value.ref b] below meth c H locs cells slots Q (F0 m 1270 ls []) := by
  obtain ⟨hx, hb, hr, hml, hown, hts, hX, hbl, hlocks, hK, hE⟩ := C0
  have hA : ∀ q : Nat, s.heap.size ≤ q → (fun q : Nat => s.heap.size ≤ q) q := fun _ h => h
  have hbA : ¬ (fun q : Nat => s.heap.size ≤ q) b := Nat.not_le.mpr hbl
  obtain ⟨ad, ks, g, u, r, f3, f4, hk, hGI, hP, hD, hS, hl⟩ := h
  have h9 : AT (F8_rush r (xs (4 * n + 1))) (C7_rush g u (xs (4 * n + 1))) r 0 (2001 * n) (602 * n) := a_rush hGI
  rcases h9 with ⟨x, r2, c2, c2g, e1, e2, e3, e6⟩ | ⟨k, k1, k2, e1, e2⟩
  · refine lv_aload_n hx hb dL_law_1270 rfl (lv_at hl 4 rfl) ?_
    refine lv_aload_n hx hb dL_law_1271 rfl (lv_at hl 5 rfl) ?_
    refine lv_iload hx hb dL_law_1272 (lv_at hl 0 rfl) ?_
    refine lv_iconst (v := 1) hx hb dL_law_1274 (by decide) ?_
    refine lv_iadd hx hb dL_law_1275 ?_
    refine my_topi (y := nI (4 * n + 1)) (nI_add (4 * n) 1) ?_
    refine va_sld hx hb hX hbl hbA hS (vp_in_nI (n := 4 * n + 1) (by omega) (by omega)) dL_law_1276 ?_
    refine my_topi (y := xs (4 * n + 1)) (congrArg xs (nI_clamp (by omega))) ?_
    refine lv_aload_n hx hb dL_law_1277 rfl (lv_at hl 2 rfl) ?_
    have hPc : va_P (dC, dI) vwCl ([(o3, eL cy f3)] ++ WC cy ad ks g u) H := hP.part (X := XLW cy o3 o4 am f3 f4 r) (cx := [(o3, eL cy f3)]) [0] rfl
    have hDc : va_D (fun q : Nat => s.heap.size ≤ q) ([(o3, eL cy f3)] ++ WC cy ad ks g u) := hD.part (X := XLW cy o3 o4 am f3 f4 r) (cx := [(o3, eL cy f3)]) [0] (by decide) rfl
    have hFc : ∀ q, va_A ([(o3, eL cy f3)] ++ WC cy ad ks g u) H.size q → s.heap.size ≤ q := va_freeP (X := XLW cy o3 o4 am f3 f4 r) (cx := [(o3, eL cy f3)]) hD hS hA [0] rfl
    refine vx_calli (vx_runSX (As := [.ref (ad .cl), .int (xs (4 * n + 1)), .ref o3]) (rest := []) ⟨hx, hb, hml, hown, hts⟩ (cn_rush l hst dC dI cy nb ad ks g hk u ((xs (4 * n + 1))) o3 f3 x c2g c2 H.size e2) (vx_cwSW 3 hts (gSH mw_1083 mw_1084 mw_562 mw_1085) rfl rfl rfl (by decide +kernel) ⟨Nat.le_of_ble_eq_true rfl, Nat.le_of_ble_eq_true rfl⟩) (my_preS hPc hK hDc hE hS hFc) rfl rfl hl.1 rfl (lv_room (Nat.le_of_ble_eq_true rfl)) dL_law_1278 ⟨by show _ ≤ 601024; omega, by show _ ≤ 7293034; omega⟩) hS (fun q _ h => hFc q h) hFc (fun q _ h => hFc q h) (fun E9 ce9 q9 u9 t9 H1 locs1 ht9 hvm9 hp9 _ _ _ _ _ _ _ => hp9.elim) (fun rw9 u9 t9 H1 locs ht hvm hw hB hz1 hk1 hS => ?_)
    obtain ⟨ad', ks', hkz, axz, hP1, hD1⟩ := hB
    rw [ht] at hP1
    obtain ⟨hP, hD⟩ := va_joinP (X := XLW cy o3 o4 am f3 f4 r) (cx := [(o3, eL cy f3)]) (wr := ((o4, eD cy f4) :: WM cy am r)) (rx := [(o3, eL cy (vp_updL f3 ((0 : Int32).toNatClampNeg) (x.toInt64)))]) (pl := WC cy ad ks g u) (pl1 := WC cy ad' ks' c2g c2) hP hD [0] [1, 2, 3, 4, 5, 6, 7, 8, 9, 10, 11, 12] rfl rfl (by decide) (by decide) hk1 hFc hP1 hD1
    have hP : va_P (dC, dI) vwCl (XLW cy o3 o4 am (vp_updL f3 ((0 : Int32).toNatClampNeg) (x.toInt64)) f4 r ++ WC cy ad' ks' c2g c2) H1 := hP.part (X := ((o4, eD cy f4) :: WM cy am r) ++ [(o3, eL cy (vp_updL f3 ((0 : Int32).toNatClampNeg) (x.toInt64)))]) (cx := XLW cy o3 o4 am (vp_updL f3 ((0 : Int32).toNatClampNeg) (x.toInt64)) f4 r) [12, 0, 1, 2, 3, 4, 5, 6, 7, 8, 9, 10, 11] rfl
    have hD : va_D (fun q : Nat => s.heap.size ≤ q) (XLW cy o3 o4 am (vp_updL f3 ((0 : Int32).toNatClampNeg) (x.toInt64)) f4 r ++ WC cy ad' ks' c2g c2) := hD.part (X := ((o4, eD cy f4) :: WM cy am r) ++ [(o3, eL cy (vp_updL f3 ((0 : Int32).toNatClampNeg) (x.toInt64)))]) (cx := XLW cy o3 o4 am (vp_updL f3 ((0 : Int32).toNatClampNeg) (x.toInt64)) f4 r) [12, 0, 1, 2, 3, 4, 5, 6, 7, 8, 9, 10, 11] (by decide) rfl
    generalize H1 = H at hP hS ⊢
    have hl : lv_has ls 10 [(5, .int (nI (4 * n))), (4, .ref o4), (3, .ref o3), (2, .ref (am 0)), (1, .ref (ad' .cl)), (0, .ref b)] := by rw [(axz .cl True.intro).2]; exact hl
    clear hP1 hD1 hPc hDc hFc hk1 hz1 hvm ht
    refine lv_istore (lv' := [(6, .int rw9), (5, .int (nI (4 * n))), (4, .ref o4), (3, .ref o3), (2, .ref (am 0)), (1, .ref (ad' .cl)), (0, .ref b)]) hx hb dL_law_1281 hl (by decide) rfl (fun ls hl => ?_)
    refine lv_aload_n hx hb dL_law_1283 rfl (lv_at hl 4 rfl) ?_
    refine lv_aload_n hx hb dL_law_1284 rfl (lv_at hl 6 rfl) ?_
    refine lv_iload hx hb dL_law_1285 (lv_at hl 1 rfl) ?_
    refine lv_iconst (v := 1) hx hb dL_law_1287 (by decide) ?_
    refine lv_iadd hx hb dL_law_1288 ?_
    refine my_topi (y := nI (4 * n + 1)) (nI_add (4 * n) 1) ?_
    refine va_sld hx hb hX hbl hbA hS (vp_in_nI (n := 4 * n + 1) (by omega) (by omega)) dL_law_1289 ?_
    refine my_topi (y := xs (4 * n + 1)) (congrArg xs (nI_clamp (by omega))) ?_
    have hPc := hP.sub (ws' := (WM cy am r)) [2, 3, 4, 5, 6, 7, 8, 9, 10, 11, 12] rfl
    have hDc := hD.sub (ws' := (WM cy am r)) [2, 3, 4, 5, 6, 7, 8, 9, 10, 11, 12] (by decide) rfl
    have hFc := va_free (wc := (WM cy am r)) hD hS hA [2, 3, 4, 5, 6, 7, 8, 9, 10, 11, 12] rfl
    refine va_calli (va_runV (As := [.int (xs (4 * n + 1))]) (rest := []) ⟨hx, hb, hml, hown, hts⟩ (k_X8_rush l dC dI cy nb am r ((xs (4 * n + 1))) x (r2) H.size e1) (cwV 1 hts (gV mw_1091 mw_1092 mw_1093 mw_5 mw_1094) rfl rfl rfl (by decide +kernel) ⟨Nat.le_of_ble_eq_true rfl, Nat.le_of_ble_eq_true rfl⟩) (my_preV hPc hK hDc hE hS hFc (va_recv (q := (RX8, TX8, 23)) hK hP (ci := 8) (q0 := 2) rfl rfl)) rfl rfl hl.1 rfl (lv_room (Nat.le_of_ble_eq_true rfl)) dL_law_1290 ⟨by show _ ≤ 601024; omega, by show _ ≤ 7293034; omega⟩) hS (fun q _ h => hFc q h) hFc (fun rm9 u9 t9 H1 locs ht hvm hwm hB hz1 hk1 hS => ?_)
    obtain ⟨hP1, hD1⟩ := hB
    rw [ht] at hP1
    obtain ⟨hP, hD⟩ := va_joinQ (X := XLW cy o3 o4 am (vp_updL f3 ((0 : Int32).toNatClampNeg) (x.toInt64)) f4 r) (cx := (WM cy am r)) (wr := [(o3, eL cy (vp_updL f3 ((0 : Int32).toNatClampNeg) (x.toInt64))), (o4, eD cy f4)]) (w1 := (WM cy am (r2))) (pl := WC cy ad' ks' c2g c2) hP hD [2, 3, 4, 5, 6, 7, 8, 9, 10, 11, 12] [0, 1] rfl rfl (by decide) (by decide) hk1 hFc hP1 hD1
    have hP : va_P (dC, dI) vwCl (XLW cy o3 o4 am (vp_updL f3 ((0 : Int32).toNatClampNeg) (x.toInt64)) f4 r2 ++ WC cy ad' ks' c2g c2) H1 := hP
    have hD : va_D (fun q : Nat => s.heap.size ≤ q) (XLW cy o3 o4 am (vp_updL f3 ((0 : Int32).toNatClampNeg) (x.toInt64)) f4 r2 ++ WC cy ad' ks' c2g c2) := hD
    generalize H1 = H at hP hS ⊢
    clear hP1 hD1 hPc hDc hFc hk1 hz1 hvm ht
    refine my_topi hwm ?_
    refine lv_istore (lv' := [(7, .int x), (6, .int rw9), (5, .int (nI (4 * n))), (4, .ref o4), (3, .ref o3), (2, .ref (am 0)), (1, .ref (ad' .cl)), (0, .ref b)]) hx hb dL_law_1293 hl (by decide) rfl (fun ls hl => ?_)
    refine lv_goto (tgt := 1819) hx hb dL_law_1295 (by decide) ?_
    refine W.widen (k := cells + 603) (n := slots + 9640) (by omega) (by omega) ?_
    exact K H locs ls ⟨ad', ks', c2g, c2, r2, (vp_updL f3 ((0 : Int32).toNatClampNeg) (x.toInt64)), f4, hkz, e3.mono (by omega) (by omega) (by omega), hP, hD, hS, lv_sub hl [2, 3, 4, 5, 6, 7] rfl⟩
  · have e2 : C7_rush g u (xs (4 * n + 1)) = some (.inl (nI (k + 0))) := e2
    generalize hxx : (nI (k + 0)) = xk at e2
    have hxk : xk = 1 := x1_rush e2
    refine lv_aload_n hx hb dL_law_1270 rfl (lv_at hl 4 rfl) ?_
    refine lv_aload_n hx hb dL_law_1271 rfl (lv_at hl 5 rfl) ?_
    refine lv_iload hx hb dL_law_1272 (lv_at hl 0 rfl) ?_
    refine lv_iconst (v := 1) hx hb dL_law_1274 (by decide) ?_
    refine lv_iadd hx hb dL_law_1275 ?_
    refine my_topi (y := nI (4 * n + 1)) (nI_add (4 * n) 1) ?_
    refine va_sld hx hb hX hbl hbA hS (vp_in_nI (n := 4 * n + 1) (by omega) (by omega)) dL_law_1276 ?_
    refine my_topi (y := xs (4 * n + 1)) (congrArg xs (nI_clamp (by omega))) ?_
    refine lv_aload_n hx hb dL_law_1277 rfl (lv_at hl 2 rfl) ?_
    have hPc : va_P (dC, dI) vwCl ([(o3, eL cy f3)] ++ WC cy ad ks g u) H := hP.part (X := XLW cy o3 o4 am f3 f4 r) (cx := [(o3, eL cy f3)]) [0] rfl
    have hDc : va_D (fun q : Nat => s.heap.size ≤ q) ([(o3, eL cy f3)] ++ WC cy ad ks g u) := hD.part (X := XLW cy o3 o4 am f3 f4 r) (cx := [(o3, eL cy f3)]) [0] (by decide) rfl
    have hFc : ∀ q, va_A ([(o3, eL cy f3)] ++ WC cy ad ks g u) H.size q → s.heap.size ≤ q := va_freeP (X := XLW cy o3 o4 am f3 f4 r) (cx := [(o3, eL cy f3)]) hD hS hA [0] rfl
    refine vx_calli (vx_runSX (As := [.ref (ad .cl), .int (xs (4 * n + 1)), .ref o3]) (rest := []) ⟨hx, hb, hml, hown, hts⟩ (ct_rush l hst dC dI cy nb ad ks g hk u ((xs (4 * n + 1))) o3 f3 xk H.size hxk e2) (vx_cwSW 3 hts (gSH mw_1083 mw_1084 mw_562 mw_1085) rfl rfl rfl (by decide +kernel) ⟨Nat.le_of_ble_eq_true rfl, Nat.le_of_ble_eq_true rfl⟩) (my_preS hPc hK hDc hE hS hFc) rfl rfl hl.1 rfl (lv_room (Nat.le_of_ble_eq_true rfl)) dL_law_1278 ⟨by show _ ≤ 601024; omega, by show _ ≤ 7293034; omega⟩) hS (fun q _ h => hFc q h) hFc (fun q _ h => hFc q h) (fun E9 ce9 q9 u9 t9 H1 locs1 ht9 hvm9 hp9 _ _ _ _ _ _ _ => hp9.elim) (fun rw9 u9 t9 H1 locs ht hvm hw hB hz1 hk1 hS => ?_)
    obtain ⟨hP1, hD1⟩ := hB
    rw [ht] at hP1
    obtain ⟨hP, hD⟩ := va_joinP (X := XLW cy o3 o4 am f3 f4 r) (cx := [(o3, eL cy f3)]) (wr := ((o4, eD cy f4) :: WM cy am r)) (rx := [(o3, eL cy f3)]) (pl := WC cy ad ks g u) (pl1 := WC cy ad ks g u) hP hD [0] [1, 2, 3, 4, 5, 6, 7, 8, 9, 10, 11, 12] rfl rfl (by decide) (by decide) hk1 hFc hP1 hD1
    have hP : va_P (dC, dI) vwCl (XLW cy o3 o4 am f3 f4 r ++ WC cy ad ks g u) H1 := hP.part (X := ((o4, eD cy f4) :: WM cy am r) ++ [(o3, eL cy f3)]) (cx := XLW cy o3 o4 am f3 f4 r) [12, 0, 1, 2, 3, 4, 5, 6, 7, 8, 9, 10, 11] rfl
    have hD : va_D (fun q : Nat => s.heap.size ≤ q) (XLW cy o3 o4 am f3 f4 r ++ WC cy ad ks g u) := hD.part (X := ((o4, eD cy f4) :: WM cy am r) ++ [(o3, eL cy f3)]) (cx := XLW cy o3 o4 am f3 f4 r) [12, 0, 1, 2, 3, 4, 5, 6, 7, 8, 9, 10, 11] (by decide) rfl
    generalize H1 = H at hP hS ⊢
    clear hP1 hD1 hPc hDc hFc hk1 hz1 hvm ht
    refine lv_istore (lv' := [(6, .int rw9), (5, .int (nI (4 * n))), (4, .ref o4), (3, .ref o3), (2, .ref (am 0)), (1, .ref (ad .cl)), (0, .ref b)]) hx hb dL_law_1281 hl (by decide) rfl (fun ls hl => ?_)
    refine lv_aload_n hx hb dL_law_1283 rfl (lv_at hl 4 rfl) ?_
    refine lv_aload_n hx hb dL_law_1284 rfl (lv_at hl 6 rfl) ?_
    refine lv_iload hx hb dL_law_1285 (lv_at hl 1 rfl) ?_
    refine lv_iconst (v := 1) hx hb dL_law_1287 (by decide) ?_
    refine lv_iadd hx hb dL_law_1288 ?_
    refine my_topi (y := nI (4 * n + 1)) (nI_add (4 * n) 1) ?_
    refine va_sld hx hb hX hbl hbA hS (vp_in_nI (n := 4 * n + 1) (by omega) (by omega)) dL_law_1289 ?_
    refine my_topi (y := xs (4 * n + 1)) (congrArg xs (nI_clamp (by omega))) ?_
    have hPc := hP.sub (ws' := (WM cy am r)) [2, 3, 4, 5, 6, 7, 8, 9, 10, 11, 12] rfl
    have hDc := hD.sub (ws' := (WM cy am r)) [2, 3, 4, 5, 6, 7, 8, 9, 10, 11, 12] (by decide) rfl
    have hFc := va_free (wc := (WM cy am r)) hD hS hA [2, 3, 4, 5, 6, 7, 8, 9, 10, 11, 12] rfl
    refine va_calli (va_runV (As := [.int (xs (4 * n + 1))]) (rest := []) ⟨hx, hb, hml, hown, hts⟩ (k_X8_rush l dC dI cy nb am r ((xs (4 * n + 1))) (nI 0) (th r k) H.size e1) (cwV 1 hts (gV mw_1091 mw_1092 mw_1093 mw_5 mw_1094) rfl rfl rfl (by decide +kernel) ⟨Nat.le_of_ble_eq_true rfl, Nat.le_of_ble_eq_true rfl⟩) (my_preV hPc hK hDc hE hS hFc (va_recv (q := (RX8, TX8, 23)) hK hP (ci := 8) (q0 := 2) rfl rfl)) rfl rfl hl.1 rfl (lv_room (Nat.le_of_ble_eq_true rfl)) dL_law_1290 ⟨by show _ ≤ 601024; omega, by show _ ≤ 7293034; omega⟩) hS (fun q _ h => hFc q h) hFc (fun rm9 u9 t9 H1 locs ht hvm hwm hB hz1 hk1 hS => ?_)
    obtain ⟨hP1, hD1⟩ := hB
    rw [ht] at hP1
    obtain ⟨hP, hD⟩ := va_joinQ (X := XLW cy o3 o4 am f3 f4 r) (cx := (WM cy am r)) (wr := [(o3, eL cy f3), (o4, eD cy f4)]) (w1 := (WM cy am (th r k))) (pl := WC cy ad ks g u) hP hD [2, 3, 4, 5, 6, 7, 8, 9, 10, 11, 12] [0, 1] rfl rfl (by decide) (by decide) hk1 hFc hP1 hD1
    have hP : va_P (dC, dI) vwCl (XLW cy o3 o4 am f3 f4 (th r k) ++ WC cy ad ks g u) H1 := hP
    have hD : va_D (fun q : Nat => s.heap.size ≤ q) (XLW cy o3 o4 am f3 f4 (th r k) ++ WC cy ad ks g u) := hD
    generalize H1 = H at hP hS ⊢
    clear hP1 hD1 hPc hDc hFc hk1 hz1 hvm ht
    refine my_topi hwm ?_
    refine lv_istore (lv' := [(7, .int (nI 0)), (6, .int rw9), (5, .int (nI (4 * n))), (4, .ref o4), (3, .ref o3), (2, .ref (am 0)), (1, .ref (ad .cl)), (0, .ref b)]) hx hb dL_law_1293 hl (by decide) rfl (fun ls hl => ?_)
    refine lv_goto (tgt := 1819) hx hb dL_law_1295 (by decide) ?_
    refine W.widen (k := cells + 603) (n := slots + 9640) (by omega) (by omega) ?_
    exact K H locs ls ⟨ad, ks, g, u, (th r k), f3, f4, hk, (hGI.thr).mono (by omega) (by omega) (by omega), hP, hD, hS, lv_sub hl [2, 3, 4, 5, 6, 7] rfl⟩
set_option maxHeartbeats 8000000 in
set_option maxRecDepth 100000 in
theorem law_c32 {p : Program} {e : Env} {s : State} {m : MethodId} {below : List Frame} {meth : Method} {c : Code} (l : Launch) (hst : l.stackTraces = false) {b L : Nat} {xs : Nat → Int32} (dC : Nat → ClassId) (dI : Nat → Nat → Nat) (cy : Nat → ClassId) (nb : Nat → Nat) (o3 o4 : Nat) (am : Nat → Nat) {n : Nat} (hn : n < 512) (hL : 4 * n + 4 ≤ L) (hL2 : L ≤ 2048) (C0 : LX p s m meth c b L xs dC dI cy nb) {Q : State → Prop} {H : Heap} {locs : List Loc} {ls : Array Slot} {cells slots : Nat} (hc : cells ≤ 400000) (hs : slots ≤ 6000000) (h : LSt s dC dI cy nb b o3 o4 am n (4 * n) H locs ls) (K : ∀ (H : Heap) (locs : List Loc) (ls : Array Slot), LSt s dC dI cy nb b o3 o4 am (n + 1) (4 * n) H locs ls → W p l e room_1 s m #[Value.ref b] below meth c H locs (cells + 603) (slots + 9640) Q (F0 m 1819 ls [])) : W p l e room_1 s m #[Value.ref b] below meth c H locs cells slots Q (F0 m 1298 ls []) := by
  obtain ⟨hx, hb, hr, hml, hown, hts, hX, hbl, hlocks, hK, hE⟩ := C0
  have hA : ∀ q : Nat, s.heap.size ≤ q → (fun q : Nat => s.heap.size ≤ q) q := fun _ h => h
  have hbA : ¬ (fun q : Nat => s.heap.size ≤ q) b := Nat.not_le.mpr hbl
  obtain ⟨ad, ks, g, u, r, f3, f4, hk, hGI, hP, hD, hS, hl⟩ := h
  have h9 : AT (F8_swap r (xs (4 * n + 1)) (xs (4 * n + 2))) (C7_swap g u (xs (4 * n + 1)) (xs (4 * n + 2))) r 0 (2001 * n) (602 * n) := a_swap hGI
  rcases h9 with ⟨x, r2, c2, c2g, e1, e2, e3, e6⟩ | ⟨k, k1, k2, e1, e2⟩
  · refine lv_aload_n hx hb dL_law_1298 rfl (lv_at hl 4 rfl) ?_
    refine lv_aload_n hx hb dL_law_1299 rfl (lv_at hl 5 rfl) ?_
    refine lv_iload hx hb dL_law_1300 (lv_at hl 0 rfl) ?_
    refine lv_iconst (v := 1) hx hb dL_law_1302 (by decide) ?_
    refine lv_iadd hx hb dL_law_1303 ?_
    refine my_topi (y := nI (4 * n + 1)) (nI_add (4 * n) 1) ?_
    refine va_sld hx hb hX hbl hbA hS (vp_in_nI (n := 4 * n + 1) (by omega) (by omega)) dL_law_1304 ?_
    refine my_topi (y := xs (4 * n + 1)) (congrArg xs (nI_clamp (by omega))) ?_
    refine lv_aload_n hx hb dL_law_1305 rfl (lv_at hl 5 rfl) ?_
    refine lv_iload hx hb dL_law_1306 (lv_at hl 0 rfl) ?_
    refine lv_iconst (v := 2) hx hb dL_law_1308 (by decide) ?_
    refine lv_iadd hx hb dL_law_1309 ?_
    refine my_topi (y := nI (4 * n + 2)) (nI_add (4 * n) 2) ?_
    refine va_sld hx hb hX hbl hbA hS (vp_in_nI (n := 4 * n + 2) (by omega) (by omega)) dL_law_1310 ?_
    refine my_topi (y := xs (4 * n + 2)) (congrArg xs (nI_clamp (by omega))) ?_
    refine lv_aload_n hx hb dL_law_1311 rfl (lv_at hl 2 rfl) ?_
    have hPc : va_P (dC, dI) vwCl ([(o3, eL cy f3)] ++ WC cy ad ks g u) H := hP.part (X := XLW cy o3 o4 am f3 f4 r) (cx := [(o3, eL cy f3)]) [0] rfl
    have hDc : va_D (fun q : Nat => s.heap.size ≤ q) ([(o3, eL cy f3)] ++ WC cy ad ks g u) := hD.part (X := XLW cy o3 o4 am f3 f4 r) (cx := [(o3, eL cy f3)]) [0] (by decide) rfl
    have hFc : ∀ q, va_A ([(o3, eL cy f3)] ++ WC cy ad ks g u) H.size q → s.heap.size ≤ q := va_freeP (X := XLW cy o3 o4 am f3 f4 r) (cx := [(o3, eL cy f3)]) hD hS hA [0] rfl
    refine vx_calli (vx_runSX (As := [.ref (ad .cl), .int (xs (4 * n + 1)), .int (xs (4 * n + 2)), .ref o3]) (rest := []) ⟨hx, hb, hml, hown, hts⟩ (cn_swap l hst dC dI cy nb ad ks g hk u ((xs (4 * n + 1))) ((xs (4 * n + 2))) o3 f3 x c2g c2 H.size e2) (vx_cwSW 4 hts (gSH mw_1095 mw_1096 mw_562 mw_1097) rfl rfl rfl (by decide +kernel) ⟨Nat.le_of_ble_eq_true rfl, Nat.le_of_ble_eq_true rfl⟩) (my_preS hPc hK hDc hE hS hFc) rfl rfl hl.1 rfl (lv_room (Nat.le_of_ble_eq_true rfl)) dL_law_1312 ⟨by show _ ≤ 601024; omega, by show _ ≤ 7293034; omega⟩) hS (fun q _ h => hFc q h) hFc (fun q _ h => hFc q h) (fun E9 ce9 q9 u9 t9 H1 locs1 ht9 hvm9 hp9 _ _ _ _ _ _ _ => hp9.elim) (fun rw9 u9 t9 H1 locs ht hvm hw hB hz1 hk1 hS => ?_)
    obtain ⟨ad', ks', hkz, axz, hP1, hD1⟩ := hB
    rw [ht] at hP1
    obtain ⟨hP, hD⟩ := va_joinP (X := XLW cy o3 o4 am f3 f4 r) (cx := [(o3, eL cy f3)]) (wr := ((o4, eD cy f4) :: WM cy am r)) (rx := [(o3, eL cy (vp_updL f3 ((0 : Int32).toNatClampNeg) (x.toInt64)))]) (pl := WC cy ad ks g u) (pl1 := WC cy ad' ks' c2g c2) hP hD [0] [1, 2, 3, 4, 5, 6, 7, 8, 9, 10, 11, 12] rfl rfl (by decide) (by decide) hk1 hFc hP1 hD1
    have hP : va_P (dC, dI) vwCl (XLW cy o3 o4 am (vp_updL f3 ((0 : Int32).toNatClampNeg) (x.toInt64)) f4 r ++ WC cy ad' ks' c2g c2) H1 := hP.part (X := ((o4, eD cy f4) :: WM cy am r) ++ [(o3, eL cy (vp_updL f3 ((0 : Int32).toNatClampNeg) (x.toInt64)))]) (cx := XLW cy o3 o4 am (vp_updL f3 ((0 : Int32).toNatClampNeg) (x.toInt64)) f4 r) [12, 0, 1, 2, 3, 4, 5, 6, 7, 8, 9, 10, 11] rfl
    have hD : va_D (fun q : Nat => s.heap.size ≤ q) (XLW cy o3 o4 am (vp_updL f3 ((0 : Int32).toNatClampNeg) (x.toInt64)) f4 r ++ WC cy ad' ks' c2g c2) := hD.part (X := ((o4, eD cy f4) :: WM cy am r) ++ [(o3, eL cy (vp_updL f3 ((0 : Int32).toNatClampNeg) (x.toInt64)))]) (cx := XLW cy o3 o4 am (vp_updL f3 ((0 : Int32).toNatClampNeg) (x.toInt64)) f4 r) [12, 0, 1, 2, 3, 4, 5, 6, 7, 8, 9, 10, 11] (by decide) rfl
    generalize H1 = H at hP hS ⊢
    have hl : lv_has ls 10 [(5, .int (nI (4 * n))), (4, .ref o4), (3, .ref o3), (2, .ref (am 0)), (1, .ref (ad' .cl)), (0, .ref b)] := by rw [(axz .cl True.intro).2]; exact hl
    clear hP1 hD1 hPc hDc hFc hk1 hz1 hvm ht
    refine lv_istore (lv' := [(6, .int rw9), (5, .int (nI (4 * n))), (4, .ref o4), (3, .ref o3), (2, .ref (am 0)), (1, .ref (ad' .cl)), (0, .ref b)]) hx hb dL_law_1315 hl (by decide) rfl (fun ls hl => ?_)
    refine lv_aload_n hx hb dL_law_1317 rfl (lv_at hl 4 rfl) ?_
    refine lv_aload_n hx hb dL_law_1318 rfl (lv_at hl 6 rfl) ?_
    refine lv_iload hx hb dL_law_1319 (lv_at hl 1 rfl) ?_
    refine lv_iconst (v := 1) hx hb dL_law_1321 (by decide) ?_
    refine lv_iadd hx hb dL_law_1322 ?_
    refine my_topi (y := nI (4 * n + 1)) (nI_add (4 * n) 1) ?_
    refine va_sld hx hb hX hbl hbA hS (vp_in_nI (n := 4 * n + 1) (by omega) (by omega)) dL_law_1323 ?_
    refine my_topi (y := xs (4 * n + 1)) (congrArg xs (nI_clamp (by omega))) ?_
    refine lv_aload_n hx hb dL_law_1324 rfl (lv_at hl 6 rfl) ?_
    refine lv_iload hx hb dL_law_1325 (lv_at hl 1 rfl) ?_
    refine lv_iconst (v := 2) hx hb dL_law_1327 (by decide) ?_
    refine lv_iadd hx hb dL_law_1328 ?_
    refine my_topi (y := nI (4 * n + 2)) (nI_add (4 * n) 2) ?_
    refine va_sld hx hb hX hbl hbA hS (vp_in_nI (n := 4 * n + 2) (by omega) (by omega)) dL_law_1329 ?_
    refine my_topi (y := xs (4 * n + 2)) (congrArg xs (nI_clamp (by omega))) ?_
    have hPc := hP.sub (ws' := (WM cy am r)) [2, 3, 4, 5, 6, 7, 8, 9, 10, 11, 12] rfl
    have hDc := hD.sub (ws' := (WM cy am r)) [2, 3, 4, 5, 6, 7, 8, 9, 10, 11, 12] (by decide) rfl
    have hFc := va_free (wc := (WM cy am r)) hD hS hA [2, 3, 4, 5, 6, 7, 8, 9, 10, 11, 12] rfl
    refine va_calli (va_runV (As := [.int (xs (4 * n + 1)), .int (xs (4 * n + 2))]) (rest := []) ⟨hx, hb, hml, hown, hts⟩ (k_X8_swap l dC dI cy nb am r ((xs (4 * n + 1))) ((xs (4 * n + 2))) x (r2) H.size e1) (cwV 2 hts (gV mw_1107 mw_1108 mw_1109 mw_5 mw_1110) rfl rfl rfl (by decide +kernel) ⟨Nat.le_of_ble_eq_true rfl, Nat.le_of_ble_eq_true rfl⟩) (my_preV hPc hK hDc hE hS hFc (va_recv (q := (RX8, TX8, 23)) hK hP (ci := 8) (q0 := 2) rfl rfl)) rfl rfl hl.1 rfl (lv_room (Nat.le_of_ble_eq_true rfl)) dL_law_1330 ⟨by show _ ≤ 601024; omega, by show _ ≤ 7293034; omega⟩) hS (fun q _ h => hFc q h) hFc (fun rm9 u9 t9 H1 locs ht hvm hwm hB hz1 hk1 hS => ?_)
    obtain ⟨hP1, hD1⟩ := hB
    rw [ht] at hP1
    obtain ⟨hP, hD⟩ := va_joinQ (X := XLW cy o3 o4 am (vp_updL f3 ((0 : Int32).toNatClampNeg) (x.toInt64)) f4 r) (cx := (WM cy am r)) (wr := [(o3, eL cy (vp_updL f3 ((0 : Int32).toNatClampNeg) (x.toInt64))), (o4, eD cy f4)]) (w1 := (WM cy am (r2))) (pl := WC cy ad' ks' c2g c2) hP hD [2, 3, 4, 5, 6, 7, 8, 9, 10, 11, 12] [0, 1] rfl rfl (by decide) (by decide) hk1 hFc hP1 hD1
    have hP : va_P (dC, dI) vwCl (XLW cy o3 o4 am (vp_updL f3 ((0 : Int32).toNatClampNeg) (x.toInt64)) f4 r2 ++ WC cy ad' ks' c2g c2) H1 := hP
    have hD : va_D (fun q : Nat => s.heap.size ≤ q) (XLW cy o3 o4 am (vp_updL f3 ((0 : Int32).toNatClampNeg) (x.toInt64)) f4 r2 ++ WC cy ad' ks' c2g c2) := hD
    generalize H1 = H at hP hS ⊢
    clear hP1 hD1 hPc hDc hFc hk1 hz1 hvm ht
    refine my_topi hwm ?_
    refine lv_istore (lv' := [(7, .int x), (6, .int rw9), (5, .int (nI (4 * n))), (4, .ref o4), (3, .ref o3), (2, .ref (am 0)), (1, .ref (ad' .cl)), (0, .ref b)]) hx hb dL_law_1333 hl (by decide) rfl (fun ls hl => ?_)
    refine lv_goto (tgt := 1819) hx hb dL_law_1335 (by decide) ?_
    refine W.widen (k := cells + 603) (n := slots + 9640) (by omega) (by omega) ?_
    exact K H locs ls ⟨ad', ks', c2g, c2, r2, (vp_updL f3 ((0 : Int32).toNatClampNeg) (x.toInt64)), f4, hkz, e3.mono (by omega) (by omega) (by omega), hP, hD, hS, lv_sub hl [2, 3, 4, 5, 6, 7] rfl⟩
  · have e2 : C7_swap g u (xs (4 * n + 1)) (xs (4 * n + 2)) = some (.inl (nI (k + 0))) := e2
    generalize hxx : (nI (k + 0)) = xk at e2
    refine lv_aload_n hx hb dL_law_1298 rfl (lv_at hl 4 rfl) ?_
    refine lv_aload_n hx hb dL_law_1299 rfl (lv_at hl 5 rfl) ?_
    refine lv_iload hx hb dL_law_1300 (lv_at hl 0 rfl) ?_
    refine lv_iconst (v := 1) hx hb dL_law_1302 (by decide) ?_
    refine lv_iadd hx hb dL_law_1303 ?_
    refine my_topi (y := nI (4 * n + 1)) (nI_add (4 * n) 1) ?_
    refine va_sld hx hb hX hbl hbA hS (vp_in_nI (n := 4 * n + 1) (by omega) (by omega)) dL_law_1304 ?_
    refine my_topi (y := xs (4 * n + 1)) (congrArg xs (nI_clamp (by omega))) ?_
    refine lv_aload_n hx hb dL_law_1305 rfl (lv_at hl 5 rfl) ?_
    refine lv_iload hx hb dL_law_1306 (lv_at hl 0 rfl) ?_
    refine lv_iconst (v := 2) hx hb dL_law_1308 (by decide) ?_
    refine lv_iadd hx hb dL_law_1309 ?_
    refine my_topi (y := nI (4 * n + 2)) (nI_add (4 * n) 2) ?_
    refine va_sld hx hb hX hbl hbA hS (vp_in_nI (n := 4 * n + 2) (by omega) (by omega)) dL_law_1310 ?_
    refine my_topi (y := xs (4 * n + 2)) (congrArg xs (nI_clamp (by omega))) ?_
    refine lv_aload_n hx hb dL_law_1311 rfl (lv_at hl 2 rfl) ?_
    have hPc : va_P (dC, dI) vwCl ([(o3, eL cy f3)] ++ WC cy ad ks g u) H := hP.part (X := XLW cy o3 o4 am f3 f4 r) (cx := [(o3, eL cy f3)]) [0] rfl
    have hDc : va_D (fun q : Nat => s.heap.size ≤ q) ([(o3, eL cy f3)] ++ WC cy ad ks g u) := hD.part (X := XLW cy o3 o4 am f3 f4 r) (cx := [(o3, eL cy f3)]) [0] (by decide) rfl
    have hFc : ∀ q, va_A ([(o3, eL cy f3)] ++ WC cy ad ks g u) H.size q → s.heap.size ≤ q := va_freeP (X := XLW cy o3 o4 am f3 f4 r) (cx := [(o3, eL cy f3)]) hD hS hA [0] rfl
    refine vx_calli (vx_runSX (As := [.ref (ad .cl), .int (xs (4 * n + 1)), .int (xs (4 * n + 2)), .ref o3]) (rest := []) ⟨hx, hb, hml, hown, hts⟩ (ct_swap l hst dC dI cy nb ad ks g hk u ((xs (4 * n + 1))) ((xs (4 * n + 2))) o3 f3 xk H.size e2) (vx_cwSW 4 hts (gSH mw_1095 mw_1096 mw_562 mw_1097) rfl rfl rfl (by decide +kernel) ⟨Nat.le_of_ble_eq_true rfl, Nat.le_of_ble_eq_true rfl⟩) (my_preS hPc hK hDc hE hS hFc) rfl rfl hl.1 rfl (lv_room (Nat.le_of_ble_eq_true rfl)) dL_law_1312 ⟨by show _ ≤ 601024; omega, by show _ ≤ 7293034; omega⟩) hS (fun q _ h => hFc q h) hFc (fun q _ h => hFc q h) (fun E9 ce9 q9 u9 t9 H1 locs1 ht9 hvm9 hp9 _ _ _ _ _ _ _ => hp9.elim) (fun rw9 u9 t9 H1 locs ht hvm hw hB hz1 hk1 hS => ?_)
    obtain ⟨hP1, hD1⟩ := hB
    rw [ht] at hP1
    obtain ⟨hP, hD⟩ := va_joinP (X := XLW cy o3 o4 am f3 f4 r) (cx := [(o3, eL cy f3)]) (wr := ((o4, eD cy f4) :: WM cy am r)) (rx := [(o3, eL cy f3)]) (pl := WC cy ad ks g u) (pl1 := WC cy ad ks g u) hP hD [0] [1, 2, 3, 4, 5, 6, 7, 8, 9, 10, 11, 12] rfl rfl (by decide) (by decide) hk1 hFc hP1 hD1
    have hP : va_P (dC, dI) vwCl (XLW cy o3 o4 am f3 f4 r ++ WC cy ad ks g u) H1 := hP.part (X := ((o4, eD cy f4) :: WM cy am r) ++ [(o3, eL cy f3)]) (cx := XLW cy o3 o4 am f3 f4 r) [12, 0, 1, 2, 3, 4, 5, 6, 7, 8, 9, 10, 11] rfl
    have hD : va_D (fun q : Nat => s.heap.size ≤ q) (XLW cy o3 o4 am f3 f4 r ++ WC cy ad ks g u) := hD.part (X := ((o4, eD cy f4) :: WM cy am r) ++ [(o3, eL cy f3)]) (cx := XLW cy o3 o4 am f3 f4 r) [12, 0, 1, 2, 3, 4, 5, 6, 7, 8, 9, 10, 11] (by decide) rfl
    generalize H1 = H at hP hS ⊢
    clear hP1 hD1 hPc hDc hFc hk1 hz1 hvm ht
    refine lv_istore (lv' := [(6, .int rw9), (5, .int (nI (4 * n))), (4, .ref o4), (3, .ref o3), (2, .ref (am 0)), (1, .ref (ad .cl)), (0, .ref b)]) hx hb dL_law_1315 hl (by decide) rfl (fun ls hl => ?_)
    refine lv_aload_n hx hb dL_law_1317 rfl (lv_at hl 4 rfl) ?_
    refine lv_aload_n hx hb dL_law_1318 rfl (lv_at hl 6 rfl) ?_
    refine lv_iload hx hb dL_law_1319 (lv_at hl 1 rfl) ?_
    refine lv_iconst (v := 1) hx hb dL_law_1321 (by decide) ?_
    refine lv_iadd hx hb dL_law_1322 ?_
    refine my_topi (y := nI (4 * n + 1)) (nI_add (4 * n) 1) ?_
    refine va_sld hx hb hX hbl hbA hS (vp_in_nI (n := 4 * n + 1) (by omega) (by omega)) dL_law_1323 ?_
    refine my_topi (y := xs (4 * n + 1)) (congrArg xs (nI_clamp (by omega))) ?_
    refine lv_aload_n hx hb dL_law_1324 rfl (lv_at hl 6 rfl) ?_
    refine lv_iload hx hb dL_law_1325 (lv_at hl 1 rfl) ?_
    refine lv_iconst (v := 2) hx hb dL_law_1327 (by decide) ?_
    refine lv_iadd hx hb dL_law_1328 ?_
    refine my_topi (y := nI (4 * n + 2)) (nI_add (4 * n) 2) ?_
    refine va_sld hx hb hX hbl hbA hS (vp_in_nI (n := 4 * n + 2) (by omega) (by omega)) dL_law_1329 ?_
    refine my_topi (y := xs (4 * n + 2)) (congrArg xs (nI_clamp (by omega))) ?_
    have hPc := hP.sub (ws' := (WM cy am r)) [2, 3, 4, 5, 6, 7, 8, 9, 10, 11, 12] rfl
    have hDc := hD.sub (ws' := (WM cy am r)) [2, 3, 4, 5, 6, 7, 8, 9, 10, 11, 12] (by decide) rfl
    have hFc := va_free (wc := (WM cy am r)) hD hS hA [2, 3, 4, 5, 6, 7, 8, 9, 10, 11, 12] rfl
    refine va_calli (va_runV (As := [.int (xs (4 * n + 1)), .int (xs (4 * n + 2))]) (rest := []) ⟨hx, hb, hml, hown, hts⟩ (k_X8_swap l dC dI cy nb am r ((xs (4 * n + 1))) ((xs (4 * n + 2))) (nI 0) (th r k) H.size e1) (cwV 2 hts (gV mw_1107 mw_1108 mw_1109 mw_5 mw_1110) rfl rfl rfl (by decide +kernel) ⟨Nat.le_of_ble_eq_true rfl, Nat.le_of_ble_eq_true rfl⟩) (my_preV hPc hK hDc hE hS hFc (va_recv (q := (RX8, TX8, 23)) hK hP (ci := 8) (q0 := 2) rfl rfl)) rfl rfl hl.1 rfl (lv_room (Nat.le_of_ble_eq_true rfl)) dL_law_1330 ⟨by show _ ≤ 601024; omega, by show _ ≤ 7293034; omega⟩) hS (fun q _ h => hFc q h) hFc (fun rm9 u9 t9 H1 locs ht hvm hwm hB hz1 hk1 hS => ?_)
    obtain ⟨hP1, hD1⟩ := hB
    rw [ht] at hP1
    obtain ⟨hP, hD⟩ := va_joinQ (X := XLW cy o3 o4 am f3 f4 r) (cx := (WM cy am r)) (wr := [(o3, eL cy f3), (o4, eD cy f4)]) (w1 := (WM cy am (th r k))) (pl := WC cy ad ks g u) hP hD [2, 3, 4, 5, 6, 7, 8, 9, 10, 11, 12] [0, 1] rfl rfl (by decide) (by decide) hk1 hFc hP1 hD1
    have hP : va_P (dC, dI) vwCl (XLW cy o3 o4 am f3 f4 (th r k) ++ WC cy ad ks g u) H1 := hP
    have hD : va_D (fun q : Nat => s.heap.size ≤ q) (XLW cy o3 o4 am f3 f4 (th r k) ++ WC cy ad ks g u) := hD
    generalize H1 = H at hP hS ⊢
    clear hP1 hD1 hPc hDc hFc hk1 hz1 hvm ht
    refine my_topi hwm ?_
    refine lv_istore (lv' := [(7, .int (nI 0)), (6, .int rw9), (5, .int (nI (4 * n))), (4, .ref o4), (3, .ref o3), (2, .ref (am 0)), (1, .ref (ad .cl)), (0, .ref b)]) hx hb dL_law_1333 hl (by decide) rfl (fun ls hl => ?_)
    refine lv_goto (tgt := 1819) hx hb dL_law_1335 (by decide) ?_
    refine W.widen (k := cells + 603) (n := slots + 9640) (by omega) (by omega) ?_
    exact K H locs ls ⟨ad, ks, g, u, (th r k), f3, f4, hk, (hGI.thr).mono (by omega) (by omega) (by omega), hP, hD, hS, lv_sub hl [2, 3, 4, 5, 6, 7] rfl⟩
set_option maxHeartbeats 8000000 in
set_option maxRecDepth 100000 in
theorem law_c33 {p : Program} {e : Env} {s : State} {m : MethodId} {below : List Frame} {meth : Method} {c : Code} (l : Launch) (hst : l.stackTraces = false) {b L : Nat} {xs : Nat → Int32} (dC : Nat → ClassId) (dI : Nat → Nat → Nat) (cy : Nat → ClassId) (nb : Nat → Nat) (o3 o4 : Nat) (am : Nat → Nat) {n : Nat} (hn : n < 512) (hL : 4 * n + 4 ≤ L) (hL2 : L ≤ 2048) (C0 : LX p s m meth c b L xs dC dI cy nb) {Q : State → Prop} {H : Heap} {locs : List Loc} {ls : Array Slot} {cells slots : Nat} (hc : cells ≤ 400000) (hs : slots ≤ 6000000) (h : LSt s dC dI cy nb b o3 o4 am n (4 * n) H locs ls) (K : ∀ (H : Heap) (locs : List Loc) (ls : Array Slot), LSt s dC dI cy nb b o3 o4 am (n + 1) (4 * n) H locs ls → W p l e room_1 s m #[Value.ref b] below meth c H locs (cells + 603) (slots + 9640) Q (F0 m 1819 ls [])) : W p l e room_1 s m #[Value.ref b] below meth c H locs cells slots Q (F0 m 1338 ls []) := by
  obtain ⟨hx, hb, hr, hml, hown, hts, hX, hbl, hlocks, hK, hE⟩ := C0
  have hA : ∀ q : Nat, s.heap.size ≤ q → (fun q : Nat => s.heap.size ≤ q) q := fun _ h => h
  have hbA : ¬ (fun q : Nat => s.heap.size ≤ q) b := Nat.not_le.mpr hbl
  obtain ⟨ad, ks, g, u, r, f3, f4, hk, hGI, hP, hD, hS, hl⟩ := h
  have h9 : AT (F8_setTries r (xs (4 * n + 1))) (C7_setTries g u (xs (4 * n + 1))) r 1 (2001 * n) (602 * n) := a_setTries hGI
  rcases h9 with ⟨x, r2, c2, c2g, e1, e2, e3, e6⟩ | ⟨k, k1, k2, e1, e2⟩
  · refine lv_aload_n hx hb dL_law_1338 rfl (lv_at hl 4 rfl) ?_
    refine lv_aload_n hx hb dL_law_1339 rfl (lv_at hl 5 rfl) ?_
    refine lv_iload hx hb dL_law_1340 (lv_at hl 0 rfl) ?_
    refine lv_iconst (v := 1) hx hb dL_law_1342 (by decide) ?_
    refine lv_iadd hx hb dL_law_1343 ?_
    refine my_topi (y := nI (4 * n + 1)) (nI_add (4 * n) 1) ?_
    refine va_sld hx hb hX hbl hbA hS (vp_in_nI (n := 4 * n + 1) (by omega) (by omega)) dL_law_1344 ?_
    refine my_topi (y := xs (4 * n + 1)) (congrArg xs (nI_clamp (by omega))) ?_
    refine lv_aload_n hx hb dL_law_1345 rfl (lv_at hl 2 rfl) ?_
    have hPc : va_P (dC, dI) vwCl ([(o3, eL cy f3)] ++ WC cy ad ks g u) H := hP.part (X := XLW cy o3 o4 am f3 f4 r) (cx := [(o3, eL cy f3)]) [0] rfl
    have hDc : va_D (fun q : Nat => s.heap.size ≤ q) ([(o3, eL cy f3)] ++ WC cy ad ks g u) := hD.part (X := XLW cy o3 o4 am f3 f4 r) (cx := [(o3, eL cy f3)]) [0] (by decide) rfl
    have hFc : ∀ q, va_A ([(o3, eL cy f3)] ++ WC cy ad ks g u) H.size q → s.heap.size ≤ q := va_freeP (X := XLW cy o3 o4 am f3 f4 r) (cx := [(o3, eL cy f3)]) hD hS hA [0] rfl
    refine vx_calli (vx_runSX (As := [.ref (ad .cl), .int (xs (4 * n + 1)), .ref o3]) (rest := []) ⟨hx, hb, hml, hown, hts⟩ (cn_setTries l hst dC dI cy nb ad ks g hk u ((xs (4 * n + 1))) o3 f3 x c2g c2 H.size e2) (vx_cwSW 3 hts (gSH mw_1111 mw_1112 mw_562 mw_1113) rfl rfl rfl (by decide +kernel) ⟨Nat.le_of_ble_eq_true rfl, Nat.le_of_ble_eq_true rfl⟩) (my_preS hPc hK hDc hE hS hFc) rfl rfl hl.1 rfl (lv_room (Nat.le_of_ble_eq_true rfl)) dL_law_1346 ⟨by show _ ≤ 601024; omega, by show _ ≤ 7293034; omega⟩) hS (fun q _ h => hFc q h) hFc (fun q _ h => hFc q h) (fun E9 ce9 q9 u9 t9 H1 locs1 ht9 hvm9 hp9 _ _ _ _ _ _ _ => hp9.elim) (fun rw9 u9 t9 H1 locs ht hvm hw hB hz1 hk1 hS => ?_)
    obtain ⟨ad', ks', hkz, axz, hP1, hD1⟩ := hB
    rw [ht] at hP1
    obtain ⟨hP, hD⟩ := va_joinP (X := XLW cy o3 o4 am f3 f4 r) (cx := [(o3, eL cy f3)]) (wr := ((o4, eD cy f4) :: WM cy am r)) (rx := [(o3, eL cy (vp_updL f3 ((0 : Int32).toNatClampNeg) (x.toInt64)))]) (pl := WC cy ad ks g u) (pl1 := WC cy ad' ks' c2g c2) hP hD [0] [1, 2, 3, 4, 5, 6, 7, 8, 9, 10, 11, 12] rfl rfl (by decide) (by decide) hk1 hFc hP1 hD1
    have hP : va_P (dC, dI) vwCl (XLW cy o3 o4 am (vp_updL f3 ((0 : Int32).toNatClampNeg) (x.toInt64)) f4 r ++ WC cy ad' ks' c2g c2) H1 := hP.part (X := ((o4, eD cy f4) :: WM cy am r) ++ [(o3, eL cy (vp_updL f3 ((0 : Int32).toNatClampNeg) (x.toInt64)))]) (cx := XLW cy o3 o4 am (vp_updL f3 ((0 : Int32).toNatClampNeg) (x.toInt64)) f4 r) [12, 0, 1, 2, 3, 4, 5, 6, 7, 8, 9, 10, 11] rfl
    have hD : va_D (fun q : Nat => s.heap.size ≤ q) (XLW cy o3 o4 am (vp_updL f3 ((0 : Int32).toNatClampNeg) (x.toInt64)) f4 r ++ WC cy ad' ks' c2g c2) := hD.part (X := ((o4, eD cy f4) :: WM cy am r) ++ [(o3, eL cy (vp_updL f3 ((0 : Int32).toNatClampNeg) (x.toInt64)))]) (cx := XLW cy o3 o4 am (vp_updL f3 ((0 : Int32).toNatClampNeg) (x.toInt64)) f4 r) [12, 0, 1, 2, 3, 4, 5, 6, 7, 8, 9, 10, 11] (by decide) rfl
    generalize H1 = H at hP hS ⊢
    have hl : lv_has ls 10 [(5, .int (nI (4 * n))), (4, .ref o4), (3, .ref o3), (2, .ref (am 0)), (1, .ref (ad' .cl)), (0, .ref b)] := by rw [(axz .cl True.intro).2]; exact hl
    clear hP1 hD1 hPc hDc hFc hk1 hz1 hvm ht
    refine lv_istore (lv' := [(6, .int rw9), (5, .int (nI (4 * n))), (4, .ref o4), (3, .ref o3), (2, .ref (am 0)), (1, .ref (ad' .cl)), (0, .ref b)]) hx hb dL_law_1349 hl (by decide) rfl (fun ls hl => ?_)
    refine lv_aload_n hx hb dL_law_1351 rfl (lv_at hl 4 rfl) ?_
    refine lv_aload_n hx hb dL_law_1352 rfl (lv_at hl 6 rfl) ?_
    refine lv_iload hx hb dL_law_1353 (lv_at hl 1 rfl) ?_
    refine lv_iconst (v := 1) hx hb dL_law_1355 (by decide) ?_
    refine lv_iadd hx hb dL_law_1356 ?_
    refine my_topi (y := nI (4 * n + 1)) (nI_add (4 * n) 1) ?_
    refine va_sld hx hb hX hbl hbA hS (vp_in_nI (n := 4 * n + 1) (by omega) (by omega)) dL_law_1357 ?_
    refine my_topi (y := xs (4 * n + 1)) (congrArg xs (nI_clamp (by omega))) ?_
    have hPc := hP.sub (ws' := (WM cy am r)) [2, 3, 4, 5, 6, 7, 8, 9, 10, 11, 12] rfl
    have hDc := hD.sub (ws' := (WM cy am r)) [2, 3, 4, 5, 6, 7, 8, 9, 10, 11, 12] (by decide) rfl
    have hFc := va_free (wc := (WM cy am r)) hD hS hA [2, 3, 4, 5, 6, 7, 8, 9, 10, 11, 12] rfl
    refine va_calli (va_runV (As := [.int (xs (4 * n + 1))]) (rest := []) ⟨hx, hb, hml, hown, hts⟩ (k_X8_setTries l dC dI cy nb am r ((xs (4 * n + 1))) x (r2) H.size e1) (cwV 1 hts (gV mw_1118 mw_1119 mw_1120 mw_5 mw_1121) rfl rfl rfl (by decide +kernel) ⟨Nat.le_of_ble_eq_true rfl, Nat.le_of_ble_eq_true rfl⟩) (my_preV hPc hK hDc hE hS hFc (va_recv (q := (RX8, TX8, 23)) hK hP (ci := 8) (q0 := 2) rfl rfl)) rfl rfl hl.1 rfl (lv_room (Nat.le_of_ble_eq_true rfl)) dL_law_1358 ⟨by show _ ≤ 601024; omega, by show _ ≤ 7293034; omega⟩) hS (fun q _ h => hFc q h) hFc (fun rm9 u9 t9 H1 locs ht hvm hwm hB hz1 hk1 hS => ?_)
    obtain ⟨hP1, hD1⟩ := hB
    rw [ht] at hP1
    obtain ⟨hP, hD⟩ := va_joinQ (X := XLW cy o3 o4 am (vp_updL f3 ((0 : Int32).toNatClampNeg) (x.toInt64)) f4 r) (cx := (WM cy am r)) (wr := [(o3, eL cy (vp_updL f3 ((0 : Int32).toNatClampNeg) (x.toInt64))), (o4, eD cy f4)]) (w1 := (WM cy am (r2))) (pl := WC cy ad' ks' c2g c2) hP hD [2, 3, 4, 5, 6, 7, 8, 9, 10, 11, 12] [0, 1] rfl rfl (by decide) (by decide) hk1 hFc hP1 hD1
    have hP : va_P (dC, dI) vwCl (XLW cy o3 o4 am (vp_updL f3 ((0 : Int32).toNatClampNeg) (x.toInt64)) f4 r2 ++ WC cy ad' ks' c2g c2) H1 := hP
    have hD : va_D (fun q : Nat => s.heap.size ≤ q) (XLW cy o3 o4 am (vp_updL f3 ((0 : Int32).toNatClampNeg) (x.toInt64)) f4 r2 ++ WC cy ad' ks' c2g c2) := hD
    generalize H1 = H at hP hS ⊢
    clear hP1 hD1 hPc hDc hFc hk1 hz1 hvm ht
    refine my_topi hwm ?_
    refine lv_istore (lv' := [(7, .int x), (6, .int rw9), (5, .int (nI (4 * n))), (4, .ref o4), (3, .ref o3), (2, .ref (am 0)), (1, .ref (ad' .cl)), (0, .ref b)]) hx hb dL_law_1361 hl (by decide) rfl (fun ls hl => ?_)
    refine lv_goto (tgt := 1819) hx hb dL_law_1363 (by decide) ?_
    refine W.widen (k := cells + 603) (n := slots + 9640) (by omega) (by omega) ?_
    exact K H locs ls ⟨ad', ks', c2g, c2, r2, (vp_updL f3 ((0 : Int32).toNatClampNeg) (x.toInt64)), f4, hkz, e3.mono (by omega) (by omega) (by omega), hP, hD, hS, lv_sub hl [2, 3, 4, 5, 6, 7] rfl⟩
  · have e2 : C7_setTries g u (xs (4 * n + 1)) = some (.inl (nI (k + 1))) := e2
    generalize hxx : (nI (k + 1)) = xk at e2
    have hxk : ¬ xk = 1 := by rw [← hxx]; exact nI_ne (b := 1) (by omega) (by omega) (by omega)
    refine lv_aload_n hx hb dL_law_1338 rfl (lv_at hl 4 rfl) ?_
    refine lv_aload_n hx hb dL_law_1339 rfl (lv_at hl 5 rfl) ?_
    refine lv_iload hx hb dL_law_1340 (lv_at hl 0 rfl) ?_
    refine lv_iconst (v := 1) hx hb dL_law_1342 (by decide) ?_
    refine lv_iadd hx hb dL_law_1343 ?_
    refine my_topi (y := nI (4 * n + 1)) (nI_add (4 * n) 1) ?_
    refine va_sld hx hb hX hbl hbA hS (vp_in_nI (n := 4 * n + 1) (by omega) (by omega)) dL_law_1344 ?_
    refine my_topi (y := xs (4 * n + 1)) (congrArg xs (nI_clamp (by omega))) ?_
    refine lv_aload_n hx hb dL_law_1345 rfl (lv_at hl 2 rfl) ?_
    have hPc : va_P (dC, dI) vwCl ([(o3, eL cy f3)] ++ WC cy ad ks g u) H := hP.part (X := XLW cy o3 o4 am f3 f4 r) (cx := [(o3, eL cy f3)]) [0] rfl
    have hDc : va_D (fun q : Nat => s.heap.size ≤ q) ([(o3, eL cy f3)] ++ WC cy ad ks g u) := hD.part (X := XLW cy o3 o4 am f3 f4 r) (cx := [(o3, eL cy f3)]) [0] (by decide) rfl
    have hFc : ∀ q, va_A ([(o3, eL cy f3)] ++ WC cy ad ks g u) H.size q → s.heap.size ≤ q := va_freeP (X := XLW cy o3 o4 am f3 f4 r) (cx := [(o3, eL cy f3)]) hD hS hA [0] rfl
    refine vx_calli (vx_runSX (As := [.ref (ad .cl), .int (xs (4 * n + 1)), .ref o3]) (rest := []) ⟨hx, hb, hml, hown, hts⟩ (ct_setTries l hst dC dI cy nb ad ks g hk u ((xs (4 * n + 1))) o3 f3 xk H.size hxk e2) (vx_cwSW 3 hts (gSH mw_1111 mw_1112 mw_562 mw_1113) rfl rfl rfl (by decide +kernel) ⟨Nat.le_of_ble_eq_true rfl, Nat.le_of_ble_eq_true rfl⟩) (my_preS hPc hK hDc hE hS hFc) rfl rfl hl.1 rfl (lv_room (Nat.le_of_ble_eq_true rfl)) dL_law_1346 ⟨by show _ ≤ 601024; omega, by show _ ≤ 7293034; omega⟩) hS (fun q _ h => hFc q h) hFc (fun q _ h => hFc q h) (fun E9 ce9 q9 u9 t9 H1 locs1 ht9 hvm9 hp9 _ _ _ _ _ _ _ => hp9.elim) (fun rw9 u9 t9 H1 locs ht hvm hw hB hz1 hk1 hS => ?_)
    obtain ⟨hP1, hD1⟩ := hB
    rw [ht] at hP1
    obtain ⟨hP, hD⟩ := va_joinP (X := XLW cy o3 o4 am f3 f4 r) (cx := [(o3, eL cy f3)]) (wr := ((o4, eD cy f4) :: WM cy am r)) (rx := [(o3, eL cy f3)]) (pl := WC cy ad ks g u) (pl1 := WC cy ad ks g u) hP hD [0] [1, 2, 3, 4, 5, 6, 7, 8, 9, 10, 11, 12] rfl rfl (by decide) (by decide) hk1 hFc hP1 hD1
    have hP : va_P (dC, dI) vwCl (XLW cy o3 o4 am f3 f4 r ++ WC cy ad ks g u) H1 := hP.part (X := ((o4, eD cy f4) :: WM cy am r) ++ [(o3, eL cy f3)]) (cx := XLW cy o3 o4 am f3 f4 r) [12, 0, 1, 2, 3, 4, 5, 6, 7, 8, 9, 10, 11] rfl
    have hD : va_D (fun q : Nat => s.heap.size ≤ q) (XLW cy o3 o4 am f3 f4 r ++ WC cy ad ks g u) := hD.part (X := ((o4, eD cy f4) :: WM cy am r) ++ [(o3, eL cy f3)]) (cx := XLW cy o3 o4 am f3 f4 r) [12, 0, 1, 2, 3, 4, 5, 6, 7, 8, 9, 10, 11] (by decide) rfl
    generalize H1 = H at hP hS ⊢
    clear hP1 hD1 hPc hDc hFc hk1 hz1 hvm ht
    refine lv_istore (lv' := [(6, .int rw9), (5, .int (nI (4 * n))), (4, .ref o4), (3, .ref o3), (2, .ref (am 0)), (1, .ref (ad .cl)), (0, .ref b)]) hx hb dL_law_1349 hl (by decide) rfl (fun ls hl => ?_)
    refine lv_aload_n hx hb dL_law_1351 rfl (lv_at hl 4 rfl) ?_
    refine lv_aload_n hx hb dL_law_1352 rfl (lv_at hl 6 rfl) ?_
    refine lv_iload hx hb dL_law_1353 (lv_at hl 1 rfl) ?_
    refine lv_iconst (v := 1) hx hb dL_law_1355 (by decide) ?_
    refine lv_iadd hx hb dL_law_1356 ?_
    refine my_topi (y := nI (4 * n + 1)) (nI_add (4 * n) 1) ?_
    refine va_sld hx hb hX hbl hbA hS (vp_in_nI (n := 4 * n + 1) (by omega) (by omega)) dL_law_1357 ?_
    refine my_topi (y := xs (4 * n + 1)) (congrArg xs (nI_clamp (by omega))) ?_
    have hPc := hP.sub (ws' := (WM cy am r)) [2, 3, 4, 5, 6, 7, 8, 9, 10, 11, 12] rfl
    have hDc := hD.sub (ws' := (WM cy am r)) [2, 3, 4, 5, 6, 7, 8, 9, 10, 11, 12] (by decide) rfl
    have hFc := va_free (wc := (WM cy am r)) hD hS hA [2, 3, 4, 5, 6, 7, 8, 9, 10, 11, 12] rfl
    refine va_calli (va_runV (As := [.int (xs (4 * n + 1))]) (rest := []) ⟨hx, hb, hml, hown, hts⟩ (k_X8_setTries l dC dI cy nb am r ((xs (4 * n + 1))) (nI 0) (th r k) H.size e1) (cwV 1 hts (gV mw_1118 mw_1119 mw_1120 mw_5 mw_1121) rfl rfl rfl (by decide +kernel) ⟨Nat.le_of_ble_eq_true rfl, Nat.le_of_ble_eq_true rfl⟩) (my_preV hPc hK hDc hE hS hFc (va_recv (q := (RX8, TX8, 23)) hK hP (ci := 8) (q0 := 2) rfl rfl)) rfl rfl hl.1 rfl (lv_room (Nat.le_of_ble_eq_true rfl)) dL_law_1358 ⟨by show _ ≤ 601024; omega, by show _ ≤ 7293034; omega⟩) hS (fun q _ h => hFc q h) hFc (fun rm9 u9 t9 H1 locs ht hvm hwm hB hz1 hk1 hS => ?_)
    obtain ⟨hP1, hD1⟩ := hB
    rw [ht] at hP1
    obtain ⟨hP, hD⟩ := va_joinQ (X := XLW cy o3 o4 am f3 f4 r) (cx := (WM cy am r)) (wr := [(o3, eL cy f3), (o4, eD cy f4)]) (w1 := (WM cy am (th r k))) (pl := WC cy ad ks g u) hP hD [2, 3, 4, 5, 6, 7, 8, 9, 10, 11, 12] [0, 1] rfl rfl (by decide) (by decide) hk1 hFc hP1 hD1
    have hP : va_P (dC, dI) vwCl (XLW cy o3 o4 am f3 f4 (th r k) ++ WC cy ad ks g u) H1 := hP
    have hD : va_D (fun q : Nat => s.heap.size ≤ q) (XLW cy o3 o4 am f3 f4 (th r k) ++ WC cy ad ks g u) := hD
    generalize H1 = H at hP hS ⊢
    clear hP1 hD1 hPc hDc hFc hk1 hz1 hvm ht
    refine my_topi hwm ?_
    refine lv_istore (lv' := [(7, .int (nI 0)), (6, .int rw9), (5, .int (nI (4 * n))), (4, .ref o4), (3, .ref o3), (2, .ref (am 0)), (1, .ref (ad .cl)), (0, .ref b)]) hx hb dL_law_1361 hl (by decide) rfl (fun ls hl => ?_)
    refine lv_goto (tgt := 1819) hx hb dL_law_1363 (by decide) ?_
    refine W.widen (k := cells + 603) (n := slots + 9640) (by omega) (by omega) ?_
    exact K H locs ls ⟨ad, ks, g, u, (th r k), f3, f4, hk, (hGI.thr).mono (by omega) (by omega) (by omega), hP, hD, hS, lv_sub hl [2, 3, 4, 5, 6, 7] rfl⟩
set_option maxHeartbeats 8000000 in
set_option maxRecDepth 100000 in
theorem law_c34 {p : Program} {e : Env} {s : State} {m : MethodId} {below : List Frame} {meth : Method} {c : Code} (l : Launch) (hst : l.stackTraces = false) {b L : Nat} {xs : Nat → Int32} (dC : Nat → ClassId) (dI : Nat → Nat → Nat) (cy : Nat → ClassId) (nb : Nat → Nat) (o3 o4 : Nat) (am : Nat → Nat) {n : Nat} (hn : n < 512) (hL : 4 * n + 4 ≤ L) (hL2 : L ≤ 2048) (C0 : LX p s m meth c b L xs dC dI cy nb) {Q : State → Prop} {H : Heap} {locs : List Loc} {ls : Array Slot} {cells slots : Nat} (hc : cells ≤ 400000) (hs : slots ≤ 6000000) (h : LSt s dC dI cy nb b o3 o4 am n (4 * n) H locs ls) (K : ∀ (H : Heap) (locs : List Loc) (ls : Array Slot), LSt s dC dI cy nb b o3 o4 am (n + 1) (4 * n) H locs ls → W p l e room_1 s m #[Value.ref b] below meth c H locs (cells + 603) (slots + 9640) Q (F0 m 1819 ls [])) : W p l e room_1 s m #[Value.ref b] below meth c H locs cells slots Q (F0 m 1366 ls []) := by
  obtain ⟨hx, hb, hr, hml, hown, hts, hX, hbl, hlocks, hK, hE⟩ := C0
  have hA : ∀ q : Nat, s.heap.size ≤ q → (fun q : Nat => s.heap.size ≤ q) q := fun _ h => h
  have hbA : ¬ (fun q : Nat => s.heap.size ≤ q) b := Nat.not_le.mpr hbl
  obtain ⟨ad, ks, g, u, r, f3, f4, hk, hGI, hP, hD, hS, hl⟩ := h
  have h9 : AT (F8_setTray r (xs (4 * n + 1))) (C7_setTray g u (xs (4 * n + 1))) r 1 (2001 * n) (602 * n) := a_setTray hGI
  rcases h9 with ⟨x, r2, c2, c2g, e1, e2, e3, e6⟩ | ⟨k, k1, k2, e1, e2⟩
  · refine lv_aload_n hx hb dL_law_1366 rfl (lv_at hl 4 rfl) ?_
    refine lv_aload_n hx hb dL_law_1367 rfl (lv_at hl 5 rfl) ?_
    refine lv_iload hx hb dL_law_1368 (lv_at hl 0 rfl) ?_
    refine lv_iconst (v := 1) hx hb dL_law_1370 (by decide) ?_
    refine lv_iadd hx hb dL_law_1371 ?_
    refine my_topi (y := nI (4 * n + 1)) (nI_add (4 * n) 1) ?_
    refine va_sld hx hb hX hbl hbA hS (vp_in_nI (n := 4 * n + 1) (by omega) (by omega)) dL_law_1372 ?_
    refine my_topi (y := xs (4 * n + 1)) (congrArg xs (nI_clamp (by omega))) ?_
    refine lv_aload_n hx hb dL_law_1373 rfl (lv_at hl 2 rfl) ?_
    have hPc : va_P (dC, dI) vwCl ([(o3, eL cy f3)] ++ WC cy ad ks g u) H := hP.part (X := XLW cy o3 o4 am f3 f4 r) (cx := [(o3, eL cy f3)]) [0] rfl
    have hDc : va_D (fun q : Nat => s.heap.size ≤ q) ([(o3, eL cy f3)] ++ WC cy ad ks g u) := hD.part (X := XLW cy o3 o4 am f3 f4 r) (cx := [(o3, eL cy f3)]) [0] (by decide) rfl
    have hFc : ∀ q, va_A ([(o3, eL cy f3)] ++ WC cy ad ks g u) H.size q → s.heap.size ≤ q := va_freeP (X := XLW cy o3 o4 am f3 f4 r) (cx := [(o3, eL cy f3)]) hD hS hA [0] rfl
    refine vx_calli (vx_runSX (As := [.ref (ad .cl), .int (xs (4 * n + 1)), .ref o3]) (rest := []) ⟨hx, hb, hml, hown, hts⟩ (cn_setTray l hst dC dI cy nb ad ks g hk u ((xs (4 * n + 1))) o3 f3 x c2g c2 H.size e2) (vx_cwSW 3 hts (gSH mw_1122 mw_1123 mw_562 mw_1124) rfl rfl rfl (by decide +kernel) ⟨Nat.le_of_ble_eq_true rfl, Nat.le_of_ble_eq_true rfl⟩) (my_preS hPc hK hDc hE hS hFc) rfl rfl hl.1 rfl (lv_room (Nat.le_of_ble_eq_true rfl)) dL_law_1374 ⟨by show _ ≤ 601024; omega, by show _ ≤ 7293034; omega⟩) hS (fun q _ h => hFc q h) hFc (fun q _ h => hFc q h) (fun E9 ce9 q9 u9 t9 H1 locs1 ht9 hvm9 hp9 _ _ _ _ _ _ _ => hp9.elim) (fun rw9 u9 t9 H1 locs ht hvm hw hB hz1 hk1 hS => ?_)
    obtain ⟨ad', ks', hkz, axz, hP1, hD1⟩ := hB
    rw [ht] at hP1
    obtain ⟨hP, hD⟩ := va_joinP (X := XLW cy o3 o4 am f3 f4 r) (cx := [(o3, eL cy f3)]) (wr := ((o4, eD cy f4) :: WM cy am r)) (rx := [(o3, eL cy (vp_updL f3 ((0 : Int32).toNatClampNeg) (x.toInt64)))]) (pl := WC cy ad ks g u) (pl1 := WC cy ad' ks' c2g c2) hP hD [0] [1, 2, 3, 4, 5, 6, 7, 8, 9, 10, 11, 12] rfl rfl (by decide) (by decide) hk1 hFc hP1 hD1
    have hP : va_P (dC, dI) vwCl (XLW cy o3 o4 am (vp_updL f3 ((0 : Int32).toNatClampNeg) (x.toInt64)) f4 r ++ WC cy ad' ks' c2g c2) H1 := hP.part (X := ((o4, eD cy f4) :: WM cy am r) ++ [(o3, eL cy (vp_updL f3 ((0 : Int32).toNatClampNeg) (x.toInt64)))]) (cx := XLW cy o3 o4 am (vp_updL f3 ((0 : Int32).toNatClampNeg) (x.toInt64)) f4 r) [12, 0, 1, 2, 3, 4, 5, 6, 7, 8, 9, 10, 11] rfl
    have hD : va_D (fun q : Nat => s.heap.size ≤ q) (XLW cy o3 o4 am (vp_updL f3 ((0 : Int32).toNatClampNeg) (x.toInt64)) f4 r ++ WC cy ad' ks' c2g c2) := hD.part (X := ((o4, eD cy f4) :: WM cy am r) ++ [(o3, eL cy (vp_updL f3 ((0 : Int32).toNatClampNeg) (x.toInt64)))]) (cx := XLW cy o3 o4 am (vp_updL f3 ((0 : Int32).toNatClampNeg) (x.toInt64)) f4 r) [12, 0, 1, 2, 3, 4, 5, 6, 7, 8, 9, 10, 11] (by decide) rfl
    generalize H1 = H at hP hS ⊢
    have hl : lv_has ls 10 [(5, .int (nI (4 * n))), (4, .ref o4), (3, .ref o3), (2, .ref (am 0)), (1, .ref (ad' .cl)), (0, .ref b)] := by rw [(axz .cl True.intro).2]; exact hl
    clear hP1 hD1 hPc hDc hFc hk1 hz1 hvm ht
    refine lv_istore (lv' := [(6, .int rw9), (5, .int (nI (4 * n))), (4, .ref o4), (3, .ref o3), (2, .ref (am 0)), (1, .ref (ad' .cl)), (0, .ref b)]) hx hb dL_law_1377 hl (by decide) rfl (fun ls hl => ?_)
    refine lv_aload_n hx hb dL_law_1379 rfl (lv_at hl 4 rfl) ?_
    refine lv_aload_n hx hb dL_law_1380 rfl (lv_at hl 6 rfl) ?_
    refine lv_iload hx hb dL_law_1381 (lv_at hl 1 rfl) ?_
    refine lv_iconst (v := 1) hx hb dL_law_1383 (by decide) ?_
    refine lv_iadd hx hb dL_law_1384 ?_
    refine my_topi (y := nI (4 * n + 1)) (nI_add (4 * n) 1) ?_
    refine va_sld hx hb hX hbl hbA hS (vp_in_nI (n := 4 * n + 1) (by omega) (by omega)) dL_law_1385 ?_
    refine my_topi (y := xs (4 * n + 1)) (congrArg xs (nI_clamp (by omega))) ?_
    have hPc := hP.sub (ws' := (WM cy am r)) [2, 3, 4, 5, 6, 7, 8, 9, 10, 11, 12] rfl
    have hDc := hD.sub (ws' := (WM cy am r)) [2, 3, 4, 5, 6, 7, 8, 9, 10, 11, 12] (by decide) rfl
    have hFc := va_free (wc := (WM cy am r)) hD hS hA [2, 3, 4, 5, 6, 7, 8, 9, 10, 11, 12] rfl
    refine va_calli (va_runV (As := [.int (xs (4 * n + 1))]) (rest := []) ⟨hx, hb, hml, hown, hts⟩ (k_X8_setTray l dC dI cy nb am r ((xs (4 * n + 1))) x (r2) H.size e1) (cwV 1 hts (gV mw_1129 mw_1130 mw_1131 mw_5 mw_1132) rfl rfl rfl (by decide +kernel) ⟨Nat.le_of_ble_eq_true rfl, Nat.le_of_ble_eq_true rfl⟩) (my_preV hPc hK hDc hE hS hFc (va_recv (q := (RX8, TX8, 23)) hK hP (ci := 8) (q0 := 2) rfl rfl)) rfl rfl hl.1 rfl (lv_room (Nat.le_of_ble_eq_true rfl)) dL_law_1386 ⟨by show _ ≤ 601024; omega, by show _ ≤ 7293034; omega⟩) hS (fun q _ h => hFc q h) hFc (fun rm9 u9 t9 H1 locs ht hvm hwm hB hz1 hk1 hS => ?_)
    obtain ⟨hP1, hD1⟩ := hB
    rw [ht] at hP1
    obtain ⟨hP, hD⟩ := va_joinQ (X := XLW cy o3 o4 am (vp_updL f3 ((0 : Int32).toNatClampNeg) (x.toInt64)) f4 r) (cx := (WM cy am r)) (wr := [(o3, eL cy (vp_updL f3 ((0 : Int32).toNatClampNeg) (x.toInt64))), (o4, eD cy f4)]) (w1 := (WM cy am (r2))) (pl := WC cy ad' ks' c2g c2) hP hD [2, 3, 4, 5, 6, 7, 8, 9, 10, 11, 12] [0, 1] rfl rfl (by decide) (by decide) hk1 hFc hP1 hD1
    have hP : va_P (dC, dI) vwCl (XLW cy o3 o4 am (vp_updL f3 ((0 : Int32).toNatClampNeg) (x.toInt64)) f4 r2 ++ WC cy ad' ks' c2g c2) H1 := hP
    have hD : va_D (fun q : Nat => s.heap.size ≤ q) (XLW cy o3 o4 am (vp_updL f3 ((0 : Int32).toNatClampNeg) (x.toInt64)) f4 r2 ++ WC cy ad' ks' c2g c2) := hD
    generalize H1 = H at hP hS ⊢
    clear hP1 hD1 hPc hDc hFc hk1 hz1 hvm ht
    refine my_topi hwm ?_
    refine lv_istore (lv' := [(7, .int x), (6, .int rw9), (5, .int (nI (4 * n))), (4, .ref o4), (3, .ref o3), (2, .ref (am 0)), (1, .ref (ad' .cl)), (0, .ref b)]) hx hb dL_law_1389 hl (by decide) rfl (fun ls hl => ?_)
    refine lv_goto (tgt := 1819) hx hb dL_law_1391 (by decide) ?_
    refine W.widen (k := cells + 603) (n := slots + 9640) (by omega) (by omega) ?_
    exact K H locs ls ⟨ad', ks', c2g, c2, r2, (vp_updL f3 ((0 : Int32).toNatClampNeg) (x.toInt64)), f4, hkz, e3.mono (by omega) (by omega) (by omega), hP, hD, hS, lv_sub hl [2, 3, 4, 5, 6, 7] rfl⟩
  · have e2 : C7_setTray g u (xs (4 * n + 1)) = some (.inl (nI (k + 1))) := e2
    generalize hxx : (nI (k + 1)) = xk at e2
    have hxk : ¬ xk = 1 := by rw [← hxx]; exact nI_ne (b := 1) (by omega) (by omega) (by omega)
    refine lv_aload_n hx hb dL_law_1366 rfl (lv_at hl 4 rfl) ?_
    refine lv_aload_n hx hb dL_law_1367 rfl (lv_at hl 5 rfl) ?_
    refine lv_iload hx hb dL_law_1368 (lv_at hl 0 rfl) ?_
    refine lv_iconst (v := 1) hx hb dL_law_1370 (by decide) ?_
    refine lv_iadd hx hb dL_law_1371 ?_
    refine my_topi (y := nI (4 * n + 1)) (nI_add (4 * n) 1) ?_
    refine va_sld hx hb hX hbl hbA hS (vp_in_nI (n := 4 * n + 1) (by omega) (by omega)) dL_law_1372 ?_
    refine my_topi (y := xs (4 * n + 1)) (congrArg xs (nI_clamp (by omega))) ?_
    refine lv_aload_n hx hb dL_law_1373 rfl (lv_at hl 2 rfl) ?_
    have hPc : va_P (dC, dI) vwCl ([(o3, eL cy f3)] ++ WC cy ad ks g u) H := hP.part (X := XLW cy o3 o4 am f3 f4 r) (cx := [(o3, eL cy f3)]) [0] rfl
    have hDc : va_D (fun q : Nat => s.heap.size ≤ q) ([(o3, eL cy f3)] ++ WC cy ad ks g u) := hD.part (X := XLW cy o3 o4 am f3 f4 r) (cx := [(o3, eL cy f3)]) [0] (by decide) rfl
    have hFc : ∀ q, va_A ([(o3, eL cy f3)] ++ WC cy ad ks g u) H.size q → s.heap.size ≤ q := va_freeP (X := XLW cy o3 o4 am f3 f4 r) (cx := [(o3, eL cy f3)]) hD hS hA [0] rfl
    refine vx_calli (vx_runSX (As := [.ref (ad .cl), .int (xs (4 * n + 1)), .ref o3]) (rest := []) ⟨hx, hb, hml, hown, hts⟩ (ct_setTray l hst dC dI cy nb ad ks g hk u ((xs (4 * n + 1))) o3 f3 xk H.size hxk e2) (vx_cwSW 3 hts (gSH mw_1122 mw_1123 mw_562 mw_1124) rfl rfl rfl (by decide +kernel) ⟨Nat.le_of_ble_eq_true rfl, Nat.le_of_ble_eq_true rfl⟩) (my_preS hPc hK hDc hE hS hFc) rfl rfl hl.1 rfl (lv_room (Nat.le_of_ble_eq_true rfl)) dL_law_1374 ⟨by show _ ≤ 601024; omega, by show _ ≤ 7293034; omega⟩) hS (fun q _ h => hFc q h) hFc (fun q _ h => hFc q h) (fun E9 ce9 q9 u9 t9 H1 locs1 ht9 hvm9 hp9 _ _ _ _ _ _ _ => hp9.elim) (fun rw9 u9 t9 H1 locs ht hvm hw hB hz1 hk1 hS => ?_)
    obtain ⟨hP1, hD1⟩ := hB
    rw [ht] at hP1
    obtain ⟨hP, hD⟩ := va_joinP (X := XLW cy o3 o4 am f3 f4 r) (cx := [(o3, eL cy f3)]) (wr := ((o4, eD cy f4) :: WM cy am r)) (rx := [(o3, eL cy f3)]) (pl := WC cy ad ks g u) (pl1 := WC cy ad ks g u) hP hD [0] [1, 2, 3, 4, 5, 6, 7, 8, 9, 10, 11, 12] rfl rfl (by decide) (by decide) hk1 hFc hP1 hD1
    have hP : va_P (dC, dI) vwCl (XLW cy o3 o4 am f3 f4 r ++ WC cy ad ks g u) H1 := hP.part (X := ((o4, eD cy f4) :: WM cy am r) ++ [(o3, eL cy f3)]) (cx := XLW cy o3 o4 am f3 f4 r) [12, 0, 1, 2, 3, 4, 5, 6, 7, 8, 9, 10, 11] rfl
    have hD : va_D (fun q : Nat => s.heap.size ≤ q) (XLW cy o3 o4 am f3 f4 r ++ WC cy ad ks g u) := hD.part (X := ((o4, eD cy f4) :: WM cy am r) ++ [(o3, eL cy f3)]) (cx := XLW cy o3 o4 am f3 f4 r) [12, 0, 1, 2, 3, 4, 5, 6, 7, 8, 9, 10, 11] (by decide) rfl
    generalize H1 = H at hP hS ⊢
    clear hP1 hD1 hPc hDc hFc hk1 hz1 hvm ht
    refine lv_istore (lv' := [(6, .int rw9), (5, .int (nI (4 * n))), (4, .ref o4), (3, .ref o3), (2, .ref (am 0)), (1, .ref (ad .cl)), (0, .ref b)]) hx hb dL_law_1377 hl (by decide) rfl (fun ls hl => ?_)
    refine lv_aload_n hx hb dL_law_1379 rfl (lv_at hl 4 rfl) ?_
    refine lv_aload_n hx hb dL_law_1380 rfl (lv_at hl 6 rfl) ?_
    refine lv_iload hx hb dL_law_1381 (lv_at hl 1 rfl) ?_
    refine lv_iconst (v := 1) hx hb dL_law_1383 (by decide) ?_
    refine lv_iadd hx hb dL_law_1384 ?_
    refine my_topi (y := nI (4 * n + 1)) (nI_add (4 * n) 1) ?_
    refine va_sld hx hb hX hbl hbA hS (vp_in_nI (n := 4 * n + 1) (by omega) (by omega)) dL_law_1385 ?_
    refine my_topi (y := xs (4 * n + 1)) (congrArg xs (nI_clamp (by omega))) ?_
    have hPc := hP.sub (ws' := (WM cy am r)) [2, 3, 4, 5, 6, 7, 8, 9, 10, 11, 12] rfl
    have hDc := hD.sub (ws' := (WM cy am r)) [2, 3, 4, 5, 6, 7, 8, 9, 10, 11, 12] (by decide) rfl
    have hFc := va_free (wc := (WM cy am r)) hD hS hA [2, 3, 4, 5, 6, 7, 8, 9, 10, 11, 12] rfl
    refine va_calli (va_runV (As := [.int (xs (4 * n + 1))]) (rest := []) ⟨hx, hb, hml, hown, hts⟩ (k_X8_setTray l dC dI cy nb am r ((xs (4 * n + 1))) (nI 0) (th r k) H.size e1) (cwV 1 hts (gV mw_1129 mw_1130 mw_1131 mw_5 mw_1132) rfl rfl rfl (by decide +kernel) ⟨Nat.le_of_ble_eq_true rfl, Nat.le_of_ble_eq_true rfl⟩) (my_preV hPc hK hDc hE hS hFc (va_recv (q := (RX8, TX8, 23)) hK hP (ci := 8) (q0 := 2) rfl rfl)) rfl rfl hl.1 rfl (lv_room (Nat.le_of_ble_eq_true rfl)) dL_law_1386 ⟨by show _ ≤ 601024; omega, by show _ ≤ 7293034; omega⟩) hS (fun q _ h => hFc q h) hFc (fun rm9 u9 t9 H1 locs ht hvm hwm hB hz1 hk1 hS => ?_)
    obtain ⟨hP1, hD1⟩ := hB
    rw [ht] at hP1
    obtain ⟨hP, hD⟩ := va_joinQ (X := XLW cy o3 o4 am f3 f4 r) (cx := (WM cy am r)) (wr := [(o3, eL cy f3), (o4, eD cy f4)]) (w1 := (WM cy am (th r k))) (pl := WC cy ad ks g u) hP hD [2, 3, 4, 5, 6, 7, 8, 9, 10, 11, 12] [0, 1] rfl rfl (by decide) (by decide) hk1 hFc hP1 hD1
    have hP : va_P (dC, dI) vwCl (XLW cy o3 o4 am f3 f4 (th r k) ++ WC cy ad ks g u) H1 := hP
    have hD : va_D (fun q : Nat => s.heap.size ≤ q) (XLW cy o3 o4 am f3 f4 (th r k) ++ WC cy ad ks g u) := hD
    generalize H1 = H at hP hS ⊢
    clear hP1 hD1 hPc hDc hFc hk1 hz1 hvm ht
    refine my_topi hwm ?_
    refine lv_istore (lv' := [(7, .int (nI 0)), (6, .int rw9), (5, .int (nI (4 * n))), (4, .ref o4), (3, .ref o3), (2, .ref (am 0)), (1, .ref (ad .cl)), (0, .ref b)]) hx hb dL_law_1389 hl (by decide) rfl (fun ls hl => ?_)
    refine lv_goto (tgt := 1819) hx hb dL_law_1391 (by decide) ?_
    refine W.widen (k := cells + 603) (n := slots + 9640) (by omega) (by omega) ?_
    exact K H locs ls ⟨ad, ks, g, u, (th r k), f3, f4, hk, (hGI.thr).mono (by omega) (by omega) (by omega), hP, hD, hS, lv_sub hl [2, 3, 4, 5, 6, 7] rfl⟩
end
section
set_option maxHeartbeats 8000000 in
set_option maxRecDepth 100000 in
theorem law_c35 {p : Program} {e : Env} {s : State} {m : MethodId} {below : List Frame} {meth : Method} {c : Code} (l : Launch) (hst : l.stackTraces = false) {b L : Nat} {xs : Nat → Int32} (dC : Nat → ClassId) (dI : Nat → Nat → Nat) (cy : Nat → ClassId) (nb : Nat → Nat) (o3 o4 : Nat) (am : Nat → Nat) {n : Nat} (hn : n < 512) (hL : 4 * n + 4 ≤ L) (hL2 : L ≤ 2048) (C0 : LX p s m meth c b L xs dC dI cy nb) {Q : State → Prop} {H : Heap} {locs : List Loc} {ls : Array Slot} {cells slots : Nat} (hc : cells ≤ 400000) (hs : slots ≤ 6000000) (h : LSt s dC dI cy nb b o3 o4 am n (4 * n) H locs ls) (K : ∀ (H : Heap) (locs : List Loc) (ls : Array Slot), LSt s dC dI cy nb b o3 o4 am (n + 1) (4 * n) H locs ls → W p l e room_1 s m #[Value.ref b] below meth c H locs (cells + 603) (slots + 9640) Q (F0 m 1819 ls [])) : W p l e room_1 s m #[Value.ref b] below meth c H locs cells slots Q (F0 m 1394 ls []) := by
  obtain ⟨hx, hb, hr, hml, hown, hts, hX, hbl, hlocks, hK, hE⟩ := C0
  have hA : ∀ q : Nat, s.heap.size ≤ q → (fun q : Nat => s.heap.size ≤ q) q := fun _ h => h
  have hbA : ¬ (fun q : Nat => s.heap.size ≤ q) b := Nat.not_le.mpr hbl
  obtain ⟨ad, ks, g, u, r, f3, f4, hk, hGI, hP, hD, hS, hl⟩ := h
  have h9 : AT (F8_run r (xs (4 * n + 1))) (C7_run g u (xs (4 * n + 1))) r 1 (2001 * n + 2000) (602 * n) := a_run hGI (by omega) (by omega)
  rcases h9 with ⟨x, r2, c2, c2g, e1, e2, e3, e6⟩ | ⟨k, k1, k2, e1, e2⟩
  · refine lv_aload_n hx hb dL_law_1394 rfl (lv_at hl 4 rfl) ?_
    refine lv_aload_n hx hb dL_law_1395 rfl (lv_at hl 5 rfl) ?_
    refine lv_iload hx hb dL_law_1396 (lv_at hl 0 rfl) ?_
    refine lv_iconst (v := 1) hx hb dL_law_1398 (by decide) ?_
    refine lv_iadd hx hb dL_law_1399 ?_
    refine my_topi (y := nI (4 * n + 1)) (nI_add (4 * n) 1) ?_
    refine va_sld hx hb hX hbl hbA hS (vp_in_nI (n := 4 * n + 1) (by omega) (by omega)) dL_law_1400 ?_
    refine my_topi (y := xs (4 * n + 1)) (congrArg xs (nI_clamp (by omega))) ?_
    refine lv_aload_n hx hb dL_law_1401 rfl (lv_at hl 2 rfl) ?_
    have hPc : va_P (dC, dI) vwCl ([(o3, eL cy f3)] ++ WC cy ad ks g u) H := hP.part (X := XLW cy o3 o4 am f3 f4 r) (cx := [(o3, eL cy f3)]) [0] rfl
    have hDc : va_D (fun q : Nat => s.heap.size ≤ q) ([(o3, eL cy f3)] ++ WC cy ad ks g u) := hD.part (X := XLW cy o3 o4 am f3 f4 r) (cx := [(o3, eL cy f3)]) [0] (by decide) rfl
    have hFc : ∀ q, va_A ([(o3, eL cy f3)] ++ WC cy ad ks g u) H.size q → s.heap.size ≤ q := va_freeP (X := XLW cy o3 o4 am f3 f4 r) (cx := [(o3, eL cy f3)]) hD hS hA [0] rfl
    refine vx_calli (vx_runSX (As := [.ref (ad .cl), .int (xs (4 * n + 1)), .ref o3]) (rest := []) ⟨hx, hb, hml, hown, hts⟩ (cn_run l hst dC dI cy nb ad ks g hk u ((xs (4 * n + 1))) o3 f3 x c2g c2 H.size e2) (vx_cwSW 3 hts (gSH mw_1134 mw_1135 mw_562 mw_1136) rfl rfl rfl (by decide +kernel) ⟨Nat.le_of_ble_eq_true rfl, Nat.le_of_ble_eq_true rfl⟩) (my_preS hPc hK hDc hE hS hFc) rfl rfl hl.1 rfl (lv_room (Nat.le_of_ble_eq_true rfl)) dL_law_1402 ⟨by show _ ≤ 601024; omega, by show _ ≤ 7293034; omega⟩) hS (fun q _ h => hFc q h) hFc (fun q _ h => hFc q h) (fun E9 ce9 q9 u9 t9 H1 locs1 ht9 hvm9 hp9 _ _ _ _ _ _ _ => hp9.elim) (fun rw9 u9 t9 H1 locs ht hvm hw hB hz1 hk1 hS => ?_)
    obtain ⟨ad', ks', hkz, axz, hP1, hD1⟩ := hB
    rw [ht] at hP1
    obtain ⟨hP, hD⟩ := va_joinP (X := XLW cy o3 o4 am f3 f4 r) (cx := [(o3, eL cy f3)]) (wr := ((o4, eD cy f4) :: WM cy am r)) (rx := [(o3, eL cy (vp_updL f3 ((0 : Int32).toNatClampNeg) (x.toInt64)))]) (pl := WC cy ad ks g u) (pl1 := WC cy ad' ks' c2g c2) hP hD [0] [1, 2, 3, 4, 5, 6, 7, 8, 9, 10, 11, 12] rfl rfl (by decide) (by decide) hk1 hFc hP1 hD1
    have hP : va_P (dC, dI) vwCl (XLW cy o3 o4 am (vp_updL f3 ((0 : Int32).toNatClampNeg) (x.toInt64)) f4 r ++ WC cy ad' ks' c2g c2) H1 := hP.part (X := ((o4, eD cy f4) :: WM cy am r) ++ [(o3, eL cy (vp_updL f3 ((0 : Int32).toNatClampNeg) (x.toInt64)))]) (cx := XLW cy o3 o4 am (vp_updL f3 ((0 : Int32).toNatClampNeg) (x.toInt64)) f4 r) [12, 0, 1, 2, 3, 4, 5, 6, 7, 8, 9, 10, 11] rfl
    have hD : va_D (fun q : Nat => s.heap.size ≤ q) (XLW cy o3 o4 am (vp_updL f3 ((0 : Int32).toNatClampNeg) (x.toInt64)) f4 r ++ WC cy ad' ks' c2g c2) := hD.part (X := ((o4, eD cy f4) :: WM cy am r) ++ [(o3, eL cy (vp_updL f3 ((0 : Int32).toNatClampNeg) (x.toInt64)))]) (cx := XLW cy o3 o4 am (vp_updL f3 ((0 : Int32).toNatClampNeg) (x.toInt64)) f4 r) [12, 0, 1, 2, 3, 4, 5, 6, 7, 8, 9, 10, 11] (by decide) rfl
    generalize H1 = H at hP hS ⊢
    have hl : lv_has ls 10 [(5, .int (nI (4 * n))), (4, .ref o4), (3, .ref o3), (2, .ref (am 0)), (1, .ref (ad' .cl)), (0, .ref b)] := by rw [(axz .cl True.intro).2]; exact hl
    clear hP1 hD1 hPc hDc hFc hk1 hz1 hvm ht
    refine lv_istore (lv' := [(6, .int rw9), (5, .int (nI (4 * n))), (4, .ref o4), (3, .ref o3), (2, .ref (am 0)), (1, .ref (ad' .cl)), (0, .ref b)]) hx hb dL_law_1405 hl (by decide) rfl (fun ls hl => ?_)
    refine lv_aload_n hx hb dL_law_1407 rfl (lv_at hl 4 rfl) ?_
    refine lv_aload_n hx hb dL_law_1408 rfl (lv_at hl 6 rfl) ?_
    refine lv_iload hx hb dL_law_1409 (lv_at hl 1 rfl) ?_
    refine lv_iconst (v := 1) hx hb dL_law_1411 (by decide) ?_
    refine lv_iadd hx hb dL_law_1412 ?_
    refine my_topi (y := nI (4 * n + 1)) (nI_add (4 * n) 1) ?_
    refine va_sld hx hb hX hbl hbA hS (vp_in_nI (n := 4 * n + 1) (by omega) (by omega)) dL_law_1413 ?_
    refine my_topi (y := xs (4 * n + 1)) (congrArg xs (nI_clamp (by omega))) ?_
    have hPc := hP.sub (ws' := (WM cy am r)) [2, 3, 4, 5, 6, 7, 8, 9, 10, 11, 12] rfl
    have hDc := hD.sub (ws' := (WM cy am r)) [2, 3, 4, 5, 6, 7, 8, 9, 10, 11, 12] (by decide) rfl
    have hFc := va_free (wc := (WM cy am r)) hD hS hA [2, 3, 4, 5, 6, 7, 8, 9, 10, 11, 12] rfl
    refine va_calli (va_runV (As := [.int (xs (4 * n + 1))]) (rest := []) ⟨hx, hb, hml, hown, hts⟩ (k_X8_run l dC dI cy nb am r ((xs (4 * n + 1))) x (r2) H.size e1) (cwV 1 hts (gV mw_1226 mw_1227 mw_1228 mw_5 mw_1229) rfl rfl rfl (by decide +kernel) ⟨Nat.le_of_ble_eq_true rfl, Nat.le_of_ble_eq_true rfl⟩) (my_preV hPc hK hDc hE hS hFc (va_recv (q := (RX8, TX8, 23)) hK hP (ci := 8) (q0 := 2) rfl rfl)) rfl rfl hl.1 rfl (lv_room (Nat.le_of_ble_eq_true rfl)) dL_law_1414 ⟨by show _ ≤ 601024; omega, by show _ ≤ 7293034; omega⟩) hS (fun q _ h => hFc q h) hFc (fun rm9 u9 t9 H1 locs ht hvm hwm hB hz1 hk1 hS => ?_)
    obtain ⟨hP1, hD1⟩ := hB
    rw [ht] at hP1
    obtain ⟨hP, hD⟩ := va_joinQ (X := XLW cy o3 o4 am (vp_updL f3 ((0 : Int32).toNatClampNeg) (x.toInt64)) f4 r) (cx := (WM cy am r)) (wr := [(o3, eL cy (vp_updL f3 ((0 : Int32).toNatClampNeg) (x.toInt64))), (o4, eD cy f4)]) (w1 := (WM cy am (r2))) (pl := WC cy ad' ks' c2g c2) hP hD [2, 3, 4, 5, 6, 7, 8, 9, 10, 11, 12] [0, 1] rfl rfl (by decide) (by decide) hk1 hFc hP1 hD1
    have hP : va_P (dC, dI) vwCl (XLW cy o3 o4 am (vp_updL f3 ((0 : Int32).toNatClampNeg) (x.toInt64)) f4 r2 ++ WC cy ad' ks' c2g c2) H1 := hP
    have hD : va_D (fun q : Nat => s.heap.size ≤ q) (XLW cy o3 o4 am (vp_updL f3 ((0 : Int32).toNatClampNeg) (x.toInt64)) f4 r2 ++ WC cy ad' ks' c2g c2) := hD
    generalize H1 = H at hP hS ⊢
    clear hP1 hD1 hPc hDc hFc hk1 hz1 hvm ht
    refine my_topi hwm ?_
    refine lv_istore (lv' := [(7, .int x), (6, .int rw9), (5, .int (nI (4 * n))), (4, .ref o4), (3, .ref o3), (2, .ref (am 0)), (1, .ref (ad' .cl)), (0, .ref b)]) hx hb dL_law_1417 hl (by decide) rfl (fun ls hl => ?_)
    refine lv_goto (tgt := 1819) hx hb dL_law_1419 (by decide) ?_
    refine W.widen (k := cells + 603) (n := slots + 9640) (by omega) (by omega) ?_
    exact K H locs ls ⟨ad', ks', c2g, c2, r2, (vp_updL f3 ((0 : Int32).toNatClampNeg) (x.toInt64)), f4, hkz, e3.mono (by omega) (by omega) (by omega), hP, hD, hS, lv_sub hl [2, 3, 4, 5, 6, 7] rfl⟩
  · have e2 : C7_run g u (xs (4 * n + 1)) = some (.inl (nI (k + 1))) := e2
    generalize hxx : (nI (k + 1)) = xk at e2
    have hxk : ¬ xk = 1 := by rw [← hxx]; exact nI_ne (b := 1) (by omega) (by omega) (by omega)
    refine lv_aload_n hx hb dL_law_1394 rfl (lv_at hl 4 rfl) ?_
    refine lv_aload_n hx hb dL_law_1395 rfl (lv_at hl 5 rfl) ?_
    refine lv_iload hx hb dL_law_1396 (lv_at hl 0 rfl) ?_
    refine lv_iconst (v := 1) hx hb dL_law_1398 (by decide) ?_
    refine lv_iadd hx hb dL_law_1399 ?_
    refine my_topi (y := nI (4 * n + 1)) (nI_add (4 * n) 1) ?_
    refine va_sld hx hb hX hbl hbA hS (vp_in_nI (n := 4 * n + 1) (by omega) (by omega)) dL_law_1400 ?_
    refine my_topi (y := xs (4 * n + 1)) (congrArg xs (nI_clamp (by omega))) ?_
    refine lv_aload_n hx hb dL_law_1401 rfl (lv_at hl 2 rfl) ?_
    have hPc : va_P (dC, dI) vwCl ([(o3, eL cy f3)] ++ WC cy ad ks g u) H := hP.part (X := XLW cy o3 o4 am f3 f4 r) (cx := [(o3, eL cy f3)]) [0] rfl
    have hDc : va_D (fun q : Nat => s.heap.size ≤ q) ([(o3, eL cy f3)] ++ WC cy ad ks g u) := hD.part (X := XLW cy o3 o4 am f3 f4 r) (cx := [(o3, eL cy f3)]) [0] (by decide) rfl
    have hFc : ∀ q, va_A ([(o3, eL cy f3)] ++ WC cy ad ks g u) H.size q → s.heap.size ≤ q := va_freeP (X := XLW cy o3 o4 am f3 f4 r) (cx := [(o3, eL cy f3)]) hD hS hA [0] rfl
    refine vx_calli (vx_runSX (As := [.ref (ad .cl), .int (xs (4 * n + 1)), .ref o3]) (rest := []) ⟨hx, hb, hml, hown, hts⟩ (ct_run l hst dC dI cy nb ad ks g hk u ((xs (4 * n + 1))) o3 f3 xk H.size hxk e2) (vx_cwSW 3 hts (gSH mw_1134 mw_1135 mw_562 mw_1136) rfl rfl rfl (by decide +kernel) ⟨Nat.le_of_ble_eq_true rfl, Nat.le_of_ble_eq_true rfl⟩) (my_preS hPc hK hDc hE hS hFc) rfl rfl hl.1 rfl (lv_room (Nat.le_of_ble_eq_true rfl)) dL_law_1402 ⟨by show _ ≤ 601024; omega, by show _ ≤ 7293034; omega⟩) hS (fun q _ h => hFc q h) hFc (fun q _ h => hFc q h) (fun E9 ce9 q9 u9 t9 H1 locs1 ht9 hvm9 hp9 _ _ _ _ _ _ _ => hp9.elim) (fun rw9 u9 t9 H1 locs ht hvm hw hB hz1 hk1 hS => ?_)
    obtain ⟨hP1, hD1⟩ := hB
    rw [ht] at hP1
    obtain ⟨hP, hD⟩ := va_joinP (X := XLW cy o3 o4 am f3 f4 r) (cx := [(o3, eL cy f3)]) (wr := ((o4, eD cy f4) :: WM cy am r)) (rx := [(o3, eL cy f3)]) (pl := WC cy ad ks g u) (pl1 := WC cy ad ks g u) hP hD [0] [1, 2, 3, 4, 5, 6, 7, 8, 9, 10, 11, 12] rfl rfl (by decide) (by decide) hk1 hFc hP1 hD1
    have hP : va_P (dC, dI) vwCl (XLW cy o3 o4 am f3 f4 r ++ WC cy ad ks g u) H1 := hP.part (X := ((o4, eD cy f4) :: WM cy am r) ++ [(o3, eL cy f3)]) (cx := XLW cy o3 o4 am f3 f4 r) [12, 0, 1, 2, 3, 4, 5, 6, 7, 8, 9, 10, 11] rfl
    have hD : va_D (fun q : Nat => s.heap.size ≤ q) (XLW cy o3 o4 am f3 f4 r ++ WC cy ad ks g u) := hD.part (X := ((o4, eD cy f4) :: WM cy am r) ++ [(o3, eL cy f3)]) (cx := XLW cy o3 o4 am f3 f4 r) [12, 0, 1, 2, 3, 4, 5, 6, 7, 8, 9, 10, 11] (by decide) rfl
    generalize H1 = H at hP hS ⊢
    clear hP1 hD1 hPc hDc hFc hk1 hz1 hvm ht
    refine lv_istore (lv' := [(6, .int rw9), (5, .int (nI (4 * n))), (4, .ref o4), (3, .ref o3), (2, .ref (am 0)), (1, .ref (ad .cl)), (0, .ref b)]) hx hb dL_law_1405 hl (by decide) rfl (fun ls hl => ?_)
    refine lv_aload_n hx hb dL_law_1407 rfl (lv_at hl 4 rfl) ?_
    refine lv_aload_n hx hb dL_law_1408 rfl (lv_at hl 6 rfl) ?_
    refine lv_iload hx hb dL_law_1409 (lv_at hl 1 rfl) ?_
    refine lv_iconst (v := 1) hx hb dL_law_1411 (by decide) ?_
    refine lv_iadd hx hb dL_law_1412 ?_
    refine my_topi (y := nI (4 * n + 1)) (nI_add (4 * n) 1) ?_
    refine va_sld hx hb hX hbl hbA hS (vp_in_nI (n := 4 * n + 1) (by omega) (by omega)) dL_law_1413 ?_
    refine my_topi (y := xs (4 * n + 1)) (congrArg xs (nI_clamp (by omega))) ?_
    have hPc := hP.sub (ws' := (WM cy am r)) [2, 3, 4, 5, 6, 7, 8, 9, 10, 11, 12] rfl
    have hDc := hD.sub (ws' := (WM cy am r)) [2, 3, 4, 5, 6, 7, 8, 9, 10, 11, 12] (by decide) rfl
    have hFc := va_free (wc := (WM cy am r)) hD hS hA [2, 3, 4, 5, 6, 7, 8, 9, 10, 11, 12] rfl
    refine va_calli (va_runV (As := [.int (xs (4 * n + 1))]) (rest := []) ⟨hx, hb, hml, hown, hts⟩ (k_X8_run l dC dI cy nb am r ((xs (4 * n + 1))) (nI 0) (th r k) H.size e1) (cwV 1 hts (gV mw_1226 mw_1227 mw_1228 mw_5 mw_1229) rfl rfl rfl (by decide +kernel) ⟨Nat.le_of_ble_eq_true rfl, Nat.le_of_ble_eq_true rfl⟩) (my_preV hPc hK hDc hE hS hFc (va_recv (q := (RX8, TX8, 23)) hK hP (ci := 8) (q0 := 2) rfl rfl)) rfl rfl hl.1 rfl (lv_room (Nat.le_of_ble_eq_true rfl)) dL_law_1414 ⟨by show _ ≤ 601024; omega, by show _ ≤ 7293034; omega⟩) hS (fun q _ h => hFc q h) hFc (fun rm9 u9 t9 H1 locs ht hvm hwm hB hz1 hk1 hS => ?_)
    obtain ⟨hP1, hD1⟩ := hB
    rw [ht] at hP1
    obtain ⟨hP, hD⟩ := va_joinQ (X := XLW cy o3 o4 am f3 f4 r) (cx := (WM cy am r)) (wr := [(o3, eL cy f3), (o4, eD cy f4)]) (w1 := (WM cy am (th r k))) (pl := WC cy ad ks g u) hP hD [2, 3, 4, 5, 6, 7, 8, 9, 10, 11, 12] [0, 1] rfl rfl (by decide) (by decide) hk1 hFc hP1 hD1
    have hP : va_P (dC, dI) vwCl (XLW cy o3 o4 am f3 f4 (th r k) ++ WC cy ad ks g u) H1 := hP
    have hD : va_D (fun q : Nat => s.heap.size ≤ q) (XLW cy o3 o4 am f3 f4 (th r k) ++ WC cy ad ks g u) := hD
    generalize H1 = H at hP hS ⊢
    clear hP1 hD1 hPc hDc hFc hk1 hz1 hvm ht
    refine my_topi hwm ?_
    refine lv_istore (lv' := [(7, .int (nI 0)), (6, .int rw9), (5, .int (nI (4 * n))), (4, .ref o4), (3, .ref o3), (2, .ref (am 0)), (1, .ref (ad .cl)), (0, .ref b)]) hx hb dL_law_1417 hl (by decide) rfl (fun ls hl => ?_)
    refine lv_goto (tgt := 1819) hx hb dL_law_1419 (by decide) ?_
    refine W.widen (k := cells + 603) (n := slots + 9640) (by omega) (by omega) ?_
    exact K H locs ls ⟨ad, ks, g, u, (th r k), f3, f4, hk, (hGI.thr).mono (by omega) (by omega) (by omega), hP, hD, hS, lv_sub hl [2, 3, 4, 5, 6, 7] rfl⟩
set_option maxHeartbeats 8000000 in
set_option maxRecDepth 100000 in
theorem law_c36 {p : Program} {e : Env} {s : State} {m : MethodId} {below : List Frame} {meth : Method} {c : Code} (l : Launch) (hst : l.stackTraces = false) {b L : Nat} {xs : Nat → Int32} (dC : Nat → ClassId) (dI : Nat → Nat → Nat) (cy : Nat → ClassId) (nb : Nat → Nat) (o3 o4 : Nat) (am : Nat → Nat) {n : Nat} (hn : n < 512) (hL : 4 * n + 4 ≤ L) (hL2 : L ≤ 2048) (C0 : LX p s m meth c b L xs dC dI cy nb) {Q : State → Prop} {H : Heap} {locs : List Loc} {ls : Array Slot} {cells slots : Nat} (hc : cells ≤ 400000) (hs : slots ≤ 6000000) (h : LSt s dC dI cy nb b o3 o4 am n (4 * n) H locs ls) (K : ∀ (H : Heap) (locs : List Loc) (ls : Array Slot), LSt s dC dI cy nb b o3 o4 am (n + 1) (4 * n) H locs ls → W p l e room_1 s m #[Value.ref b] below meth c H locs (cells + 603) (slots + 9640) Q (F0 m 1819 ls [])) : W p l e room_1 s m #[Value.ref b] below meth c H locs cells slots Q (F0 m 1422 ls []) := by
  obtain ⟨hx, hb, hr, hml, hown, hts, hX, hbl, hlocks, hK, hE⟩ := C0
  have hA : ∀ q : Nat, s.heap.size ≤ q → (fun q : Nat => s.heap.size ≤ q) q := fun _ h => h
  have hbA : ¬ (fun q : Nat => s.heap.size ≤ q) b := Nat.not_le.mpr hbl
  obtain ⟨ad, ks, g, u, r, f3, f4, hk, hGI, hP, hD, hS, hl⟩ := h
  have h9 : AT (F8_runToLeave r (xs (4 * n + 1))) (C7_runToLeave g u (xs (4 * n + 1))) r 1 (2001 * n + 2000) (602 * n) := a_runToLeave hGI (by omega) (by omega)
  rcases h9 with ⟨x, r2, c2, c2g, e1, e2, e3, e6⟩ | ⟨k, k1, k2, e1, e2⟩
  · refine lv_aload_n hx hb dL_law_1422 rfl (lv_at hl 4 rfl) ?_
    refine lv_aload_n hx hb dL_law_1423 rfl (lv_at hl 5 rfl) ?_
    refine lv_iload hx hb dL_law_1424 (lv_at hl 0 rfl) ?_
    refine lv_iconst (v := 1) hx hb dL_law_1426 (by decide) ?_
    refine lv_iadd hx hb dL_law_1427 ?_
    refine my_topi (y := nI (4 * n + 1)) (nI_add (4 * n) 1) ?_
    refine va_sld hx hb hX hbl hbA hS (vp_in_nI (n := 4 * n + 1) (by omega) (by omega)) dL_law_1428 ?_
    refine my_topi (y := xs (4 * n + 1)) (congrArg xs (nI_clamp (by omega))) ?_
    refine lv_aload_n hx hb dL_law_1429 rfl (lv_at hl 2 rfl) ?_
    have hPc : va_P (dC, dI) vwCl ([(o3, eL cy f3)] ++ WC cy ad ks g u) H := hP.part (X := XLW cy o3 o4 am f3 f4 r) (cx := [(o3, eL cy f3)]) [0] rfl
    have hDc : va_D (fun q : Nat => s.heap.size ≤ q) ([(o3, eL cy f3)] ++ WC cy ad ks g u) := hD.part (X := XLW cy o3 o4 am f3 f4 r) (cx := [(o3, eL cy f3)]) [0] (by decide) rfl
    have hFc : ∀ q, va_A ([(o3, eL cy f3)] ++ WC cy ad ks g u) H.size q → s.heap.size ≤ q := va_freeP (X := XLW cy o3 o4 am f3 f4 r) (cx := [(o3, eL cy f3)]) hD hS hA [0] rfl
    refine vx_calli (vx_runSX (As := [.ref (ad .cl), .int (xs (4 * n + 1)), .ref o3]) (rest := []) ⟨hx, hb, hml, hown, hts⟩ (cn_runToLeave l hst dC dI cy nb ad ks g hk u ((xs (4 * n + 1))) o3 f3 x c2g c2 H.size e2) (vx_cwSW 3 hts (gSH mw_1283 mw_1284 mw_562 mw_1285) rfl rfl rfl (by decide +kernel) ⟨Nat.le_of_ble_eq_true rfl, Nat.le_of_ble_eq_true rfl⟩) (my_preS hPc hK hDc hE hS hFc) rfl rfl hl.1 rfl (lv_room (Nat.le_of_ble_eq_true rfl)) dL_law_1430 ⟨by show _ ≤ 601024; omega, by show _ ≤ 7293034; omega⟩) hS (fun q _ h => hFc q h) hFc (fun q _ h => hFc q h) (fun E9 ce9 q9 u9 t9 H1 locs1 ht9 hvm9 hp9 _ _ _ _ _ _ _ => hp9.elim) (fun rw9 u9 t9 H1 locs ht hvm hw hB hz1 hk1 hS => ?_)
    obtain ⟨ad', ks', hkz, axz, hP1, hD1⟩ := hB
    rw [ht] at hP1
    obtain ⟨hP, hD⟩ := va_joinP (X := XLW cy o3 o4 am f3 f4 r) (cx := [(o3, eL cy f3)]) (wr := ((o4, eD cy f4) :: WM cy am r)) (rx := [(o3, eL cy (vp_updL f3 ((0 : Int32).toNatClampNeg) (x.toInt64)))]) (pl := WC cy ad ks g u) (pl1 := WC cy ad' ks' c2g c2) hP hD [0] [1, 2, 3, 4, 5, 6, 7, 8, 9, 10, 11, 12] rfl rfl (by decide) (by decide) hk1 hFc hP1 hD1
    have hP : va_P (dC, dI) vwCl (XLW cy o3 o4 am (vp_updL f3 ((0 : Int32).toNatClampNeg) (x.toInt64)) f4 r ++ WC cy ad' ks' c2g c2) H1 := hP.part (X := ((o4, eD cy f4) :: WM cy am r) ++ [(o3, eL cy (vp_updL f3 ((0 : Int32).toNatClampNeg) (x.toInt64)))]) (cx := XLW cy o3 o4 am (vp_updL f3 ((0 : Int32).toNatClampNeg) (x.toInt64)) f4 r) [12, 0, 1, 2, 3, 4, 5, 6, 7, 8, 9, 10, 11] rfl
    have hD : va_D (fun q : Nat => s.heap.size ≤ q) (XLW cy o3 o4 am (vp_updL f3 ((0 : Int32).toNatClampNeg) (x.toInt64)) f4 r ++ WC cy ad' ks' c2g c2) := hD.part (X := ((o4, eD cy f4) :: WM cy am r) ++ [(o3, eL cy (vp_updL f3 ((0 : Int32).toNatClampNeg) (x.toInt64)))]) (cx := XLW cy o3 o4 am (vp_updL f3 ((0 : Int32).toNatClampNeg) (x.toInt64)) f4 r) [12, 0, 1, 2, 3, 4, 5, 6, 7, 8, 9, 10, 11] (by decide) rfl
    generalize H1 = H at hP hS ⊢
    have hl : lv_has ls 10 [(5, .int (nI (4 * n))), (4, .ref o4), (3, .ref o3), (2, .ref (am 0)), (1, .ref (ad' .cl)), (0, .ref b)] := by rw [(axz .cl True.intro).2]; exact hl
    clear hP1 hD1 hPc hDc hFc hk1 hz1 hvm ht
    refine lv_istore (lv' := [(6, .int rw9), (5, .int (nI (4 * n))), (4, .ref o4), (3, .ref o3), (2, .ref (am 0)), (1, .ref (ad' .cl)), (0, .ref b)]) hx hb dL_law_1433 hl (by decide) rfl (fun ls hl => ?_)
    refine lv_aload_n hx hb dL_law_1435 rfl (lv_at hl 4 rfl) ?_
    refine lv_aload_n hx hb dL_law_1436 rfl (lv_at hl 6 rfl) ?_
    refine lv_iload hx hb dL_law_1437 (lv_at hl 1 rfl) ?_
    refine lv_iconst (v := 1) hx hb dL_law_1439 (by decide) ?_
    refine lv_iadd hx hb dL_law_1440 ?_
    refine my_topi (y := nI (4 * n + 1)) (nI_add (4 * n) 1) ?_
    refine va_sld hx hb hX hbl hbA hS (vp_in_nI (n := 4 * n + 1) (by omega) (by omega)) dL_law_1441 ?_
    refine my_topi (y := xs (4 * n + 1)) (congrArg xs (nI_clamp (by omega))) ?_
    have hPc := hP.sub (ws' := (WM cy am r)) [2, 3, 4, 5, 6, 7, 8, 9, 10, 11, 12] rfl
    have hDc := hD.sub (ws' := (WM cy am r)) [2, 3, 4, 5, 6, 7, 8, 9, 10, 11, 12] (by decide) rfl
    have hFc := va_free (wc := (WM cy am r)) hD hS hA [2, 3, 4, 5, 6, 7, 8, 9, 10, 11, 12] rfl
    refine va_calli (va_runV (As := [.int (xs (4 * n + 1))]) (rest := []) ⟨hx, hb, hml, hown, hts⟩ (k_X8_runToLeave l dC dI cy nb am r ((xs (4 * n + 1))) x (r2) H.size e1) (cwV 1 hts (gV mw_1290 mw_1291 mw_1292 mw_5 mw_1293) rfl rfl rfl (by decide +kernel) ⟨Nat.le_of_ble_eq_true rfl, Nat.le_of_ble_eq_true rfl⟩) (my_preV hPc hK hDc hE hS hFc (va_recv (q := (RX8, TX8, 23)) hK hP (ci := 8) (q0 := 2) rfl rfl)) rfl rfl hl.1 rfl (lv_room (Nat.le_of_ble_eq_true rfl)) dL_law_1442 ⟨by show _ ≤ 601024; omega, by show _ ≤ 7293034; omega⟩) hS (fun q _ h => hFc q h) hFc (fun rm9 u9 t9 H1 locs ht hvm hwm hB hz1 hk1 hS => ?_)
    obtain ⟨hP1, hD1⟩ := hB
    rw [ht] at hP1
    obtain ⟨hP, hD⟩ := va_joinQ (X := XLW cy o3 o4 am (vp_updL f3 ((0 : Int32).toNatClampNeg) (x.toInt64)) f4 r) (cx := (WM cy am r)) (wr := [(o3, eL cy (vp_updL f3 ((0 : Int32).toNatClampNeg) (x.toInt64))), (o4, eD cy f4)]) (w1 := (WM cy am (r2))) (pl := WC cy ad' ks' c2g c2) hP hD [2, 3, 4, 5, 6, 7, 8, 9, 10, 11, 12] [0, 1] rfl rfl (by decide) (by decide) hk1 hFc hP1 hD1
    have hP : va_P (dC, dI) vwCl (XLW cy o3 o4 am (vp_updL f3 ((0 : Int32).toNatClampNeg) (x.toInt64)) f4 r2 ++ WC cy ad' ks' c2g c2) H1 := hP
    have hD : va_D (fun q : Nat => s.heap.size ≤ q) (XLW cy o3 o4 am (vp_updL f3 ((0 : Int32).toNatClampNeg) (x.toInt64)) f4 r2 ++ WC cy ad' ks' c2g c2) := hD
    generalize H1 = H at hP hS ⊢
    clear hP1 hD1 hPc hDc hFc hk1 hz1 hvm ht
    refine my_topi hwm ?_
    refine lv_istore (lv' := [(7, .int x), (6, .int rw9), (5, .int (nI (4 * n))), (4, .ref o4), (3, .ref o3), (2, .ref (am 0)), (1, .ref (ad' .cl)), (0, .ref b)]) hx hb dL_law_1445 hl (by decide) rfl (fun ls hl => ?_)
    refine lv_goto (tgt := 1819) hx hb dL_law_1447 (by decide) ?_
    refine W.widen (k := cells + 603) (n := slots + 9640) (by omega) (by omega) ?_
    exact K H locs ls ⟨ad', ks', c2g, c2, r2, (vp_updL f3 ((0 : Int32).toNatClampNeg) (x.toInt64)), f4, hkz, e3.mono (by omega) (by omega) (by omega), hP, hD, hS, lv_sub hl [2, 3, 4, 5, 6, 7] rfl⟩
  · have e2 : C7_runToLeave g u (xs (4 * n + 1)) = some (.inl (nI (k + 1))) := e2
    generalize hxx : (nI (k + 1)) = xk at e2
    have hxk : ¬ xk = 1 := by rw [← hxx]; exact nI_ne (b := 1) (by omega) (by omega) (by omega)
    refine lv_aload_n hx hb dL_law_1422 rfl (lv_at hl 4 rfl) ?_
    refine lv_aload_n hx hb dL_law_1423 rfl (lv_at hl 5 rfl) ?_
    refine lv_iload hx hb dL_law_1424 (lv_at hl 0 rfl) ?_
    refine lv_iconst (v := 1) hx hb dL_law_1426 (by decide) ?_
    refine lv_iadd hx hb dL_law_1427 ?_
    refine my_topi (y := nI (4 * n + 1)) (nI_add (4 * n) 1) ?_
    refine va_sld hx hb hX hbl hbA hS (vp_in_nI (n := 4 * n + 1) (by omega) (by omega)) dL_law_1428 ?_
    refine my_topi (y := xs (4 * n + 1)) (congrArg xs (nI_clamp (by omega))) ?_
    refine lv_aload_n hx hb dL_law_1429 rfl (lv_at hl 2 rfl) ?_
    have hPc : va_P (dC, dI) vwCl ([(o3, eL cy f3)] ++ WC cy ad ks g u) H := hP.part (X := XLW cy o3 o4 am f3 f4 r) (cx := [(o3, eL cy f3)]) [0] rfl
    have hDc : va_D (fun q : Nat => s.heap.size ≤ q) ([(o3, eL cy f3)] ++ WC cy ad ks g u) := hD.part (X := XLW cy o3 o4 am f3 f4 r) (cx := [(o3, eL cy f3)]) [0] (by decide) rfl
    have hFc : ∀ q, va_A ([(o3, eL cy f3)] ++ WC cy ad ks g u) H.size q → s.heap.size ≤ q := va_freeP (X := XLW cy o3 o4 am f3 f4 r) (cx := [(o3, eL cy f3)]) hD hS hA [0] rfl
    refine vx_calli (vx_runSX (As := [.ref (ad .cl), .int (xs (4 * n + 1)), .ref o3]) (rest := []) ⟨hx, hb, hml, hown, hts⟩ (ct_runToLeave l hst dC dI cy nb ad ks g hk u ((xs (4 * n + 1))) o3 f3 xk H.size hxk e2) (vx_cwSW 3 hts (gSH mw_1283 mw_1284 mw_562 mw_1285) rfl rfl rfl (by decide +kernel) ⟨Nat.le_of_ble_eq_true rfl, Nat.le_of_ble_eq_true rfl⟩) (my_preS hPc hK hDc hE hS hFc) rfl rfl hl.1 rfl (lv_room (Nat.le_of_ble_eq_true rfl)) dL_law_1430 ⟨by show _ ≤ 601024; omega, by show _ ≤ 7293034; omega⟩) hS (fun q _ h => hFc q h) hFc (fun q _ h => hFc q h) (fun E9 ce9 q9 u9 t9 H1 locs1 ht9 hvm9 hp9 _ _ _ _ _ _ _ => hp9.elim) (fun rw9 u9 t9 H1 locs ht hvm hw hB hz1 hk1 hS => ?_)
    obtain ⟨hP1, hD1⟩ := hB
    rw [ht] at hP1
    obtain ⟨hP, hD⟩ := va_joinP (X := XLW cy o3 o4 am f3 f4 r) (cx := [(o3, eL cy f3)]) (wr := ((o4, eD cy f4) :: WM cy am r)) (rx := [(o3, eL cy f3)]) (pl := WC cy ad ks g u) (pl1 := WC cy ad ks g u) hP hD [0] [1, 2, 3, 4, 5, 6, 7, 8, 9, 10, 11, 12] rfl rfl (by decide) (by decide) hk1 hFc hP1 hD1
    have hP : va_P (dC, dI) vwCl (XLW cy o3 o4 am f3 f4 r ++ WC cy ad ks g u) H1 := hP.part (X := ((o4, eD cy f4) :: WM cy am r) ++ [(o3, eL cy f3)]) (cx := XLW cy o3 o4 am f3 f4 r) [12, 0, 1, 2, 3, 4, 5, 6, 7, 8, 9, 10, 11] rfl
    have hD : va_D (fun q : Nat => s.heap.size ≤ q) (XLW cy o3 o4 am f3 f4 r ++ WC cy ad ks g u) := hD.part (X := ((o4, eD cy f4) :: WM cy am r) ++ [(o3, eL cy f3)]) (cx := XLW cy o3 o4 am f3 f4 r) [12, 0, 1, 2, 3, 4, 5, 6, 7, 8, 9, 10, 11] (by decide) rfl
    generalize H1 = H at hP hS ⊢
    clear hP1 hD1 hPc hDc hFc hk1 hz1 hvm ht
    refine lv_istore (lv' := [(6, .int rw9), (5, .int (nI (4 * n))), (4, .ref o4), (3, .ref o3), (2, .ref (am 0)), (1, .ref (ad .cl)), (0, .ref b)]) hx hb dL_law_1433 hl (by decide) rfl (fun ls hl => ?_)
    refine lv_aload_n hx hb dL_law_1435 rfl (lv_at hl 4 rfl) ?_
    refine lv_aload_n hx hb dL_law_1436 rfl (lv_at hl 6 rfl) ?_
    refine lv_iload hx hb dL_law_1437 (lv_at hl 1 rfl) ?_
    refine lv_iconst (v := 1) hx hb dL_law_1439 (by decide) ?_
    refine lv_iadd hx hb dL_law_1440 ?_
    refine my_topi (y := nI (4 * n + 1)) (nI_add (4 * n) 1) ?_
    refine va_sld hx hb hX hbl hbA hS (vp_in_nI (n := 4 * n + 1) (by omega) (by omega)) dL_law_1441 ?_
    refine my_topi (y := xs (4 * n + 1)) (congrArg xs (nI_clamp (by omega))) ?_
    have hPc := hP.sub (ws' := (WM cy am r)) [2, 3, 4, 5, 6, 7, 8, 9, 10, 11, 12] rfl
    have hDc := hD.sub (ws' := (WM cy am r)) [2, 3, 4, 5, 6, 7, 8, 9, 10, 11, 12] (by decide) rfl
    have hFc := va_free (wc := (WM cy am r)) hD hS hA [2, 3, 4, 5, 6, 7, 8, 9, 10, 11, 12] rfl
    refine va_calli (va_runV (As := [.int (xs (4 * n + 1))]) (rest := []) ⟨hx, hb, hml, hown, hts⟩ (k_X8_runToLeave l dC dI cy nb am r ((xs (4 * n + 1))) (nI 0) (th r k) H.size e1) (cwV 1 hts (gV mw_1290 mw_1291 mw_1292 mw_5 mw_1293) rfl rfl rfl (by decide +kernel) ⟨Nat.le_of_ble_eq_true rfl, Nat.le_of_ble_eq_true rfl⟩) (my_preV hPc hK hDc hE hS hFc (va_recv (q := (RX8, TX8, 23)) hK hP (ci := 8) (q0 := 2) rfl rfl)) rfl rfl hl.1 rfl (lv_room (Nat.le_of_ble_eq_true rfl)) dL_law_1442 ⟨by show _ ≤ 601024; omega, by show _ ≤ 7293034; omega⟩) hS (fun q _ h => hFc q h) hFc (fun rm9 u9 t9 H1 locs ht hvm hwm hB hz1 hk1 hS => ?_)
    obtain ⟨hP1, hD1⟩ := hB
    rw [ht] at hP1
    obtain ⟨hP, hD⟩ := va_joinQ (X := XLW cy o3 o4 am f3 f4 r) (cx := (WM cy am r)) (wr := [(o3, eL cy f3), (o4, eD cy f4)]) (w1 := (WM cy am (th r k))) (pl := WC cy ad ks g u) hP hD [2, 3, 4, 5, 6, 7, 8, 9, 10, 11, 12] [0, 1] rfl rfl (by decide) (by decide) hk1 hFc hP1 hD1
    have hP : va_P (dC, dI) vwCl (XLW cy o3 o4 am f3 f4 (th r k) ++ WC cy ad ks g u) H1 := hP
    have hD : va_D (fun q : Nat => s.heap.size ≤ q) (XLW cy o3 o4 am f3 f4 (th r k) ++ WC cy ad ks g u) := hD
    generalize H1 = H at hP hS ⊢
    clear hP1 hD1 hPc hDc hFc hk1 hz1 hvm ht
    refine my_topi hwm ?_
    refine lv_istore (lv' := [(7, .int (nI 0)), (6, .int rw9), (5, .int (nI (4 * n))), (4, .ref o4), (3, .ref o3), (2, .ref (am 0)), (1, .ref (ad .cl)), (0, .ref b)]) hx hb dL_law_1445 hl (by decide) rfl (fun ls hl => ?_)
    refine lv_goto (tgt := 1819) hx hb dL_law_1447 (by decide) ?_
    refine W.widen (k := cells + 603) (n := slots + 9640) (by omega) (by omega) ?_
    exact K H locs ls ⟨ad, ks, g, u, (th r k), f3, f4, hk, (hGI.thr).mono (by omega) (by omega) (by omega), hP, hD, hS, lv_sub hl [2, 3, 4, 5, 6, 7] rfl⟩
set_option maxHeartbeats 8000000 in
set_option maxRecDepth 100000 in
theorem law_c37 {p : Program} {e : Env} {s : State} {m : MethodId} {below : List Frame} {meth : Method} {c : Code} (l : Launch) (hst : l.stackTraces = false) {b L : Nat} {xs : Nat → Int32} (dC : Nat → ClassId) (dI : Nat → Nat → Nat) (cy : Nat → ClassId) (nb : Nat → Nat) (o3 o4 : Nat) (am : Nat → Nat) {n : Nat} (hn : n < 512) (hL : 4 * n + 4 ≤ L) (hL2 : L ≤ 2048) (C0 : LX p s m meth c b L xs dC dI cy nb) {Q : State → Prop} {H : Heap} {locs : List Loc} {ls : Array Slot} {cells slots : Nat} (hc : cells ≤ 400000) (hs : slots ≤ 6000000) (h : LSt s dC dI cy nb b o3 o4 am n (4 * n) H locs ls) (K : ∀ (H : Heap) (locs : List Loc) (ls : Array Slot), LSt s dC dI cy nb b o3 o4 am (n + 1) (4 * n) H locs ls → W p l e room_1 s m #[Value.ref b] below meth c H locs (cells + 603) (slots + 9640) Q (F0 m 1819 ls [])) : W p l e room_1 s m #[Value.ref b] below meth c H locs cells slots Q (F0 m 1450 ls []) := by
  obtain ⟨hx, hb, hr, hml, hown, hts, hX, hbl, hlocks, hK, hE⟩ := C0
  have hA : ∀ q : Nat, s.heap.size ≤ q → (fun q : Nat => s.heap.size ≤ q) q := fun _ h => h
  have hbA : ¬ (fun q : Nat => s.heap.size ≤ q) b := Nat.not_le.mpr hbl
  obtain ⟨ad, ks, g, u, r, f3, f4, hk, hGI, hP, hD, hS, hl⟩ := h
  have h9 : CT (F8_leavesIn r (xs (4 * n + 1))) (C7_leavesIn g u (xs (4 * n + 1))) r g 0 (2001 * n) (602 * n) := a_leavesIn hGI (by omega) (by omega)
  rcases h9 with ⟨x, r2, c2, e1, e2, e3, e6⟩ | ⟨k, k1, k2, e1, e2⟩
  · refine lv_aload_n hx hb dL_law_1450 rfl (lv_at hl 4 rfl) ?_
    refine lv_aload_n hx hb dL_law_1451 rfl (lv_at hl 5 rfl) ?_
    refine lv_iload hx hb dL_law_1452 (lv_at hl 0 rfl) ?_
    refine lv_iconst (v := 1) hx hb dL_law_1454 (by decide) ?_
    refine lv_iadd hx hb dL_law_1455 ?_
    refine my_topi (y := nI (4 * n + 1)) (nI_add (4 * n) 1) ?_
    refine va_sld hx hb hX hbl hbA hS (vp_in_nI (n := 4 * n + 1) (by omega) (by omega)) dL_law_1456 ?_
    refine my_topi (y := xs (4 * n + 1)) (congrArg xs (nI_clamp (by omega))) ?_
    refine lv_aload_n hx hb dL_law_1457 rfl (lv_at hl 2 rfl) ?_
    have hPc : va_P (dC, dI) vwCl ([(o3, eL cy f3)] ++ WC cy ad ks g u) H := hP.part (X := XLW cy o3 o4 am f3 f4 r) (cx := [(o3, eL cy f3)]) [0] rfl
    have hDc : va_D (fun q : Nat => s.heap.size ≤ q) ([(o3, eL cy f3)] ++ WC cy ad ks g u) := hD.part (X := XLW cy o3 o4 am f3 f4 r) (cx := [(o3, eL cy f3)]) [0] (by decide) rfl
    have hFc : ∀ q, va_A ([(o3, eL cy f3)] ++ WC cy ad ks g u) H.size q → s.heap.size ≤ q := va_freeP (X := XLW cy o3 o4 am f3 f4 r) (cx := [(o3, eL cy f3)]) hD hS hA [0] rfl
    refine vx_calli (vx_runSX (As := [.ref (ad .cl), .int (xs (4 * n + 1)), .ref o3]) (rest := []) ⟨hx, hb, hml, hown, hts⟩ (cn_leavesIn l hst dC dI cy nb ad ks g hk u ((xs (4 * n + 1))) o3 f3 x c2 H.size e2) (vx_cwSW 3 hts (gSH mw_1294 mw_1295 mw_562 mw_1296) rfl rfl rfl (by decide +kernel) ⟨Nat.le_of_ble_eq_true rfl, Nat.le_of_ble_eq_true rfl⟩) (my_preS hPc hK hDc hE hS hFc) rfl rfl hl.1 rfl (lv_room (Nat.le_of_ble_eq_true rfl)) dL_law_1458 ⟨by show _ ≤ 601024; omega, by show _ ≤ 7293034; omega⟩) hS (fun q _ h => hFc q h) hFc (fun q _ h => hFc q h) (fun E9 ce9 q9 u9 t9 H1 locs1 ht9 hvm9 hp9 _ _ _ _ _ _ _ => hp9.elim) (fun rw9 u9 t9 H1 locs ht hvm hw hB hz1 hk1 hS => ?_)
    obtain ⟨hP1, hD1⟩ := hB
    rw [ht] at hP1
    obtain ⟨hP, hD⟩ := va_joinP (X := XLW cy o3 o4 am f3 f4 r) (cx := [(o3, eL cy f3)]) (wr := ((o4, eD cy f4) :: WM cy am r)) (rx := [(o3, eL cy (vp_updL f3 ((0 : Int32).toNatClampNeg) (x.toInt64)))]) (pl := WC cy ad ks g u) (pl1 := WC cy ad ks g c2) hP hD [0] [1, 2, 3, 4, 5, 6, 7, 8, 9, 10, 11, 12] rfl rfl (by decide) (by decide) hk1 hFc hP1 hD1
    have hP : va_P (dC, dI) vwCl (XLW cy o3 o4 am (vp_updL f3 ((0 : Int32).toNatClampNeg) (x.toInt64)) f4 r ++ WC cy ad ks g c2) H1 := hP.part (X := ((o4, eD cy f4) :: WM cy am r) ++ [(o3, eL cy (vp_updL f3 ((0 : Int32).toNatClampNeg) (x.toInt64)))]) (cx := XLW cy o3 o4 am (vp_updL f3 ((0 : Int32).toNatClampNeg) (x.toInt64)) f4 r) [12, 0, 1, 2, 3, 4, 5, 6, 7, 8, 9, 10, 11] rfl
    have hD : va_D (fun q : Nat => s.heap.size ≤ q) (XLW cy o3 o4 am (vp_updL f3 ((0 : Int32).toNatClampNeg) (x.toInt64)) f4 r ++ WC cy ad ks g c2) := hD.part (X := ((o4, eD cy f4) :: WM cy am r) ++ [(o3, eL cy (vp_updL f3 ((0 : Int32).toNatClampNeg) (x.toInt64)))]) (cx := XLW cy o3 o4 am (vp_updL f3 ((0 : Int32).toNatClampNeg) (x.toInt64)) f4 r) [12, 0, 1, 2, 3, 4, 5, 6, 7, 8, 9, 10, 11] (by decide) rfl
    generalize H1 = H at hP hS ⊢
    clear hP1 hD1 hPc hDc hFc hk1 hz1 hvm ht
    refine lv_istore (lv' := [(6, .int rw9), (5, .int (nI (4 * n))), (4, .ref o4), (3, .ref o3), (2, .ref (am 0)), (1, .ref (ad .cl)), (0, .ref b)]) hx hb dL_law_1461 hl (by decide) rfl (fun ls hl => ?_)
    refine lv_aload_n hx hb dL_law_1463 rfl (lv_at hl 4 rfl) ?_
    refine lv_aload_n hx hb dL_law_1464 rfl (lv_at hl 6 rfl) ?_
    refine lv_iload hx hb dL_law_1465 (lv_at hl 1 rfl) ?_
    refine lv_iconst (v := 1) hx hb dL_law_1467 (by decide) ?_
    refine lv_iadd hx hb dL_law_1468 ?_
    refine my_topi (y := nI (4 * n + 1)) (nI_add (4 * n) 1) ?_
    refine va_sld hx hb hX hbl hbA hS (vp_in_nI (n := 4 * n + 1) (by omega) (by omega)) dL_law_1469 ?_
    refine my_topi (y := xs (4 * n + 1)) (congrArg xs (nI_clamp (by omega))) ?_
    have hPc := hP.sub (ws' := (WM cy am r)) [2, 3, 4, 5, 6, 7, 8, 9, 10, 11, 12] rfl
    have hDc := hD.sub (ws' := (WM cy am r)) [2, 3, 4, 5, 6, 7, 8, 9, 10, 11, 12] (by decide) rfl
    have hFc := va_free (wc := (WM cy am r)) hD hS hA [2, 3, 4, 5, 6, 7, 8, 9, 10, 11, 12] rfl
    refine va_calli (va_runV (As := [.int (xs (4 * n + 1))]) (rest := []) ⟨hx, hb, hml, hown, hts⟩ (k_X8_leavesIn l dC dI cy nb am r ((xs (4 * n + 1))) x (r2) H.size e1) (cwV 1 hts (gV mw_1326 mw_1327 mw_1328 mw_5 mw_1329) rfl rfl rfl (by decide +kernel) ⟨Nat.le_of_ble_eq_true rfl, Nat.le_of_ble_eq_true rfl⟩) (my_preV hPc hK hDc hE hS hFc (va_recv (q := (RX8, TX8, 23)) hK hP (ci := 8) (q0 := 2) rfl rfl)) rfl rfl hl.1 rfl (lv_room (Nat.le_of_ble_eq_true rfl)) dL_law_1470 ⟨by show _ ≤ 601024; omega, by show _ ≤ 7293034; omega⟩) hS (fun q _ h => hFc q h) hFc (fun rm9 u9 t9 H1 locs ht hvm hwm hB hz1 hk1 hS => ?_)
    obtain ⟨hP1, hD1⟩ := hB
    rw [ht] at hP1
    obtain ⟨hP, hD⟩ := va_joinQ (X := XLW cy o3 o4 am (vp_updL f3 ((0 : Int32).toNatClampNeg) (x.toInt64)) f4 r) (cx := (WM cy am r)) (wr := [(o3, eL cy (vp_updL f3 ((0 : Int32).toNatClampNeg) (x.toInt64))), (o4, eD cy f4)]) (w1 := (WM cy am (r2))) (pl := WC cy ad ks g c2) hP hD [2, 3, 4, 5, 6, 7, 8, 9, 10, 11, 12] [0, 1] rfl rfl (by decide) (by decide) hk1 hFc hP1 hD1
    have hP : va_P (dC, dI) vwCl (XLW cy o3 o4 am (vp_updL f3 ((0 : Int32).toNatClampNeg) (x.toInt64)) f4 r2 ++ WC cy ad ks g c2) H1 := hP
    have hD : va_D (fun q : Nat => s.heap.size ≤ q) (XLW cy o3 o4 am (vp_updL f3 ((0 : Int32).toNatClampNeg) (x.toInt64)) f4 r2 ++ WC cy ad ks g c2) := hD
    generalize H1 = H at hP hS ⊢
    clear hP1 hD1 hPc hDc hFc hk1 hz1 hvm ht
    refine my_topi hwm ?_
    refine lv_istore (lv' := [(7, .int x), (6, .int rw9), (5, .int (nI (4 * n))), (4, .ref o4), (3, .ref o3), (2, .ref (am 0)), (1, .ref (ad .cl)), (0, .ref b)]) hx hb dL_law_1473 hl (by decide) rfl (fun ls hl => ?_)
    refine lv_goto (tgt := 1819) hx hb dL_law_1475 (by decide) ?_
    refine W.widen (k := cells + 603) (n := slots + 9640) (by omega) (by omega) ?_
    exact K H locs ls ⟨ad, ks, g, c2, r2, (vp_updL f3 ((0 : Int32).toNatClampNeg) (x.toInt64)), f4, hk, e3.mono (by omega) (by omega) (by omega), hP, hD, hS, lv_sub hl [2, 3, 4, 5, 6, 7] rfl⟩
  · have e2 : C7_leavesIn g u (xs (4 * n + 1)) = some (.inl (nI (k + 0))) := e2
    generalize hxx : (nI (k + 0)) = xk at e2
    have hxk : xk = 1 := x1_leavesIn e2
    refine lv_aload_n hx hb dL_law_1450 rfl (lv_at hl 4 rfl) ?_
    refine lv_aload_n hx hb dL_law_1451 rfl (lv_at hl 5 rfl) ?_
    refine lv_iload hx hb dL_law_1452 (lv_at hl 0 rfl) ?_
    refine lv_iconst (v := 1) hx hb dL_law_1454 (by decide) ?_
    refine lv_iadd hx hb dL_law_1455 ?_
    refine my_topi (y := nI (4 * n + 1)) (nI_add (4 * n) 1) ?_
    refine va_sld hx hb hX hbl hbA hS (vp_in_nI (n := 4 * n + 1) (by omega) (by omega)) dL_law_1456 ?_
    refine my_topi (y := xs (4 * n + 1)) (congrArg xs (nI_clamp (by omega))) ?_
    refine lv_aload_n hx hb dL_law_1457 rfl (lv_at hl 2 rfl) ?_
    have hPc : va_P (dC, dI) vwCl ([(o3, eL cy f3)] ++ WC cy ad ks g u) H := hP.part (X := XLW cy o3 o4 am f3 f4 r) (cx := [(o3, eL cy f3)]) [0] rfl
    have hDc : va_D (fun q : Nat => s.heap.size ≤ q) ([(o3, eL cy f3)] ++ WC cy ad ks g u) := hD.part (X := XLW cy o3 o4 am f3 f4 r) (cx := [(o3, eL cy f3)]) [0] (by decide) rfl
    have hFc : ∀ q, va_A ([(o3, eL cy f3)] ++ WC cy ad ks g u) H.size q → s.heap.size ≤ q := va_freeP (X := XLW cy o3 o4 am f3 f4 r) (cx := [(o3, eL cy f3)]) hD hS hA [0] rfl
    refine vx_calli (vx_runSX (As := [.ref (ad .cl), .int (xs (4 * n + 1)), .ref o3]) (rest := []) ⟨hx, hb, hml, hown, hts⟩ (ct_leavesIn l hst dC dI cy nb ad ks g hk u ((xs (4 * n + 1))) o3 f3 xk H.size hxk e2) (vx_cwSW 3 hts (gSH mw_1294 mw_1295 mw_562 mw_1296) rfl rfl rfl (by decide +kernel) ⟨Nat.le_of_ble_eq_true rfl, Nat.le_of_ble_eq_true rfl⟩) (my_preS hPc hK hDc hE hS hFc) rfl rfl hl.1 rfl (lv_room (Nat.le_of_ble_eq_true rfl)) dL_law_1458 ⟨by show _ ≤ 601024; omega, by show _ ≤ 7293034; omega⟩) hS (fun q _ h => hFc q h) hFc (fun q _ h => hFc q h) (fun E9 ce9 q9 u9 t9 H1 locs1 ht9 hvm9 hp9 _ _ _ _ _ _ _ => hp9.elim) (fun rw9 u9 t9 H1 locs ht hvm hw hB hz1 hk1 hS => ?_)
    obtain ⟨hP1, hD1⟩ := hB
    rw [ht] at hP1
    obtain ⟨hP, hD⟩ := va_joinP (X := XLW cy o3 o4 am f3 f4 r) (cx := [(o3, eL cy f3)]) (wr := ((o4, eD cy f4) :: WM cy am r)) (rx := [(o3, eL cy f3)]) (pl := WC cy ad ks g u) (pl1 := WC cy ad ks g u) hP hD [0] [1, 2, 3, 4, 5, 6, 7, 8, 9, 10, 11, 12] rfl rfl (by decide) (by decide) hk1 hFc hP1 hD1
    have hP : va_P (dC, dI) vwCl (XLW cy o3 o4 am f3 f4 r ++ WC cy ad ks g u) H1 := hP.part (X := ((o4, eD cy f4) :: WM cy am r) ++ [(o3, eL cy f3)]) (cx := XLW cy o3 o4 am f3 f4 r) [12, 0, 1, 2, 3, 4, 5, 6, 7, 8, 9, 10, 11] rfl
    have hD : va_D (fun q : Nat => s.heap.size ≤ q) (XLW cy o3 o4 am f3 f4 r ++ WC cy ad ks g u) := hD.part (X := ((o4, eD cy f4) :: WM cy am r) ++ [(o3, eL cy f3)]) (cx := XLW cy o3 o4 am f3 f4 r) [12, 0, 1, 2, 3, 4, 5, 6, 7, 8, 9, 10, 11] (by decide) rfl
    generalize H1 = H at hP hS ⊢
    clear hP1 hD1 hPc hDc hFc hk1 hz1 hvm ht
    refine lv_istore (lv' := [(6, .int rw9), (5, .int (nI (4 * n))), (4, .ref o4), (3, .ref o3), (2, .ref (am 0)), (1, .ref (ad .cl)), (0, .ref b)]) hx hb dL_law_1461 hl (by decide) rfl (fun ls hl => ?_)
    refine lv_aload_n hx hb dL_law_1463 rfl (lv_at hl 4 rfl) ?_
    refine lv_aload_n hx hb dL_law_1464 rfl (lv_at hl 6 rfl) ?_
    refine lv_iload hx hb dL_law_1465 (lv_at hl 1 rfl) ?_
    refine lv_iconst (v := 1) hx hb dL_law_1467 (by decide) ?_
    refine lv_iadd hx hb dL_law_1468 ?_
    refine my_topi (y := nI (4 * n + 1)) (nI_add (4 * n) 1) ?_
    refine va_sld hx hb hX hbl hbA hS (vp_in_nI (n := 4 * n + 1) (by omega) (by omega)) dL_law_1469 ?_
    refine my_topi (y := xs (4 * n + 1)) (congrArg xs (nI_clamp (by omega))) ?_
    have hPc := hP.sub (ws' := (WM cy am r)) [2, 3, 4, 5, 6, 7, 8, 9, 10, 11, 12] rfl
    have hDc := hD.sub (ws' := (WM cy am r)) [2, 3, 4, 5, 6, 7, 8, 9, 10, 11, 12] (by decide) rfl
    have hFc := va_free (wc := (WM cy am r)) hD hS hA [2, 3, 4, 5, 6, 7, 8, 9, 10, 11, 12] rfl
    refine va_calli (va_runV (As := [.int (xs (4 * n + 1))]) (rest := []) ⟨hx, hb, hml, hown, hts⟩ (k_X8_leavesIn l dC dI cy nb am r ((xs (4 * n + 1))) (nI 0) (th r k) H.size e1) (cwV 1 hts (gV mw_1326 mw_1327 mw_1328 mw_5 mw_1329) rfl rfl rfl (by decide +kernel) ⟨Nat.le_of_ble_eq_true rfl, Nat.le_of_ble_eq_true rfl⟩) (my_preV hPc hK hDc hE hS hFc (va_recv (q := (RX8, TX8, 23)) hK hP (ci := 8) (q0 := 2) rfl rfl)) rfl rfl hl.1 rfl (lv_room (Nat.le_of_ble_eq_true rfl)) dL_law_1470 ⟨by show _ ≤ 601024; omega, by show _ ≤ 7293034; omega⟩) hS (fun q _ h => hFc q h) hFc (fun rm9 u9 t9 H1 locs ht hvm hwm hB hz1 hk1 hS => ?_)
    obtain ⟨hP1, hD1⟩ := hB
    rw [ht] at hP1
    obtain ⟨hP, hD⟩ := va_joinQ (X := XLW cy o3 o4 am f3 f4 r) (cx := (WM cy am r)) (wr := [(o3, eL cy f3), (o4, eD cy f4)]) (w1 := (WM cy am (th r k))) (pl := WC cy ad ks g u) hP hD [2, 3, 4, 5, 6, 7, 8, 9, 10, 11, 12] [0, 1] rfl rfl (by decide) (by decide) hk1 hFc hP1 hD1
    have hP : va_P (dC, dI) vwCl (XLW cy o3 o4 am f3 f4 (th r k) ++ WC cy ad ks g u) H1 := hP
    have hD : va_D (fun q : Nat => s.heap.size ≤ q) (XLW cy o3 o4 am f3 f4 (th r k) ++ WC cy ad ks g u) := hD
    generalize H1 = H at hP hS ⊢
    clear hP1 hD1 hPc hDc hFc hk1 hz1 hvm ht
    refine my_topi hwm ?_
    refine lv_istore (lv' := [(7, .int (nI 0)), (6, .int rw9), (5, .int (nI (4 * n))), (4, .ref o4), (3, .ref o3), (2, .ref (am 0)), (1, .ref (ad .cl)), (0, .ref b)]) hx hb dL_law_1473 hl (by decide) rfl (fun ls hl => ?_)
    refine lv_goto (tgt := 1819) hx hb dL_law_1475 (by decide) ?_
    refine W.widen (k := cells + 603) (n := slots + 9640) (by omega) (by omega) ?_
    exact K H locs ls ⟨ad, ks, g, u, (th r k), f3, f4, hk, (hGI.thr).mono (by omega) (by omega) (by omega), hP, hD, hS, lv_sub hl [2, 3, 4, 5, 6, 7] rfl⟩
set_option maxHeartbeats 8000000 in
set_option maxRecDepth 100000 in
theorem law_c38 {p : Program} {e : Env} {s : State} {m : MethodId} {below : List Frame} {meth : Method} {c : Code} (l : Launch) (hst : l.stackTraces = false) {b L : Nat} {xs : Nat → Int32} (dC : Nat → ClassId) (dI : Nat → Nat → Nat) (cy : Nat → ClassId) (nb : Nat → Nat) (o3 o4 : Nat) (am : Nat → Nat) {n : Nat} (hn : n < 512) (hL : 4 * n + 4 ≤ L) (hL2 : L ≤ 2048) (C0 : LX p s m meth c b L xs dC dI cy nb) {Q : State → Prop} {H : Heap} {locs : List Loc} {ls : Array Slot} {cells slots : Nat} (hc : cells ≤ 400000) (hs : slots ≤ 6000000) (h : LSt s dC dI cy nb b o3 o4 am n (4 * n) H locs ls) (K : ∀ (H : Heap) (locs : List Loc) (ls : Array Slot), LSt s dC dI cy nb b o3 o4 am (n + 1) (4 * n) H locs ls → W p l e room_1 s m #[Value.ref b] below meth c H locs (cells + 603) (slots + 9640) Q (F0 m 1819 ls [])) : W p l e room_1 s m #[Value.ref b] below meth c H locs cells slots Q (F0 m 1478 ls []) := by
  obtain ⟨hx, hb, hr, hml, hown, hts, hX, hbl, hlocks, hK, hE⟩ := C0
  have hA : ∀ q : Nat, s.heap.size ≤ q → (fun q : Nat => s.heap.size ≤ q) q := fun _ h => h
  have hbA : ¬ (fun q : Nat => s.heap.size ≤ q) b := Nat.not_le.mpr hbl
  obtain ⟨ad, ks, g, u, r, f3, f4, hk, hGI, hP, hD, hS, hl⟩ := h
  have h9 : CT (F8_lotIn r (xs (4 * n + 1))) (C7_lotIn g u (xs (4 * n + 1))) r g 0 (2001 * n) (602 * n) := a_lotIn hGI (by omega) (by omega)
  rcases h9 with ⟨x, r2, c2, e1, e2, e3, e6⟩ | ⟨k, k1, k2, e1, e2⟩
  · refine lv_aload_n hx hb dL_law_1478 rfl (lv_at hl 4 rfl) ?_
    refine lv_aload_n hx hb dL_law_1479 rfl (lv_at hl 5 rfl) ?_
    refine lv_iload hx hb dL_law_1480 (lv_at hl 0 rfl) ?_
    refine lv_iconst (v := 1) hx hb dL_law_1482 (by decide) ?_
    refine lv_iadd hx hb dL_law_1483 ?_
    refine my_topi (y := nI (4 * n + 1)) (nI_add (4 * n) 1) ?_
    refine va_sld hx hb hX hbl hbA hS (vp_in_nI (n := 4 * n + 1) (by omega) (by omega)) dL_law_1484 ?_
    refine my_topi (y := xs (4 * n + 1)) (congrArg xs (nI_clamp (by omega))) ?_
    refine lv_aload_n hx hb dL_law_1485 rfl (lv_at hl 2 rfl) ?_
    have hPc : va_P (dC, dI) vwCl ([(o3, eL cy f3)] ++ WC cy ad ks g u) H := hP.part (X := XLW cy o3 o4 am f3 f4 r) (cx := [(o3, eL cy f3)]) [0] rfl
    have hDc : va_D (fun q : Nat => s.heap.size ≤ q) ([(o3, eL cy f3)] ++ WC cy ad ks g u) := hD.part (X := XLW cy o3 o4 am f3 f4 r) (cx := [(o3, eL cy f3)]) [0] (by decide) rfl
    have hFc : ∀ q, va_A ([(o3, eL cy f3)] ++ WC cy ad ks g u) H.size q → s.heap.size ≤ q := va_freeP (X := XLW cy o3 o4 am f3 f4 r) (cx := [(o3, eL cy f3)]) hD hS hA [0] rfl
    refine vx_calli (vx_runSX (As := [.ref (ad .cl), .int (xs (4 * n + 1)), .ref o3]) (rest := []) ⟨hx, hb, hml, hown, hts⟩ (cn_lotIn l hst dC dI cy nb ad ks g hk u ((xs (4 * n + 1))) o3 f3 x c2 H.size e2) (vx_cwSW 3 hts (gSH mw_1346 mw_1347 mw_562 mw_1348) rfl rfl rfl (by decide +kernel) ⟨Nat.le_of_ble_eq_true rfl, Nat.le_of_ble_eq_true rfl⟩) (my_preS hPc hK hDc hE hS hFc) rfl rfl hl.1 rfl (lv_room (Nat.le_of_ble_eq_true rfl)) dL_law_1486 ⟨by show _ ≤ 601024; omega, by show _ ≤ 7293034; omega⟩) hS (fun q _ h => hFc q h) hFc (fun q _ h => hFc q h) (fun E9 ce9 q9 u9 t9 H1 locs1 ht9 hvm9 hp9 _ _ _ _ _ _ _ => hp9.elim) (fun rw9 u9 t9 H1 locs ht hvm hw hB hz1 hk1 hS => ?_)
    obtain ⟨hP1, hD1⟩ := hB
    rw [ht] at hP1
    obtain ⟨hP, hD⟩ := va_joinP (X := XLW cy o3 o4 am f3 f4 r) (cx := [(o3, eL cy f3)]) (wr := ((o4, eD cy f4) :: WM cy am r)) (rx := [(o3, eL cy (vp_updL f3 ((0 : Int32).toNatClampNeg) (x.toInt64)))]) (pl := WC cy ad ks g u) (pl1 := WC cy ad ks g c2) hP hD [0] [1, 2, 3, 4, 5, 6, 7, 8, 9, 10, 11, 12] rfl rfl (by decide) (by decide) hk1 hFc hP1 hD1
    have hP : va_P (dC, dI) vwCl (XLW cy o3 o4 am (vp_updL f3 ((0 : Int32).toNatClampNeg) (x.toInt64)) f4 r ++ WC cy ad ks g c2) H1 := hP.part (X := ((o4, eD cy f4) :: WM cy am r) ++ [(o3, eL cy (vp_updL f3 ((0 : Int32).toNatClampNeg) (x.toInt64)))]) (cx := XLW cy o3 o4 am (vp_updL f3 ((0 : Int32).toNatClampNeg) (x.toInt64)) f4 r) [12, 0, 1, 2, 3, 4, 5, 6, 7, 8, 9, 10, 11] rfl
    have hD : va_D (fun q : Nat => s.heap.size ≤ q) (XLW cy o3 o4 am (vp_updL f3 ((0 : Int32).toNatClampNeg) (x.toInt64)) f4 r ++ WC cy ad ks g c2) := hD.part (X := ((o4, eD cy f4) :: WM cy am r) ++ [(o3, eL cy (vp_updL f3 ((0 : Int32).toNatClampNeg) (x.toInt64)))]) (cx := XLW cy o3 o4 am (vp_updL f3 ((0 : Int32).toNatClampNeg) (x.toInt64)) f4 r) [12, 0, 1, 2, 3, 4, 5, 6, 7, 8, 9, 10, 11] (by decide) rfl
    generalize H1 = H at hP hS ⊢
    clear hP1 hD1 hPc hDc hFc hk1 hz1 hvm ht
    refine lv_istore (lv' := [(6, .int rw9), (5, .int (nI (4 * n))), (4, .ref o4), (3, .ref o3), (2, .ref (am 0)), (1, .ref (ad .cl)), (0, .ref b)]) hx hb dL_law_1489 hl (by decide) rfl (fun ls hl => ?_)
    refine lv_aload_n hx hb dL_law_1491 rfl (lv_at hl 4 rfl) ?_
    refine lv_aload_n hx hb dL_law_1492 rfl (lv_at hl 6 rfl) ?_
    refine lv_iload hx hb dL_law_1493 (lv_at hl 1 rfl) ?_
    refine lv_iconst (v := 1) hx hb dL_law_1495 (by decide) ?_
    refine lv_iadd hx hb dL_law_1496 ?_
    refine my_topi (y := nI (4 * n + 1)) (nI_add (4 * n) 1) ?_
    refine va_sld hx hb hX hbl hbA hS (vp_in_nI (n := 4 * n + 1) (by omega) (by omega)) dL_law_1497 ?_
    refine my_topi (y := xs (4 * n + 1)) (congrArg xs (nI_clamp (by omega))) ?_
    have hPc := hP.sub (ws' := (WM cy am r)) [2, 3, 4, 5, 6, 7, 8, 9, 10, 11, 12] rfl
    have hDc := hD.sub (ws' := (WM cy am r)) [2, 3, 4, 5, 6, 7, 8, 9, 10, 11, 12] (by decide) rfl
    have hFc := va_free (wc := (WM cy am r)) hD hS hA [2, 3, 4, 5, 6, 7, 8, 9, 10, 11, 12] rfl
    refine va_calli (va_runV (As := [.int (xs (4 * n + 1))]) (rest := []) ⟨hx, hb, hml, hown, hts⟩ (k_X8_lotIn l dC dI cy nb am r ((xs (4 * n + 1))) x (r2) H.size e1) (cwV 1 hts (gV mw_1354 mw_1355 mw_1356 mw_5 mw_1357) rfl rfl rfl (by decide +kernel) ⟨Nat.le_of_ble_eq_true rfl, Nat.le_of_ble_eq_true rfl⟩) (my_preV hPc hK hDc hE hS hFc (va_recv (q := (RX8, TX8, 23)) hK hP (ci := 8) (q0 := 2) rfl rfl)) rfl rfl hl.1 rfl (lv_room (Nat.le_of_ble_eq_true rfl)) dL_law_1498 ⟨by show _ ≤ 601024; omega, by show _ ≤ 7293034; omega⟩) hS (fun q _ h => hFc q h) hFc (fun rm9 u9 t9 H1 locs ht hvm hwm hB hz1 hk1 hS => ?_)
    obtain ⟨hP1, hD1⟩ := hB
    rw [ht] at hP1
    obtain ⟨hP, hD⟩ := va_joinQ (X := XLW cy o3 o4 am (vp_updL f3 ((0 : Int32).toNatClampNeg) (x.toInt64)) f4 r) (cx := (WM cy am r)) (wr := [(o3, eL cy (vp_updL f3 ((0 : Int32).toNatClampNeg) (x.toInt64))), (o4, eD cy f4)]) (w1 := (WM cy am (r2))) (pl := WC cy ad ks g c2) hP hD [2, 3, 4, 5, 6, 7, 8, 9, 10, 11, 12] [0, 1] rfl rfl (by decide) (by decide) hk1 hFc hP1 hD1
    have hP : va_P (dC, dI) vwCl (XLW cy o3 o4 am (vp_updL f3 ((0 : Int32).toNatClampNeg) (x.toInt64)) f4 r2 ++ WC cy ad ks g c2) H1 := hP
    have hD : va_D (fun q : Nat => s.heap.size ≤ q) (XLW cy o3 o4 am (vp_updL f3 ((0 : Int32).toNatClampNeg) (x.toInt64)) f4 r2 ++ WC cy ad ks g c2) := hD
    generalize H1 = H at hP hS ⊢
    clear hP1 hD1 hPc hDc hFc hk1 hz1 hvm ht
    refine my_topi hwm ?_
    refine lv_istore (lv' := [(7, .int x), (6, .int rw9), (5, .int (nI (4 * n))), (4, .ref o4), (3, .ref o3), (2, .ref (am 0)), (1, .ref (ad .cl)), (0, .ref b)]) hx hb dL_law_1501 hl (by decide) rfl (fun ls hl => ?_)
    refine lv_goto (tgt := 1819) hx hb dL_law_1503 (by decide) ?_
    refine W.widen (k := cells + 603) (n := slots + 9640) (by omega) (by omega) ?_
    exact K H locs ls ⟨ad, ks, g, c2, r2, (vp_updL f3 ((0 : Int32).toNatClampNeg) (x.toInt64)), f4, hk, e3.mono (by omega) (by omega) (by omega), hP, hD, hS, lv_sub hl [2, 3, 4, 5, 6, 7] rfl⟩
  · have e2 : C7_lotIn g u (xs (4 * n + 1)) = some (.inl (nI (k + 0))) := e2
    generalize hxx : (nI (k + 0)) = xk at e2
    have hxk : xk = 1 := x1_lotIn e2
    refine lv_aload_n hx hb dL_law_1478 rfl (lv_at hl 4 rfl) ?_
    refine lv_aload_n hx hb dL_law_1479 rfl (lv_at hl 5 rfl) ?_
    refine lv_iload hx hb dL_law_1480 (lv_at hl 0 rfl) ?_
    refine lv_iconst (v := 1) hx hb dL_law_1482 (by decide) ?_
    refine lv_iadd hx hb dL_law_1483 ?_
    refine my_topi (y := nI (4 * n + 1)) (nI_add (4 * n) 1) ?_
    refine va_sld hx hb hX hbl hbA hS (vp_in_nI (n := 4 * n + 1) (by omega) (by omega)) dL_law_1484 ?_
    refine my_topi (y := xs (4 * n + 1)) (congrArg xs (nI_clamp (by omega))) ?_
    refine lv_aload_n hx hb dL_law_1485 rfl (lv_at hl 2 rfl) ?_
    have hPc : va_P (dC, dI) vwCl ([(o3, eL cy f3)] ++ WC cy ad ks g u) H := hP.part (X := XLW cy o3 o4 am f3 f4 r) (cx := [(o3, eL cy f3)]) [0] rfl
    have hDc : va_D (fun q : Nat => s.heap.size ≤ q) ([(o3, eL cy f3)] ++ WC cy ad ks g u) := hD.part (X := XLW cy o3 o4 am f3 f4 r) (cx := [(o3, eL cy f3)]) [0] (by decide) rfl
    have hFc : ∀ q, va_A ([(o3, eL cy f3)] ++ WC cy ad ks g u) H.size q → s.heap.size ≤ q := va_freeP (X := XLW cy o3 o4 am f3 f4 r) (cx := [(o3, eL cy f3)]) hD hS hA [0] rfl
    refine vx_calli (vx_runSX (As := [.ref (ad .cl), .int (xs (4 * n + 1)), .ref o3]) (rest := []) ⟨hx, hb, hml, hown, hts⟩ (ct_lotIn l hst dC dI cy nb ad ks g hk u ((xs (4 * n + 1))) o3 f3 xk H.size hxk e2) (vx_cwSW 3 hts (gSH mw_1346 mw_1347 mw_562 mw_1348) rfl rfl rfl (by decide +kernel) ⟨Nat.le_of_ble_eq_true rfl, Nat.le_of_ble_eq_true rfl⟩) (my_preS hPc hK hDc hE hS hFc) rfl rfl hl.1 rfl (lv_room (Nat.le_of_ble_eq_true rfl)) dL_law_1486 ⟨by show _ ≤ 601024; omega, by show _ ≤ 7293034; omega⟩) hS (fun q _ h => hFc q h) hFc (fun q _ h => hFc q h) (fun E9 ce9 q9 u9 t9 H1 locs1 ht9 hvm9 hp9 _ _ _ _ _ _ _ => hp9.elim) (fun rw9 u9 t9 H1 locs ht hvm hw hB hz1 hk1 hS => ?_)
    obtain ⟨hP1, hD1⟩ := hB
    rw [ht] at hP1
    obtain ⟨hP, hD⟩ := va_joinP (X := XLW cy o3 o4 am f3 f4 r) (cx := [(o3, eL cy f3)]) (wr := ((o4, eD cy f4) :: WM cy am r)) (rx := [(o3, eL cy f3)]) (pl := WC cy ad ks g u) (pl1 := WC cy ad ks g u) hP hD [0] [1, 2, 3, 4, 5, 6, 7, 8, 9, 10, 11, 12] rfl rfl (by decide) (by decide) hk1 hFc hP1 hD1
    have hP : va_P (dC, dI) vwCl (XLW cy o3 o4 am f3 f4 r ++ WC cy ad ks g u) H1 := hP.part (X := ((o4, eD cy f4) :: WM cy am r) ++ [(o3, eL cy f3)]) (cx := XLW cy o3 o4 am f3 f4 r) [12, 0, 1, 2, 3, 4, 5, 6, 7, 8, 9, 10, 11] rfl
    have hD : va_D (fun q : Nat => s.heap.size ≤ q) (XLW cy o3 o4 am f3 f4 r ++ WC cy ad ks g u) := hD.part (X := ((o4, eD cy f4) :: WM cy am r) ++ [(o3, eL cy f3)]) (cx := XLW cy o3 o4 am f3 f4 r) [12, 0, 1, 2, 3, 4, 5, 6, 7, 8, 9, 10, 11] (by decide) rfl
    generalize H1 = H at hP hS ⊢
    clear hP1 hD1 hPc hDc hFc hk1 hz1 hvm ht
    refine lv_istore (lv' := [(6, .int rw9), (5, .int (nI (4 * n))), (4, .ref o4), (3, .ref o3), (2, .ref (am 0)), (1, .ref (ad .cl)), (0, .ref b)]) hx hb dL_law_1489 hl (by decide) rfl (fun ls hl => ?_)
    refine lv_aload_n hx hb dL_law_1491 rfl (lv_at hl 4 rfl) ?_
    refine lv_aload_n hx hb dL_law_1492 rfl (lv_at hl 6 rfl) ?_
    refine lv_iload hx hb dL_law_1493 (lv_at hl 1 rfl) ?_
    refine lv_iconst (v := 1) hx hb dL_law_1495 (by decide) ?_
    refine lv_iadd hx hb dL_law_1496 ?_
    refine my_topi (y := nI (4 * n + 1)) (nI_add (4 * n) 1) ?_
    refine va_sld hx hb hX hbl hbA hS (vp_in_nI (n := 4 * n + 1) (by omega) (by omega)) dL_law_1497 ?_
    refine my_topi (y := xs (4 * n + 1)) (congrArg xs (nI_clamp (by omega))) ?_
    have hPc := hP.sub (ws' := (WM cy am r)) [2, 3, 4, 5, 6, 7, 8, 9, 10, 11, 12] rfl
    have hDc := hD.sub (ws' := (WM cy am r)) [2, 3, 4, 5, 6, 7, 8, 9, 10, 11, 12] (by decide) rfl
    have hFc := va_free (wc := (WM cy am r)) hD hS hA [2, 3, 4, 5, 6, 7, 8, 9, 10, 11, 12] rfl
    refine va_calli (va_runV (As := [.int (xs (4 * n + 1))]) (rest := []) ⟨hx, hb, hml, hown, hts⟩ (k_X8_lotIn l dC dI cy nb am r ((xs (4 * n + 1))) (nI 0) (th r k) H.size e1) (cwV 1 hts (gV mw_1354 mw_1355 mw_1356 mw_5 mw_1357) rfl rfl rfl (by decide +kernel) ⟨Nat.le_of_ble_eq_true rfl, Nat.le_of_ble_eq_true rfl⟩) (my_preV hPc hK hDc hE hS hFc (va_recv (q := (RX8, TX8, 23)) hK hP (ci := 8) (q0 := 2) rfl rfl)) rfl rfl hl.1 rfl (lv_room (Nat.le_of_ble_eq_true rfl)) dL_law_1498 ⟨by show _ ≤ 601024; omega, by show _ ≤ 7293034; omega⟩) hS (fun q _ h => hFc q h) hFc (fun rm9 u9 t9 H1 locs ht hvm hwm hB hz1 hk1 hS => ?_)
    obtain ⟨hP1, hD1⟩ := hB
    rw [ht] at hP1
    obtain ⟨hP, hD⟩ := va_joinQ (X := XLW cy o3 o4 am f3 f4 r) (cx := (WM cy am r)) (wr := [(o3, eL cy f3), (o4, eD cy f4)]) (w1 := (WM cy am (th r k))) (pl := WC cy ad ks g u) hP hD [2, 3, 4, 5, 6, 7, 8, 9, 10, 11, 12] [0, 1] rfl rfl (by decide) (by decide) hk1 hFc hP1 hD1
    have hP : va_P (dC, dI) vwCl (XLW cy o3 o4 am f3 f4 (th r k) ++ WC cy ad ks g u) H1 := hP
    have hD : va_D (fun q : Nat => s.heap.size ≤ q) (XLW cy o3 o4 am f3 f4 (th r k) ++ WC cy ad ks g u) := hD
    generalize H1 = H at hP hS ⊢
    clear hP1 hD1 hPc hDc hFc hk1 hz1 hvm ht
    refine my_topi hwm ?_
    refine lv_istore (lv' := [(7, .int (nI 0)), (6, .int rw9), (5, .int (nI (4 * n))), (4, .ref o4), (3, .ref o3), (2, .ref (am 0)), (1, .ref (ad .cl)), (0, .ref b)]) hx hb dL_law_1501 hl (by decide) rfl (fun ls hl => ?_)
    refine lv_goto (tgt := 1819) hx hb dL_law_1503 (by decide) ?_
    refine W.widen (k := cells + 603) (n := slots + 9640) (by omega) (by omega) ?_
    exact K H locs ls ⟨ad, ks, g, u, (th r k), f3, f4, hk, (hGI.thr).mono (by omega) (by omega) (by omega), hP, hD, hS, lv_sub hl [2, 3, 4, 5, 6, 7] rfl⟩
set_option maxHeartbeats 8000000 in
set_option maxRecDepth 100000 in
theorem law_c39 {p : Program} {e : Env} {s : State} {m : MethodId} {below : List Frame} {meth : Method} {c : Code} (l : Launch) (hst : l.stackTraces = false) {b L : Nat} {xs : Nat → Int32} (dC : Nat → ClassId) (dI : Nat → Nat → Nat) (cy : Nat → ClassId) (nb : Nat → Nat) (o3 o4 : Nat) (am : Nat → Nat) {n : Nat} (hn : n < 512) (hL : 4 * n + 4 ≤ L) (hL2 : L ≤ 2048) (C0 : LX p s m meth c b L xs dC dI cy nb) {Q : State → Prop} {H : Heap} {locs : List Loc} {ls : Array Slot} {cells slots : Nat} (hc : cells ≤ 400000) (hs : slots ≤ 6000000) (h : LSt s dC dI cy nb b o3 o4 am n (4 * n) H locs ls) (K : ∀ (H : Heap) (locs : List Loc) (ls : Array Slot), LSt s dC dI cy nb b o3 o4 am (n + 1) (4 * n) H locs ls → W p l e room_1 s m #[Value.ref b] below meth c H locs (cells + 603) (slots + 9640) Q (F0 m 1819 ls [])) : W p l e room_1 s m #[Value.ref b] below meth c H locs cells slots Q (F0 m 1506 ls []) := by
  obtain ⟨hx, hb, hr, hml, hown, hts, hX, hbl, hlocks, hK, hE⟩ := C0
  have hA : ∀ q : Nat, s.heap.size ≤ q → (fun q : Nat => s.heap.size ≤ q) q := fun _ h => h
  have hbA : ¬ (fun q : Nat => s.heap.size ≤ q) b := Nat.not_le.mpr hbl
  obtain ⟨ad, ks, g, u, r, f3, f4, hk, hGI, hP, hD, hS, hl⟩ := h
  have h9 : BT (F8_allIn r) (C7_allIn g u) g (2001 * n) (602 * n) := a_allIn hGI (by omega) (by omega)
  obtain ⟨x, r2, c2, e1, e2, e3, e6⟩ := h9
  refine lv_aload_n hx hb dL_law_1506 rfl (lv_at hl 4 rfl) ?_
  have hPc : va_P (dC, dI) vwCl (WC cy ad ks g u) H := hP.part (X := XLW cy o3 o4 am f3 f4 r) (cx := []) [] rfl
  have hDc : va_D (fun q : Nat => s.heap.size ≤ q) (WC cy ad ks g u) := hD.part (X := XLW cy o3 o4 am f3 f4 r) (cx := []) [] (by decide) rfl
  have hFc : ∀ q, va_A (WC cy ad ks g u) H.size q → s.heap.size ≤ q := va_freeP (X := XLW cy o3 o4 am f3 f4 r) (cx := []) hD hS hA [] rfl
  obtain ⟨q8, h8⟩ := wc_at (cy := cy) (ad := ad) (ks := ks) (g := g) (u := u) (κ := .cl) hk.1 True.intro
  refine va_calli (va_runV (As := []) (rest := []) ⟨hx, hb, hml, hown, hts⟩ (c_X7_allIn l dC dI cy nb ad ks g hk u  x c2 H.size e2) (cwV 0 hts (gV mw_1358 mw_1359 mw_1360 mw_2 mw_1361) rfl rfl rfl (by decide +kernel) ⟨Nat.le_of_ble_eq_true rfl, Nat.le_of_ble_eq_true rfl⟩) (my_preV hPc hK hDc hE hS hFc (va_recv (q := (RX7, TX7, 12)) hK hPc (ci := 7) (q0 := q8) rfl h8)) rfl rfl hl.1 rfl (lv_room (Nat.le_of_ble_eq_true rfl)) dL_law_1507 ⟨by show _ ≤ 601024; omega, by show _ ≤ 7293034; omega⟩) hS (fun q _ h => hFc q h) hFc (fun rw9 u9 t9 H1 locs ht hvm hw hB hz1 hk1 hS => ?_)
  clear h8
  obtain ⟨hP1, hD1⟩ := hB
  rw [ht] at hP1
  obtain ⟨hP, hD⟩ := va_joinP (X := XLW cy o3 o4 am f3 f4 r) (cx := []) (wr := XLW cy o3 o4 am f3 f4 r) (rx := []) (pl := WC cy ad ks g u) (pl1 := WC cy ad ks g c2) hP hD [] [0, 1, 2, 3, 4, 5, 6, 7, 8, 9, 10, 11, 12] rfl rfl (by decide) (by decide) hk1 hFc hP1 hD1
  have hP : va_P (dC, dI) vwCl (XLW cy o3 o4 am f3 f4 r ++ WC cy ad ks g c2) H1 := hP
  have hD : va_D (fun q : Nat => s.heap.size ≤ q) (XLW cy o3 o4 am f3 f4 r ++ WC cy ad ks g c2) := hD
  generalize H1 = H at hP hS ⊢
  clear hP1 hD1 hPc hDc hFc hk1 hz1 hvm ht
  refine my_topi hw ?_
  refine lv_pop hx hb dL_law_1510 rfl ?_
  refine lv_aload_n hx hb dL_law_1511 rfl (lv_at hl 3 rfl) ?_
  have hPc := hP.sub (ws' := (WM cy am r)) [2, 3, 4, 5, 6, 7, 8, 9, 10, 11, 12] rfl
  have hDc := hD.sub (ws' := (WM cy am r)) [2, 3, 4, 5, 6, 7, 8, 9, 10, 11, 12] (by decide) rfl
  have hFc := va_free (wc := (WM cy am r)) hD hS hA [2, 3, 4, 5, 6, 7, 8, 9, 10, 11, 12] rfl
  refine va_calli (va_runV (As := []) (rest := []) ⟨hx, hb, hml, hown, hts⟩ (k_X8_allIn l dC dI cy nb am r  x (r2) H.size e1) (cwV 0 hts (gV mw_1363 mw_1364 mw_1365 mw_5 mw_1366) rfl rfl rfl (by decide +kernel) ⟨Nat.le_of_ble_eq_true rfl, Nat.le_of_ble_eq_true rfl⟩) (my_preV hPc hK hDc hE hS hFc (va_recv (q := (RX8, TX8, 23)) hK hP (ci := 8) (q0 := 2) rfl rfl)) rfl rfl hl.1 rfl (lv_room (Nat.le_of_ble_eq_true rfl)) dL_law_1512 ⟨by show _ ≤ 601024; omega, by show _ ≤ 7293034; omega⟩) hS (fun q _ h => hFc q h) hFc (fun rm9 u9 t9 H1 locs ht hvm hwm hB hz1 hk1 hS => ?_)
  obtain ⟨hP1, hD1⟩ := hB
  rw [ht] at hP1
  obtain ⟨hP, hD⟩ := va_joinQ (X := XLW cy o3 o4 am f3 f4 r) (cx := (WM cy am r)) (wr := [(o3, eL cy f3), (o4, eD cy f4)]) (w1 := (WM cy am (r2))) (pl := WC cy ad ks g c2) hP hD [2, 3, 4, 5, 6, 7, 8, 9, 10, 11, 12] [0, 1] rfl rfl (by decide) (by decide) hk1 hFc hP1 hD1
  have hP : va_P (dC, dI) vwCl (XLW cy o3 o4 am f3 f4 r2 ++ WC cy ad ks g c2) H1 := hP
  have hD : va_D (fun q : Nat => s.heap.size ≤ q) (XLW cy o3 o4 am f3 f4 r2 ++ WC cy ad ks g c2) := hD
  generalize H1 = H at hP hS ⊢
  clear hP1 hD1 hPc hDc hFc hk1 hz1 hvm ht
  refine my_topi hwm ?_
  refine lv_pop hx hb dL_law_1515 rfl ?_
  refine lv_goto (tgt := 1819) hx hb dL_law_1516 (by decide) ?_
  refine W.widen (k := cells + 603) (n := slots + 9640) (by omega) (by omega) ?_
  exact K H locs ls ⟨ad, ks, g, c2, r2, f3, f4, hk, e3.mono (by omega) (by omega) (by omega), hP, hD, hS, lv_sub hl [0, 1, 2, 3, 4, 5] rfl⟩
set_option maxHeartbeats 8000000 in
set_option maxRecDepth 100000 in
theorem law_c40 {p : Program} {e : Env} {s : State} {m : MethodId} {below : List Frame} {meth : Method} {c : Code} (l : Launch) (hst : l.stackTraces = false) {b L : Nat} {xs : Nat → Int32} (dC : Nat → ClassId) (dI : Nat → Nat → Nat) (cy : Nat → ClassId) (nb : Nat → Nat) (o3 o4 : Nat) (am : Nat → Nat) {n : Nat} (hn : n < 512) (hL : 4 * n + 4 ≤ L) (hL2 : L ≤ 2048) (C0 : LX p s m meth c b L xs dC dI cy nb) {Q : State → Prop} {H : Heap} {locs : List Loc} {ls : Array Slot} {cells slots : Nat} (hc : cells ≤ 400000) (hs : slots ≤ 6000000) (h : LSt s dC dI cy nb b o3 o4 am n (4 * n) H locs ls) (K : ∀ (H : Heap) (locs : List Loc) (ls : Array Slot), LSt s dC dI cy nb b o3 o4 am (n + 1) (4 * n) H locs ls → W p l e room_1 s m #[Value.ref b] below meth c H locs (cells + 603) (slots + 9640) Q (F0 m 1819 ls [])) : W p l e room_1 s m #[Value.ref b] below meth c H locs cells slots Q (F0 m 1519 ls []) := by
  obtain ⟨hx, hb, hr, hml, hown, hts, hX, hbl, hlocks, hK, hE⟩ := C0
  have hA : ∀ q : Nat, s.heap.size ≤ q → (fun q : Nat => s.heap.size ≤ q) q := fun _ h => h
  have hbA : ¬ (fun q : Nat => s.heap.size ≤ q) b := Nat.not_le.mpr hbl
  obtain ⟨ad, ks, g, u, r, f3, f4, hk, hGI, hP, hD, hS, hl⟩ := h
  have h9 : CT (F8_leftIn r (xs (4 * n + 1))) (C7_leftIn g u (xs (4 * n + 1))) r g 1 (2001 * n) (602 * n) := a_leftIn hGI (by omega) (by omega)
  rcases h9 with ⟨x, r2, c2, e1, e2, e3, e6⟩ | ⟨k, k1, k2, e1, e2⟩
  · refine lv_aload_n hx hb dL_law_1519 rfl (lv_at hl 4 rfl) ?_
    refine lv_aload_n hx hb dL_law_1520 rfl (lv_at hl 5 rfl) ?_
    refine lv_iload hx hb dL_law_1521 (lv_at hl 0 rfl) ?_
    refine lv_iconst (v := 1) hx hb dL_law_1523 (by decide) ?_
    refine lv_iadd hx hb dL_law_1524 ?_
    refine my_topi (y := nI (4 * n + 1)) (nI_add (4 * n) 1) ?_
    refine va_sld hx hb hX hbl hbA hS (vp_in_nI (n := 4 * n + 1) (by omega) (by omega)) dL_law_1525 ?_
    refine my_topi (y := xs (4 * n + 1)) (congrArg xs (nI_clamp (by omega))) ?_
    refine lv_aload_n hx hb dL_law_1526 rfl (lv_at hl 2 rfl) ?_
    have hPc : va_P (dC, dI) vwCl ([(o3, eL cy f3)] ++ WC cy ad ks g u) H := hP.part (X := XLW cy o3 o4 am f3 f4 r) (cx := [(o3, eL cy f3)]) [0] rfl
    have hDc : va_D (fun q : Nat => s.heap.size ≤ q) ([(o3, eL cy f3)] ++ WC cy ad ks g u) := hD.part (X := XLW cy o3 o4 am f3 f4 r) (cx := [(o3, eL cy f3)]) [0] (by decide) rfl
    have hFc : ∀ q, va_A ([(o3, eL cy f3)] ++ WC cy ad ks g u) H.size q → s.heap.size ≤ q := va_freeP (X := XLW cy o3 o4 am f3 f4 r) (cx := [(o3, eL cy f3)]) hD hS hA [0] rfl
    refine vx_calli (vx_runSX (As := [.ref (ad .cl), .int (xs (4 * n + 1)), .ref o3]) (rest := []) ⟨hx, hb, hml, hown, hts⟩ (cn_leftIn l hst dC dI cy nb ad ks g hk u ((xs (4 * n + 1))) o3 f3 x c2 H.size e2) (vx_cwSW 3 hts (gSH mw_1367 mw_1368 mw_562 mw_1369) rfl rfl rfl (by decide +kernel) ⟨Nat.le_of_ble_eq_true rfl, Nat.le_of_ble_eq_true rfl⟩) (my_preS hPc hK hDc hE hS hFc) rfl rfl hl.1 rfl (lv_room (Nat.le_of_ble_eq_true rfl)) dL_law_1527 ⟨by show _ ≤ 601024; omega, by show _ ≤ 7293034; omega⟩) hS (fun q _ h => hFc q h) hFc (fun q _ h => hFc q h) (fun E9 ce9 q9 u9 t9 H1 locs1 ht9 hvm9 hp9 _ _ _ _ _ _ _ => hp9.elim) (fun rw9 u9 t9 H1 locs ht hvm hw hB hz1 hk1 hS => ?_)
    obtain ⟨hP1, hD1⟩ := hB
    rw [ht] at hP1
    obtain ⟨hP, hD⟩ := va_joinP (X := XLW cy o3 o4 am f3 f4 r) (cx := [(o3, eL cy f3)]) (wr := ((o4, eD cy f4) :: WM cy am r)) (rx := [(o3, eL cy (vp_updL f3 ((0 : Int32).toNatClampNeg) (x.toInt64)))]) (pl := WC cy ad ks g u) (pl1 := WC cy ad ks g c2) hP hD [0] [1, 2, 3, 4, 5, 6, 7, 8, 9, 10, 11, 12] rfl rfl (by decide) (by decide) hk1 hFc hP1 hD1
    have hP : va_P (dC, dI) vwCl (XLW cy o3 o4 am (vp_updL f3 ((0 : Int32).toNatClampNeg) (x.toInt64)) f4 r ++ WC cy ad ks g c2) H1 := hP.part (X := ((o4, eD cy f4) :: WM cy am r) ++ [(o3, eL cy (vp_updL f3 ((0 : Int32).toNatClampNeg) (x.toInt64)))]) (cx := XLW cy o3 o4 am (vp_updL f3 ((0 : Int32).toNatClampNeg) (x.toInt64)) f4 r) [12, 0, 1, 2, 3, 4, 5, 6, 7, 8, 9, 10, 11] rfl
    have hD : va_D (fun q : Nat => s.heap.size ≤ q) (XLW cy o3 o4 am (vp_updL f3 ((0 : Int32).toNatClampNeg) (x.toInt64)) f4 r ++ WC cy ad ks g c2) := hD.part (X := ((o4, eD cy f4) :: WM cy am r) ++ [(o3, eL cy (vp_updL f3 ((0 : Int32).toNatClampNeg) (x.toInt64)))]) (cx := XLW cy o3 o4 am (vp_updL f3 ((0 : Int32).toNatClampNeg) (x.toInt64)) f4 r) [12, 0, 1, 2, 3, 4, 5, 6, 7, 8, 9, 10, 11] (by decide) rfl
    generalize H1 = H at hP hS ⊢
    clear hP1 hD1 hPc hDc hFc hk1 hz1 hvm ht
    refine lv_istore (lv' := [(6, .int rw9), (5, .int (nI (4 * n))), (4, .ref o4), (3, .ref o3), (2, .ref (am 0)), (1, .ref (ad .cl)), (0, .ref b)]) hx hb dL_law_1530 hl (by decide) rfl (fun ls hl => ?_)
    refine lv_aload_n hx hb dL_law_1532 rfl (lv_at hl 4 rfl) ?_
    refine lv_aload_n hx hb dL_law_1533 rfl (lv_at hl 6 rfl) ?_
    refine lv_iload hx hb dL_law_1534 (lv_at hl 1 rfl) ?_
    refine lv_iconst (v := 1) hx hb dL_law_1536 (by decide) ?_
    refine lv_iadd hx hb dL_law_1537 ?_
    refine my_topi (y := nI (4 * n + 1)) (nI_add (4 * n) 1) ?_
    refine va_sld hx hb hX hbl hbA hS (vp_in_nI (n := 4 * n + 1) (by omega) (by omega)) dL_law_1538 ?_
    refine my_topi (y := xs (4 * n + 1)) (congrArg xs (nI_clamp (by omega))) ?_
    have hPc := hP.sub (ws' := (WM cy am r)) [2, 3, 4, 5, 6, 7, 8, 9, 10, 11, 12] rfl
    have hDc := hD.sub (ws' := (WM cy am r)) [2, 3, 4, 5, 6, 7, 8, 9, 10, 11, 12] (by decide) rfl
    have hFc := va_free (wc := (WM cy am r)) hD hS hA [2, 3, 4, 5, 6, 7, 8, 9, 10, 11, 12] rfl
    refine va_calli (va_runV (As := [.int (xs (4 * n + 1))]) (rest := []) ⟨hx, hb, hml, hown, hts⟩ (k_X8_leftIn l dC dI cy nb am r ((xs (4 * n + 1))) x (r2) H.size e1) (cwV 1 hts (gV mw_1378 mw_1379 mw_1380 mw_5 mw_1381) rfl rfl rfl (by decide +kernel) ⟨Nat.le_of_ble_eq_true rfl, Nat.le_of_ble_eq_true rfl⟩) (my_preV hPc hK hDc hE hS hFc (va_recv (q := (RX8, TX8, 23)) hK hP (ci := 8) (q0 := 2) rfl rfl)) rfl rfl hl.1 rfl (lv_room (Nat.le_of_ble_eq_true rfl)) dL_law_1539 ⟨by show _ ≤ 601024; omega, by show _ ≤ 7293034; omega⟩) hS (fun q _ h => hFc q h) hFc (fun rm9 u9 t9 H1 locs ht hvm hwm hB hz1 hk1 hS => ?_)
    obtain ⟨hP1, hD1⟩ := hB
    rw [ht] at hP1
    obtain ⟨hP, hD⟩ := va_joinQ (X := XLW cy o3 o4 am (vp_updL f3 ((0 : Int32).toNatClampNeg) (x.toInt64)) f4 r) (cx := (WM cy am r)) (wr := [(o3, eL cy (vp_updL f3 ((0 : Int32).toNatClampNeg) (x.toInt64))), (o4, eD cy f4)]) (w1 := (WM cy am (r2))) (pl := WC cy ad ks g c2) hP hD [2, 3, 4, 5, 6, 7, 8, 9, 10, 11, 12] [0, 1] rfl rfl (by decide) (by decide) hk1 hFc hP1 hD1
    have hP : va_P (dC, dI) vwCl (XLW cy o3 o4 am (vp_updL f3 ((0 : Int32).toNatClampNeg) (x.toInt64)) f4 r2 ++ WC cy ad ks g c2) H1 := hP
    have hD : va_D (fun q : Nat => s.heap.size ≤ q) (XLW cy o3 o4 am (vp_updL f3 ((0 : Int32).toNatClampNeg) (x.toInt64)) f4 r2 ++ WC cy ad ks g c2) := hD
    generalize H1 = H at hP hS ⊢
    clear hP1 hD1 hPc hDc hFc hk1 hz1 hvm ht
    refine my_topi hwm ?_
    refine lv_istore (lv' := [(7, .int x), (6, .int rw9), (5, .int (nI (4 * n))), (4, .ref o4), (3, .ref o3), (2, .ref (am 0)), (1, .ref (ad .cl)), (0, .ref b)]) hx hb dL_law_1542 hl (by decide) rfl (fun ls hl => ?_)
    refine lv_goto (tgt := 1819) hx hb dL_law_1544 (by decide) ?_
    refine W.widen (k := cells + 603) (n := slots + 9640) (by omega) (by omega) ?_
    exact K H locs ls ⟨ad, ks, g, c2, r2, (vp_updL f3 ((0 : Int32).toNatClampNeg) (x.toInt64)), f4, hk, e3.mono (by omega) (by omega) (by omega), hP, hD, hS, lv_sub hl [2, 3, 4, 5, 6, 7] rfl⟩
  · have e2 : C7_leftIn g u (xs (4 * n + 1)) = some (.inl (nI (k + 1))) := e2
    generalize hxx : (nI (k + 1)) = xk at e2
    have hxk : ¬ xk = 1 := by rw [← hxx]; exact nI_ne (b := 1) (by omega) (by omega) (by omega)
    refine lv_aload_n hx hb dL_law_1519 rfl (lv_at hl 4 rfl) ?_
    refine lv_aload_n hx hb dL_law_1520 rfl (lv_at hl 5 rfl) ?_
    refine lv_iload hx hb dL_law_1521 (lv_at hl 0 rfl) ?_
    refine lv_iconst (v := 1) hx hb dL_law_1523 (by decide) ?_
    refine lv_iadd hx hb dL_law_1524 ?_
    refine my_topi (y := nI (4 * n + 1)) (nI_add (4 * n) 1) ?_
    refine va_sld hx hb hX hbl hbA hS (vp_in_nI (n := 4 * n + 1) (by omega) (by omega)) dL_law_1525 ?_
    refine my_topi (y := xs (4 * n + 1)) (congrArg xs (nI_clamp (by omega))) ?_
    refine lv_aload_n hx hb dL_law_1526 rfl (lv_at hl 2 rfl) ?_
    have hPc : va_P (dC, dI) vwCl ([(o3, eL cy f3)] ++ WC cy ad ks g u) H := hP.part (X := XLW cy o3 o4 am f3 f4 r) (cx := [(o3, eL cy f3)]) [0] rfl
    have hDc : va_D (fun q : Nat => s.heap.size ≤ q) ([(o3, eL cy f3)] ++ WC cy ad ks g u) := hD.part (X := XLW cy o3 o4 am f3 f4 r) (cx := [(o3, eL cy f3)]) [0] (by decide) rfl
    have hFc : ∀ q, va_A ([(o3, eL cy f3)] ++ WC cy ad ks g u) H.size q → s.heap.size ≤ q := va_freeP (X := XLW cy o3 o4 am f3 f4 r) (cx := [(o3, eL cy f3)]) hD hS hA [0] rfl
    refine vx_calli (vx_runSX (As := [.ref (ad .cl), .int (xs (4 * n + 1)), .ref o3]) (rest := []) ⟨hx, hb, hml, hown, hts⟩ (ct_leftIn l hst dC dI cy nb ad ks g hk u ((xs (4 * n + 1))) o3 f3 xk H.size hxk e2) (vx_cwSW 3 hts (gSH mw_1367 mw_1368 mw_562 mw_1369) rfl rfl rfl (by decide +kernel) ⟨Nat.le_of_ble_eq_true rfl, Nat.le_of_ble_eq_true rfl⟩) (my_preS hPc hK hDc hE hS hFc) rfl rfl hl.1 rfl (lv_room (Nat.le_of_ble_eq_true rfl)) dL_law_1527 ⟨by show _ ≤ 601024; omega, by show _ ≤ 7293034; omega⟩) hS (fun q _ h => hFc q h) hFc (fun q _ h => hFc q h) (fun E9 ce9 q9 u9 t9 H1 locs1 ht9 hvm9 hp9 _ _ _ _ _ _ _ => hp9.elim) (fun rw9 u9 t9 H1 locs ht hvm hw hB hz1 hk1 hS => ?_)
    obtain ⟨hP1, hD1⟩ := hB
    rw [ht] at hP1
    obtain ⟨hP, hD⟩ := va_joinP (X := XLW cy o3 o4 am f3 f4 r) (cx := [(o3, eL cy f3)]) (wr := ((o4, eD cy f4) :: WM cy am r)) (rx := [(o3, eL cy f3)]) (pl := WC cy ad ks g u) (pl1 := WC cy ad ks g u) hP hD [0] [1, 2, 3, 4, 5, 6, 7, 8, 9, 10, 11, 12] rfl rfl (by decide) (by decide) hk1 hFc hP1 hD1
    have hP : va_P (dC, dI) vwCl (XLW cy o3 o4 am f3 f4 r ++ WC cy ad ks g u) H1 := hP.part (X := ((o4, eD cy f4) :: WM cy am r) ++ [(o3, eL cy f3)]) (cx := XLW cy o3 o4 am f3 f4 r) [12, 0, 1, 2, 3, 4, 5, 6, 7, 8, 9, 10, 11] rfl
    have hD : va_D (fun q : Nat => s.heap.size ≤ q) (XLW cy o3 o4 am f3 f4 r ++ WC cy ad ks g u) := hD.part (X := ((o4, eD cy f4) :: WM cy am r) ++ [(o3, eL cy f3)]) (cx := XLW cy o3 o4 am f3 f4 r) [12, 0, 1, 2, 3, 4, 5, 6, 7, 8, 9, 10, 11] (by decide) rfl
    generalize H1 = H at hP hS ⊢
    clear hP1 hD1 hPc hDc hFc hk1 hz1 hvm ht
    refine lv_istore (lv' := [(6, .int rw9), (5, .int (nI (4 * n))), (4, .ref o4), (3, .ref o3), (2, .ref (am 0)), (1, .ref (ad .cl)), (0, .ref b)]) hx hb dL_law_1530 hl (by decide) rfl (fun ls hl => ?_)
    refine lv_aload_n hx hb dL_law_1532 rfl (lv_at hl 4 rfl) ?_
    refine lv_aload_n hx hb dL_law_1533 rfl (lv_at hl 6 rfl) ?_
    refine lv_iload hx hb dL_law_1534 (lv_at hl 1 rfl) ?_
    refine lv_iconst (v := 1) hx hb dL_law_1536 (by decide) ?_
    refine lv_iadd hx hb dL_law_1537 ?_
    refine my_topi (y := nI (4 * n + 1)) (nI_add (4 * n) 1) ?_
    refine va_sld hx hb hX hbl hbA hS (vp_in_nI (n := 4 * n + 1) (by omega) (by omega)) dL_law_1538 ?_
    refine my_topi (y := xs (4 * n + 1)) (congrArg xs (nI_clamp (by omega))) ?_
    have hPc := hP.sub (ws' := (WM cy am r)) [2, 3, 4, 5, 6, 7, 8, 9, 10, 11, 12] rfl
    have hDc := hD.sub (ws' := (WM cy am r)) [2, 3, 4, 5, 6, 7, 8, 9, 10, 11, 12] (by decide) rfl
    have hFc := va_free (wc := (WM cy am r)) hD hS hA [2, 3, 4, 5, 6, 7, 8, 9, 10, 11, 12] rfl
    refine va_calli (va_runV (As := [.int (xs (4 * n + 1))]) (rest := []) ⟨hx, hb, hml, hown, hts⟩ (k_X8_leftIn l dC dI cy nb am r ((xs (4 * n + 1))) (nI 0) (th r k) H.size e1) (cwV 1 hts (gV mw_1378 mw_1379 mw_1380 mw_5 mw_1381) rfl rfl rfl (by decide +kernel) ⟨Nat.le_of_ble_eq_true rfl, Nat.le_of_ble_eq_true rfl⟩) (my_preV hPc hK hDc hE hS hFc (va_recv (q := (RX8, TX8, 23)) hK hP (ci := 8) (q0 := 2) rfl rfl)) rfl rfl hl.1 rfl (lv_room (Nat.le_of_ble_eq_true rfl)) dL_law_1539 ⟨by show _ ≤ 601024; omega, by show _ ≤ 7293034; omega⟩) hS (fun q _ h => hFc q h) hFc (fun rm9 u9 t9 H1 locs ht hvm hwm hB hz1 hk1 hS => ?_)
    obtain ⟨hP1, hD1⟩ := hB
    rw [ht] at hP1
    obtain ⟨hP, hD⟩ := va_joinQ (X := XLW cy o3 o4 am f3 f4 r) (cx := (WM cy am r)) (wr := [(o3, eL cy f3), (o4, eD cy f4)]) (w1 := (WM cy am (th r k))) (pl := WC cy ad ks g u) hP hD [2, 3, 4, 5, 6, 7, 8, 9, 10, 11, 12] [0, 1] rfl rfl (by decide) (by decide) hk1 hFc hP1 hD1
    have hP : va_P (dC, dI) vwCl (XLW cy o3 o4 am f3 f4 (th r k) ++ WC cy ad ks g u) H1 := hP
    have hD : va_D (fun q : Nat => s.heap.size ≤ q) (XLW cy o3 o4 am f3 f4 (th r k) ++ WC cy ad ks g u) := hD
    generalize H1 = H at hP hS ⊢
    clear hP1 hD1 hPc hDc hFc hk1 hz1 hvm ht
    refine my_topi hwm ?_
    refine lv_istore (lv' := [(7, .int (nI 0)), (6, .int rw9), (5, .int (nI (4 * n))), (4, .ref o4), (3, .ref o3), (2, .ref (am 0)), (1, .ref (ad .cl)), (0, .ref b)]) hx hb dL_law_1542 hl (by decide) rfl (fun ls hl => ?_)
    refine lv_goto (tgt := 1819) hx hb dL_law_1544 (by decide) ?_
    refine W.widen (k := cells + 603) (n := slots + 9640) (by omega) (by omega) ?_
    exact K H locs ls ⟨ad, ks, g, u, (th r k), f3, f4, hk, (hGI.thr).mono (by omega) (by omega) (by omega), hP, hD, hS, lv_sub hl [2, 3, 4, 5, 6, 7] rfl⟩
set_option maxHeartbeats 8000000 in
set_option maxRecDepth 100000 in
theorem law_c41 {p : Program} {e : Env} {s : State} {m : MethodId} {below : List Frame} {meth : Method} {c : Code} (l : Launch) (hst : l.stackTraces = false) {b L : Nat} {xs : Nat → Int32} (dC : Nat → ClassId) (dI : Nat → Nat → Nat) (cy : Nat → ClassId) (nb : Nat → Nat) (o3 o4 : Nat) (am : Nat → Nat) {n : Nat} (hn : n < 512) (hL : 4 * n + 4 ≤ L) (hL2 : L ≤ 2048) (C0 : LX p s m meth c b L xs dC dI cy nb) {Q : State → Prop} {H : Heap} {locs : List Loc} {ls : Array Slot} {cells slots : Nat} (hc : cells ≤ 400000) (hs : slots ≤ 6000000) (h : LSt s dC dI cy nb b o3 o4 am n (4 * n) H locs ls) (K : ∀ (H : Heap) (locs : List Loc) (ls : Array Slot), LSt s dC dI cy nb b o3 o4 am (n + 1) (4 * n) H locs ls → W p l e room_1 s m #[Value.ref b] below meth c H locs (cells + 603) (slots + 9640) Q (F0 m 1819 ls [])) : W p l e room_1 s m #[Value.ref b] below meth c H locs cells slots Q (F0 m 1547 ls []) := by
  obtain ⟨hx, hb, hr, hml, hown, hts, hX, hbl, hlocks, hK, hE⟩ := C0
  have hA : ∀ q : Nat, s.heap.size ≤ q → (fun q : Nat => s.heap.size ≤ q) q := fun _ h => h
  have hbA : ¬ (fun q : Nat => s.heap.size ≤ q) b := Nat.not_le.mpr hbl
  obtain ⟨ad, ks, g, u, r, f3, f4, hk, hGI, hP, hD, hS, hl⟩ := h
  have h9 : DT (F8_failIn r (xs (4 * n + 1))) (C7_failIn g u (xs (4 * n + 1))) r g 0 (2001 * n) (602 * n) := a_failIn hGI (by omega) (by omega)
  rcases h9 with ⟨x, y, r2, c2, e1, e2, e3, e6⟩ | ⟨k, k1, k2, e1, e2⟩
  · refine lv_aload_n hx hb dL_law_1547 rfl (lv_at hl 4 rfl) ?_
    refine lv_aload_n hx hb dL_law_1548 rfl (lv_at hl 5 rfl) ?_
    refine lv_iload hx hb dL_law_1549 (lv_at hl 0 rfl) ?_
    refine lv_iconst (v := 1) hx hb dL_law_1551 (by decide) ?_
    refine lv_iadd hx hb dL_law_1552 ?_
    refine my_topi (y := nI (4 * n + 1)) (nI_add (4 * n) 1) ?_
    refine va_sld hx hb hX hbl hbA hS (vp_in_nI (n := 4 * n + 1) (by omega) (by omega)) dL_law_1553 ?_
    refine my_topi (y := xs (4 * n + 1)) (congrArg xs (nI_clamp (by omega))) ?_
    refine lv_aload_n hx hb dL_law_1554 rfl (lv_at hl 2 rfl) ?_
    have hPc : va_P (dC, dI) vwCl ([(o3, eL cy f3)] ++ WC cy ad ks g u) H := hP.part (X := XLW cy o3 o4 am f3 f4 r) (cx := [(o3, eL cy f3)]) [0] rfl
    have hDc : va_D (fun q : Nat => s.heap.size ≤ q) ([(o3, eL cy f3)] ++ WC cy ad ks g u) := hD.part (X := XLW cy o3 o4 am f3 f4 r) (cx := [(o3, eL cy f3)]) [0] (by decide) rfl
    have hFc : ∀ q, va_A ([(o3, eL cy f3)] ++ WC cy ad ks g u) H.size q → s.heap.size ≤ q := va_freeP (X := XLW cy o3 o4 am f3 f4 r) (cx := [(o3, eL cy f3)]) hD hS hA [0] rfl
    refine vx_calli (vx_runSX (As := [.ref (ad .cl), .int (xs (4 * n + 1)), .ref o3]) (rest := []) ⟨hx, hb, hml, hown, hts⟩ (cn_failIn l hst dC dI cy nb ad ks g hk u ((xs (4 * n + 1))) o3 f3 y c2 H.size e2) (vx_cwSW 3 hts (gSH mw_1386 mw_1387 mw_562 mw_1388) rfl rfl rfl (by decide +kernel) ⟨Nat.le_of_ble_eq_true rfl, Nat.le_of_ble_eq_true rfl⟩) (my_preS hPc hK hDc hE hS hFc) rfl rfl hl.1 rfl (lv_room (Nat.le_of_ble_eq_true rfl)) dL_law_1555 ⟨by show _ ≤ 601024; omega, by show _ ≤ 7293034; omega⟩) hS (fun q _ h => hFc q h) hFc (fun q _ h => hFc q h) (fun E9 ce9 q9 u9 t9 H1 locs1 ht9 hvm9 hp9 _ _ _ _ _ _ _ => hp9.elim) (fun rw9 u9 t9 H1 locs ht hvm hw hB hz1 hk1 hS => ?_)
    obtain ⟨hP1, hD1⟩ := hB
    rw [ht] at hP1
    obtain ⟨hP, hD⟩ := va_joinP (X := XLW cy o3 o4 am f3 f4 r) (cx := [(o3, eL cy f3)]) (wr := ((o4, eD cy f4) :: WM cy am r)) (rx := [(o3, eL cy (vp_updL f3 ((0 : Int32).toNatClampNeg) (y.toInt64)))]) (pl := WC cy ad ks g u) (pl1 := WC cy ad ks g c2) hP hD [0] [1, 2, 3, 4, 5, 6, 7, 8, 9, 10, 11, 12] rfl rfl (by decide) (by decide) hk1 hFc hP1 hD1
    have hP : va_P (dC, dI) vwCl (XLW cy o3 o4 am (vp_updL f3 ((0 : Int32).toNatClampNeg) (y.toInt64)) f4 r ++ WC cy ad ks g c2) H1 := hP.part (X := ((o4, eD cy f4) :: WM cy am r) ++ [(o3, eL cy (vp_updL f3 ((0 : Int32).toNatClampNeg) (y.toInt64)))]) (cx := XLW cy o3 o4 am (vp_updL f3 ((0 : Int32).toNatClampNeg) (y.toInt64)) f4 r) [12, 0, 1, 2, 3, 4, 5, 6, 7, 8, 9, 10, 11] rfl
    have hD : va_D (fun q : Nat => s.heap.size ≤ q) (XLW cy o3 o4 am (vp_updL f3 ((0 : Int32).toNatClampNeg) (y.toInt64)) f4 r ++ WC cy ad ks g c2) := hD.part (X := ((o4, eD cy f4) :: WM cy am r) ++ [(o3, eL cy (vp_updL f3 ((0 : Int32).toNatClampNeg) (y.toInt64)))]) (cx := XLW cy o3 o4 am (vp_updL f3 ((0 : Int32).toNatClampNeg) (y.toInt64)) f4 r) [12, 0, 1, 2, 3, 4, 5, 6, 7, 8, 9, 10, 11] (by decide) rfl
    generalize H1 = H at hP hS ⊢
    clear hP1 hD1 hPc hDc hFc hk1 hz1 hvm ht
    refine lv_istore (lv' := [(6, .int rw9), (5, .int (nI (4 * n))), (4, .ref o4), (3, .ref o3), (2, .ref (am 0)), (1, .ref (ad .cl)), (0, .ref b)]) hx hb dL_law_1558 hl (by decide) rfl (fun ls hl => ?_)
    refine lv_aload_n hx hb dL_law_1560 rfl (lv_at hl 4 rfl) ?_
    refine lv_aload_n hx hb dL_law_1561 rfl (lv_at hl 6 rfl) ?_
    refine lv_iload hx hb dL_law_1562 (lv_at hl 1 rfl) ?_
    refine lv_iconst (v := 1) hx hb dL_law_1564 (by decide) ?_
    refine lv_iadd hx hb dL_law_1565 ?_
    refine my_topi (y := nI (4 * n + 1)) (nI_add (4 * n) 1) ?_
    refine va_sld hx hb hX hbl hbA hS (vp_in_nI (n := 4 * n + 1) (by omega) (by omega)) dL_law_1566 ?_
    refine my_topi (y := xs (4 * n + 1)) (congrArg xs (nI_clamp (by omega))) ?_
    have hPc := hP.sub (ws' := (WM cy am r)) [2, 3, 4, 5, 6, 7, 8, 9, 10, 11, 12] rfl
    have hDc := hD.sub (ws' := (WM cy am r)) [2, 3, 4, 5, 6, 7, 8, 9, 10, 11, 12] (by decide) rfl
    have hFc := va_free (wc := (WM cy am r)) hD hS hA [2, 3, 4, 5, 6, 7, 8, 9, 10, 11, 12] rfl
    refine va_calli (va_runV (As := [.int (xs (4 * n + 1))]) (rest := []) ⟨hx, hb, hml, hown, hts⟩ (k_X8_failIn l dC dI cy nb am r ((xs (4 * n + 1))) x (r2) H.size e1) (cwV 1 hts (gV mw_1394 mw_1395 mw_1396 mw_5 mw_1397) rfl rfl rfl (by decide +kernel) ⟨Nat.le_of_ble_eq_true rfl, Nat.le_of_ble_eq_true rfl⟩) (my_preV hPc hK hDc hE hS hFc (va_recv (q := (RX8, TX8, 23)) hK hP (ci := 8) (q0 := 2) rfl rfl)) rfl rfl hl.1 rfl (lv_room (Nat.le_of_ble_eq_true rfl)) dL_law_1567 ⟨by show _ ≤ 601024; omega, by show _ ≤ 7293034; omega⟩) hS (fun q _ h => hFc q h) hFc (fun rm9 u9 t9 H1 locs ht hvm hwm hB hz1 hk1 hS => ?_)
    obtain ⟨hP1, hD1⟩ := hB
    rw [ht] at hP1
    obtain ⟨hP, hD⟩ := va_joinQ (X := XLW cy o3 o4 am (vp_updL f3 ((0 : Int32).toNatClampNeg) (y.toInt64)) f4 r) (cx := (WM cy am r)) (wr := [(o3, eL cy (vp_updL f3 ((0 : Int32).toNatClampNeg) (y.toInt64))), (o4, eD cy f4)]) (w1 := (WM cy am (r2))) (pl := WC cy ad ks g c2) hP hD [2, 3, 4, 5, 6, 7, 8, 9, 10, 11, 12] [0, 1] rfl rfl (by decide) (by decide) hk1 hFc hP1 hD1
    have hP : va_P (dC, dI) vwCl (XLW cy o3 o4 am (vp_updL f3 ((0 : Int32).toNatClampNeg) (y.toInt64)) f4 r2 ++ WC cy ad ks g c2) H1 := hP
    have hD : va_D (fun q : Nat => s.heap.size ≤ q) (XLW cy o3 o4 am (vp_updL f3 ((0 : Int32).toNatClampNeg) (y.toInt64)) f4 r2 ++ WC cy ad ks g c2) := hD
    generalize H1 = H at hP hS ⊢
    clear hP1 hD1 hPc hDc hFc hk1 hz1 hvm ht
    refine my_topi hwm ?_
    refine lv_istore (lv' := [(7, .int x), (6, .int rw9), (5, .int (nI (4 * n))), (4, .ref o4), (3, .ref o3), (2, .ref (am 0)), (1, .ref (ad .cl)), (0, .ref b)]) hx hb dL_law_1570 hl (by decide) rfl (fun ls hl => ?_)
    refine lv_goto (tgt := 1819) hx hb dL_law_1572 (by decide) ?_
    refine W.widen (k := cells + 603) (n := slots + 9640) (by omega) (by omega) ?_
    exact K H locs ls ⟨ad, ks, g, c2, r2, (vp_updL f3 ((0 : Int32).toNatClampNeg) (y.toInt64)), f4, hk, e3.mono (by omega) (by omega) (by omega), hP, hD, hS, lv_sub hl [2, 3, 4, 5, 6, 7] rfl⟩
  · have e2 : C7_failIn g u (xs (4 * n + 1)) = some (.inl (nI (k + 0))) := e2
    generalize hxx : (nI (k + 0)) = xk at e2
    have hxk : xk = 1 := x1_failIn e2
    refine lv_aload_n hx hb dL_law_1547 rfl (lv_at hl 4 rfl) ?_
    refine lv_aload_n hx hb dL_law_1548 rfl (lv_at hl 5 rfl) ?_
    refine lv_iload hx hb dL_law_1549 (lv_at hl 0 rfl) ?_
    refine lv_iconst (v := 1) hx hb dL_law_1551 (by decide) ?_
    refine lv_iadd hx hb dL_law_1552 ?_
    refine my_topi (y := nI (4 * n + 1)) (nI_add (4 * n) 1) ?_
    refine va_sld hx hb hX hbl hbA hS (vp_in_nI (n := 4 * n + 1) (by omega) (by omega)) dL_law_1553 ?_
    refine my_topi (y := xs (4 * n + 1)) (congrArg xs (nI_clamp (by omega))) ?_
    refine lv_aload_n hx hb dL_law_1554 rfl (lv_at hl 2 rfl) ?_
    have hPc : va_P (dC, dI) vwCl ([(o3, eL cy f3)] ++ WC cy ad ks g u) H := hP.part (X := XLW cy o3 o4 am f3 f4 r) (cx := [(o3, eL cy f3)]) [0] rfl
    have hDc : va_D (fun q : Nat => s.heap.size ≤ q) ([(o3, eL cy f3)] ++ WC cy ad ks g u) := hD.part (X := XLW cy o3 o4 am f3 f4 r) (cx := [(o3, eL cy f3)]) [0] (by decide) rfl
    have hFc : ∀ q, va_A ([(o3, eL cy f3)] ++ WC cy ad ks g u) H.size q → s.heap.size ≤ q := va_freeP (X := XLW cy o3 o4 am f3 f4 r) (cx := [(o3, eL cy f3)]) hD hS hA [0] rfl
    refine vx_calli (vx_runSX (As := [.ref (ad .cl), .int (xs (4 * n + 1)), .ref o3]) (rest := []) ⟨hx, hb, hml, hown, hts⟩ (ct_failIn l hst dC dI cy nb ad ks g hk u ((xs (4 * n + 1))) o3 f3 xk H.size hxk e2) (vx_cwSW 3 hts (gSH mw_1386 mw_1387 mw_562 mw_1388) rfl rfl rfl (by decide +kernel) ⟨Nat.le_of_ble_eq_true rfl, Nat.le_of_ble_eq_true rfl⟩) (my_preS hPc hK hDc hE hS hFc) rfl rfl hl.1 rfl (lv_room (Nat.le_of_ble_eq_true rfl)) dL_law_1555 ⟨by show _ ≤ 601024; omega, by show _ ≤ 7293034; omega⟩) hS (fun q _ h => hFc q h) hFc (fun q _ h => hFc q h) (fun E9 ce9 q9 u9 t9 H1 locs1 ht9 hvm9 hp9 _ _ _ _ _ _ _ => hp9.elim) (fun rw9 u9 t9 H1 locs ht hvm hw hB hz1 hk1 hS => ?_)
    obtain ⟨hP1, hD1⟩ := hB
    rw [ht] at hP1
    obtain ⟨hP, hD⟩ := va_joinP (X := XLW cy o3 o4 am f3 f4 r) (cx := [(o3, eL cy f3)]) (wr := ((o4, eD cy f4) :: WM cy am r)) (rx := [(o3, eL cy f3)]) (pl := WC cy ad ks g u) (pl1 := WC cy ad ks g u) hP hD [0] [1, 2, 3, 4, 5, 6, 7, 8, 9, 10, 11, 12] rfl rfl (by decide) (by decide) hk1 hFc hP1 hD1
    have hP : va_P (dC, dI) vwCl (XLW cy o3 o4 am f3 f4 r ++ WC cy ad ks g u) H1 := hP.part (X := ((o4, eD cy f4) :: WM cy am r) ++ [(o3, eL cy f3)]) (cx := XLW cy o3 o4 am f3 f4 r) [12, 0, 1, 2, 3, 4, 5, 6, 7, 8, 9, 10, 11] rfl
    have hD : va_D (fun q : Nat => s.heap.size ≤ q) (XLW cy o3 o4 am f3 f4 r ++ WC cy ad ks g u) := hD.part (X := ((o4, eD cy f4) :: WM cy am r) ++ [(o3, eL cy f3)]) (cx := XLW cy o3 o4 am f3 f4 r) [12, 0, 1, 2, 3, 4, 5, 6, 7, 8, 9, 10, 11] (by decide) rfl
    generalize H1 = H at hP hS ⊢
    clear hP1 hD1 hPc hDc hFc hk1 hz1 hvm ht
    refine lv_istore (lv' := [(6, .int rw9), (5, .int (nI (4 * n))), (4, .ref o4), (3, .ref o3), (2, .ref (am 0)), (1, .ref (ad .cl)), (0, .ref b)]) hx hb dL_law_1558 hl (by decide) rfl (fun ls hl => ?_)
    refine lv_aload_n hx hb dL_law_1560 rfl (lv_at hl 4 rfl) ?_
    refine lv_aload_n hx hb dL_law_1561 rfl (lv_at hl 6 rfl) ?_
    refine lv_iload hx hb dL_law_1562 (lv_at hl 1 rfl) ?_
    refine lv_iconst (v := 1) hx hb dL_law_1564 (by decide) ?_
    refine lv_iadd hx hb dL_law_1565 ?_
    refine my_topi (y := nI (4 * n + 1)) (nI_add (4 * n) 1) ?_
    refine va_sld hx hb hX hbl hbA hS (vp_in_nI (n := 4 * n + 1) (by omega) (by omega)) dL_law_1566 ?_
    refine my_topi (y := xs (4 * n + 1)) (congrArg xs (nI_clamp (by omega))) ?_
    have hPc := hP.sub (ws' := (WM cy am r)) [2, 3, 4, 5, 6, 7, 8, 9, 10, 11, 12] rfl
    have hDc := hD.sub (ws' := (WM cy am r)) [2, 3, 4, 5, 6, 7, 8, 9, 10, 11, 12] (by decide) rfl
    have hFc := va_free (wc := (WM cy am r)) hD hS hA [2, 3, 4, 5, 6, 7, 8, 9, 10, 11, 12] rfl
    refine va_calli (va_runV (As := [.int (xs (4 * n + 1))]) (rest := []) ⟨hx, hb, hml, hown, hts⟩ (k_X8_failIn l dC dI cy nb am r ((xs (4 * n + 1))) (nI 0) (th r k) H.size e1) (cwV 1 hts (gV mw_1394 mw_1395 mw_1396 mw_5 mw_1397) rfl rfl rfl (by decide +kernel) ⟨Nat.le_of_ble_eq_true rfl, Nat.le_of_ble_eq_true rfl⟩) (my_preV hPc hK hDc hE hS hFc (va_recv (q := (RX8, TX8, 23)) hK hP (ci := 8) (q0 := 2) rfl rfl)) rfl rfl hl.1 rfl (lv_room (Nat.le_of_ble_eq_true rfl)) dL_law_1567 ⟨by show _ ≤ 601024; omega, by show _ ≤ 7293034; omega⟩) hS (fun q _ h => hFc q h) hFc (fun rm9 u9 t9 H1 locs ht hvm hwm hB hz1 hk1 hS => ?_)
    obtain ⟨hP1, hD1⟩ := hB
    rw [ht] at hP1
    obtain ⟨hP, hD⟩ := va_joinQ (X := XLW cy o3 o4 am f3 f4 r) (cx := (WM cy am r)) (wr := [(o3, eL cy f3), (o4, eD cy f4)]) (w1 := (WM cy am (th r k))) (pl := WC cy ad ks g u) hP hD [2, 3, 4, 5, 6, 7, 8, 9, 10, 11, 12] [0, 1] rfl rfl (by decide) (by decide) hk1 hFc hP1 hD1
    have hP : va_P (dC, dI) vwCl (XLW cy o3 o4 am f3 f4 (th r k) ++ WC cy ad ks g u) H1 := hP
    have hD : va_D (fun q : Nat => s.heap.size ≤ q) (XLW cy o3 o4 am f3 f4 (th r k) ++ WC cy ad ks g u) := hD
    generalize H1 = H at hP hS ⊢
    clear hP1 hD1 hPc hDc hFc hk1 hz1 hvm ht
    refine my_topi hwm ?_
    refine lv_istore (lv' := [(7, .int (nI 0)), (6, .int rw9), (5, .int (nI (4 * n))), (4, .ref o4), (3, .ref o3), (2, .ref (am 0)), (1, .ref (ad .cl)), (0, .ref b)]) hx hb dL_law_1570 hl (by decide) rfl (fun ls hl => ?_)
    refine lv_goto (tgt := 1819) hx hb dL_law_1572 (by decide) ?_
    refine W.widen (k := cells + 603) (n := slots + 9640) (by omega) (by omega) ?_
    exact K H locs ls ⟨ad, ks, g, u, (th r k), f3, f4, hk, (hGI.thr).mono (by omega) (by omega) (by omega), hP, hD, hS, lv_sub hl [2, 3, 4, 5, 6, 7] rfl⟩
set_option maxHeartbeats 8000000 in
set_option maxRecDepth 100000 in
theorem law_c42 {p : Program} {e : Env} {s : State} {m : MethodId} {below : List Frame} {meth : Method} {c : Code} (l : Launch) (hst : l.stackTraces = false) {b L : Nat} {xs : Nat → Int32} (dC : Nat → ClassId) (dI : Nat → Nat → Nat) (cy : Nat → ClassId) (nb : Nat → Nat) (o3 o4 : Nat) (am : Nat → Nat) {n : Nat} (hn : n < 512) (hL : 4 * n + 4 ≤ L) (hL2 : L ≤ 2048) (C0 : LX p s m meth c b L xs dC dI cy nb) {Q : State → Prop} {H : Heap} {locs : List Loc} {ls : Array Slot} {cells slots : Nat} (hc : cells ≤ 400000) (hs : slots ≤ 6000000) (h : LSt s dC dI cy nb b o3 o4 am n (4 * n) H locs ls) (K : ∀ (H : Heap) (locs : List Loc) (ls : Array Slot), LSt s dC dI cy nb b o3 o4 am (n + 1) (4 * n) H locs ls → W p l e room_1 s m #[Value.ref b] below meth c H locs (cells + 603) (slots + 9640) Q (F0 m 1819 ls [])) : W p l e room_1 s m #[Value.ref b] below meth c H locs cells slots Q (F0 m 1575 ls []) := by
  obtain ⟨hx, hb, hr, hml, hown, hts, hX, hbl, hlocks, hK, hE⟩ := C0
  have hA : ∀ q : Nat, s.heap.size ≤ q → (fun q : Nat => s.heap.size ≤ q) q := fun _ h => h
  have hbA : ¬ (fun q : Nat => s.heap.size ≤ q) b := Nat.not_le.mpr hbl
  obtain ⟨ad, ks, g, u, r, f3, f4, hk, hGI, hP, hD, hS, hl⟩ := h
  have h9 : CT (F8_blanksIn r (xs (4 * n + 1))) (C7_blanksIn g u (xs (4 * n + 1))) r g 1 (2001 * n) (602 * n) := a_blanksIn hGI (by omega) (by omega)
  rcases h9 with ⟨x, r2, c2, e1, e2, e3, e6⟩ | ⟨k, k1, k2, e1, e2⟩
  · refine lv_aload_n hx hb dL_law_1575 rfl (lv_at hl 4 rfl) ?_
    refine lv_aload_n hx hb dL_law_1576 rfl (lv_at hl 5 rfl) ?_
    refine lv_iload hx hb dL_law_1577 (lv_at hl 0 rfl) ?_
    refine lv_iconst (v := 1) hx hb dL_law_1579 (by decide) ?_
    refine lv_iadd hx hb dL_law_1580 ?_
    refine my_topi (y := nI (4 * n + 1)) (nI_add (4 * n) 1) ?_
    refine va_sld hx hb hX hbl hbA hS (vp_in_nI (n := 4 * n + 1) (by omega) (by omega)) dL_law_1581 ?_
    refine my_topi (y := xs (4 * n + 1)) (congrArg xs (nI_clamp (by omega))) ?_
    refine lv_aload_n hx hb dL_law_1582 rfl (lv_at hl 2 rfl) ?_
    have hPc : va_P (dC, dI) vwCl ([(o3, eL cy f3)] ++ WC cy ad ks g u) H := hP.part (X := XLW cy o3 o4 am f3 f4 r) (cx := [(o3, eL cy f3)]) [0] rfl
    have hDc : va_D (fun q : Nat => s.heap.size ≤ q) ([(o3, eL cy f3)] ++ WC cy ad ks g u) := hD.part (X := XLW cy o3 o4 am f3 f4 r) (cx := [(o3, eL cy f3)]) [0] (by decide) rfl
    have hFc : ∀ q, va_A ([(o3, eL cy f3)] ++ WC cy ad ks g u) H.size q → s.heap.size ≤ q := va_freeP (X := XLW cy o3 o4 am f3 f4 r) (cx := [(o3, eL cy f3)]) hD hS hA [0] rfl
    refine vx_calli (vx_runSX (As := [.ref (ad .cl), .int (xs (4 * n + 1)), .ref o3]) (rest := []) ⟨hx, hb, hml, hown, hts⟩ (cn_blanksIn l hst dC dI cy nb ad ks g hk u ((xs (4 * n + 1))) o3 f3 x c2 H.size e2) (vx_cwSW 3 hts (gSH mw_1398 mw_1399 mw_562 mw_1400) rfl rfl rfl (by decide +kernel) ⟨Nat.le_of_ble_eq_true rfl, Nat.le_of_ble_eq_true rfl⟩) (my_preS hPc hK hDc hE hS hFc) rfl rfl hl.1 rfl (lv_room (Nat.le_of_ble_eq_true rfl)) dL_law_1583 ⟨by show _ ≤ 601024; omega, by show _ ≤ 7293034; omega⟩) hS (fun q _ h => hFc q h) hFc (fun q _ h => hFc q h) (fun E9 ce9 q9 u9 t9 H1 locs1 ht9 hvm9 hp9 _ _ _ _ _ _ _ => hp9.elim) (fun rw9 u9 t9 H1 locs ht hvm hw hB hz1 hk1 hS => ?_)
    obtain ⟨hP1, hD1⟩ := hB
    rw [ht] at hP1
    obtain ⟨hP, hD⟩ := va_joinP (X := XLW cy o3 o4 am f3 f4 r) (cx := [(o3, eL cy f3)]) (wr := ((o4, eD cy f4) :: WM cy am r)) (rx := [(o3, eL cy (vp_updL f3 ((0 : Int32).toNatClampNeg) (x.toInt64)))]) (pl := WC cy ad ks g u) (pl1 := WC cy ad ks g c2) hP hD [0] [1, 2, 3, 4, 5, 6, 7, 8, 9, 10, 11, 12] rfl rfl (by decide) (by decide) hk1 hFc hP1 hD1
    have hP : va_P (dC, dI) vwCl (XLW cy o3 o4 am (vp_updL f3 ((0 : Int32).toNatClampNeg) (x.toInt64)) f4 r ++ WC cy ad ks g c2) H1 := hP.part (X := ((o4, eD cy f4) :: WM cy am r) ++ [(o3, eL cy (vp_updL f3 ((0 : Int32).toNatClampNeg) (x.toInt64)))]) (cx := XLW cy o3 o4 am (vp_updL f3 ((0 : Int32).toNatClampNeg) (x.toInt64)) f4 r) [12, 0, 1, 2, 3, 4, 5, 6, 7, 8, 9, 10, 11] rfl
    have hD : va_D (fun q : Nat => s.heap.size ≤ q) (XLW cy o3 o4 am (vp_updL f3 ((0 : Int32).toNatClampNeg) (x.toInt64)) f4 r ++ WC cy ad ks g c2) := hD.part (X := ((o4, eD cy f4) :: WM cy am r) ++ [(o3, eL cy (vp_updL f3 ((0 : Int32).toNatClampNeg) (x.toInt64)))]) (cx := XLW cy o3 o4 am (vp_updL f3 ((0 : Int32).toNatClampNeg) (x.toInt64)) f4 r) [12, 0, 1, 2, 3, 4, 5, 6, 7, 8, 9, 10, 11] (by decide) rfl
    generalize H1 = H at hP hS ⊢
    clear hP1 hD1 hPc hDc hFc hk1 hz1 hvm ht
    refine lv_istore (lv' := [(6, .int rw9), (5, .int (nI (4 * n))), (4, .ref o4), (3, .ref o3), (2, .ref (am 0)), (1, .ref (ad .cl)), (0, .ref b)]) hx hb dL_law_1586 hl (by decide) rfl (fun ls hl => ?_)
    refine lv_aload_n hx hb dL_law_1588 rfl (lv_at hl 4 rfl) ?_
    refine lv_aload_n hx hb dL_law_1589 rfl (lv_at hl 6 rfl) ?_
    refine lv_iload hx hb dL_law_1590 (lv_at hl 1 rfl) ?_
    refine lv_iconst (v := 1) hx hb dL_law_1592 (by decide) ?_
    refine lv_iadd hx hb dL_law_1593 ?_
    refine my_topi (y := nI (4 * n + 1)) (nI_add (4 * n) 1) ?_
    refine va_sld hx hb hX hbl hbA hS (vp_in_nI (n := 4 * n + 1) (by omega) (by omega)) dL_law_1594 ?_
    refine my_topi (y := xs (4 * n + 1)) (congrArg xs (nI_clamp (by omega))) ?_
    have hPc := hP.sub (ws' := (WM cy am r)) [2, 3, 4, 5, 6, 7, 8, 9, 10, 11, 12] rfl
    have hDc := hD.sub (ws' := (WM cy am r)) [2, 3, 4, 5, 6, 7, 8, 9, 10, 11, 12] (by decide) rfl
    have hFc := va_free (wc := (WM cy am r)) hD hS hA [2, 3, 4, 5, 6, 7, 8, 9, 10, 11, 12] rfl
    refine va_calli (va_runV (As := [.int (xs (4 * n + 1))]) (rest := []) ⟨hx, hb, hml, hown, hts⟩ (k_X8_blanksIn l dC dI cy nb am r ((xs (4 * n + 1))) x (r2) H.size e1) (cwV 1 hts (gV mw_1405 mw_1406 mw_1407 mw_5 mw_1408) rfl rfl rfl (by decide +kernel) ⟨Nat.le_of_ble_eq_true rfl, Nat.le_of_ble_eq_true rfl⟩) (my_preV hPc hK hDc hE hS hFc (va_recv (q := (RX8, TX8, 23)) hK hP (ci := 8) (q0 := 2) rfl rfl)) rfl rfl hl.1 rfl (lv_room (Nat.le_of_ble_eq_true rfl)) dL_law_1595 ⟨by show _ ≤ 601024; omega, by show _ ≤ 7293034; omega⟩) hS (fun q _ h => hFc q h) hFc (fun rm9 u9 t9 H1 locs ht hvm hwm hB hz1 hk1 hS => ?_)
    obtain ⟨hP1, hD1⟩ := hB
    rw [ht] at hP1
    obtain ⟨hP, hD⟩ := va_joinQ (X := XLW cy o3 o4 am (vp_updL f3 ((0 : Int32).toNatClampNeg) (x.toInt64)) f4 r) (cx := (WM cy am r)) (wr := [(o3, eL cy (vp_updL f3 ((0 : Int32).toNatClampNeg) (x.toInt64))), (o4, eD cy f4)]) (w1 := (WM cy am (r2))) (pl := WC cy ad ks g c2) hP hD [2, 3, 4, 5, 6, 7, 8, 9, 10, 11, 12] [0, 1] rfl rfl (by decide) (by decide) hk1 hFc hP1 hD1
    have hP : va_P (dC, dI) vwCl (XLW cy o3 o4 am (vp_updL f3 ((0 : Int32).toNatClampNeg) (x.toInt64)) f4 r2 ++ WC cy ad ks g c2) H1 := hP
    have hD : va_D (fun q : Nat => s.heap.size ≤ q) (XLW cy o3 o4 am (vp_updL f3 ((0 : Int32).toNatClampNeg) (x.toInt64)) f4 r2 ++ WC cy ad ks g c2) := hD
    generalize H1 = H at hP hS ⊢
    clear hP1 hD1 hPc hDc hFc hk1 hz1 hvm ht
    refine my_topi hwm ?_
    refine lv_istore (lv' := [(7, .int x), (6, .int rw9), (5, .int (nI (4 * n))), (4, .ref o4), (3, .ref o3), (2, .ref (am 0)), (1, .ref (ad .cl)), (0, .ref b)]) hx hb dL_law_1598 hl (by decide) rfl (fun ls hl => ?_)
    refine lv_goto (tgt := 1819) hx hb dL_law_1600 (by decide) ?_
    refine W.widen (k := cells + 603) (n := slots + 9640) (by omega) (by omega) ?_
    exact K H locs ls ⟨ad, ks, g, c2, r2, (vp_updL f3 ((0 : Int32).toNatClampNeg) (x.toInt64)), f4, hk, e3.mono (by omega) (by omega) (by omega), hP, hD, hS, lv_sub hl [2, 3, 4, 5, 6, 7] rfl⟩
  · have e2 : C7_blanksIn g u (xs (4 * n + 1)) = some (.inl (nI (k + 1))) := e2
    generalize hxx : (nI (k + 1)) = xk at e2
    have hxk : ¬ xk = 1 := by rw [← hxx]; exact nI_ne (b := 1) (by omega) (by omega) (by omega)
    refine lv_aload_n hx hb dL_law_1575 rfl (lv_at hl 4 rfl) ?_
    refine lv_aload_n hx hb dL_law_1576 rfl (lv_at hl 5 rfl) ?_
    refine lv_iload hx hb dL_law_1577 (lv_at hl 0 rfl) ?_
    refine lv_iconst (v := 1) hx hb dL_law_1579 (by decide) ?_
    refine lv_iadd hx hb dL_law_1580 ?_
    refine my_topi (y := nI (4 * n + 1)) (nI_add (4 * n) 1) ?_
    refine va_sld hx hb hX hbl hbA hS (vp_in_nI (n := 4 * n + 1) (by omega) (by omega)) dL_law_1581 ?_
    refine my_topi (y := xs (4 * n + 1)) (congrArg xs (nI_clamp (by omega))) ?_
    refine lv_aload_n hx hb dL_law_1582 rfl (lv_at hl 2 rfl) ?_
    have hPc : va_P (dC, dI) vwCl ([(o3, eL cy f3)] ++ WC cy ad ks g u) H := hP.part (X := XLW cy o3 o4 am f3 f4 r) (cx := [(o3, eL cy f3)]) [0] rfl
    have hDc : va_D (fun q : Nat => s.heap.size ≤ q) ([(o3, eL cy f3)] ++ WC cy ad ks g u) := hD.part (X := XLW cy o3 o4 am f3 f4 r) (cx := [(o3, eL cy f3)]) [0] (by decide) rfl
    have hFc : ∀ q, va_A ([(o3, eL cy f3)] ++ WC cy ad ks g u) H.size q → s.heap.size ≤ q := va_freeP (X := XLW cy o3 o4 am f3 f4 r) (cx := [(o3, eL cy f3)]) hD hS hA [0] rfl
    refine vx_calli (vx_runSX (As := [.ref (ad .cl), .int (xs (4 * n + 1)), .ref o3]) (rest := []) ⟨hx, hb, hml, hown, hts⟩ (ct_blanksIn l hst dC dI cy nb ad ks g hk u ((xs (4 * n + 1))) o3 f3 xk H.size hxk e2) (vx_cwSW 3 hts (gSH mw_1398 mw_1399 mw_562 mw_1400) rfl rfl rfl (by decide +kernel) ⟨Nat.le_of_ble_eq_true rfl, Nat.le_of_ble_eq_true rfl⟩) (my_preS hPc hK hDc hE hS hFc) rfl rfl hl.1 rfl (lv_room (Nat.le_of_ble_eq_true rfl)) dL_law_1583 ⟨by show _ ≤ 601024; omega, by show _ ≤ 7293034; omega⟩) hS (fun q _ h => hFc q h) hFc (fun q _ h => hFc q h) (fun E9 ce9 q9 u9 t9 H1 locs1 ht9 hvm9 hp9 _ _ _ _ _ _ _ => hp9.elim) (fun rw9 u9 t9 H1 locs ht hvm hw hB hz1 hk1 hS => ?_)
    obtain ⟨hP1, hD1⟩ := hB
    rw [ht] at hP1
    obtain ⟨hP, hD⟩ := va_joinP (X := XLW cy o3 o4 am f3 f4 r) (cx := [(o3, eL cy f3)]) (wr := ((o4, eD cy f4) :: WM cy am r)) (rx := [(o3, eL cy f3)]) (pl := WC cy ad ks g u) (pl1 := WC cy ad ks g u) hP hD [0] [1, 2, 3, 4, 5, 6, 7, 8, 9, 10, 11, 12] rfl rfl (by decide) (by decide) hk1 hFc hP1 hD1
    have hP : va_P (dC, dI) vwCl (XLW cy o3 o4 am f3 f4 r ++ WC cy ad ks g u) H1 := hP.part (X := ((o4, eD cy f4) :: WM cy am r) ++ [(o3, eL cy f3)]) (cx := XLW cy o3 o4 am f3 f4 r) [12, 0, 1, 2, 3, 4, 5, 6, 7, 8, 9, 10, 11] rfl
    have hD : va_D (fun q : Nat => s.heap.size ≤ q) (XLW cy o3 o4 am f3 f4 r ++ WC cy ad ks g u) := hD.part (X := ((o4, eD cy f4) :: WM cy am r) ++ [(o3, eL cy f3)]) (cx := XLW cy o3 o4 am f3 f4 r) [12, 0, 1, 2, 3, 4, 5, 6, 7, 8, 9, 10, 11] (by decide) rfl
    generalize H1 = H at hP hS ⊢
    clear hP1 hD1 hPc hDc hFc hk1 hz1 hvm ht
    refine lv_istore (lv' := [(6, .int rw9), (5, .int (nI (4 * n))), (4, .ref o4), (3, .ref o3), (2, .ref (am 0)), (1, .ref (ad .cl)), (0, .ref b)]) hx hb dL_law_1586 hl (by decide) rfl (fun ls hl => ?_)
    refine lv_aload_n hx hb dL_law_1588 rfl (lv_at hl 4 rfl) ?_
    refine lv_aload_n hx hb dL_law_1589 rfl (lv_at hl 6 rfl) ?_
    refine lv_iload hx hb dL_law_1590 (lv_at hl 1 rfl) ?_
    refine lv_iconst (v := 1) hx hb dL_law_1592 (by decide) ?_
    refine lv_iadd hx hb dL_law_1593 ?_
    refine my_topi (y := nI (4 * n + 1)) (nI_add (4 * n) 1) ?_
    refine va_sld hx hb hX hbl hbA hS (vp_in_nI (n := 4 * n + 1) (by omega) (by omega)) dL_law_1594 ?_
    refine my_topi (y := xs (4 * n + 1)) (congrArg xs (nI_clamp (by omega))) ?_
    have hPc := hP.sub (ws' := (WM cy am r)) [2, 3, 4, 5, 6, 7, 8, 9, 10, 11, 12] rfl
    have hDc := hD.sub (ws' := (WM cy am r)) [2, 3, 4, 5, 6, 7, 8, 9, 10, 11, 12] (by decide) rfl
    have hFc := va_free (wc := (WM cy am r)) hD hS hA [2, 3, 4, 5, 6, 7, 8, 9, 10, 11, 12] rfl
    refine va_calli (va_runV (As := [.int (xs (4 * n + 1))]) (rest := []) ⟨hx, hb, hml, hown, hts⟩ (k_X8_blanksIn l dC dI cy nb am r ((xs (4 * n + 1))) (nI 0) (th r k) H.size e1) (cwV 1 hts (gV mw_1405 mw_1406 mw_1407 mw_5 mw_1408) rfl rfl rfl (by decide +kernel) ⟨Nat.le_of_ble_eq_true rfl, Nat.le_of_ble_eq_true rfl⟩) (my_preV hPc hK hDc hE hS hFc (va_recv (q := (RX8, TX8, 23)) hK hP (ci := 8) (q0 := 2) rfl rfl)) rfl rfl hl.1 rfl (lv_room (Nat.le_of_ble_eq_true rfl)) dL_law_1595 ⟨by show _ ≤ 601024; omega, by show _ ≤ 7293034; omega⟩) hS (fun q _ h => hFc q h) hFc (fun rm9 u9 t9 H1 locs ht hvm hwm hB hz1 hk1 hS => ?_)
    obtain ⟨hP1, hD1⟩ := hB
    rw [ht] at hP1
    obtain ⟨hP, hD⟩ := va_joinQ (X := XLW cy o3 o4 am f3 f4 r) (cx := (WM cy am r)) (wr := [(o3, eL cy f3), (o4, eD cy f4)]) (w1 := (WM cy am (th r k))) (pl := WC cy ad ks g u) hP hD [2, 3, 4, 5, 6, 7, 8, 9, 10, 11, 12] [0, 1] rfl rfl (by decide) (by decide) hk1 hFc hP1 hD1
    have hP : va_P (dC, dI) vwCl (XLW cy o3 o4 am f3 f4 (th r k) ++ WC cy ad ks g u) H1 := hP
    have hD : va_D (fun q : Nat => s.heap.size ≤ q) (XLW cy o3 o4 am f3 f4 (th r k) ++ WC cy ad ks g u) := hD
    generalize H1 = H at hP hS ⊢
    clear hP1 hD1 hPc hDc hFc hk1 hz1 hvm ht
    refine my_topi hwm ?_
    refine lv_istore (lv' := [(7, .int (nI 0)), (6, .int rw9), (5, .int (nI (4 * n))), (4, .ref o4), (3, .ref o3), (2, .ref (am 0)), (1, .ref (ad .cl)), (0, .ref b)]) hx hb dL_law_1598 hl (by decide) rfl (fun ls hl => ?_)
    refine lv_goto (tgt := 1819) hx hb dL_law_1600 (by decide) ?_
    refine W.widen (k := cells + 603) (n := slots + 9640) (by omega) (by omega) ?_
    exact K H locs ls ⟨ad, ks, g, u, (th r k), f3, f4, hk, (hGI.thr).mono (by omega) (by omega) (by omega), hP, hD, hS, lv_sub hl [2, 3, 4, 5, 6, 7] rfl⟩
end
