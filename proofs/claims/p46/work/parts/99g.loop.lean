theorem le_cmp {n L : Nat} (hn : 4 * n ≤ L) (hL : L ≤ 2048) (h : ¬ 4 * n + 4 ≤ L) : nI L - 4 < nI (4 * n) := by
  by_cases h4 : 4 ≤ L
  · rw [show (4 : Int32) = nI 4 from rfl, nI_sub h4]
    rw [Int32.lt_iff_toInt_lt, nI_toInt (by omega), nI_toInt (by omega)]
    omega
  · obtain rfl : n = 0 := by omega
    rcases (show L = 0 ∨ L = 1 ∨ L = 2 ∨ L = 3 by omega) with rfl | rfl | rfl | rfl <;> decide
theorem ge_cmp {n L : Nat} (hL : L ≤ 2048) (h : 4 * n + 4 ≤ L) : ¬ nI L - 4 < nI (4 * n) := by
  rw [show (4 : Int32) = nI 4 from rfl, nI_sub (show 4 ≤ L by omega)]
  rw [Int32.lt_iff_toInt_lt, nI_toInt (by omega), nI_toInt (by omega)]
  omega
theorem law_none {p : Program} {e : Env} {s : State} {m : MethodId} {below : List Frame} {meth : Method} {c : Code} (l : Launch) {b : Nat} (dC : Nat → ClassId) (dI : Nat → Nat → Nat) (cy : Nat → ClassId) (nb : Nat → Nat) (o3 o4 : Nat) (am : Nat → Nat) {n : Nat} (hn : n < 512) {Q : State → Prop} {H : Heap} {locs : List Loc} {ls : Array Slot} {cells slots : Nat} (h : LSt s dC dI cy nb b o3 o4 am n (4 * n) H locs ls) (K : ∀ (H : Heap) (locs : List Loc) (ls : Array Slot), LSt s dC dI cy nb b o3 o4 am (n + 1) (4 * n) H locs ls → W p l e room_1 s m #[Value.ref b] below meth c H locs (cells + 603) (slots + 9640) Q (F0 m 1791 ls [])) : W p l e room_1 s m #[Value.ref b] below meth c H locs cells slots Q (F0 m 1791 ls []) := by
  obtain ⟨ad, ks, g, u, r, f3, f4, hk9, hGI, hP, hD, hS, hl⟩ := h
  refine W.widen (k := cells + 603) (n := slots + 9640) (by omega) (by omega) ?_
  exact K H locs ls ⟨ad, ks, g, u, r, f3, f4, hk9, hGI.mono (by omega) (by omega) (by omega), hP, hD, hS, hl⟩
set_option maxHeartbeats 8000000 in
set_option maxRecDepth 100000 in
theorem law_call {p : Program} {e : Env} {s : State} {m : MethodId} {below : List Frame} {meth : Method} {c : Code} (l : Launch) (hst : l.stackTraces = false) {b L : Nat} {xs : Nat → Int32} (dC : Nat → ClassId) (dI : Nat → Nat → Nat) (cy : Nat → ClassId) (nb : Nat → Nat) (o3 o4 : Nat) (am : Nat → Nat) (hL2 : L ≤ 2048) (C0 : LX p s m meth c b L xs dC dI cy nb) {n : Nat} (hn : n < 512) (hLn : 4 * n + 4 ≤ L) {Q : State → Prop} {H : Heap} {locs : List Loc} {ls : Array Slot} {cells slots : Nat} (hc : cells ≤ 400000) (hs : slots ≤ 6000000) (h : LSt s dC dI cy nb b o3 o4 am n (4 * n) H locs ls) (K : ∀ (H : Heap) (locs : List Loc) (ls : Array Slot), LSt s dC dI cy nb b o3 o4 am (n + 1) (4 * n) H locs ls → W p l e room_1 s m #[Value.ref b] below meth c H locs (cells + 603) (slots + 9640) Q (F0 m 1791 ls [])) : W p l e room_1 s m #[Value.ref b] below meth c H locs cells slots Q (F0 m 37 ls []) := by
  have C1 := C0
  have h1 := h
  obtain ⟨hx, hb, hr, hml, hown, hts, hX, hbl, hlocks, hK, hE⟩ := C1
  obtain ⟨ad, ks, g, u, r, f3, f4, hk9, hGI, hP, hD, hS, hl⟩ := h1
  have hbA : ¬ (fun q : Nat => s.heap.size ≤ q) b := Nat.not_le.mpr hbl
  refine lv_aload_n hx hb dL_law_37 rfl (lv_at hl 5 rfl) ?_
  refine lv_iload hx hb dL_law_38 (lv_at hl 0 rfl) ?_
  refine va_sld hx hb hX hbl hbA hS (vp_in_nI (n := 4 * n) (by omega) (by omega)) dL_law_40 ?_
  refine my_topi (y := xs (4 * n)) (congrArg xs (nI_clamp (by omega))) ?_
  refine lv_bipush (v := 63) hx hb dL_law_41 (by decide) ?_
  refine lv_iand hx hb dL_law_43 ?_
  obtain ⟨k, hk, e0⟩ := pk_andE (xs (4 * n)) (m := 63) 6 (by decide)
  refine my_topi (y := nI k) e0 ?_
  have ho : ∀ q : Int32, nI k = q → True := fun _ _ => trivial
  clear ho e0 hP hD hS hl hGI hk9
  match k, hk with
  | 0, _ =>
    refine my_topi (y := 0) (by decide) ?_
    refine lv_tableIn (off := 224) (tgt := 268) hx hb dL_law_44 (by decide) (by decide) (by decide) (by decide) ?_
    exact law_c0 l hst dC dI cy nb o3 o4 am hn hLn hL2 C0 hc hs h K
  | 1, _ =>
    refine my_topi (y := 1) (by decide) ?_
    refine lv_tableIn (off := 281) (tgt := 325) hx hb dL_law_44 (by decide) (by decide) (by decide) (by decide) ?_
    exact law_c1 l hst dC dI cy nb o3 o4 am hn hLn hL2 C0 hc hs h K
  | 2, _ =>
    refine my_topi (y := 2) (by decide) ?_
    refine lv_tableIn (off := 294) (tgt := 338) hx hb dL_law_44 (by decide) (by decide) (by decide) (by decide) ?_
    exact law_c2 l hst dC dI cy nb o3 o4 am hn hLn hL2 C0 hc hs h K
  | 3, _ =>
    refine my_topi (y := 3) (by decide) ?_
    refine lv_tableIn (off := 307) (tgt := 351) hx hb dL_law_44 (by decide) (by decide) (by decide) (by decide) ?_
    exact law_c3 l hst dC dI cy nb o3 o4 am hn hLn hL2 C0 hc hs h K
  | 4, _ =>
    refine my_topi (y := 4) (by decide) ?_
    refine lv_tableIn (off := 320) (tgt := 364) hx hb dL_law_44 (by decide) (by decide) (by decide) (by decide) ?_
    exact law_c4 l hst dC dI cy nb o3 o4 am hn hLn hL2 C0 hc hs h K
  | 5, _ =>
    refine my_topi (y := 5) (by decide) ?_
    refine lv_tableIn (off := 348) (tgt := 392) hx hb dL_law_44 (by decide) (by decide) (by decide) (by decide) ?_
    exact law_c5 l hst dC dI cy nb o3 o4 am hn hLn hL2 C0 hc hs h K
  | 6, _ =>
    refine my_topi (y := 6) (by decide) ?_
    refine lv_tableIn (off := 376) (tgt := 420) hx hb dL_law_44 (by decide) (by decide) (by decide) (by decide) ?_
    exact law_c6 l hst dC dI cy nb o3 o4 am hn hLn hL2 C0 hc hs h K
  | 7, _ =>
    refine my_topi (y := 7) (by decide) ?_
    refine lv_tableIn (off := 416) (tgt := 460) hx hb dL_law_44 (by decide) (by decide) (by decide) (by decide) ?_
    exact law_c7 l hst dC dI cy nb o3 o4 am hn hLn hL2 C0 hc hs h K
  | 8, _ =>
    refine my_topi (y := 8) (by decide) ?_
    refine lv_tableIn (off := 456) (tgt := 500) hx hb dL_law_44 (by decide) (by decide) (by decide) (by decide) ?_
    exact law_c8 l hst dC dI cy nb o3 o4 am hn hLn hL2 C0 hc hs h K
  | 9, _ =>
    refine my_topi (y := 9) (by decide) ?_
    refine lv_tableIn (off := 496) (tgt := 540) hx hb dL_law_44 (by decide) (by decide) (by decide) (by decide) ?_
    exact law_c9 l hst dC dI cy nb o3 o4 am hn hLn hL2 C0 hc hs h K
  | 10, _ =>
    refine my_topi (y := 10) (by decide) ?_
    refine lv_tableIn (off := 536) (tgt := 580) hx hb dL_law_44 (by decide) (by decide) (by decide) (by decide) ?_
    exact law_c10 l hst dC dI cy nb o3 o4 am hn hLn hL2 C0 hc hs h K
  | 11, _ =>
    refine my_topi (y := 11) (by decide) ?_
    refine lv_tableIn (off := 576) (tgt := 620) hx hb dL_law_44 (by decide) (by decide) (by decide) (by decide) ?_
    exact law_c11 l hst dC dI cy nb o3 o4 am hn hLn hL2 C0 hc hs h K
  | 12, _ =>
    refine my_topi (y := 12) (by decide) ?_
    refine lv_tableIn (off := 601) (tgt := 645) hx hb dL_law_44 (by decide) (by decide) (by decide) (by decide) ?_
    exact law_c12 l hst dC dI cy nb o3 o4 am hn hLn hL2 C0 hc hs h K
  | 13, _ =>
    refine my_topi (y := 13) (by decide) ?_
    refine lv_tableIn (off := 626) (tgt := 670) hx hb dL_law_44 (by decide) (by decide) (by decide) (by decide) ?_
    exact law_c13 l hst dC dI cy nb o3 o4 am hn hLn hL2 C0 hc hs h K
  | 14, _ =>
    refine my_topi (y := 14) (by decide) ?_
    refine lv_tableIn (off := 639) (tgt := 683) hx hb dL_law_44 (by decide) (by decide) (by decide) (by decide) ?_
    exact law_c14 l hst dC dI cy nb o3 o4 am hn hLn hL2 C0 hc hs h K
  | 15, _ =>
    refine my_topi (y := 15) (by decide) ?_
    refine lv_tableIn (off := 679) (tgt := 723) hx hb dL_law_44 (by decide) (by decide) (by decide) (by decide) ?_
    exact law_c15 l hst dC dI cy nb o3 o4 am hn hLn hL2 C0 hc hs h K
  | 16, _ =>
    refine my_topi (y := 16) (by decide) ?_
    refine lv_tableIn (off := 719) (tgt := 763) hx hb dL_law_44 (by decide) (by decide) (by decide) (by decide) ?_
    exact law_c16 l hst dC dI cy nb o3 o4 am hn hLn hL2 C0 hc hs h K
  | 17, _ =>
    refine my_topi (y := 17) (by decide) ?_
    refine lv_tableIn (off := 732) (tgt := 776) hx hb dL_law_44 (by decide) (by decide) (by decide) (by decide) ?_
    exact law_c17 l hst dC dI cy nb o3 o4 am hn hLn hL2 C0 hc hs h K
  | 18, _ =>
    refine my_topi (y := 18) (by decide) ?_
    refine lv_tableIn (off := 784) (tgt := 828) hx hb dL_law_44 (by decide) (by decide) (by decide) (by decide) ?_
    exact law_c18 l hst dC dI cy nb o3 o4 am hn hLn hL2 C0 hc hs h K
  | 19, _ =>
    refine my_topi (y := 19) (by decide) ?_
    refine lv_tableIn (off := 824) (tgt := 868) hx hb dL_law_44 (by decide) (by decide) (by decide) (by decide) ?_
    exact law_c19 l hst dC dI cy nb o3 o4 am hn hLn hL2 C0 hc hs h K
  | 20, _ =>
    refine my_topi (y := 20) (by decide) ?_
    refine lv_tableIn (off := 852) (tgt := 896) hx hb dL_law_44 (by decide) (by decide) (by decide) (by decide) ?_
    exact law_c20 l hst dC dI cy nb o3 o4 am hn hLn hL2 C0 hc hs h K
  | 21, _ =>
    refine my_topi (y := 21) (by decide) ?_
    refine lv_tableIn (off := 867) (tgt := 911) hx hb dL_law_44 (by decide) (by decide) (by decide) (by decide) ?_
    exact law_c21 l hst dC dI cy nb o3 o4 am hn hLn hL2 C0 hc hs h K
  | 22, _ =>
    refine my_topi (y := 22) (by decide) ?_
    refine lv_tableIn (off := 884) (tgt := 928) hx hb dL_law_44 (by decide) (by decide) (by decide) (by decide) ?_
    exact law_c22 l hst dC dI cy nb o3 o4 am hn hLn hL2 C0 hc hs h K
  | 23, _ =>
    refine my_topi (y := 23) (by decide) ?_
    refine lv_tableIn (off := 913) (tgt := 957) hx hb dL_law_44 (by decide) (by decide) (by decide) (by decide) ?_
    exact law_c23 l hst dC dI cy nb o3 o4 am hn hLn hL2 C0 hc hs h K
  | 24, _ =>
    refine my_topi (y := 24) (by decide) ?_
    refine lv_tableIn (off := 926) (tgt := 970) hx hb dL_law_44 (by decide) (by decide) (by decide) (by decide) ?_
    exact law_c24 l hst dC dI cy nb o3 o4 am hn hLn hL2 C0 hc hs h K
  | 25, _ =>
    refine my_topi (y := 25) (by decide) ?_
    refine lv_tableIn (off := 954) (tgt := 998) hx hb dL_law_44 (by decide) (by decide) (by decide) (by decide) ?_
    exact law_c25 l hst dC dI cy nb o3 o4 am hn hLn hL2 C0 hc hs h K
  | 26, _ =>
    refine my_topi (y := 26) (by decide) ?_
    refine lv_tableIn (off := 982) (tgt := 1026) hx hb dL_law_44 (by decide) (by decide) (by decide) (by decide) ?_
    exact law_c26 l hst dC dI cy nb o3 o4 am hn hLn hL2 C0 hc hs h K
  | 27, _ =>
    refine my_topi (y := 27) (by decide) ?_
    refine lv_tableIn (off := 1022) (tgt := 1066) hx hb dL_law_44 (by decide) (by decide) (by decide) (by decide) ?_
    exact law_c27 l hst dC dI cy nb o3 o4 am hn hLn hL2 C0 hc hs h K
  | 28, _ =>
    refine my_topi (y := 28) (by decide) ?_
    refine lv_tableIn (off := 1050) (tgt := 1094) hx hb dL_law_44 (by decide) (by decide) (by decide) (by decide) ?_
    exact law_c28 l hst dC dI cy nb o3 o4 am hn hLn hL2 C0 hc hs h K
  | 29, _ =>
    refine my_topi (y := 29) (by decide) ?_
    refine lv_tableIn (off := 1090) (tgt := 1134) hx hb dL_law_44 (by decide) (by decide) (by decide) (by decide) ?_
    exact law_c29 l hst dC dI cy nb o3 o4 am hn hLn hL2 C0 hc hs h K
  | 30, _ =>
    refine my_topi (y := 30) (by decide) ?_
    refine lv_tableIn (off := 1146) (tgt := 1190) hx hb dL_law_44 (by decide) (by decide) (by decide) (by decide) ?_
    exact law_c30 l hst dC dI cy nb o3 o4 am hn hLn hL2 C0 hc hs h K
  | 31, _ =>
    refine my_topi (y := 31) (by decide) ?_
    refine lv_tableIn (off := 1198) (tgt := 1242) hx hb dL_law_44 (by decide) (by decide) (by decide) (by decide) ?_
    exact law_c31 l hst dC dI cy nb o3 o4 am hn hLn hL2 C0 hc hs h K
  | 32, _ =>
    refine my_topi (y := 32) (by decide) ?_
    refine lv_tableIn (off := 1226) (tgt := 1270) hx hb dL_law_44 (by decide) (by decide) (by decide) (by decide) ?_
    exact law_c32 l hst dC dI cy nb o3 o4 am hn hLn hL2 C0 hc hs h K
  | 33, _ =>
    refine my_topi (y := 33) (by decide) ?_
    refine lv_tableIn (off := 1266) (tgt := 1310) hx hb dL_law_44 (by decide) (by decide) (by decide) (by decide) ?_
    exact law_c33 l hst dC dI cy nb o3 o4 am hn hLn hL2 C0 hc hs h K
  | 34, _ =>
    refine my_topi (y := 34) (by decide) ?_
    refine lv_tableIn (off := 1294) (tgt := 1338) hx hb dL_law_44 (by decide) (by decide) (by decide) (by decide) ?_
    exact law_c34 l hst dC dI cy nb o3 o4 am hn hLn hL2 C0 hc hs h K
  | 35, _ =>
    refine my_topi (y := 35) (by decide) ?_
    refine lv_tableIn (off := 1322) (tgt := 1366) hx hb dL_law_44 (by decide) (by decide) (by decide) (by decide) ?_
    exact law_c35 l hst dC dI cy nb o3 o4 am hn hLn hL2 C0 hc hs h K
  | 36, _ =>
    refine my_topi (y := 36) (by decide) ?_
    refine lv_tableIn (off := 1350) (tgt := 1394) hx hb dL_law_44 (by decide) (by decide) (by decide) (by decide) ?_
    exact law_c36 l hst dC dI cy nb o3 o4 am hn hLn hL2 C0 hc hs h K
  | 37, _ =>
    refine my_topi (y := 37) (by decide) ?_
    refine lv_tableIn (off := 1378) (tgt := 1422) hx hb dL_law_44 (by decide) (by decide) (by decide) (by decide) ?_
    exact law_c37 l hst dC dI cy nb o3 o4 am hn hLn hL2 C0 hc hs h K
  | 38, _ =>
    refine my_topi (y := 38) (by decide) ?_
    refine lv_tableIn (off := 1406) (tgt := 1450) hx hb dL_law_44 (by decide) (by decide) (by decide) (by decide) ?_
    exact law_c38 l hst dC dI cy nb o3 o4 am hn hLn hL2 C0 hc hs h K
  | 39, _ =>
    refine my_topi (y := 39) (by decide) ?_
    refine lv_tableIn (off := 1434) (tgt := 1478) hx hb dL_law_44 (by decide) (by decide) (by decide) (by decide) ?_
    exact law_c39 l hst dC dI cy nb o3 o4 am hn hLn hL2 C0 hc hs h K
  | 40, _ =>
    refine my_topi (y := 40) (by decide) ?_
    refine lv_tableIn (off := 1447) (tgt := 1491) hx hb dL_law_44 (by decide) (by decide) (by decide) (by decide) ?_
    exact law_c40 l hst dC dI cy nb o3 o4 am hn hLn hL2 C0 hc hs h K
  | 41, _ =>
    refine my_topi (y := 41) (by decide) ?_
    refine lv_tableIn (off := 1475) (tgt := 1519) hx hb dL_law_44 (by decide) (by decide) (by decide) (by decide) ?_
    exact law_c41 l hst dC dI cy nb o3 o4 am hn hLn hL2 C0 hc hs h K
  | 42, _ =>
    refine my_topi (y := 42) (by decide) ?_
    refine lv_tableIn (off := 1503) (tgt := 1547) hx hb dL_law_44 (by decide) (by decide) (by decide) (by decide) ?_
    exact law_c42 l hst dC dI cy nb o3 o4 am hn hLn hL2 C0 hc hs h K
  | 43, _ =>
    refine my_topi (y := 43) (by decide) ?_
    refine lv_tableIn (off := 1531) (tgt := 1575) hx hb dL_law_44 (by decide) (by decide) (by decide) (by decide) ?_
    exact law_c43 l hst dC dI cy nb o3 o4 am hn hLn hL2 C0 hc hs h K
  | 44, _ =>
    refine my_topi (y := 44) (by decide) ?_
    refine lv_tableIn (off := 1559) (tgt := 1603) hx hb dL_law_44 (by decide) (by decide) (by decide) (by decide) ?_
    exact law_c44 l hst dC dI cy nb o3 o4 am hn hLn hL2 C0 hc hs h K
  | 45, _ =>
    refine my_topi (y := 45) (by decide) ?_
    refine lv_tableIn (off := 1584) (tgt := 1628) hx hb dL_law_44 (by decide) (by decide) (by decide) (by decide) ?_
    exact law_c45 l hst dC dI cy nb o3 o4 am hn hLn hL2 C0 hc hs h K
  | 46, _ =>
    refine my_topi (y := 46) (by decide) ?_
    refine lv_tableIn (off := 1612) (tgt := 1656) hx hb dL_law_44 (by decide) (by decide) (by decide) (by decide) ?_
    exact law_c46 l hst dC dI cy nb o3 o4 am hn hLn hL2 C0 hc hs h K
  | 47, _ =>
    refine my_topi (y := 47) (by decide) ?_
    refine lv_tableIn (off := 1625) (tgt := 1669) hx hb dL_law_44 (by decide) (by decide) (by decide) (by decide) ?_
    exact law_c47 l hst dC dI cy nb o3 o4 am hn hLn hL2 C0 hc hs h K
  | 48, _ =>
    refine my_topi (y := 48) (by decide) ?_
    refine lv_tableIn (off := 1653) (tgt := 1697) hx hb dL_law_44 (by decide) (by decide) (by decide) (by decide) ?_
    exact law_c48 l hst dC dI cy nb o3 o4 am hn hLn hL2 C0 hc hs h K
  | 49, _ =>
    refine my_topi (y := 49) (by decide) ?_
    refine lv_tableIn (off := 1678) (tgt := 1722) hx hb dL_law_44 (by decide) (by decide) (by decide) (by decide) ?_
    exact law_c49 l hst dC dI cy nb o3 o4 am hn hLn hL2 C0 hc hs h K
  | 50, _ =>
    refine my_topi (y := 50) (by decide) ?_
    refine lv_tableIn (off := 1691) (tgt := 1735) hx hb dL_law_44 (by decide) (by decide) (by decide) (by decide) ?_
    exact law_c50 l hst dC dI cy nb o3 o4 am hn hLn hL2 C0 hc hs h K
  | 51, _ =>
    refine my_topi (y := 51) (by decide) ?_
    refine lv_tableIn (off := 1719) (tgt := 1763) hx hb dL_law_44 (by decide) (by decide) (by decide) (by decide) ?_
    exact law_c51 l hst dC dI cy nb o3 o4 am hn hLn hL2 C0 hc hs h K
  | 52, _ =>
    refine my_topi (y := 52) (by decide) ?_
    refine lv_tableOut (tgt := 1791) hx hb dL_law_44 (by decide) (by decide) ?_
    exact law_none l dC dI cy nb o3 o4 am hn h K
  | 53, _ =>
    refine my_topi (y := 53) (by decide) ?_
    refine lv_tableOut (tgt := 1791) hx hb dL_law_44 (by decide) (by decide) ?_
    exact law_none l dC dI cy nb o3 o4 am hn h K
  | 54, _ =>
    refine my_topi (y := 54) (by decide) ?_
    refine lv_tableOut (tgt := 1791) hx hb dL_law_44 (by decide) (by decide) ?_
    exact law_none l dC dI cy nb o3 o4 am hn h K
  | 55, _ =>
    refine my_topi (y := 55) (by decide) ?_
    refine lv_tableOut (tgt := 1791) hx hb dL_law_44 (by decide) (by decide) ?_
    exact law_none l dC dI cy nb o3 o4 am hn h K
  | 56, _ =>
    refine my_topi (y := 56) (by decide) ?_
    refine lv_tableOut (tgt := 1791) hx hb dL_law_44 (by decide) (by decide) ?_
    exact law_none l dC dI cy nb o3 o4 am hn h K
  | 57, _ =>
    refine my_topi (y := 57) (by decide) ?_
    refine lv_tableOut (tgt := 1791) hx hb dL_law_44 (by decide) (by decide) ?_
    exact law_none l dC dI cy nb o3 o4 am hn h K
  | 58, _ =>
    refine my_topi (y := 58) (by decide) ?_
    refine lv_tableOut (tgt := 1791) hx hb dL_law_44 (by decide) (by decide) ?_
    exact law_none l dC dI cy nb o3 o4 am hn h K
  | 59, _ =>
    refine my_topi (y := 59) (by decide) ?_
    refine lv_tableOut (tgt := 1791) hx hb dL_law_44 (by decide) (by decide) ?_
    exact law_none l dC dI cy nb o3 o4 am hn h K
  | 60, _ =>
    refine my_topi (y := 60) (by decide) ?_
    refine lv_tableOut (tgt := 1791) hx hb dL_law_44 (by decide) (by decide) ?_
    exact law_none l dC dI cy nb o3 o4 am hn h K
  | 61, _ =>
    refine my_topi (y := 61) (by decide) ?_
    refine lv_tableOut (tgt := 1791) hx hb dL_law_44 (by decide) (by decide) ?_
    exact law_none l dC dI cy nb o3 o4 am hn h K
  | 62, _ =>
    refine my_topi (y := 62) (by decide) ?_
    refine lv_tableOut (tgt := 1791) hx hb dL_law_44 (by decide) (by decide) ?_
    exact law_none l dC dI cy nb o3 o4 am hn h K
  | 63, _ =>
    refine my_topi (y := 63) (by decide) ?_
    refine lv_tableOut (tgt := 1791) hx hb dL_law_44 (by decide) (by decide) ?_
    exact law_none l dC dI cy nb o3 o4 am hn h K
  | (q + 64), hk => exact absurd hk (by omega)
set_option maxHeartbeats 8000000 in
set_option maxRecDepth 100000 in
theorem law_loop {p : Program} {e : Env} {s : State} {m : MethodId} {below : List Frame} {meth : Method} {c : Code} (l : Launch) (hst : l.stackTraces = false) {b L : Nat} {xs : Nat → Int32} (dC : Nat → ClassId) (dI : Nat → Nat → Nat) (cy : Nat → ClassId) (nb : Nat → Nat) (o3 o4 : Nat) (am : Nat → Nat) (hL2 : L ≤ 2048) (C0 : LX p s m meth c b L xs dC dI cy nb) : ∀ (d n : Nat) (H : Heap) (locs : List Loc) (ls : Array Slot), d + n = 512 → 4 * n ≤ L → LSt s dC dI cy nb b o3 o4 am n (4 * n) H locs ls → W p l e room_1 s m #[Value.ref b] below meth c H locs (157 + 603 * n) (15678 + 9640 * n) (lw_Z below #[Value.ref b] s) (F0 m 28 ls []) := by
  intro d
  induction d with
  | zero =>
    intro n H locs ls hdn h4 h
    have C1 := C0
    have h1 := h
    obtain ⟨hx, hb, hr, hml, hown, hts, hX, hbl, hlocks, hK, hE⟩ := C1
    obtain ⟨ad, ks, g, u, r, f3, f4, hk9, hGI, hP, hD, hS, hl⟩ := h1
    have hbA : ¬ (fun q : Nat => s.heap.size ≤ q) b := Nat.not_le.mpr hbl
    refine lv_iload hx hb dL_law_28 (lv_at hl 0 rfl) ?_
    refine lv_aload_n hx hb dL_law_30 rfl (lv_at hl 5 rfl) ?_
    refine va_slen hx hb hX hbl hbA hS dL_law_31 ?_
    refine lv_iconst (v := 4) hx hb dL_law_32 (by decide) ?_
    refine lv_isub hx hb dL_law_33 ?_
    refine lv_icmp_gt (tgt := 1797) hx hb dL_law_34 (by decide) (fun _ => ?_) (fun h9 => absurd (le_cmp h4 hL2 (by omega)) h9)
    refine lv_iconst (v := 1) hx hb dL_law_1797 (by decide) ?_
    refine W.widen (k := 601024) (n := 7293034) (by omega) (by omega) ?_
    refine va_forget (fun q hq => hS.2.2 q hq) ?_
    refine W.base ?_
    exact lw_ret (Drawn.sameBut.refl s.drawn lw_cs) hx hb hr hlocks dL_law_1798
  | succ d ih =>
    intro n H locs ls hdn h4 h
    have C1 := C0
    have h1 := h
    obtain ⟨hx, hb, hr, hml, hown, hts, hX, hbl, hlocks, hK, hE⟩ := C1
    obtain ⟨ad, ks, g, u, r, f3, f4, hk9, hGI, hP, hD, hS, hl⟩ := h1
    have hbA : ¬ (fun q : Nat => s.heap.size ≤ q) b := Nat.not_le.mpr hbl
    refine lv_iload hx hb dL_law_28 (lv_at hl 0 rfl) ?_
    refine lv_aload_n hx hb dL_law_30 rfl (lv_at hl 5 rfl) ?_
    refine va_slen hx hb hX hbl hbA hS dL_law_31 ?_
    refine lv_iconst (v := 4) hx hb dL_law_32 (by decide) ?_
    refine lv_isub hx hb dL_law_33 ?_
    by_cases hle : 4 * n + 4 ≤ L
    · refine lv_icmp_gt (tgt := 1797) hx hb dL_law_34 (by decide) (fun h9 => absurd h9 (ge_cmp hL2 hle)) (fun _ => ?_)
      refine law_call l hst dC dI cy nb o3 o4 am hL2 C0 (show n < 512 by omega) hle (by omega) (by omega) h (fun H locs ls h2 => ?_)
      obtain ⟨ad, ks, g, u, r, f3, f4, hk9, hGI, hP, hD, hS, hl⟩ := h2
      refine lv_iinc (v := nI (4 * (n + 1))) (lv' := [(5, .int (nI (4 * (n + 1)))), (4, .ref o4), (3, .ref o3), (2, .ref (am 0)), (1, .ref (ad .cl)), (0, .ref b)]) hx hb dL_law_1791 hl (k := 0) rfl ?_ (by decide) rfl (fun ls hl => ?_)
      · exact nI_add (4 * n) 4
      refine lv_goto (tgt := 28) hx hb dL_law_1794 (by decide) ?_
      refine W.widen (k := 157 + 603 * (n + 1)) (n := 15678 + 9640 * (n + 1)) (by omega) (by omega) ?_
      exact ih (n + 1) H locs ls (by omega) (by omega) ⟨ad, ks, g, u, r, f3, f4, hk9, hGI, hP, hD, hS, hl⟩
    · skip
      refine lv_icmp_gt (tgt := 1797) hx hb dL_law_34 (by decide) (fun _ => ?_) (fun h9 => absurd (le_cmp h4 hL2 hle) h9)
      refine lv_iconst (v := 1) hx hb dL_law_1797 (by decide) ?_
      refine W.widen (k := 601024) (n := 7293034) (by omega) (by omega) ?_
      refine va_forget (fun q hq => hS.2.2 q hq) ?_
      refine W.base ?_
      exact lw_ret (Drawn.sameBut.refl s.drawn lw_cs) hx hb hr hlocks dL_law_1798
set_option maxHeartbeats 8000000 in
set_option maxRecDepth 100000 in
theorem whole_start {p : Program} {e : Env} {s : State} {m : MethodId} {below : List Frame} {meth : Method} {c : Code} (l : Launch) (hflags : l.flags = flags0) {b L : Nat} {xs : Nat → Int32} (hL : L ≤ 2048) (C0 : lw_At p s m meth c b L xs) : W p l e room_1 s m #[Value.ref b] below meth c s.heap [] 0 0 (lw_Z below #[Value.ref b] s) (entryFrame m ([Value.ref b] : List Value).toArray 10) := by
  have hst : l.stackTraces = false := by unfold Launch.stackTraces; rw [hflags]; decide +kernel
  obtain ⟨hx, hb, hr, hml, hown, htl, hX, hbl, hlocks, hgv⟩ := C0
  have hs := flat_of_before _ hgv
  obtain ⟨dC, dI, cy, hK⟩ := start_K htl
  obtain ⟨nb, hE⟩ := start_GE htl hs
  have hts : ∀ w ∈ wsL_law, w.before #[Value.ref b] s = true := fun w h => htl w (tr_all w h)
  have C1 : LX p s m meth c b L xs dC dI cy nb := ⟨hx, hb, hr, hml, hown, hts, hX, hbl, hlocks, hK, hE⟩
  have hA : ∀ q : Nat, s.heap.size ≤ q → (fun q : Nat => s.heap.size ≤ q) q := fun _ h => h
  have hbA : ¬ (fun q : Nat => s.heap.size ≤ q) b := Nat.not_le.mpr hbl
  have hS : va_S (fun q : Nat => s.heap.size ≤ q) s.heap s.heap [] := va_S.rf
  have hP : va_P (dC, dI) vwCl [] s.heap := fun k q h => (by cases h)
  have hD : va_D (fun q : Nat => s.heap.size ≤ q) [] := ⟨fun i j p q h => (by cases h), fun k q h => (by cases h)⟩
  have hl := lv_entry ([Value.ref b]) (n := 10) (Nat.le_of_ble_eq_true rfl)
  rw [lg_entry_eq]
  generalize (lg_sl ([Value.ref b]) ++ List.replicate (10 - (lg_sl ([Value.ref b])).length) Slot.unset).toArray = ls at hl ⊢
  have hl : lv_has ls 10 [(0, .ref b)] := hl
  generalize hHe : s.heap = H at hP ⊢
  have hS : va_S (fun q : Nat => s.heap.size ≤ q) s.heap H [] := by rw [← hHe]; exact hS
  refine va_new (ci := 7) (fs := [.null, .null, .null, .null, .null, .null, .null, .int 0, .int 0, .int 0, .int 0, .int 0]) (C := RX7) (T := TX7) (N := 12) hx hb hts inlX7 tyX7 tyX7_ok hown (hts _ mw_0) (hts _ mw_1) (hts _ mw_2) hK hP hD hS hA rfl (fun j hj => by match j, hj with | 0, _ => rfl | 1, _ => rfl | 2, _ => rfl | 3, _ => rfl | 4, _ => rfl | 5, _ => rfl | 6, _ => rfl | 7, _ => rfl | 8, _ => rfl | 9, _ => rfl | 10, _ => rfl | 11, _ => rfl | (n+12), h => omega) (Nat.le_of_ble_eq_true rfl) (Nat.le_of_ble_eq_true rfl) dL_law_0 (fun h7 H hP hD hS => ?_)
  have hP : va_P (dC, dI) vwCl ([] ++ [(h7, .inr (7, [.null, .null, .null, .null, .null, .null, .null, .int 0, .int 0, .int 0, .int 0, .int 0]))]) H := hP
  have hD : va_D (fun q : Nat => s.heap.size ≤ q) ([] ++ [(h7, .inr (7, [.null, .null, .null, .null, .null, .null, .null, .int 0, .int 0, .int 0, .int 0, .int 0]))]) := hD
  refine lv_dup hx hb dL_law_3 rfl ?_
  have hPc := my_lastP hP
  have hDc := my_lastD hD
  have hFc := my_free hDc hS hA
  refine va_callv (va_runI (As := []) (rest := [.ref h7]) ⟨hx, hb, hml, hown, hts⟩ (c_X7_init l dC dI cy nb h7 H.size) (cwI 0 hts (gI mw_11) rfl rfl rfl (hts _ mw_2) (hts _ mw_9) (hts _ mw_10) rfl (by decide +kernel) ⟨Nat.le_of_ble_eq_true rfl, Nat.le_of_ble_eq_true rfl⟩) (my_preS hPc hK hDc hE hS hFc) rfl rfl hl.1 rfl (lv_room (Nat.le_of_ble_eq_true rfl)) dL_law_4 ⟨Nat.le_of_ble_eq_true rfl, Nat.le_of_ble_eq_true rfl⟩) hS (fun q _ h => hFc q h) hFc (fun u t H1 locs ht hvm hw9 hB hz1 hk1 hS => ?_)
  obtain ⟨ad, uz, had, hka, hF, hP1, hD1⟩ := hB
  rw [ht] at hP1
  obtain ⟨hP, hD⟩ := my_join hP hD hk1 hFc hP1 hD1
  generalize H1 = H at hP hS ⊢
  clear hP1 hD1 hPc hDc hFc hk1 hz1 hvm ht
  have hP : va_P (dC, dI) vwCl ([] ++ WC cy ad KS0 gz0 uz) H := hP
  have hD : va_D (fun q : Nat => s.heap.size ≤ q) ([] ++ WC cy ad KS0 gz0 uz) := hD
  refine W.widen (k := 144) (n := 2389) (by omega) (by omega) ?_
  refine lv_astore_n (lv' := [(1, .ref h7), (0, .ref b)]) hx hb dL_law_7 rfl hl (by decide) rfl (fun ls hl => ?_)
  refine va_new (ci := 8) (fs := [.null, .null, .null, .null, .null, .int 0, .int 0, .null, .int 0, .int 0, .int 0, .int 0, .int 0, .int 0, .int 0, .int 0, .int 0, .null, .null, .int 0, .null, .null, .int 0]) (C := RX8) (T := TX8) (N := 23) hx hb hts inlX8 tyX8 tyX8_ok hown (hts _ mw_3) (hts _ mw_4) (hts _ mw_5) hK hP hD hS hA rfl (fun j hj => by match j, hj with | 0, _ => rfl | 1, _ => rfl | 2, _ => rfl | 3, _ => rfl | 4, _ => rfl | 5, _ => rfl | 6, _ => rfl | 7, _ => rfl | 8, _ => rfl | 9, _ => rfl | 10, _ => rfl | 11, _ => rfl | 12, _ => rfl | 13, _ => rfl | 14, _ => rfl | 15, _ => rfl | 16, _ => rfl | 17, _ => rfl | 18, _ => rfl | 19, _ => rfl | 20, _ => rfl | 21, _ => rfl | 22, _ => rfl | (n+23), h => omega) (Nat.le_of_ble_eq_true rfl) (Nat.le_of_ble_eq_true rfl) dL_law_8 (fun h8 H hP hD hS => ?_)
  have hP : va_P (dC, dI) vwCl (([] ++ WC cy ad KS0 gz0 uz) ++ [(h8, .inr (8, [.null, .null, .null, .null, .null, .int 0, .int 0, .null, .int 0, .int 0, .int 0, .int 0, .int 0, .int 0, .int 0, .int 0, .int 0, .null, .null, .int 0, .null, .null, .int 0]))]) H := hP
  have hD : va_D (fun q : Nat => s.heap.size ≤ q) (([] ++ WC cy ad KS0 gz0 uz) ++ [(h8, .inr (8, [.null, .null, .null, .null, .null, .int 0, .int 0, .null, .int 0, .int 0, .int 0, .int 0, .int 0, .int 0, .int 0, .int 0, .int 0, .null, .null, .int 0, .null, .null, .int 0]))]) := hD
  refine lv_dup hx hb dL_law_11 rfl ?_
  have hPc := my_lastP hP
  have hDc := my_lastD hD
  have hFc := my_free hDc hS hA
  refine va_callv (va_runI (As := []) (rest := [.ref h8]) ⟨hx, hb, hml, hown, hts⟩ (c_X8_init l dC dI cy nb h8 H.size) (cwI 0 hts (gI mw_95) rfl rfl rfl (hts _ mw_5) (hts _ mw_93) (hts _ mw_94) rfl (by decide +kernel) ⟨Nat.le_of_ble_eq_true rfl, Nat.le_of_ble_eq_true rfl⟩) (my_preS hPc hK hDc hE hS hFc) rfl rfl hl.1 rfl (lv_room (Nat.le_of_ble_eq_true rfl)) dL_law_12 ⟨Nat.le_of_ble_eq_true rfl, Nat.le_of_ble_eq_true rfl⟩) hS (fun q _ h => hFc q h) hFc (fun u t H1 locs ht hvm hw9 hB hz1 hk1 hS => ?_)
  obtain ⟨am, rz, ham, hM, hP1, hD1⟩ := hB
  rw [ht] at hP1
  obtain ⟨hP, hD⟩ := my_join hP hD hk1 hFc hP1 hD1
  generalize H1 = H at hP hS ⊢
  clear hP1 hD1 hPc hDc hFc hk1 hz1 hvm ht
  have hP : va_P (dC, dI) vwCl (([] ++ WC cy ad KS0 gz0 uz) ++ WM cy am rz) H := hP
  have hD : va_D (fun q : Nat => s.heap.size ≤ q) (([] ++ WC cy ad KS0 gz0 uz) ++ WM cy am rz) := hD
  refine W.widen (k := 155) (n := 15676) (by omega) (by omega) ?_
  refine lv_astore_n (lv' := [(2, .ref h8), (1, .ref h7), (0, .ref b)]) hx hb dL_law_15 rfl hl (by decide) rfl (fun ls hl => ?_)
  refine lv_iconst (v := 1) hx hb dL_law_16 (by decide) ?_
  refine va_newa (atype := .long) (ty := .long) (a0 := (1, .inr (.inl (fun _ => 0)))) hx hb (hts _ mw_6) rfl hK hP hD hS hA (fun _ => rfl) (by decide) (by decide) (Nat.le_of_ble_eq_true rfl) (Nat.le_of_ble_eq_true rfl) (Nat.le_of_ble_eq_true rfl) dL_law_17 (fun o3 cA H hK9 hP hD hS => ?_)
  have hcA := my_cA hK9 hK 3 rfl
  subst hcA
  clear hK9
  have hP : va_P (dC, dI) vwCl ((([] ++ WC cy ad KS0 gz0 uz) ++ WM cy am rz) ++ [(o3, eL cy (fun _ => 0))]) H := hP
  have hD : va_D (fun q : Nat => s.heap.size ≤ q) ((([] ++ WC cy ad KS0 gz0 uz) ++ WM cy am rz) ++ [(o3, eL cy (fun _ => 0))]) := hD
  refine W.widen (k := 156) (n := 15677) (by omega) (by omega) ?_
  refine lv_astore_n (lv' := [(3, .ref o3), (2, .ref h8), (1, .ref h7), (0, .ref b)]) hx hb dL_law_19 rfl hl (by decide) rfl (fun ls hl => ?_)
  refine lv_iconst (v := 1) hx hb dL_law_20 (by decide) ?_
  refine va_newa (atype := .double) (ty := .double) (a0 := (1, .inr (.inr (.inr (.inl (fun _ => 0)))))) hx hb (hts _ mw_7) rfl hK hP hD hS hA (fun _ => rfl) (by decide) (by decide) (Nat.le_of_ble_eq_true rfl) (Nat.le_of_ble_eq_true rfl) (Nat.le_of_ble_eq_true rfl) dL_law_21 (fun o4 cA H hK9 hP hD hS => ?_)
  have hcA := my_cA hK9 hK 4 rfl
  subst hcA
  clear hK9
  have hP : va_P (dC, dI) vwCl (((([] ++ WC cy ad KS0 gz0 uz) ++ WM cy am rz) ++ [(o3, eL cy (fun _ => 0))]) ++ [(o4, eD cy (fun _ => 0))]) H := hP
  have hD : va_D (fun q : Nat => s.heap.size ≤ q) (((([] ++ WC cy ad KS0 gz0 uz) ++ WM cy am rz) ++ [(o3, eL cy (fun _ => 0))]) ++ [(o4, eD cy (fun _ => 0))]) := hD
  refine W.widen (k := 157) (n := 15678) (by omega) (by omega) ?_
  refine lv_astore (lv' := [(4, .ref o4), (3, .ref o3), (2, .ref h8), (1, .ref h7), (0, .ref b)]) hx hb dL_law_23 hl (by decide) rfl (fun ls hl => ?_)
  refine lv_iconst (v := 0) hx hb dL_law_25 (by decide) ?_
  refine lv_istore (lv' := [(5, .int 0), (4, .ref o4), (3, .ref o3), (2, .ref h8), (1, .ref h7), (0, .ref b)]) hx hb dL_law_26 hl (by decide) rfl (fun ls hl => ?_)
  have eA : ((([] ++ WC cy ad KS0 gz0 uz) ++ WM cy am rz) ++ [(o3, eL cy (fun _ => 0))]) ++ [(o4, eD cy (fun _ => 0))] = ([] ++ WC cy ad KS0 gz0 uz) ++ ((WM cy am rz ++ [(o3, eL cy (fun _ => 0))]) ++ [(o4, eD cy (fun _ => 0))]) := by simp only [List.append_assoc, List.nil_append]
  rw [eA] at hP hD
  clear eA
  have hP := va_P.swap (a := []) (b := WC cy ad KS0 gz0 uz) (c := ((WM cy am rz ++ [(o3, eL cy (fun _ => 0))]) ++ [(o4, eD cy (fun _ => 0))])) hP
  have hD := va_D.swap (a := []) (b := WC cy ad KS0 gz0 uz) (c := ((WM cy am rz ++ [(o3, eL cy (fun _ => 0))]) ++ [(o4, eD cy (fun _ => 0))])) hD
  have hP : va_P (dC, dI) vwCl (((WM cy am rz ++ [(o3, eL cy (fun _ => 0))]) ++ [(o4, eD cy (fun _ => 0))]) ++ WC cy ad KS0 gz0 uz) H := hP
  have hD : va_D (fun q : Nat => s.heap.size ≤ q) (((WM cy am rz ++ [(o3, eL cy (fun _ => 0))]) ++ [(o4, eD cy (fun _ => 0))]) ++ WC cy ad KS0 gz0 uz) := hD
  have hP : va_P (dC, dI) vwCl ((XLW cy o3 o4 am (fun _ => 0) (fun _ => 0) rz) ++ WC cy ad KS0 gz0 uz) H := hP.part (X := ((WM cy am rz ++ [(o3, eL cy (fun _ => 0))]) ++ [(o4, eD cy (fun _ => 0))])) (cx := (XLW cy o3 o4 am (fun _ => 0) (fun _ => 0) rz)) [11, 12, 0, 1, 2, 3, 4, 5, 6, 7, 8, 9, 10] rfl
  have hD : va_D (fun q : Nat => s.heap.size ≤ q) ((XLW cy o3 o4 am (fun _ => 0) (fun _ => 0) rz) ++ WC cy ad KS0 gz0 uz) := hD.part (X := ((WM cy am rz ++ [(o3, eL cy (fun _ => 0))]) ++ [(o4, eD cy (fun _ => 0))])) (cx := (XLW cy o3 o4 am (fun _ => 0) (fun _ => 0) rz)) [11, 12, 0, 1, 2, 3, 4, 5, 6, 7, 8, 9, 10] (by decide) rfl
  have hl : lv_has ls 10 [(5, .int (nI (4 * 0))), (4, .ref o4), (3, .ref o3), (2, .ref (am 0)), (1, .ref (ad .cl)), (0, .ref b)] := by rw [ham, had]; exact hl
  exact law_loop l hst dC dI cy nb o3 o4 am hL C1 512 0 H locs ls rfl (Nat.zero_le _) ⟨ad, KS0, gz0, uz, rz, (fun _ => 0), (fun _ => 0), hka, start_GI hF hM, hP, hD, hS, hl⟩
