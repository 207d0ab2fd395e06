section
set_option maxHeartbeats 8000000 in
set_option maxRecDepth 100000 in
theorem law_c17 {p : Program} {e : Env} {s : State} {m : MethodId} {below : List Frame} {meth : Method} {c : Code} (l : Launch) (hst : l.stackTraces = false) {b L : Nat} {xs : Nat → Int32} (dC : Nat → ClassId) (dI : Nat → Nat → Nat) (cy : Nat → ClassId) (nb : Nat → Nat) (o3 o4 : Nat) (am : Nat → Nat) {n : Nat} (hn : n < 512) (hL : 4 * n + 4 ≤ L) (hL2 : L ≤ 2048) (C0 : LX p s m meth c b L xs dC dI cy nb) {Q : State → Prop} {H : Heap} {locs : List Loc} {ls : Array Slot} {cells slots : Nat} (hc : cells ≤ 400000) (hs : slots ≤ 6000000) (h : LSt s dC dI cy nb b o3 o4 am n (4 * n) H locs ls) (K : ∀ (H : Heap) (locs : List Loc) (ls : Array Slot), LSt s dC dI cy nb b o3 o4 am (n + 1) (4 * n) H locs ls → W p l e room_1 s m #[Value.ref b] below meth c H locs (cells + 603) (slots + 9640) Q (F0 m 1791 ls [])) : W p l e room_1 s m #[Value.ref b] below meth c H locs cells slots Q (F0 m 776 ls []) := by
  obtain ⟨hx, hb, hr, hml, hown, hts, hX, hbl, hlocks, hK, hE⟩ := C0
  have hA : ∀ q : Nat, s.heap.size ≤ q → (fun q : Nat => s.heap.size ≤ q) q := fun _ h => h
  have hbA : ¬ (fun q : Nat => s.heap.size ≤ q) b := Nat.not_le.mpr hbl
  obtain ⟨ad, ks, g, u, r, f3, f4, hk, hGI, hP, hD, hS, hl⟩ := h
  have h9 : QT (F8_day r (xs (4 * n + 1)) (xs (4 * n + 2)) (xs (4 * n + 3))) (C7_day g u (xs (4 * n + 1)) (xs (4 * n + 2)) (xs (4 * n + 3))) r 0 := q_day hGI
  rcases h9 with ⟨x, e1, e2⟩ | ⟨k, k1, k2, e1, e2⟩
  · refine lv_aload_n hx hb dL_law_776 rfl (lv_at hl 4 rfl) ?_
    refine lv_aload_n hx hb dL_law_777 rfl (lv_at hl 5 rfl) ?_
    refine lv_iload hx hb dL_law_778 (lv_at hl 0 rfl) ?_
    refine lv_iconst (v := 1) hx hb dL_law_780 (by decide) ?_
    refine lv_iadd hx hb dL_law_781 ?_
    refine my_topi (y := nI (4 * n + 1)) (nI_add (4 * n) 1) ?_
    refine va_sld hx hb hX hbl hbA hS (vp_in_nI (n := 4 * n + 1) (by omega) (by omega)) dL_law_782 ?_
    refine my_topi (y := xs (4 * n + 1)) (congrArg xs (nI_clamp (by omega))) ?_
    refine lv_aload_n hx hb dL_law_783 rfl (lv_at hl 5 rfl) ?_
    refine lv_iload hx hb dL_law_784 (lv_at hl 0 rfl) ?_
    refine lv_iconst (v := 2) hx hb dL_law_786 (by decide) ?_
    refine lv_iadd hx hb dL_law_787 ?_
    refine my_topi (y := nI (4 * n + 2)) (nI_add (4 * n) 2) ?_
    refine va_sld hx hb hX hbl hbA hS (vp_in_nI (n := 4 * n + 2) (by omega) (by omega)) dL_law_788 ?_
    refine my_topi (y := xs (4 * n + 2)) (congrArg xs (nI_clamp (by omega))) ?_
    refine lv_aload_n hx hb dL_law_789 rfl (lv_at hl 5 rfl) ?_
    refine lv_iload hx hb dL_law_790 (lv_at hl 0 rfl) ?_
    refine lv_iconst (v := 3) hx hb dL_law_792 (by decide) ?_
    refine lv_iadd hx hb dL_law_793 ?_
    refine my_topi (y := nI (4 * n + 3)) (nI_add (4 * n) 3) ?_
    refine va_sld hx hb hX hbl hbA hS (vp_in_nI (n := 4 * n + 3) (by omega) (by omega)) dL_law_794 ?_
    refine my_topi (y := xs (4 * n + 3)) (congrArg xs (nI_clamp (by omega))) ?_
    refine lv_aload_n hx hb dL_law_795 rfl (lv_at hl 2 rfl) ?_
    have hPc : va_P (dC, dI) vwCl ([(o3, eL cy f3)] ++ WC cy ad ks g u) H := hP.part (X := XLW cy o3 o4 am f3 f4 r) (cx := [(o3, eL cy f3)]) [0] rfl
    have hDc : va_D (fun q : Nat => s.heap.size ≤ q) ([(o3, eL cy f3)] ++ WC cy ad ks g u) := hD.part (X := XLW cy o3 o4 am f3 f4 r) (cx := [(o3, eL cy f3)]) [0] (by decide) rfl
    have hFc : ∀ q, va_A ([(o3, eL cy f3)] ++ WC cy ad ks g u) H.size q → s.heap.size ≤ q := va_freeP (X := XLW cy o3 o4 am f3 f4 r) (cx := [(o3, eL cy f3)]) hD hS hA [0] rfl
    refine vx_calli (vx_runSX (As := [.ref (ad .cl), .int (xs (4 * n + 1)), .int (xs (4 * n + 2)), .int (xs (4 * n + 3)), .ref o3]) (rest := []) ⟨hx, hb, hml, hown, hts⟩ (cn_day l hst dC dI cy nb ad ks g hk u ((xs (4 * n + 1))) ((xs (4 * n + 2))) ((xs (4 * n + 3))) o3 f3 x H.size e2) (vx_cwSW 5 hts (gSH mw_872 mw_873 mw_562 mw_874) rfl rfl rfl (by decide +kernel) ⟨Nat.le_of_ble_eq_true rfl, Nat.le_of_ble_eq_true rfl⟩) (my_preS hPc hK hDc hE hS hFc) rfl rfl hl.1 rfl (lv_room (Nat.le_of_ble_eq_true rfl)) dL_law_796 ⟨by show _ ≤ 601024; omega, by show _ ≤ 7293034; omega⟩) hS (fun q _ h => hFc q h) hFc (fun q _ h => hFc q h) (fun E9 ce9 q9 u9 t9 H1 locs1 ht9 hvm9 hp9 _ _ _ _ _ _ _ => hp9.elim) (fun rw9 u9 t9 H1 locs ht hvm hw hB hz1 hk1 hS => ?_)
    obtain ⟨hP1, hD1⟩ := hB
    rw [ht] at hP1
    obtain ⟨hP, hD⟩ := va_joinP (X := XLW cy o3 o4 am f3 f4 r) (cx := [(o3, eL cy f3)]) (wr := ((o4, eD cy f4) :: WM cy am r)) (rx := [(o3, eL cy (vp_updL f3 ((0 : Int32).toNatClampNeg) (x.toInt64)))]) (pl := WC cy ad ks g u) (pl1 := WC cy ad ks g u) hP hD [0] [1, 2, 3, 4, 5, 6, 7, 8, 9, 10, 11, 12] rfl rfl (by decide) (by decide) hk1 hFc hP1 hD1
    have hP : va_P (dC, dI) vwCl (XLW cy o3 o4 am (vp_updL f3 ((0 : Int32).toNatClampNeg) (x.toInt64)) f4 r ++ WC cy ad ks g u) H1 := hP.part (X := ((o4, eD cy f4) :: WM cy am r) ++ [(o3, eL cy (vp_updL f3 ((0 : Int32).toNatClampNeg) (x.toInt64)))]) (cx := XLW cy o3 o4 am (vp_updL f3 ((0 : Int32).toNatClampNeg) (x.toInt64)) f4 r) [12, 0, 1, 2, 3, 4, 5, 6, 7, 8, 9, 10, 11] rfl
    have hD : va_D (fun q : Nat => s.heap.size ≤ q) (XLW cy o3 o4 am (vp_updL f3 ((0 : Int32).toNatClampNeg) (x.toInt64)) f4 r ++ WC cy ad ks g u) := hD.part (X := ((o4, eD cy f4) :: WM cy am r) ++ [(o3, eL cy (vp_updL f3 ((0 : Int32).toNatClampNeg) (x.toInt64)))]) (cx := XLW cy o3 o4 am (vp_updL f3 ((0 : Int32).toNatClampNeg) (x.toInt64)) f4 r) [12, 0, 1, 2, 3, 4, 5, 6, 7, 8, 9, 10, 11] (by decide) rfl
    generalize H1 = H at hP hS ⊢
    clear hP1 hD1 hPc hDc hFc hk1 hz1 hvm ht
    refine lv_istore (lv' := [(6, .int rw9), (5, .int (nI (4 * n))), (4, .ref o4), (3, .ref o3), (2, .ref (am 0)), (1, .ref (ad .cl)), (0, .ref b)]) hx hb dL_law_799 hl (by decide) rfl (fun ls hl => ?_)
    refine lv_aload_n hx hb dL_law_801 rfl (lv_at hl 4 rfl) ?_
    refine lv_aload_n hx hb dL_law_802 rfl (lv_at hl 6 rfl) ?_
    refine lv_iload hx hb dL_law_803 (lv_at hl 1 rfl) ?_
    refine lv_iconst (v := 1) hx hb dL_law_805 (by decide) ?_
    refine lv_iadd hx hb dL_law_806 ?_
    refine my_topi (y := nI (4 * n + 1)) (nI_add (4 * n) 1) ?_
    refine va_sld hx hb hX hbl hbA hS (vp_in_nI (n := 4 * n + 1) (by omega) (by omega)) dL_law_807 ?_
    refine my_topi (y := xs (4 * n + 1)) (congrArg xs (nI_clamp (by omega))) ?_
    refine lv_aload_n hx hb dL_law_808 rfl (lv_at hl 6 rfl) ?_
    refine lv_iload hx hb dL_law_809 (lv_at hl 1 rfl) ?_
    refine lv_iconst (v := 2) hx hb dL_law_811 (by decide) ?_
    refine lv_iadd hx hb dL_law_812 ?_
    refine my_topi (y := nI (4 * n + 2)) (nI_add (4 * n) 2) ?_
    refine va_sld hx hb hX hbl hbA hS (vp_in_nI (n := 4 * n + 2) (by omega) (by omega)) dL_law_813 ?_
    refine my_topi (y := xs (4 * n + 2)) (congrArg xs (nI_clamp (by omega))) ?_
    refine lv_aload_n hx hb dL_law_814 rfl (lv_at hl 6 rfl) ?_
    refine lv_iload hx hb dL_law_815 (lv_at hl 1 rfl) ?_
    refine lv_iconst (v := 3) hx hb dL_law_817 (by decide) ?_
    refine lv_iadd hx hb dL_law_818 ?_
    refine my_topi (y := nI (4 * n + 3)) (nI_add (4 * n) 3) ?_
    refine va_sld hx hb hX hbl hbA hS (vp_in_nI (n := 4 * n + 3) (by omega) (by omega)) dL_law_819 ?_
    refine my_topi (y := xs (4 * n + 3)) (congrArg xs (nI_clamp (by omega))) ?_
    have hPc := hP.sub (ws' := (WM cy am r)) [2, 3, 4, 5, 6, 7, 8, 9, 10, 11, 12] rfl
    have hDc := hD.sub (ws' := (WM cy am r)) [2, 3, 4, 5, 6, 7, 8, 9, 10, 11, 12] (by decide) rfl
    have hFc := va_free (wc := (WM cy am r)) hD hS hA [2, 3, 4, 5, 6, 7, 8, 9, 10, 11, 12] rfl
    refine va_calli (va_runV (As := [.int (xs (4 * n + 1)), .int (xs (4 * n + 2)), .int (xs (4 * n + 3))]) (rest := []) ⟨hx, hb, hml, hown, hts⟩ (k_X8_day l dC dI cy nb am r ((xs (4 * n + 1))) ((xs (4 * n + 2))) ((xs (4 * n + 3))) x (th r 0) H.size e1) (cwV 3 hts (gV mw_885 mw_886 mw_887 mw_5 mw_888) rfl rfl rfl (by decide +kernel) ⟨Nat.le_of_ble_eq_true rfl, Nat.le_of_ble_eq_true rfl⟩) (my_preV hPc hK hDc hE hS hFc (va_recv (q := (RX8, TX8, 23)) hK hP (ci := 8) (q0 := 2) rfl rfl)) rfl rfl hl.1 rfl (lv_room (Nat.le_of_ble_eq_true rfl)) dL_law_820 ⟨by show _ ≤ 601024; omega, by show _ ≤ 7293034; omega⟩) hS (fun q _ h => hFc q h) hFc (fun rm9 u9 t9 H1 locs ht hvm hwm hB hz1 hk1 hS => ?_)
    obtain ⟨hP1, hD1⟩ := hB
    rw [ht] at hP1
    obtain ⟨hP, hD⟩ := va_joinQ (X := XLW cy o3 o4 am (vp_updL f3 ((0 : Int32).toNatClampNeg) (x.toInt64)) f4 r) (cx := (WM cy am r)) (wr := [(o3, eL cy (vp_updL f3 ((0 : Int32).toNatClampNeg) (x.toInt64))), (o4, eD cy f4)]) (w1 := (WM cy am (th r 0))) (pl := WC cy ad ks g u) hP hD [2, 3, 4, 5, 6, 7, 8, 9, 10, 11, 12] [0, 1] rfl rfl (by decide) (by decide) hk1 hFc hP1 hD1
    have hP : va_P (dC, dI) vwCl (XLW cy o3 o4 am (vp_updL f3 ((0 : Int32).toNatClampNeg) (x.toInt64)) f4 (th r 0) ++ WC cy ad ks g u) H1 := hP
    have hD : va_D (fun q : Nat => s.heap.size ≤ q) (XLW cy o3 o4 am (vp_updL f3 ((0 : Int32).toNatClampNeg) (x.toInt64)) f4 (th r 0) ++ WC cy ad ks g u) := hD
    generalize H1 = H at hP hS ⊢
    clear hP1 hD1 hPc hDc hFc hk1 hz1 hvm ht
    refine my_topi hwm ?_
    refine lv_istore (lv' := [(7, .int x), (6, .int rw9), (5, .int (nI (4 * n))), (4, .ref o4), (3, .ref o3), (2, .ref (am 0)), (1, .ref (ad .cl)), (0, .ref b)]) hx hb dL_law_823 hl (by decide) rfl (fun ls hl => ?_)
    refine lv_goto (tgt := 1791) hx hb dL_law_825 (by decide) ?_
    refine W.widen (k := cells + 603) (n := slots + 9640) (by omega) (by omega) ?_
    exact K H locs ls ⟨ad, ks, g, u, (th r 0), (vp_updL f3 ((0 : Int32).toNatClampNeg) (x.toInt64)), f4, hk, (hGI.thr).mono (by omega) (by omega) (by omega), hP, hD, hS, lv_sub hl [2, 3, 4, 5, 6, 7] rfl⟩
  · have e2 : C7_day g u (xs (4 * n + 1)) (xs (4 * n + 2)) (xs (4 * n + 3)) = some (.inl (nI (k + 0))) := e2
    generalize hxx : (nI (k + 0)) = xk at e2
    refine lv_aload_n hx hb dL_law_776 rfl (lv_at hl 4 rfl) ?_
    refine lv_aload_n hx hb dL_law_777 rfl (lv_at hl 5 rfl) ?_
    refine lv_iload hx hb dL_law_778 (lv_at hl 0 rfl) ?_
    refine lv_iconst (v := 1) hx hb dL_law_780 (by decide) ?_
    refine lv_iadd hx hb dL_law_781 ?_
    refine my_topi (y := nI (4 * n + 1)) (nI_add (4 * n) 1) ?_
    refine va_sld hx hb hX hbl hbA hS (vp_in_nI (n := 4 * n + 1) (by omega) (by omega)) dL_law_782 ?_
    refine my_topi (y := xs (4 * n + 1)) (congrArg xs (nI_clamp (by omega))) ?_
    refine lv_aload_n hx hb dL_law_783 rfl (lv_at hl 5 rfl) ?_
    refine lv_iload hx hb dL_law_784 (lv_at hl 0 rfl) ?_
    refine lv_iconst (v := 2) hx hb dL_law_786 (by decide) ?_
    refine lv_iadd hx hb dL_law_787 ?_
    refine my_topi (y := nI (4 * n + 2)) (nI_add (4 * n) 2) ?_
    refine va_sld hx hb hX hbl hbA hS (vp_in_nI (n := 4 * n + 2) (by omega) (by omega)) dL_law_788 ?_
    refine my_topi (y := xs (4 * n + 2)) (congrArg xs (nI_clamp (by omega))) ?_
    refine lv_aload_n hx hb dL_law_789 rfl (lv_at hl 5 rfl) ?_
    refine lv_iload hx hb dL_law_790 (lv_at hl 0 rfl) ?_
    refine lv_iconst (v := 3) hx hb dL_law_792 (by decide) ?_
    refine lv_iadd hx hb dL_law_793 ?_
    refine my_topi (y := nI (4 * n + 3)) (nI_add (4 * n) 3) ?_
    refine va_sld hx hb hX hbl hbA hS (vp_in_nI (n := 4 * n + 3) (by omega) (by omega)) dL_law_794 ?_
    refine my_topi (y := xs (4 * n + 3)) (congrArg xs (nI_clamp (by omega))) ?_
    refine lv_aload_n hx hb dL_law_795 rfl (lv_at hl 2 rfl) ?_
    have hPc : va_P (dC, dI) vwCl ([(o3, eL cy f3)] ++ WC cy ad ks g u) H := hP.part (X := XLW cy o3 o4 am f3 f4 r) (cx := [(o3, eL cy f3)]) [0] rfl
    have hDc : va_D (fun q : Nat => s.heap.size ≤ q) ([(o3, eL cy f3)] ++ WC cy ad ks g u) := hD.part (X := XLW cy o3 o4 am f3 f4 r) (cx := [(o3, eL cy f3)]) [0] (by decide) rfl
    have hFc : ∀ q, va_A ([(o3, eL cy f3)] ++ WC cy ad ks g u) H.size q → s.heap.size ≤ q := va_freeP (X := XLW cy o3 o4 am f3 f4 r) (cx := [(o3, eL cy f3)]) hD hS hA [0] rfl
    refine vx_calli (vx_runSX (As := [.ref (ad .cl), .int (xs (4 * n + 1)), .int (xs (4 * n + 2)), .int (xs (4 * n + 3)), .ref o3]) (rest := []) ⟨hx, hb, hml, hown, hts⟩ (ct_day l hst dC dI cy nb ad ks g hk u ((xs (4 * n + 1))) ((xs (4 * n + 2))) ((xs (4 * n + 3))) o3 f3 xk H.size e2) (vx_cwSW 5 hts (gSH mw_872 mw_873 mw_562 mw_874) rfl rfl rfl (by decide +kernel) ⟨Nat.le_of_ble_eq_true rfl, Nat.le_of_ble_eq_true rfl⟩) (my_preS hPc hK hDc hE hS hFc) rfl rfl hl.1 rfl (lv_room (Nat.le_of_ble_eq_true rfl)) dL_law_796 ⟨by show _ ≤ 601024; omega, by show _ ≤ 7293034; omega⟩) hS (fun q _ h => hFc q h) hFc (fun q _ h => hFc q h) (fun E9 ce9 q9 u9 t9 H1 locs1 ht9 hvm9 hp9 _ _ _ _ _ _ _ => hp9.elim) (fun rw9 u9 t9 H1 locs ht hvm hw hB hz1 hk1 hS => ?_)
    obtain ⟨hP1, hD1⟩ := hB
    rw [ht] at hP1
    obtain ⟨hP, hD⟩ := va_joinP (X := XLW cy o3 o4 am f3 f4 r) (cx := [(o3, eL cy f3)]) (wr := ((o4, eD cy f4) :: WM cy am r)) (rx := [(o3, eL cy f3)]) (pl := WC cy ad ks g u) (pl1 := WC cy ad ks g u) hP hD [0] [1, 2, 3, 4, 5, 6, 7, 8, 9, 10, 11, 12] rfl rfl (by decide) (by decide) hk1 hFc hP1 hD1
    have hP : va_P (dC, dI) vwCl (XLW cy o3 o4 am f3 f4 r ++ WC cy ad ks g u) H1 := hP.part (X := ((o4, eD cy f4) :: WM cy am r) ++ [(o3, eL cy f3)]) (cx := XLW cy o3 o4 am f3 f4 r) [12, 0, 1, 2, 3, 4, 5, 6, 7, 8, 9, 10, 11] rfl
    have hD : va_D (fun q : Nat => s.heap.size ≤ q) (XLW cy o3 o4 am f3 f4 r ++ WC cy ad ks g u) := hD.part (X := ((o4, eD cy f4) :: WM cy am r) ++ [(o3, eL cy f3)]) (cx := XLW cy o3 o4 am f3 f4 r) [12, 0, 1, 2, 3, 4, 5, 6, 7, 8, 9, 10, 11] (by decide) rfl
    generalize H1 = H at hP hS ⊢
    clear hP1 hD1 hPc hDc hFc hk1 hz1 hvm ht
    refine lv_istore (lv' := [(6, .int rw9), (5, .int (nI (4 * n))), (4, .ref o4), (3, .ref o3), (2, .ref (am 0)), (1, .ref (ad .cl)), (0, .ref b)]) hx hb dL_law_799 hl (by decide) rfl (fun ls hl => ?_)
    refine lv_aload_n hx hb dL_law_801 rfl (lv_at hl 4 rfl) ?_
    refine lv_aload_n hx hb dL_law_802 rfl (lv_at hl 6 rfl) ?_
    refine lv_iload hx hb dL_law_803 (lv_at hl 1 rfl) ?_
    refine lv_iconst (v := 1) hx hb dL_law_805 (by decide) ?_
    refine lv_iadd hx hb dL_law_806 ?_
    refine my_topi (y := nI (4 * n + 1)) (nI_add (4 * n) 1) ?_
    refine va_sld hx hb hX hbl hbA hS (vp_in_nI (n := 4 * n + 1) (by omega) (by omega)) dL_law_807 ?_
    refine my_topi (y := xs (4 * n + 1)) (congrArg xs (nI_clamp (by omega))) ?_
    refine lv_aload_n hx hb dL_law_808 rfl (lv_at hl 6 rfl) ?_
    refine lv_iload hx hb dL_law_809 (lv_at hl 1 rfl) ?_
    refine lv_iconst (v := 2) hx hb dL_law_811 (by decide) ?_
    refine lv_iadd hx hb dL_law_812 ?_
    refine my_topi (y := nI (4 * n + 2)) (nI_add (4 * n) 2) ?_
    refine va_sld hx hb hX hbl hbA hS (vp_in_nI (n := 4 * n + 2) (by omega) (by omega)) dL_law_813 ?_
    refine my_topi (y := xs (4 * n + 2)) (congrArg xs (nI_clamp (by omega))) ?_
    refine lv_aload_n hx hb dL_law_814 rfl (lv_at hl 6 rfl) ?_
    refine lv_iload hx hb dL_law_815 (lv_at hl 1 rfl) ?_
    refine lv_iconst (v := 3) hx hb dL_law_817 (by decide) ?_
    refine lv_iadd hx hb dL_law_818 ?_
    refine my_topi (y := nI (4 * n + 3)) (nI_add (4 * n) 3) ?_
    refine va_sld hx hb hX hbl hbA hS (vp_in_nI (n := 4 * n + 3) (by omega) (by omega)) dL_law_819 ?_
    refine my_topi (y := xs (4 * n + 3)) (congrArg xs (nI_clamp (by omega))) ?_
    have hPc := hP.sub (ws' := (WM cy am r)) [2, 3, 4, 5, 6, 7, 8, 9, 10, 11, 12] rfl
    have hDc := hD.sub (ws' := (WM cy am r)) [2, 3, 4, 5, 6, 7, 8, 9, 10, 11, 12] (by decide) rfl
    have hFc := va_free (wc := (WM cy am r)) hD hS hA [2, 3, 4, 5, 6, 7, 8, 9, 10, 11, 12] rfl
    refine va_calli (va_runV (As := [.int (xs (4 * n + 1)), .int (xs (4 * n + 2)), .int (xs (4 * n + 3))]) (rest := []) ⟨hx, hb, hml, hown, hts⟩ (k_X8_day l dC dI cy nb am r ((xs (4 * n + 1))) ((xs (4 * n + 2))) ((xs (4 * n + 3))) (nI 0) (th r k) H.size e1) (cwV 3 hts (gV mw_885 mw_886 mw_887 mw_5 mw_888) rfl rfl rfl (by decide +kernel) ⟨Nat.le_of_ble_eq_true rfl, Nat.le_of_ble_eq_true rfl⟩) (my_preV hPc hK hDc hE hS hFc (va_recv (q := (RX8, TX8, 23)) hK hP (ci := 8) (q0 := 2) rfl rfl)) rfl rfl hl.1 rfl (lv_room (Nat.le_of_ble_eq_true rfl)) dL_law_820 ⟨by show _ ≤ 601024; omega, by show _ ≤ 7293034; omega⟩) hS (fun q _ h => hFc q h) hFc (fun rm9 u9 t9 H1 locs ht hvm hwm hB hz1 hk1 hS => ?_)
    obtain ⟨hP1, hD1⟩ := hB
    rw [ht] at hP1
    obtain ⟨hP, hD⟩ := va_joinQ (X := XLW cy o3 o4 am f3 f4 r) (cx := (WM cy am r)) (wr := [(o3, eL cy f3), (o4, eD cy f4)]) (w1 := (WM cy am (th r k))) (pl := WC cy ad ks g u) hP hD [2, 3, 4, 5, 6, 7, 8, 9, 10, 11, 12] [0, 1] rfl rfl (by decide) (by decide) hk1 hFc hP1 hD1
    have hP : va_P (dC, dI) vwCl (XLW cy o3 o4 am f3 f4 (th r k) ++ WC cy ad ks g u) H1 := hP
    have hD : va_D (fun q : Nat => s.heap.size ≤ q) (XLW cy o3 o4 am f3 f4 (th r k) ++ WC cy ad ks g u) := hD
    generalize H1 = H at hP hS ⊢
    clear hP1 hD1 hPc hDc hFc hk1 hz1 hvm ht
    refine my_topi hwm ?_
    refine lv_istore (lv' := [(7, .int (nI 0)), (6, .int rw9), (5, .int (nI (4 * n))), (4, .ref o4), (3, .ref o3), (2, .ref (am 0)), (1, .ref (ad .cl)), (0, .ref b)]) hx hb dL_law_823 hl (by decide) rfl (fun ls hl => ?_)
    refine lv_goto (tgt := 1791) hx hb dL_law_825 (by decide) ?_
    refine W.widen (k := cells + 603) (n := slots + 9640) (by omega) (by omega) ?_
    exact K H locs ls ⟨ad, ks, g, u, (th r k), f3, f4, hk, (hGI.thr).mono (by omega) (by omega) (by omega), hP, hD, hS, lv_sub hl [2, 3, 4, 5, 6, 7] rfl⟩
set_option maxHeartbeats 8000000 in
set_option maxRecDepth 100000 in
theorem law_c18 {p : Program} {e : Env} {s : State} {m : MethodId} {below : List Frame} {meth : Method} {c : Code} (l : Launch) (hst : l.stackTraces = false) {b L : Nat} {xs : Nat → Int32} (dC : Nat → ClassId) (dI : Nat → Nat → Nat) (cy : Nat → ClassId) (nb : Nat → Nat) (o3 o4 : Nat) (am : Nat → Nat) {n : Nat} (hn : n < 512) (hL : 4 * n + 4 ≤ L) (hL2 : L ≤ 2048) (C0 : LX p s m meth c b L xs dC dI cy nb) {Q : State → Prop} {H : Heap} {locs : List Loc} {ls : Array Slot} {cells slots : Nat} (hc : cells ≤ 400000) (hs : slots ≤ 6000000) (h : LSt s dC dI cy nb b o3 o4 am n (4 * n) H locs ls) (K : ∀ (H : Heap) (locs : List Loc) (ls : Array Slot), LSt s dC dI cy nb b o3 o4 am (n + 1) (4 * n) H locs ls → W p l e room_1 s m #[Value.ref b] below meth c H locs (cells + 603) (slots + 9640) Q (F0 m 1791 ls [])) : W p l e room_1 s m #[Value.ref b] below meth c H locs cells slots Q (F0 m 828 ls []) := by
  obtain ⟨hx, hb, hr, hml, hown, hts, hX, hbl, hlocks, hK, hE⟩ := C0
  have hA : ∀ q : Nat, s.heap.size ≤ q → (fun q : Nat => s.heap.size ≤ q) q := fun _ h => h
  have hbA : ¬ (fun q : Nat => s.heap.size ≤ q) b := Nat.not_le.mpr hbl
  obtain ⟨ad, ks, g, u, r, f3, f4, hk, hGI, hP, hD, hS, hl⟩ := h
  have h9 : QT (F8_today r (xs (4 * n + 1)) (xs (4 * n + 2))) (C7_today g u (xs (4 * n + 1)) (xs (4 * n + 2))) r 0 := q_today hGI
  rcases h9 with ⟨x, e1, e2⟩ | ⟨k, k1, k2, e1, e2⟩
  · refine lv_aload_n hx hb dL_law_828 rfl (lv_at hl 4 rfl) ?_
    refine lv_aload_n hx hb dL_law_829 rfl (lv_at hl 5 rfl) ?_
    refine lv_iload hx hb dL_law_830 (lv_at hl 0 rfl) ?_
    refine lv_iconst (v := 1) hx hb dL_law_832 (by decide) ?_
    refine lv_iadd hx hb dL_law_833 ?_
    refine my_topi (y := nI (4 * n + 1)) (nI_add (4 * n) 1) ?_
    refine va_sld hx hb hX hbl hbA hS (vp_in_nI (n := 4 * n + 1) (by omega) (by omega)) dL_law_834 ?_
    refine my_topi (y := xs (4 * n + 1)) (congrArg xs (nI_clamp (by omega))) ?_
    refine lv_aload_n hx hb dL_law_835 rfl (lv_at hl 5 rfl) ?_
    refine lv_iload hx hb dL_law_836 (lv_at hl 0 rfl) ?_
    refine lv_iconst (v := 2) hx hb dL_law_838 (by decide) ?_
    refine lv_iadd hx hb dL_law_839 ?_
    refine my_topi (y := nI (4 * n + 2)) (nI_add (4 * n) 2) ?_
    refine va_sld hx hb hX hbl hbA hS (vp_in_nI (n := 4 * n + 2) (by omega) (by omega)) dL_law_840 ?_
    refine my_topi (y := xs (4 * n + 2)) (congrArg xs (nI_clamp (by omega))) ?_
    refine lv_aload_n hx hb dL_law_841 rfl (lv_at hl 2 rfl) ?_
    have hPc : va_P (dC, dI) vwCl ([(o3, eL cy f3)] ++ WC cy ad ks g u) H := hP.part (X := XLW cy o3 o4 am f3 f4 r) (cx := [(o3, eL cy f3)]) [0] rfl
    have hDc : va_D (fun q : Nat => s.heap.size ≤ q) ([(o3, eL cy f3)] ++ WC cy ad ks g u) := hD.part (X := XLW cy o3 o4 am f3 f4 r) (cx := [(o3, eL cy f3)]) [0] (by decide) rfl
    have hFc : ∀ q, va_A ([(o3, eL cy f3)] ++ WC cy ad ks g u) H.size q → s.heap.size ≤ q := va_freeP (X := XLW cy o3 o4 am f3 f4 r) (cx := [(o3, eL cy f3)]) hD hS hA [0] rfl
    refine vx_calli (vx_runSX (As := [.ref (ad .cl), .int (xs (4 * n + 1)), .int (xs (4 * n + 2)), .ref o3]) (rest := []) ⟨hx, hb, hml, hown, hts⟩ (cn_today l hst dC dI cy nb ad ks g hk u ((xs (4 * n + 1))) ((xs (4 * n + 2))) o3 f3 x H.size e2) (vx_cwSW 4 hts (gSH mw_889 mw_890 mw_562 mw_891) rfl rfl rfl (by decide +kernel) ⟨Nat.le_of_ble_eq_true rfl, Nat.le_of_ble_eq_true rfl⟩) (my_preS hPc hK hDc hE hS hFc) rfl rfl hl.1 rfl (lv_room (Nat.le_of_ble_eq_true rfl)) dL_law_842 ⟨by show _ ≤ 601024; omega, by show _ ≤ 7293034; omega⟩) hS (fun q _ h => hFc q h) hFc (fun q _ h => hFc q h) (fun E9 ce9 q9 u9 t9 H1 locs1 ht9 hvm9 hp9 _ _ _ _ _ _ _ => hp9.elim) (fun rw9 u9 t9 H1 locs ht hvm hw hB hz1 hk1 hS => ?_)
    obtain ⟨hP1, hD1⟩ := hB
    rw [ht] at hP1
    obtain ⟨hP, hD⟩ := va_joinP (X := XLW cy o3 o4 am f3 f4 r) (cx := [(o3, eL cy f3)]) (wr := ((o4, eD cy f4) :: WM cy am r)) (rx := [(o3, eL cy (vp_updL f3 ((0 : Int32).toNatClampNeg) (x.toInt64)))]) (pl := WC cy ad ks g u) (pl1 := WC cy ad ks g u) hP hD [0] [1, 2, 3, 4, 5, 6, 7, 8, 9, 10, 11, 12] rfl rfl (by decide) (by decide) hk1 hFc hP1 hD1
    have hP : va_P (dC, dI) vwCl (XLW cy o3 o4 am (vp_updL f3 ((0 : Int32).toNatClampNeg) (x.toInt64)) f4 r ++ WC cy ad ks g u) H1 := hP.part (X := ((o4, eD cy f4) :: WM cy am r) ++ [(o3, eL cy (vp_updL f3 ((0 : Int32).toNatClampNeg) (x.toInt64)))]) (cx := XLW cy o3 o4 am (vp_updL f3 ((0 : Int32).toNatClampNeg) (x.toInt64)) f4 r) [12, 0, 1, 2, 3, 4, 5, 6, 7, 8, 9, 10, 11] rfl
    have hD : va_D (fun q : Nat => s.heap.size ≤ q) (XLW cy o3 o4 am (vp_updL f3 ((0 : Int32).toNatClampNeg) (x.toInt64)) f4 r ++ WC cy ad ks g u) := hD.part (X := ((o4, eD cy f4) :: WM cy am r) ++ [(o3, eL cy (vp_updL f3 ((0 : Int32).toNatClampNeg) (x.toInt64)))]) (cx := XLW cy o3 o4 am (vp_updL f3 ((0 : Int32).toNatClampNeg) (x.toInt64)) f4 r) [12, 0, 1, 2, 3, 4, 5, 6, 7, 8, 9, 10, 11] (by decide) rfl
    generalize H1 = H at hP hS ⊢
    clear hP1 hD1 hPc hDc hFc hk1 hz1 hvm ht
    refine lv_istore (lv' := [(6, .int rw9), (5, .int (nI (4 * n))), (4, .ref o4), (3, .ref o3), (2, .ref (am 0)), (1, .ref (ad .cl)), (0, .ref b)]) hx hb dL_law_845 hl (by decide) rfl (fun ls hl => ?_)
    refine lv_aload_n hx hb dL_law_847 rfl (lv_at hl 4 rfl) ?_
    refine lv_aload_n hx hb dL_law_848 rfl (lv_at hl 6 rfl) ?_
    refine lv_iload hx hb dL_law_849 (lv_at hl 1 rfl) ?_
    refine lv_iconst (v := 1) hx hb dL_law_851 (by decide) ?_
    refine lv_iadd hx hb dL_law_852 ?_
    refine my_topi (y := nI (4 * n + 1)) (nI_add (4 * n) 1) ?_
    refine va_sld hx hb hX hbl hbA hS (vp_in_nI (n := 4 * n + 1) (by omega) (by omega)) dL_law_853 ?_
    refine my_topi (y := xs (4 * n + 1)) (congrArg xs (nI_clamp (by omega))) ?_
    refine lv_aload_n hx hb dL_law_854 rfl (lv_at hl 6 rfl) ?_
    refine lv_iload hx hb dL_law_855 (lv_at hl 1 rfl) ?_
    refine lv_iconst (v := 2) hx hb dL_law_857 (by decide) ?_
    refine lv_iadd hx hb dL_law_858 ?_
    refine my_topi (y := nI (4 * n + 2)) (nI_add (4 * n) 2) ?_
    refine va_sld hx hb hX hbl hbA hS (vp_in_nI (n := 4 * n + 2) (by omega) (by omega)) dL_law_859 ?_
    refine my_topi (y := xs (4 * n + 2)) (congrArg xs (nI_clamp (by omega))) ?_
    have hPc := hP.sub (ws' := (WM cy am r)) [2, 3, 4, 5, 6, 7, 8, 9, 10, 11, 12] rfl
    have hDc := hD.sub (ws' := (WM cy am r)) [2, 3, 4, 5, 6, 7, 8, 9, 10, 11, 12] (by decide) rfl
    have hFc := va_free (wc := (WM cy am r)) hD hS hA [2, 3, 4, 5, 6, 7, 8, 9, 10, 11, 12] rfl
    refine va_calli (va_runV (As := [.int (xs (4 * n + 1)), .int (xs (4 * n + 2))]) (rest := []) ⟨hx, hb, hml, hown, hts⟩ (k_X8_today l dC dI cy nb am r ((xs (4 * n + 1))) ((xs (4 * n + 2))) x (th r 0) H.size e1) (cwV 2 hts (gV mw_898 mw_899 mw_900 mw_5 mw_901) rfl rfl rfl (by decide +kernel) ⟨Nat.le_of_ble_eq_true rfl, Nat.le_of_ble_eq_true rfl⟩) (my_preV hPc hK hDc hE hS hFc (va_recv (q := (RX8, TX8, 23)) hK hP (ci := 8) (q0 := 2) rfl rfl)) rfl rfl hl.1 rfl (lv_room (Nat.le_of_ble_eq_true rfl)) dL_law_860 ⟨by show _ ≤ 601024; omega, by show _ ≤ 7293034; omega⟩) hS (fun q _ h => hFc q h) hFc (fun rm9 u9 t9 H1 locs ht hvm hwm hB hz1 hk1 hS => ?_)
    obtain ⟨hP1, hD1⟩ := hB
    rw [ht] at hP1
    obtain ⟨hP, hD⟩ := va_joinQ (X := XLW cy o3 o4 am (vp_updL f3 ((0 : Int32).toNatClampNeg) (x.toInt64)) f4 r) (cx := (WM cy am r)) (wr := [(o3, eL cy (vp_updL f3 ((0 : Int32).toNatClampNeg) (x.toInt64))), (o4, eD cy f4)]) (w1 := (WM cy am (th r 0))) (pl := WC cy ad ks g u) hP hD [2, 3, 4, 5, 6, 7, 8, 9, 10, 11, 12] [0, 1] rfl rfl (by decide) (by decide) hk1 hFc hP1 hD1
    have hP : va_P (dC, dI) vwCl (XLW cy o3 o4 am (vp_updL f3 ((0 : Int32).toNatClampNeg) (x.toInt64)) f4 (th r 0) ++ WC cy ad ks g u) H1 := hP
    have hD : va_D (fun q : Nat => s.heap.size ≤ q) (XLW cy o3 o4 am (vp_updL f3 ((0 : Int32).toNatClampNeg) (x.toInt64)) f4 (th r 0) ++ WC cy ad ks g u) := hD
    generalize H1 = H at hP hS ⊢
    clear hP1 hD1 hPc hDc hFc hk1 hz1 hvm ht
    refine my_topi hwm ?_
    refine lv_istore (lv' := [(7, .int x), (6, .int rw9), (5, .int (nI (4 * n))), (4, .ref o4), (3, .ref o3), (2, .ref (am 0)), (1, .ref (ad .cl)), (0, .ref b)]) hx hb dL_law_863 hl (by decide) rfl (fun ls hl => ?_)
    refine lv_goto (tgt := 1791) hx hb dL_law_865 (by decide) ?_
    refine W.widen (k := cells + 603) (n := slots + 9640) (by omega) (by omega) ?_
    exact K H locs ls ⟨ad, ks, g, u, (th r 0), (vp_updL f3 ((0 : Int32).toNatClampNeg) (x.toInt64)), f4, hk, (hGI.thr).mono (by omega) (by omega) (by omega), hP, hD, hS, lv_sub hl [2, 3, 4, 5, 6, 7] rfl⟩
  · have e2 : C7_today g u (xs (4 * n + 1)) (xs (4 * n + 2)) = some (.inl (nI (k + 0))) := e2
    generalize hxx : (nI (k + 0)) = xk at e2
    refine lv_aload_n hx hb dL_law_828 rfl (lv_at hl 4 rfl) ?_
    refine lv_aload_n hx hb dL_law_829 rfl (lv_at hl 5 rfl) ?_
    refine lv_iload hx hb dL_law_830 (lv_at hl 0 rfl) ?_
    refine lv_iconst (v := 1) hx hb dL_law_832 (by decide) ?_
    refine lv_iadd hx hb dL_law_833 ?_
    refine my_topi (y := nI (4 * n + 1)) (nI_add (4 * n) 1) ?_
    refine va_sld hx hb hX hbl hbA hS (vp_in_nI (n := 4 * n + 1) (by omega) (by omega)) dL_law_834 ?_
    refine my_topi (y := xs (4 * n + 1)) (congrArg xs (nI_clamp (by omega))) ?_
    refine lv_aload_n hx hb dL_law_835 rfl (lv_at hl 5 rfl) ?_
    refine lv_iload hx hb dL_law_836 (lv_at hl 0 rfl) ?_
    refine lv_iconst (v := 2) hx hb dL_law_838 (by decide) ?_
    refine lv_iadd hx hb dL_law_839 ?_
    refine my_topi (y := nI (4 * n + 2)) (nI_add (4 * n) 2) ?_
    refine va_sld hx hb hX hbl hbA hS (vp_in_nI (n := 4 * n + 2) (by omega) (by omega)) dL_law_840 ?_
    refine my_topi (y := xs (4 * n + 2)) (congrArg xs (nI_clamp (by omega))) ?_
    refine lv_aload_n hx hb dL_law_841 rfl (lv_at hl 2 rfl) ?_
    have hPc : va_P (dC, dI) vwCl ([(o3, eL cy f3)] ++ WC cy ad ks g u) H := hP.part (X := XLW cy o3 o4 am f3 f4 r) (cx := [(o3, eL cy f3)]) [0] rfl
    have hDc : va_D (fun q : Nat => s.heap.size ≤ q) ([(o3, eL cy f3)] ++ WC cy ad ks g u) := hD.part (X := XLW cy o3 o4 am f3 f4 r) (cx := [(o3, eL cy f3)]) [0] (by decide) rfl
    have hFc : ∀ q, va_A ([(o3, eL cy f3)] ++ WC cy ad ks g u) H.size q → s.heap.size ≤ q := va_freeP (X := XLW cy o3 o4 am f3 f4 r) (cx := [(o3, eL cy f3)]) hD hS hA [0] rfl
    refine vx_calli (vx_runSX (As := [.ref (ad .cl), .int (xs (4 * n + 1)), .int (xs (4 * n + 2)), .ref o3]) (rest := []) ⟨hx, hb, hml, hown, hts⟩ (ct_today l hst dC dI cy nb ad ks g hk u ((xs (4 * n + 1))) ((xs (4 * n + 2))) o3 f3 xk H.size e2) (vx_cwSW 4 hts (gSH mw_889 mw_890 mw_562 mw_891) rfl rfl rfl (by decide +kernel) ⟨Nat.le_of_ble_eq_true rfl, Nat.le_of_ble_eq_true rfl⟩) (my_preS hPc hK hDc hE hS hFc) rfl rfl hl.1 rfl (lv_room (Nat.le_of_ble_eq_true rfl)) dL_law_842 ⟨by show _ ≤ 601024; omega, by show _ ≤ 7293034; omega⟩) hS (fun q _ h => hFc q h) hFc (fun q _ h => hFc q h) (fun E9 ce9 q9 u9 t9 H1 locs1 ht9 hvm9 hp9 _ _ _ _ _ _ _ => hp9.elim) (fun rw9 u9 t9 H1 locs ht hvm hw hB hz1 hk1 hS => ?_)
    obtain ⟨hP1, hD1⟩ := hB
    rw [ht] at hP1
    obtain ⟨hP, hD⟩ := va_joinP (X := XLW cy o3 o4 am f3 f4 r) (cx := [(o3, eL cy f3)]) (wr := ((o4, eD cy f4) :: WM cy am r)) (rx := [(o3, eL cy f3)]) (pl := WC cy ad ks g u) (pl1 := WC cy ad ks g u) hP hD [0] [1, 2, 3, 4, 5, 6, 7, 8, 9, 10, 11, 12] rfl rfl (by decide) (by decide) hk1 hFc hP1 hD1
    have hP : va_P (dC, dI) vwCl (XLW cy o3 o4 am f3 f4 r ++ WC cy ad ks g u) H1 := hP.part (X := ((o4, eD cy f4) :: WM cy am r) ++ [(o3, eL cy f3)]) (cx := XLW cy o3 o4 am f3 f4 r) [12, 0, 1, 2, 3, 4, 5, 6, 7, 8, 9, 10, 11] rfl
    have hD : va_D (fun q : Nat => s.heap.size ≤ q) (XLW cy o3 o4 am f3 f4 r ++ WC cy ad ks g u) := hD.part (X := ((o4, eD cy f4) :: WM cy am r) ++ [(o3, eL cy f3)]) (cx := XLW cy o3 o4 am f3 f4 r) [12, 0, 1, 2, 3, 4, 5, 6, 7, 8, 9, 10, 11] (by decide) rfl
    generalize H1 = H at hP hS ⊢
    clear hP1 hD1 hPc hDc hFc hk1 hz1 hvm ht
    refine lv_istore (lv' := [(6, .int rw9), (5, .int (nI (4 * n))), (4, .ref o4), (3, .ref o3), (2, .ref (am 0)), (1, .ref (ad .cl)), (0, .ref b)]) hx hb dL_law_845 hl (by decide) rfl (fun ls hl => ?_)
    refine lv_aload_n hx hb dL_law_847 rfl (lv_at hl 4 rfl) ?_
    refine lv_aload_n hx hb dL_law_848 rfl (lv_at hl 6 rfl) ?_
    refine lv_iload hx hb dL_law_849 (lv_at hl 1 rfl) ?_
    refine lv_iconst (v := 1) hx hb dL_law_851 (by decide) ?_
    refine lv_iadd hx hb dL_law_852 ?_
    refine my_topi (y := nI (4 * n + 1)) (nI_add (4 * n) 1) ?_
    refine va_sld hx hb hX hbl hbA hS (vp_in_nI (n := 4 * n + 1) (by omega) (by omega)) dL_law_853 ?_
    refine my_topi (y := xs (4 * n + 1)) (congrArg xs (nI_clamp (by omega))) ?_
    refine lv_aload_n hx hb dL_law_854 rfl (lv_at hl 6 rfl) ?_
    refine lv_iload hx hb dL_law_855 (lv_at hl 1 rfl) ?_
    refine lv_iconst (v := 2) hx hb dL_law_857 (by decide) ?_
    refine lv_iadd hx hb dL_law_858 ?_
    refine my_topi (y := nI (4 * n + 2)) (nI_add (4 * n) 2) ?_
    refine va_sld hx hb hX hbl hbA hS (vp_in_nI (n := 4 * n + 2) (by omega) (by omega)) dL_law_859 ?_
    refine my_topi (y := xs (4 * n + 2)) (congrArg xs (nI_clamp (by omega))) ?_
    have hPc := hP.sub (ws' := (WM cy am r)) [2, 3, 4, 5, 6, 7, 8, 9, 10, 11, 12] rfl
    have hDc := hD.sub (ws' := (WM cy am r)) [2, 3, 4, 5, 6, 7, 8, 9, 10, 11, 12] (by decide) rfl
    have hFc := va_free (wc := (WM cy am r)) hD hS hA [2, 3, 4, 5, 6, 7, 8, 9, 10, 11, 12] rfl
    refine va_calli (va_runV (As := [.int (xs (4 * n + 1)), .int (xs (4 * n + 2))]) (rest := []) ⟨hx, hb, hml, hown, hts⟩ (k_X8_today l dC dI cy nb am r ((xs (4 * n + 1))) ((xs (4 * n + 2))) (nI 0) (th r k) H.size e1) (cwV 2 hts (gV mw_898 mw_899 mw_900 mw_5 mw_901) rfl rfl rfl (by decide +kernel) ⟨Nat.le_of_ble_eq_true rfl, Nat.le_of_ble_eq_true rfl⟩) (my_preV hPc hK hDc hE hS hFc (va_recv (q := (RX8, TX8, 23)) hK hP (ci := 8) (q0 := 2) rfl rfl)) rfl rfl hl.1 rfl (lv_room (Nat.le_of_ble_eq_true rfl)) dL_law_860 ⟨by show _ ≤ 601024; omega, by show _ ≤ 7293034; omega⟩) hS (fun q _ h => hFc q h) hFc (fun rm9 u9 t9 H1 locs ht hvm hwm hB hz1 hk1 hS => ?_)
    obtain ⟨hP1, hD1⟩ := hB
    rw [ht] at hP1
    obtain ⟨hP, hD⟩ := va_joinQ (X := XLW cy o3 o4 am f3 f4 r) (cx := (WM cy am r)) (wr := [(o3, eL cy f3), (o4, eD cy f4)]) (w1 := (WM cy am (th r k))) (pl := WC cy ad ks g u) hP hD [2, 3, 4, 5, 6, 7, 8, 9, 10, 11, 12] [0, 1] rfl rfl (by decide) (by decide) hk1 hFc hP1 hD1
    have hP : va_P (dC, dI) vwCl (XLW cy o3 o4 am f3 f4 (th r k) ++ WC cy ad ks g u) H1 := hP
    have hD : va_D (fun q : Nat => s.heap.size ≤ q) (XLW cy o3 o4 am f3 f4 (th r k) ++ WC cy ad ks g u) := hD
    generalize H1 = H at hP hS ⊢
    clear hP1 hD1 hPc hDc hFc hk1 hz1 hvm ht
    refine my_topi hwm ?_
    refine lv_istore (lv' := [(7, .int (nI 0)), (6, .int rw9), (5, .int (nI (4 * n))), (4, .ref o4), (3, .ref o3), (2, .ref (am 0)), (1, .ref (ad .cl)), (0, .ref b)]) hx hb dL_law_863 hl (by decide) rfl (fun ls hl => ?_)
    refine lv_goto (tgt := 1791) hx hb dL_law_865 (by decide) ?_
    refine W.widen (k := cells + 603) (n := slots + 9640) (by omega) (by omega) ?_
    exact K H locs ls ⟨ad, ks, g, u, (th r k), f3, f4, hk, (hGI.thr).mono (by omega) (by omega) (by omega), hP, hD, hS, lv_sub hl [2, 3, 4, 5, 6, 7] rfl⟩
set_option maxHeartbeats 8000000 in
set_option maxRecDepth 100000 in
theorem law_c19 {p : Program} {e : Env} {s : State} {m : MethodId} {below : List Frame} {meth : Method} {c : Code} (l : Launch) (hst : l.stackTraces = false) {b L : Nat} {xs : Nat → Int32} (dC : Nat → ClassId) (dI : Nat → Nat → Nat) (cy : Nat → ClassId) (nb : Nat → Nat) (o3 o4 : Nat) (am : Nat → Nat) {n : Nat} (hn : n < 512) (hL : 4 * n + 4 ≤ L) (hL2 : L ≤ 2048) (C0 : LX p s m meth c b L xs dC dI cy nb) {Q : State → Prop} {H : Heap} {locs : List Loc} {ls : Array Slot} {cells slots : Nat} (hc : cells ≤ 400000) (hs : slots ≤ 6000000) (h : LSt s dC dI cy nb b o3 o4 am n (4 * n) H locs ls) (K : ∀ (H : Heap) (locs : List Loc) (ls : Array Slot), LSt s dC dI cy nb b o3 o4 am (n + 1) (4 * n) H locs ls → W p l e room_1 s m #[Value.ref b] below meth c H locs (cells + 603) (slots + 9640) Q (F0 m 1791 ls [])) : W p l e room_1 s m #[Value.ref b] below meth c H locs cells slots Q (F0 m 868 ls []) := by
  obtain ⟨hx, hb, hr, hml, hown, hts, hX, hbl, hlocks, hK, hE⟩ := C0
  have hA : ∀ q : Nat, s.heap.size ≤ q → (fun q : Nat => s.heap.size ≤ q) q := fun _ h => h
  have hbA : ¬ (fun q : Nat => s.heap.size ≤ q) b := Nat.not_le.mpr hbl
  obtain ⟨ad, ks, g, u, r, f3, f4, hk, hGI, hP, hD, hS, hl⟩ := h
  have h9 : QT (F8_total r (xs (4 * n + 1))) (C7_total g u (xs (4 * n + 1))) r 1 := q_total hGI
  rcases h9 with ⟨x, e1, e2⟩ | ⟨k, k1, k2, e1, e2⟩
  · refine lv_aload_n hx hb dL_law_868 rfl (lv_at hl 4 rfl) ?_
    refine lv_aload_n hx hb dL_law_869 rfl (lv_at hl 5 rfl) ?_
    refine lv_iload hx hb dL_law_870 (lv_at hl 0 rfl) ?_
    refine lv_iconst (v := 1) hx hb dL_law_872 (by decide) ?_
    refine lv_iadd hx hb dL_law_873 ?_
    refine my_topi (y := nI (4 * n + 1)) (nI_add (4 * n) 1) ?_
    refine va_sld hx hb hX hbl hbA hS (vp_in_nI (n := 4 * n + 1) (by omega) (by omega)) dL_law_874 ?_
    refine my_topi (y := xs (4 * n + 1)) (congrArg xs (nI_clamp (by omega))) ?_
    refine lv_aload_n hx hb dL_law_875 rfl (lv_at hl 2 rfl) ?_
    have hPc : va_P (dC, dI) vwCl ([(o3, eL cy f3)] ++ WC cy ad ks g u) H := hP.part (X := XLW cy o3 o4 am f3 f4 r) (cx := [(o3, eL cy f3)]) [0] rfl
    have hDc : va_D (fun q : Nat => s.heap.size ≤ q) ([(o3, eL cy f3)] ++ WC cy ad ks g u) := hD.part (X := XLW cy o3 o4 am f3 f4 r) (cx := [(o3, eL cy f3)]) [0] (by decide) rfl
    have hFc : ∀ q, va_A ([(o3, eL cy f3)] ++ WC cy ad ks g u) H.size q → s.heap.size ≤ q := va_freeP (X := XLW cy o3 o4 am f3 f4 r) (cx := [(o3, eL cy f3)]) hD hS hA [0] rfl
    refine vx_calli (vx_runSX (As := [.ref (ad .cl), .int (xs (4 * n + 1)), .ref o3]) (rest := []) ⟨hx, hb, hml, hown, hts⟩ (cn_total l hst dC dI cy nb ad ks g hk u ((xs (4 * n + 1))) o3 f3 x H.size e2) (vx_cwSW 3 hts (gSH mw_902 mw_903 mw_562 mw_904) rfl rfl rfl (by decide +kernel) ⟨Nat.le_of_ble_eq_true rfl, Nat.le_of_ble_eq_true rfl⟩) (my_preS hPc hK hDc hE hS hFc) rfl rfl hl.1 rfl (lv_room (Nat.le_of_ble_eq_true rfl)) dL_law_876 ⟨by show _ ≤ 601024; omega, by show _ ≤ 7293034; omega⟩) hS (fun q _ h => hFc q h) hFc (fun q _ h => hFc q h) (fun E9 ce9 q9 u9 t9 H1 locs1 ht9 hvm9 hp9 _ _ _ _ _ _ _ => hp9.elim) (fun rw9 u9 t9 H1 locs ht hvm hw hB hz1 hk1 hS => ?_)
    obtain ⟨hP1, hD1⟩ := hB
    rw [ht] at hP1
    obtain ⟨hP, hD⟩ := va_joinP (X := XLW cy o3 o4 am f3 f4 r) (cx := [(o3, eL cy f3)]) (wr := ((o4, eD cy f4) :: WM cy am r)) (rx := [(o3, eL cy (vp_updL f3 ((0 : Int32).toNatClampNeg) (x.toInt64)))]) (pl := WC cy ad ks g u) (pl1 := WC cy ad ks g u) hP hD [0] [1, 2, 3, 4, 5, 6, 7, 8, 9, 10, 11, 12] rfl rfl (by decide) (by decide) hk1 hFc hP1 hD1
    have hP : va_P (dC, dI) vwCl (XLW cy o3 o4 am (vp_updL f3 ((0 : Int32).toNatClampNeg) (x.toInt64)) f4 r ++ WC cy ad ks g u) H1 := hP.part (X := ((o4, eD cy f4) :: WM cy am r) ++ [(o3, eL cy (vp_updL f3 ((0 : Int32).toNatClampNeg) (x.toInt64)))]) (cx := XLW cy o3 o4 am (vp_updL f3 ((0 : Int32).toNatClampNeg) (x.toInt64)) f4 r) [12, 0, 1, 2, 3, 4, 5, 6, 7, 8, 9, 10, 11] rfl
    have hD : va_D (fun q : Nat => s.heap.size ≤ q) (XLW cy o3 o4 am (vp_updL f3 ((0 : Int32).toNatClampNeg) (x.toInt64)) f4 r ++ WC cy ad ks g u) := hD.part (X := ((o4, eD cy f4) :: WM cy am r) ++ [(o3, eL cy (vp_updL f3 ((0 : Int32).toNatClampNeg) (x.toInt64)))]) (cx := XLW cy o3 o4 am (vp_updL f3 ((0 : Int32).toNatClampNeg) (x.toInt64)) f4 r) [12, 0, 1, 2, 3, 4, 5, 6, 7, 8, 9, 10, 11] (by decide) rfl
    generalize H1 = H at hP hS ⊢
    clear hP1 hD1 hPc hDc hFc hk1 hz1 hvm ht
    refine lv_istore (lv' := [(6, .int rw9), (5, .int (nI (4 * n))), (4, .ref o4), (3, .ref o3), (2, .ref (am 0)), (1, .ref (ad .cl)), (0, .ref b)]) hx hb dL_law_879 hl (by decide) rfl (fun ls hl => ?_)
    refine lv_aload_n hx hb dL_law_881 rfl (lv_at hl 4 rfl) ?_
    refine lv_aload_n hx hb dL_law_882 rfl (lv_at hl 6 rfl) ?_
    refine lv_iload hx hb dL_law_883 (lv_at hl 1 rfl) ?_
    refine lv_iconst (v := 1) hx hb dL_law_885 (by decide) ?_
    refine lv_iadd hx hb dL_law_886 ?_
    refine my_topi (y := nI (4 * n + 1)) (nI_add (4 * n) 1) ?_
    refine va_sld hx hb hX hbl hbA hS (vp_in_nI (n := 4 * n + 1) (by omega) (by omega)) dL_law_887 ?_
    refine my_topi (y := xs (4 * n + 1)) (congrArg xs (nI_clamp (by omega))) ?_
    have hPc := hP.sub (ws' := (WM cy am r)) [2, 3, 4, 5, 6, 7, 8, 9, 10, 11, 12] rfl
    have hDc := hD.sub (ws' := (WM cy am r)) [2, 3, 4, 5, 6, 7, 8, 9, 10, 11, 12] (by decide) rfl
    have hFc := va_free (wc := (WM cy am r)) hD hS hA [2, 3, 4, 5, 6, 7, 8, 9, 10, 11, 12] rfl
    refine va_calli (va_runV (As := [.int (xs (4 * n + 1))]) (rest := []) ⟨hx, hb, hml, hown, hts⟩ (k_X8_total l dC dI cy nb am r ((xs (4 * n + 1))) x (th r 0) H.size e1) (cwV 1 hts (gV mw_910 mw_911 mw_912 mw_5 mw_913) rfl rfl rfl (by decide +kernel) ⟨Nat.le_of_ble_eq_true rfl, Nat.le_of_ble_eq_true rfl⟩) (my_preV hPc hK hDc hE hS hFc (va_recv (q := (RX8, TX8, 23)) hK hP (ci := 8) (q0 := 2) rfl rfl)) rfl rfl hl.1 rfl (lv_room (Nat.le_of_ble_eq_true rfl)) dL_law_888 ⟨by show _ ≤ 601024; omega, by show _ ≤ 7293034; omega⟩) hS (fun q _ h => hFc q h) hFc (fun rm9 u9 t9 H1 locs ht hvm hwm hB hz1 hk1 hS => ?_)
    obtain ⟨hP1, hD1⟩ := hB
    rw [ht] at hP1
    obtain ⟨hP, hD⟩ := va_joinQ (X := XLW cy o3 o4 am (vp_updL f3 ((0 : Int32).toNatClampNeg) (x.toInt64)) f4 r) (cx := (WM cy am r)) (wr := [(o3, eL cy (vp_updL f3 ((0 : Int32).toNatClampNeg) (x.toInt64))), (o4, eD cy f4)]) (w1 := (WM cy am (th r 0))) (pl := WC cy ad ks g u) hP hD [2, 3, 4, 5, 6, 7, 8, 9, 10, 11, 12] [0, 1] rfl rfl (by decide) (by decide) hk1 hFc hP1 hD1
    have hP : va_P (dC, dI) vwCl (XLW cy o3 o4 am (vp_updL f3 ((0 : Int32).toNatClampNeg) (x.toInt64)) f4 (th r 0) ++ WC cy ad ks g u) H1 := hP
    have hD : va_D (fun q : Nat => s.heap.size ≤ q) (XLW cy o3 o4 am (vp_updL f3 ((0 : Int32).toNatClampNeg) (x.toInt64)) f4 (th r 0) ++ WC cy ad ks g u) := hD
    generalize H1 = H at hP hS ⊢
    clear hP1 hD1 hPc hDc hFc hk1 hz1 hvm ht
    refine my_topi hwm ?_
    refine lv_istore (lv' := [(7, .int x), (6, .int rw9), (5, .int (nI (4 * n))), (4, .ref o4), (3, .ref o3), (2, .ref (am 0)), (1, .ref (ad .cl)), (0, .ref b)]) hx hb dL_law_891 hl (by decide) rfl (fun ls hl => ?_)
    refine lv_goto (tgt := 1791) hx hb dL_law_893 (by decide) ?_
    refine W.widen (k := cells + 603) (n := slots + 9640) (by omega) (by omega) ?_
    exact K H locs ls ⟨ad, ks, g, u, (th r 0), (vp_updL f3 ((0 : Int32).toNatClampNeg) (x.toInt64)), f4, hk, (hGI.thr).mono (by omega) (by omega) (by omega), hP, hD, hS, lv_sub hl [2, 3, 4, 5, 6, 7] rfl⟩
  · have e2 : C7_total g u (xs (4 * n + 1)) = some (.inl (nI (k + 1))) := e2
    generalize hxx : (nI (k + 1)) = xk at e2
    have hxk : ¬ xk = 1 := by rw [← hxx]; exact nI_ne (b := 1) (by omega) (by omega) (by omega)
    refine lv_aload_n hx hb dL_law_868 rfl (lv_at hl 4 rfl) ?_
    refine lv_aload_n hx hb dL_law_869 rfl (lv_at hl 5 rfl) ?_
    refine lv_iload hx hb dL_law_870 (lv_at hl 0 rfl) ?_
    refine lv_iconst (v := 1) hx hb dL_law_872 (by decide) ?_
    refine lv_iadd hx hb dL_law_873 ?_
    refine my_topi (y := nI (4 * n + 1)) (nI_add (4 * n) 1) ?_
    refine va_sld hx hb hX hbl hbA hS (vp_in_nI (n := 4 * n + 1) (by omega) (by omega)) dL_law_874 ?_
    refine my_topi (y := xs (4 * n + 1)) (congrArg xs (nI_clamp (by omega))) ?_
    refine lv_aload_n hx hb dL_law_875 rfl (lv_at hl 2 rfl) ?_
    have hPc : va_P (dC, dI) vwCl ([(o3, eL cy f3)] ++ WC cy ad ks g u) H := hP.part (X := XLW cy o3 o4 am f3 f4 r) (cx := [(o3, eL cy f3)]) [0] rfl
    have hDc : va_D (fun q : Nat => s.heap.size ≤ q) ([(o3, eL cy f3)] ++ WC cy ad ks g u) := hD.part (X := XLW cy o3 o4 am f3 f4 r) (cx := [(o3, eL cy f3)]) [0] (by decide) rfl
    have hFc : ∀ q, va_A ([(o3, eL cy f3)] ++ WC cy ad ks g u) H.size q → s.heap.size ≤ q := va_freeP (X := XLW cy o3 o4 am f3 f4 r) (cx := [(o3, eL cy f3)]) hD hS hA [0] rfl
    refine vx_calli (vx_runSX (As := [.ref (ad .cl), .int (xs (4 * n + 1)), .ref o3]) (rest := []) ⟨hx, hb, hml, hown, hts⟩ (ct_total l hst dC dI cy nb ad ks g hk u ((xs (4 * n + 1))) o3 f3 xk H.size hxk e2) (vx_cwSW 3 hts (gSH mw_902 mw_903 mw_562 mw_904) rfl rfl rfl (by decide +kernel) ⟨Nat.le_of_ble_eq_true rfl, Nat.le_of_ble_eq_true rfl⟩) (my_preS hPc hK hDc hE hS hFc) rfl rfl hl.1 rfl (lv_room (Nat.le_of_ble_eq_true rfl)) dL_law_876 ⟨by show _ ≤ 601024; omega, by show _ ≤ 7293034; omega⟩) hS (fun q _ h => hFc q h) hFc (fun q _ h => hFc q h) (fun E9 ce9 q9 u9 t9 H1 locs1 ht9 hvm9 hp9 _ _ _ _ _ _ _ => hp9.elim) (fun rw9 u9 t9 H1 locs ht hvm hw hB hz1 hk1 hS => ?_)
    obtain ⟨hP1, hD1⟩ := hB
    rw [ht] at hP1
    obtain ⟨hP, hD⟩ := va_joinP (X := XLW cy o3 o4 am f3 f4 r) (cx := [(o3, eL cy f3)]) (wr := ((o4, eD cy f4) :: WM cy am r)) (rx := [(o3, eL cy f3)]) (pl := WC cy ad ks g u) (pl1 := WC cy ad ks g u) hP hD [0] [1, 2, 3, 4, 5, 6, 7, 8, 9, 10, 11, 12] rfl rfl (by decide) (by decide) hk1 hFc hP1 hD1
    have hP : va_P (dC, dI) vwCl (XLW cy o3 o4 am f3 f4 r ++ WC cy ad ks g u) H1 := hP.part (X := ((o4, eD cy f4) :: WM cy am r) ++ [(o3, eL cy f3)]) (cx := XLW cy o3 o4 am f3 f4 r) [12, 0, 1, 2, 3, 4, 5, 6, 7, 8, 9, 10, 11] rfl
    have hD : va_D (fun q : Nat => s.heap.size ≤ q) (XLW cy o3 o4 am f3 f4 r ++ WC cy ad ks g u) := hD.part (X := ((o4, eD cy f4) :: WM cy am r) ++ [(o3, eL cy f3)]) (cx := XLW cy o3 o4 am f3 f4 r) [12, 0, 1, 2, 3, 4, 5, 6, 7, 8, 9, 10, 11] (by decide) rfl
    generalize H1 = H at hP hS ⊢
    clear hP1 hD1 hPc hDc hFc hk1 hz1 hvm ht
    refine lv_istore (lv' := [(6, .int rw9), (5, .int (nI (4 * n))), (4, .ref o4), (3, .ref o3), (2, .ref (am 0)), (1, .ref (ad .cl)), (0, .ref b)]) hx hb dL_law_879 hl (by decide) rfl (fun ls hl => ?_)
    refine lv_aload_n hx hb dL_law_881 rfl (lv_at hl 4 rfl) ?_
    refine lv_aload_n hx hb dL_law_882 rfl (lv_at hl 6 rfl) ?_
    refine lv_iload hx hb dL_law_883 (lv_at hl 1 rfl) ?_
    refine lv_iconst (v := 1) hx hb dL_law_885 (by decide) ?_
    refine lv_iadd hx hb dL_law_886 ?_
    refine my_topi (y := nI (4 * n + 1)) (nI_add (4 * n) 1) ?_
    refine va_sld hx hb hX hbl hbA hS (vp_in_nI (n := 4 * n + 1) (by omega) (by omega)) dL_law_887 ?_
    refine my_topi (y := xs (4 * n + 1)) (congrArg xs (nI_clamp (by omega))) ?_
    have hPc := hP.sub (ws' := (WM cy am r)) [2, 3, 4, 5, 6, 7, 8, 9, 10, 11, 12] rfl
    have hDc := hD.sub (ws' := (WM cy am r)) [2, 3, 4, 5, 6, 7, 8, 9, 10, 11, 12] (by decide) rfl
    have hFc := va_free (wc := (WM cy am r)) hD hS hA [2, 3, 4, 5, 6, 7, 8, 9, 10, 11, 12] rfl
    refine va_calli (va_runV (As := [.int (xs (4 * n + 1))]) (rest := []) ⟨hx, hb, hml, hown, hts⟩ (k_X8_total l dC dI cy nb am r ((xs (4 * n + 1))) (nI 0) (th r k) H.size e1) (cwV 1 hts (gV mw_910 mw_911 mw_912 mw_5 mw_913) rfl rfl rfl (by decide +kernel) ⟨Nat.le_of_ble_eq_true rfl, Nat.le_of_ble_eq_true rfl⟩) (my_preV hPc hK hDc hE hS hFc (va_recv (q := (RX8, TX8, 23)) hK hP (ci := 8) (q0 := 2) rfl rfl)) rfl rfl hl.1 rfl (lv_room (Nat.le_of_ble_eq_true rfl)) dL_law_888 ⟨by show _ ≤ 601024; omega, by show _ ≤ 7293034; omega⟩) hS (fun q _ h => hFc q h) hFc (fun rm9 u9 t9 H1 locs ht hvm hwm hB hz1 hk1 hS => ?_)
    obtain ⟨hP1, hD1⟩ := hB
    rw [ht] at hP1
    obtain ⟨hP, hD⟩ := va_joinQ (X := XLW cy o3 o4 am f3 f4 r) (cx := (WM cy am r)) (wr := [(o3, eL cy f3), (o4, eD cy f4)]) (w1 := (WM cy am (th r k))) (pl := WC cy ad ks g u) hP hD [2, 3, 4, 5, 6, 7, 8, 9, 10, 11, 12] [0, 1] rfl rfl (by decide) (by decide) hk1 hFc hP1 hD1
    have hP : va_P (dC, dI) vwCl (XLW cy o3 o4 am f3 f4 (th r k) ++ WC cy ad ks g u) H1 := hP
    have hD : va_D (fun q : Nat => s.heap.size ≤ q) (XLW cy o3 o4 am f3 f4 (th r k) ++ WC cy ad ks g u) := hD
    generalize H1 = H at hP hS ⊢
    clear hP1 hD1 hPc hDc hFc hk1 hz1 hvm ht
    refine my_topi hwm ?_
    refine lv_istore (lv' := [(7, .int (nI 0)), (6, .int rw9), (5, .int (nI (4 * n))), (4, .ref o4), (3, .ref o3), (2, .ref (am 0)), (1, .ref (ad .cl)), (0, .ref b)]) hx hb dL_law_891 hl (by decide) rfl (fun ls hl => ?_)
    refine lv_goto (tgt := 1791) hx hb dL_law_893 (by decide) ?_
    refine W.widen (k := cells + 603) (n := slots + 9640) (by omega) (by omega) ?_
    exact K H locs ls ⟨ad, ks, g, u, (th r k), f3, f4, hk, (hGI.thr).mono (by omega) (by omega) (by omega), hP, hD, hS, lv_sub hl [2, 3, 4, 5, 6, 7] rfl⟩
set_option maxHeartbeats 8000000 in
set_option maxRecDepth 100000 in
theorem law_c20 {p : Program} {e : Env} {s : State} {m : MethodId} {below : List Frame} {meth : Method} {c : Code} (l : Launch) (hst : l.stackTraces = false) {b L : Nat} {xs : Nat → Int32} (dC : Nat → ClassId) (dI : Nat → Nat → Nat) (cy : Nat → ClassId) (nb : Nat → Nat) (o3 o4 : Nat) (am : Nat → Nat) {n : Nat} (hn : n < 512) (hL : 4 * n + 4 ≤ L) (hL2 : L ≤ 2048) (C0 : LX p s m meth c b L xs dC dI cy nb) {Q : State → Prop} {H : Heap} {locs : List Loc} {ls : Array Slot} {cells slots : Nat} (hc : cells ≤ 400000) (hs : slots ≤ 6000000) (h : LSt s dC dI cy nb b o3 o4 am n (4 * n) H locs ls) (K : ∀ (H : Heap) (locs : List Loc) (ls : Array Slot), LSt s dC dI cy nb b o3 o4 am (n + 1) (4 * n) H locs ls → W p l e room_1 s m #[Value.ref b] below meth c H locs (cells + 603) (slots + 9640) Q (F0 m 1791 ls [])) : W p l e room_1 s m #[Value.ref b] below meth c H locs cells slots Q (F0 m 896 ls []) := by
  obtain ⟨hx, hb, hr, hml, hown, hts, hX, hbl, hlocks, hK, hE⟩ := C0
  have hA : ∀ q : Nat, s.heap.size ≤ q → (fun q : Nat => s.heap.size ≤ q) q := fun _ h => h
  have hbA : ¬ (fun q : Nat => s.heap.size ≤ q) b := Nat.not_le.mpr hbl
  obtain ⟨ad, ks, g, u, r, f3, f4, hk, hGI, hP, hD, hS, hl⟩ := h
  have h9 : QP (F8_yieldPart r) (C7_yieldPart g u) r := q_yieldPart hGI
  obtain ⟨x, e1, e2⟩ := h9
  refine lv_aload_n hx hb dL_law_896 rfl (lv_at hl 4 rfl) ?_
  have hPc : va_P (dC, dI) vwCl (WC cy ad ks g u) H := hP.part (X := XLW cy o3 o4 am f3 f4 r) (cx := []) [] rfl
  have hDc : va_D (fun q : Nat => s.heap.size ≤ q) (WC cy ad ks g u) := hD.part (X := XLW cy o3 o4 am f3 f4 r) (cx := []) [] (by decide) rfl
  have hFc : ∀ q, va_A (WC cy ad ks g u) H.size q → s.heap.size ≤ q := va_freeP (X := XLW cy o3 o4 am f3 f4 r) (cx := []) hD hS hA [] rfl
  obtain ⟨q8, h8⟩ := wc_at (cy := cy) (ad := ad) (ks := ks) (g := g) (u := u) (κ := .cl) hk.1 True.intro
  refine va_calld (va_runV (As := []) (rest := []) ⟨hx, hb, hml, hown, hts⟩ (c_X7_yieldPart l dC dI cy nb ad ks g hk u  x H.size e2) (cwV 0 hts (gV mw_914 mw_915 mw_916 mw_2 mw_917) rfl rfl rfl (by decide +kernel) ⟨Nat.le_of_ble_eq_true rfl, Nat.le_of_ble_eq_true rfl⟩) (my_preV hPc hK hDc hE hS hFc (va_recv (q := (RX7, TX7, 12)) hK hPc (ci := 7) (q0 := q8) rfl h8)) rfl rfl hl.1 rfl (lv_room (Nat.le_of_ble_eq_true rfl)) dL_law_897 ⟨by show _ ≤ 601024; omega, by show _ ≤ 7293034; omega⟩) hS (fun q _ h => hFc q h) hFc (fun rw9 u9 t9 H1 locs ht hvm hw hB hz1 hk1 hS => ?_)
  clear h8
  obtain ⟨hP1, hD1⟩ := hB
  rw [ht] at hP1
  obtain ⟨hP, hD⟩ := va_joinP (X := XLW cy o3 o4 am f3 f4 r) (cx := []) (wr := XLW cy o3 o4 am f3 f4 r) (rx := []) (pl := WC cy ad ks g u) (pl1 := WC cy ad ks g u) hP hD [] [0, 1, 2, 3, 4, 5, 6, 7, 8, 9, 10, 11, 12] rfl rfl (by decide) (by decide) hk1 hFc hP1 hD1
  have hP : va_P (dC, dI) vwCl (XLW cy o3 o4 am f3 f4 r ++ WC cy ad ks g u) H1 := hP
  have hD : va_D (fun q : Nat => s.heap.size ≤ q) (XLW cy o3 o4 am f3 f4 r ++ WC cy ad ks g u) := hD
  generalize H1 = H at hP hS ⊢
  clear hP1 hD1 hPc hDc hFc hk1 hz1 hvm ht
  refine my_topd hw ?_
  refine lv_dstore (lv' := [(6, .double x), (5, .int (nI (4 * n))), (4, .ref o4), (3, .ref o3), (2, .ref (am 0)), (1, .ref (ad .cl)), (0, .ref b)]) hx hb dL_law_900 hl (by decide) rfl (fun ls hl => ?_)
  refine lv_aload_n hx hb dL_law_902 rfl (lv_at hl 4 rfl) ?_
  have hPc := hP.sub (ws' := (WM cy am r)) [2, 3, 4, 5, 6, 7, 8, 9, 10, 11, 12] rfl
  have hDc := hD.sub (ws' := (WM cy am r)) [2, 3, 4, 5, 6, 7, 8, 9, 10, 11, 12] (by decide) rfl
  have hFc := va_free (wc := (WM cy am r)) hD hS hA [2, 3, 4, 5, 6, 7, 8, 9, 10, 11, 12] rfl
  refine va_calld (va_runV (As := []) (rest := []) ⟨hx, hb, hml, hown, hts⟩ (k_X8_yieldPart l dC dI cy nb am r  x (th r 0) H.size e1) (cwV 0 hts (gV mw_918 mw_919 mw_920 mw_5 mw_921) rfl rfl rfl (by decide +kernel) ⟨Nat.le_of_ble_eq_true rfl, Nat.le_of_ble_eq_true rfl⟩) (my_preV hPc hK hDc hE hS hFc (va_recv (q := (RX8, TX8, 23)) hK hP (ci := 8) (q0 := 2) rfl rfl)) rfl rfl hl.1 rfl (lv_room (Nat.le_of_ble_eq_true rfl)) dL_law_903 ⟨by show _ ≤ 601024; omega, by show _ ≤ 7293034; omega⟩) hS (fun q _ h => hFc q h) hFc (fun rm9 u9 t9 H1 locs ht hvm hwm hB hz1 hk1 hS => ?_)
  obtain ⟨hP1, hD1⟩ := hB
  rw [ht] at hP1
  obtain ⟨hP, hD⟩ := va_joinQ (X := XLW cy o3 o4 am f3 f4 r) (cx := (WM cy am r)) (wr := [(o3, eL cy f3), (o4, eD cy f4)]) (w1 := (WM cy am (th r 0))) (pl := WC cy ad ks g u) hP hD [2, 3, 4, 5, 6, 7, 8, 9, 10, 11, 12] [0, 1] rfl rfl (by decide) (by decide) hk1 hFc hP1 hD1
  have hP : va_P (dC, dI) vwCl (XLW cy o3 o4 am f3 f4 (th r 0) ++ WC cy ad ks g u) H1 := hP
  have hD : va_D (fun q : Nat => s.heap.size ≤ q) (XLW cy o3 o4 am f3 f4 (th r 0) ++ WC cy ad ks g u) := hD
  generalize H1 = H at hP hS ⊢
  clear hP1 hD1 hPc hDc hFc hk1 hz1 hvm ht
  refine my_topd hwm ?_
  refine lv_dstore (lv' := [(8, .double x), (6, .double x), (5, .int (nI (4 * n))), (4, .ref o4), (3, .ref o3), (2, .ref (am 0)), (1, .ref (ad .cl)), (0, .ref b)]) hx hb dL_law_906 hl (by decide) rfl (fun ls hl => ?_)
  refine lv_goto (tgt := 1791) hx hb dL_law_908 (by decide) ?_
  refine W.widen (k := cells + 603) (n := slots + 9640) (by omega) (by omega) ?_
  exact K H locs ls ⟨ad, ks, g, u, (th r 0), f3, f4, hk, (hGI.thr).mono (by omega) (by omega) (by omega), hP, hD, hS, lv_sub hl [2, 3, 4, 5, 6, 7] rfl⟩
set_option maxHeartbeats 8000000 in
set_option maxRecDepth 100000 in
theorem law_c21 {p : Program} {e : Env} {s : State} {m : MethodId} {below : List Frame} {meth : Method} {c : Code} (l : Launch) (hst : l.stackTraces = false) {b L : Nat} {xs : Nat → Int32} (dC : Nat → ClassId) (dI : Nat → Nat → Nat) (cy : Nat → ClassId) (nb : Nat → Nat) (o3 o4 : Nat) (am : Nat → Nat) {n : Nat} (hn : n < 512) (hL : 4 * n + 4 ≤ L) (hL2 : L ≤ 2048) (C0 : LX p s m meth c b L xs dC dI cy nb) {Q : State → Prop} {H : Heap} {locs : List Loc} {ls : Array Slot} {cells slots : Nat} (hc : cells ≤ 400000) (hs : slots ≤ 6000000) (h : LSt s dC dI cy nb b o3 o4 am n (4 * n) H locs ls) (K : ∀ (H : Heap) (locs : List Loc) (ls : Array Slot), LSt s dC dI cy nb b o3 o4 am (n + 1) (4 * n) H locs ls → W p l e room_1 s m #[Value.ref b] below meth c H locs (cells + 603) (slots + 9640) Q (F0 m 1791 ls [])) : W p l e room_1 s m #[Value.ref b] below meth c H locs cells slots Q (F0 m 911 ls []) := by
  obtain ⟨hx, hb, hr, hml, hown, hts, hX, hbl, hlocks, hK, hE⟩ := C0
  have hA : ∀ q : Nat, s.heap.size ≤ q → (fun q : Nat => s.heap.size ≤ q) q := fun _ h => h
  have hbA : ¬ (fun q : Nat => s.heap.size ≤ q) b := Nat.not_le.mpr hbl
  obtain ⟨ad, ks, g, u, r, f3, f4, hk, hGI, hP, hD, hS, hl⟩ := h
  have h9 : QP (F8_meanFails r) (C7_meanFails g u) r := q_meanFails hGI
  obtain ⟨x, e1, e2⟩ := h9
  refine lv_aload_n hx hb dL_law_911 rfl (lv_at hl 4 rfl) ?_
  have hPc : va_P (dC, dI) vwCl (WC cy ad ks g u) H := hP.part (X := XLW cy o3 o4 am f3 f4 r) (cx := []) [] rfl
  have hDc : va_D (fun q : Nat => s.heap.size ≤ q) (WC cy ad ks g u) := hD.part (X := XLW cy o3 o4 am f3 f4 r) (cx := []) [] (by decide) rfl
  have hFc : ∀ q, va_A (WC cy ad ks g u) H.size q → s.heap.size ≤ q := va_freeP (X := XLW cy o3 o4 am f3 f4 r) (cx := []) hD hS hA [] rfl
  obtain ⟨q8, h8⟩ := wc_at (cy := cy) (ad := ad) (ks := ks) (g := g) (u := u) (κ := .cl) hk.1 True.intro
  refine va_callf (va_runV (As := []) (rest := []) ⟨hx, hb, hml, hown, hts⟩ (c_X7_meanFails l dC dI cy nb ad ks g hk u  x H.size e2) (cwV 0 hts (gV mw_922 mw_923 mw_924 mw_2 mw_925) rfl rfl rfl (by decide +kernel) ⟨Nat.le_of_ble_eq_true rfl, Nat.le_of_ble_eq_true rfl⟩) (my_preV hPc hK hDc hE hS hFc (va_recv (q := (RX7, TX7, 12)) hK hPc (ci := 7) (q0 := q8) rfl h8)) rfl rfl hl.1 rfl (lv_room (Nat.le_of_ble_eq_true rfl)) dL_law_912 ⟨by show _ ≤ 601024; omega, by show _ ≤ 7293034; omega⟩) hS (fun q _ h => hFc q h) hFc (fun rw9 u9 t9 H1 locs ht hvm hw hB hz1 hk1 hS => ?_)
  clear h8
  obtain ⟨hP1, hD1⟩ := hB
  rw [ht] at hP1
  obtain ⟨hP, hD⟩ := va_joinP (X := XLW cy o3 o4 am f3 f4 r) (cx := []) (wr := XLW cy o3 o4 am f3 f4 r) (rx := []) (pl := WC cy ad ks g u) (pl1 := WC cy ad ks g u) hP hD [] [0, 1, 2, 3, 4, 5, 6, 7, 8, 9, 10, 11, 12] rfl rfl (by decide) (by decide) hk1 hFc hP1 hD1
  have hP : va_P (dC, dI) vwCl (XLW cy o3 o4 am f3 f4 r ++ WC cy ad ks g u) H1 := hP
  have hD : va_D (fun q : Nat => s.heap.size ≤ q) (XLW cy o3 o4 am f3 f4 r ++ WC cy ad ks g u) := hD
  generalize H1 = H at hP hS ⊢
  clear hP1 hD1 hPc hDc hFc hk1 hz1 hvm ht
  refine my_topf hw ?_
  refine lv_f2d hx hb dL_law_915 (mean_C e2) ?_
  refine lv_dstore (lv' := [(6, .double (FP.f2d x)), (5, .int (nI (4 * n))), (4, .ref o4), (3, .ref o3), (2, .ref (am 0)), (1, .ref (ad .cl)), (0, .ref b)]) hx hb dL_law_916 hl (by decide) rfl (fun ls hl => ?_)
  refine lv_aload_n hx hb dL_law_918 rfl (lv_at hl 4 rfl) ?_
  have hPc := hP.sub (ws' := (WM cy am r)) [2, 3, 4, 5, 6, 7, 8, 9, 10, 11, 12] rfl
  have hDc := hD.sub (ws' := (WM cy am r)) [2, 3, 4, 5, 6, 7, 8, 9, 10, 11, 12] (by decide) rfl
  have hFc := va_free (wc := (WM cy am r)) hD hS hA [2, 3, 4, 5, 6, 7, 8, 9, 10, 11, 12] rfl
  refine va_callf (va_runV (As := []) (rest := []) ⟨hx, hb, hml, hown, hts⟩ (k_X8_meanFails l dC dI cy nb am r  x (th r 0) H.size e1) (cwV 0 hts (gV mw_926 mw_927 mw_928 mw_5 mw_929) rfl rfl rfl (by decide +kernel) ⟨Nat.le_of_ble_eq_true rfl, Nat.le_of_ble_eq_true rfl⟩) (my_preV hPc hK hDc hE hS hFc (va_recv (q := (RX8, TX8, 23)) hK hP (ci := 8) (q0 := 2) rfl rfl)) rfl rfl hl.1 rfl (lv_room (Nat.le_of_ble_eq_true rfl)) dL_law_919 ⟨by show _ ≤ 601024; omega, by show _ ≤ 7293034; omega⟩) hS (fun q _ h => hFc q h) hFc (fun rm9 u9 t9 H1 locs ht hvm hwm hB hz1 hk1 hS => ?_)
  obtain ⟨hP1, hD1⟩ := hB
  rw [ht] at hP1
  obtain ⟨hP, hD⟩ := va_joinQ (X := XLW cy o3 o4 am f3 f4 r) (cx := (WM cy am r)) (wr := [(o3, eL cy f3), (o4, eD cy f4)]) (w1 := (WM cy am (th r 0))) (pl := WC cy ad ks g u) hP hD [2, 3, 4, 5, 6, 7, 8, 9, 10, 11, 12] [0, 1] rfl rfl (by decide) (by decide) hk1 hFc hP1 hD1
  have hP : va_P (dC, dI) vwCl (XLW cy o3 o4 am f3 f4 (th r 0) ++ WC cy ad ks g u) H1 := hP
  have hD : va_D (fun q : Nat => s.heap.size ≤ q) (XLW cy o3 o4 am f3 f4 (th r 0) ++ WC cy ad ks g u) := hD
  generalize H1 = H at hP hS ⊢
  clear hP1 hD1 hPc hDc hFc hk1 hz1 hvm ht
  refine my_topf hwm ?_
  refine lv_f2d hx hb dL_law_922 (mean_F e1) ?_
  refine lv_dstore (lv' := [(8, .double (FP.f2d x)), (6, .double (FP.f2d x)), (5, .int (nI (4 * n))), (4, .ref o4), (3, .ref o3), (2, .ref (am 0)), (1, .ref (ad .cl)), (0, .ref b)]) hx hb dL_law_923 hl (by decide) rfl (fun ls hl => ?_)
  refine lv_goto (tgt := 1791) hx hb dL_law_925 (by decide) ?_
  refine W.widen (k := cells + 603) (n := slots + 9640) (by omega) (by omega) ?_
  exact K H locs ls ⟨ad, ks, g, u, (th r 0), f3, f4, hk, (hGI.thr).mono (by omega) (by omega) (by omega), hP, hD, hS, lv_sub hl [2, 3, 4, 5, 6, 7] rfl⟩
set_option maxHeartbeats 8000000 in
set_option maxRecDepth 100000 in
theorem law_c22 {p : Program} {e : Env} {s : State} {m : MethodId} {below : List Frame} {meth : Method} {c : Code} (l : Launch) (hst : l.stackTraces = false) {b L : Nat} {xs : Nat → Int32} (dC : Nat → ClassId) (dI : Nat → Nat → Nat) (cy : Nat → ClassId) (nb : Nat → Nat) (o3 o4 : Nat) (am : Nat → Nat) {n : Nat} (hn : n < 512) (hL : 4 * n + 4 ≤ L) (hL2 : L ≤ 2048) (C0 : LX p s m meth c b L xs dC dI cy nb) {Q : State → Prop} {H : Heap} {locs : List Loc} {ls : Array Slot} {cells slots : Nat} (hc : cells ≤ 400000) (hs : slots ≤ 6000000) (h : LSt s dC dI cy nb b o3 o4 am n (4 * n) H locs ls) (K : ∀ (H : Heap) (locs : List Loc) (ls : Array Slot), LSt s dC dI cy nb b o3 o4 am (n + 1) (4 * n) H locs ls → W p l e room_1 s m #[Value.ref b] below meth c H locs (cells + 603) (slots + 9640) Q (F0 m 1791 ls [])) : W p l e room_1 s m #[Value.ref b] below meth c H locs cells slots Q (F0 m 928 ls []) := by
  obtain ⟨hx, hb, hr, hml, hown, hts, hX, hbl, hlocks, hK, hE⟩ := C0
  have hA : ∀ q : Nat, s.heap.size ≤ q → (fun q : Nat => s.heap.size ≤ q) q := fun _ h => h
  have hbA : ¬ (fun q : Nat => s.heap.size ≤ q) b := Nat.not_le.mpr hbl
  obtain ⟨ad, ks, g, u, r, f3, f4, hk, hGI, hP, hD, hS, hl⟩ := h
  have h9 : QTf (F8_busyPart r (xs (4 * n + 1))) (C7_busyPart g u (xs (4 * n + 1))) r := q_busyPart hGI
  rcases h9 with ⟨x, e1, e2⟩ | ⟨e1, e2⟩
  · refine lv_aload_n hx hb dL_law_928 rfl (lv_at hl 4 rfl) ?_
    refine lv_aload_n hx hb dL_law_929 rfl (lv_at hl 5 rfl) ?_
    refine lv_iload hx hb dL_law_930 (lv_at hl 0 rfl) ?_
    refine lv_iconst (v := 1) hx hb dL_law_932 (by decide) ?_
    refine lv_iadd hx hb dL_law_933 ?_
    refine my_topi (y := nI (4 * n + 1)) (nI_add (4 * n) 1) ?_
    refine va_sld hx hb hX hbl hbA hS (vp_in_nI (n := 4 * n + 1) (by omega) (by omega)) dL_law_934 ?_
    refine my_topi (y := xs (4 * n + 1)) (congrArg xs (nI_clamp (by omega))) ?_
    refine lv_aload hx hb dL_law_935 (lv_at hl 1 rfl) ?_
    have hPc : va_P (dC, dI) vwCl ([(o4, eD cy f4)] ++ WC cy ad ks g u) H := hP.part (X := XLW cy o3 o4 am f3 f4 r) (cx := [(o4, eD cy f4)]) [1] rfl
    have hDc : va_D (fun q : Nat => s.heap.size ≤ q) ([(o4, eD cy f4)] ++ WC cy ad ks g u) := hD.part (X := XLW cy o3 o4 am f3 f4 r) (cx := [(o4, eD cy f4)]) [1] (by decide) rfl
    have hFc : ∀ q, va_A ([(o4, eD cy f4)] ++ WC cy ad ks g u) H.size q → s.heap.size ≤ q := va_freeP (X := XLW cy o3 o4 am f3 f4 r) (cx := [(o4, eD cy f4)]) hD hS hA [1] rfl
    refine vx_calli (vx_runSX (As := [.ref (ad .cl), .int (xs (4 * n + 1)), .ref o4]) (rest := []) ⟨hx, hb, hml, hown, hts⟩ (cn_busyPart l hst dC dI cy nb ad ks g hk u ((xs (4 * n + 1))) o4 f4 x H.size (busy_C e2) e2) (vx_cwSW 3 hts (gSH mw_930 mw_931 mw_562 mw_932) rfl rfl rfl (by decide +kernel) ⟨Nat.le_of_ble_eq_true rfl, Nat.le_of_ble_eq_true rfl⟩) (my_preS hPc hK hDc hE hS hFc) rfl rfl hl.1 rfl (lv_room (Nat.le_of_ble_eq_true rfl)) dL_law_937 ⟨by show _ ≤ 601024; omega, by show _ ≤ 7293034; omega⟩) hS (fun q _ h => hFc q h) hFc (fun q _ h => hFc q h) (fun E9 ce9 q9 u9 t9 H1 locs1 ht9 hvm9 hp9 _ _ _ _ _ _ _ => hp9.elim) (fun rw9 u9 t9 H1 locs ht hvm hw hB hz1 hk1 hS => ?_)
    obtain ⟨hP1, hD1⟩ := hB
    rw [ht] at hP1
    obtain ⟨hP, hD⟩ := va_joinP (X := XLW cy o3 o4 am f3 f4 r) (cx := [(o4, eD cy f4)]) (wr := ((o3, eL cy f3) :: WM cy am r)) (rx := [(o4, eD cy (vf_upd f4 ((0 : Int32).toNatClampNeg) (FP.f2d x)))]) (pl := WC cy ad ks g u) (pl1 := WC cy ad ks g u) hP hD [1] [0, 2, 3, 4, 5, 6, 7, 8, 9, 10, 11, 12] rfl rfl (by decide) (by decide) hk1 hFc hP1 hD1
    have hP : va_P (dC, dI) vwCl (XLW cy o3 o4 am f3 (vf_upd f4 ((0 : Int32).toNatClampNeg) (FP.f2d x)) r ++ WC cy ad ks g u) H1 := hP.part (X := ((o3, eL cy f3) :: WM cy am r) ++ [(o4, eD cy (vf_upd f4 ((0 : Int32).toNatClampNeg) (FP.f2d x)))]) (cx := XLW cy o3 o4 am f3 (vf_upd f4 ((0 : Int32).toNatClampNeg) (FP.f2d x)) r) [0, 12, 1, 2, 3, 4, 5, 6, 7, 8, 9, 10, 11] rfl
    have hD : va_D (fun q : Nat => s.heap.size ≤ q) (XLW cy o3 o4 am f3 (vf_upd f4 ((0 : Int32).toNatClampNeg) (FP.f2d x)) r ++ WC cy ad ks g u) := hD.part (X := ((o3, eL cy f3) :: WM cy am r) ++ [(o4, eD cy (vf_upd f4 ((0 : Int32).toNatClampNeg) (FP.f2d x)))]) (cx := XLW cy o3 o4 am f3 (vf_upd f4 ((0 : Int32).toNatClampNeg) (FP.f2d x)) r) [0, 12, 1, 2, 3, 4, 5, 6, 7, 8, 9, 10, 11] (by decide) rfl
    generalize H1 = H at hP hS ⊢
    clear hP1 hD1 hPc hDc hFc hk1 hz1 hvm ht
    refine lv_istore (lv' := [(6, .int rw9), (5, .int (nI (4 * n))), (4, .ref o4), (3, .ref o3), (2, .ref (am 0)), (1, .ref (ad .cl)), (0, .ref b)]) hx hb dL_law_940 hl (by decide) rfl (fun ls hl => ?_)
    refine lv_aload_n hx hb dL_law_942 rfl (lv_at hl 4 rfl) ?_
    refine lv_aload_n hx hb dL_law_943 rfl (lv_at hl 6 rfl) ?_
    refine lv_iload hx hb dL_law_944 (lv_at hl 1 rfl) ?_
    refine lv_iconst (v := 1) hx hb dL_law_946 (by decide) ?_
    refine lv_iadd hx hb dL_law_947 ?_
    refine my_topi (y := nI (4 * n + 1)) (nI_add (4 * n) 1) ?_
    refine va_sld hx hb hX hbl hbA hS (vp_in_nI (n := 4 * n + 1) (by omega) (by omega)) dL_law_948 ?_
    refine my_topi (y := xs (4 * n + 1)) (congrArg xs (nI_clamp (by omega))) ?_
    have hPc := hP.sub (ws' := (WM cy am r)) [2, 3, 4, 5, 6, 7, 8, 9, 10, 11, 12] rfl
    have hDc := hD.sub (ws' := (WM cy am r)) [2, 3, 4, 5, 6, 7, 8, 9, 10, 11, 12] (by decide) rfl
    have hFc := va_free (wc := (WM cy am r)) hD hS hA [2, 3, 4, 5, 6, 7, 8, 9, 10, 11, 12] rfl
    refine va_callf (va_runV (As := [.int (xs (4 * n + 1))]) (rest := []) ⟨hx, hb, hml, hown, hts⟩ (k_X8_busyPart l dC dI cy nb am r ((xs (4 * n + 1))) x (th r 0) H.size e1) (cwV 1 hts (gV mw_937 mw_938 mw_939 mw_5 mw_940) rfl rfl rfl (by decide +kernel) ⟨Nat.le_of_ble_eq_true rfl, Nat.le_of_ble_eq_true rfl⟩) (my_preV hPc hK hDc hE hS hFc (va_recv (q := (RX8, TX8, 23)) hK hP (ci := 8) (q0 := 2) rfl rfl)) rfl rfl hl.1 rfl (lv_room (Nat.le_of_ble_eq_true rfl)) dL_law_949 ⟨by show _ ≤ 601024; omega, by show _ ≤ 7293034; omega⟩) hS (fun q _ h => hFc q h) hFc (fun rm9 u9 t9 H1 locs ht hvm hwm hB hz1 hk1 hS => ?_)
    obtain ⟨hP1, hD1⟩ := hB
    rw [ht] at hP1
    obtain ⟨hP, hD⟩ := va_joinQ (X := XLW cy o3 o4 am f3 (vf_upd f4 ((0 : Int32).toNatClampNeg) (FP.f2d x)) r) (cx := (WM cy am r)) (wr := [(o3, eL cy f3), (o4, eD cy (vf_upd f4 ((0 : Int32).toNatClampNeg) (FP.f2d x)))]) (w1 := (WM cy am (th r 0))) (pl := WC cy ad ks g u) hP hD [2, 3, 4, 5, 6, 7, 8, 9, 10, 11, 12] [0, 1] rfl rfl (by decide) (by decide) hk1 hFc hP1 hD1
    have hP : va_P (dC, dI) vwCl (XLW cy o3 o4 am f3 (vf_upd f4 ((0 : Int32).toNatClampNeg) (FP.f2d x)) (th r 0) ++ WC cy ad ks g u) H1 := hP
    have hD : va_D (fun q : Nat => s.heap.size ≤ q) (XLW cy o3 o4 am f3 (vf_upd f4 ((0 : Int32).toNatClampNeg) (FP.f2d x)) (th r 0) ++ WC cy ad ks g u) := hD
    generalize H1 = H at hP hS ⊢
    clear hP1 hD1 hPc hDc hFc hk1 hz1 hvm ht
    refine my_topf hwm ?_
    refine lv_fstore (lv' := [(7, .float x), (6, .int rw9), (5, .int (nI (4 * n))), (4, .ref o4), (3, .ref o3), (2, .ref (am 0)), (1, .ref (ad .cl)), (0, .ref b)]) hx hb dL_law_952 hl (by decide) rfl (fun ls hl => ?_)
    refine lv_goto (tgt := 1791) hx hb dL_law_954 (by decide) ?_
    refine W.widen (k := cells + 603) (n := slots + 9640) (by omega) (by omega) ?_
    exact K H locs ls ⟨ad, ks, g, u, (th r 0), f3, (vf_upd f4 ((0 : Int32).toNatClampNeg) (FP.f2d x)), hk, (hGI.thr).mono (by omega) (by omega) (by omega), hP, hD, hS, lv_sub hl [2, 3, 4, 5, 6, 7] rfl⟩
  · have e2 : C7_busyPart g u (xs (4 * n + 1)) = some (.inl (nI 1)) := e2
    generalize hxx : (nI 1) = xk at e2
    have hxk : xk = 1 := x1_busyPart e2
    refine lv_aload_n hx hb dL_law_928 rfl (lv_at hl 4 rfl) ?_
    refine lv_aload_n hx hb dL_law_929 rfl (lv_at hl 5 rfl) ?_
    refine lv_iload hx hb dL_law_930 (lv_at hl 0 rfl) ?_
    refine lv_iconst (v := 1) hx hb dL_law_932 (by decide) ?_
    refine lv_iadd hx hb dL_law_933 ?_
    refine my_topi (y := nI (4 * n + 1)) (nI_add (4 * n) 1) ?_
    refine va_sld hx hb hX hbl hbA hS (vp_in_nI (n := 4 * n + 1) (by omega) (by omega)) dL_law_934 ?_
    refine my_topi (y := xs (4 * n + 1)) (congrArg xs (nI_clamp (by omega))) ?_
    refine lv_aload hx hb dL_law_935 (lv_at hl 1 rfl) ?_
    have hPc : va_P (dC, dI) vwCl ([(o4, eD cy f4)] ++ WC cy ad ks g u) H := hP.part (X := XLW cy o3 o4 am f3 f4 r) (cx := [(o4, eD cy f4)]) [1] rfl
    have hDc : va_D (fun q : Nat => s.heap.size ≤ q) ([(o4, eD cy f4)] ++ WC cy ad ks g u) := hD.part (X := XLW cy o3 o4 am f3 f4 r) (cx := [(o4, eD cy f4)]) [1] (by decide) rfl
    have hFc : ∀ q, va_A ([(o4, eD cy f4)] ++ WC cy ad ks g u) H.size q → s.heap.size ≤ q := va_freeP (X := XLW cy o3 o4 am f3 f4 r) (cx := [(o4, eD cy f4)]) hD hS hA [1] rfl
    refine vx_calli (vx_runSX (As := [.ref (ad .cl), .int (xs (4 * n + 1)), .ref o4]) (rest := []) ⟨hx, hb, hml, hown, hts⟩ (ct_busyPart l hst dC dI cy nb ad ks g hk u ((xs (4 * n + 1))) o4 f4 xk H.size hxk e2) (vx_cwSW 3 hts (gSH mw_930 mw_931 mw_562 mw_932) rfl rfl rfl (by decide +kernel) ⟨Nat.le_of_ble_eq_true rfl, Nat.le_of_ble_eq_true rfl⟩) (my_preS hPc hK hDc hE hS hFc) rfl rfl hl.1 rfl (lv_room (Nat.le_of_ble_eq_true rfl)) dL_law_937 ⟨by show _ ≤ 601024; omega, by show _ ≤ 7293034; omega⟩) hS (fun q _ h => hFc q h) hFc (fun q _ h => hFc q h) (fun E9 ce9 q9 u9 t9 H1 locs1 ht9 hvm9 hp9 _ _ _ _ _ _ _ => hp9.elim) (fun rw9 u9 t9 H1 locs ht hvm hw hB hz1 hk1 hS => ?_)
    obtain ⟨hP1, hD1⟩ := hB
    rw [ht] at hP1
    obtain ⟨hP, hD⟩ := va_joinP (X := XLW cy o3 o4 am f3 f4 r) (cx := [(o4, eD cy f4)]) (wr := ((o3, eL cy f3) :: WM cy am r)) (rx := [(o4, eD cy f4)]) (pl := WC cy ad ks g u) (pl1 := WC cy ad ks g u) hP hD [1] [0, 2, 3, 4, 5, 6, 7, 8, 9, 10, 11, 12] rfl rfl (by decide) (by decide) hk1 hFc hP1 hD1
    have hP : va_P (dC, dI) vwCl (XLW cy o3 o4 am f3 f4 r ++ WC cy ad ks g u) H1 := hP.part (X := ((o3, eL cy f3) :: WM cy am r) ++ [(o4, eD cy f4)]) (cx := XLW cy o3 o4 am f3 f4 r) [0, 12, 1, 2, 3, 4, 5, 6, 7, 8, 9, 10, 11] rfl
    have hD : va_D (fun q : Nat => s.heap.size ≤ q) (XLW cy o3 o4 am f3 f4 r ++ WC cy ad ks g u) := hD.part (X := ((o3, eL cy f3) :: WM cy am r) ++ [(o4, eD cy f4)]) (cx := XLW cy o3 o4 am f3 f4 r) [0, 12, 1, 2, 3, 4, 5, 6, 7, 8, 9, 10, 11] (by decide) rfl
    generalize H1 = H at hP hS ⊢
    clear hP1 hD1 hPc hDc hFc hk1 hz1 hvm ht
    refine lv_istore (lv' := [(6, .int rw9), (5, .int (nI (4 * n))), (4, .ref o4), (3, .ref o3), (2, .ref (am 0)), (1, .ref (ad .cl)), (0, .ref b)]) hx hb dL_law_940 hl (by decide) rfl (fun ls hl => ?_)
    refine lv_aload_n hx hb dL_law_942 rfl (lv_at hl 4 rfl) ?_
    refine lv_aload_n hx hb dL_law_943 rfl (lv_at hl 6 rfl) ?_
    refine lv_iload hx hb dL_law_944 (lv_at hl 1 rfl) ?_
    refine lv_iconst (v := 1) hx hb dL_law_946 (by decide) ?_
    refine lv_iadd hx hb dL_law_947 ?_
    refine my_topi (y := nI (4 * n + 1)) (nI_add (4 * n) 1) ?_
    refine va_sld hx hb hX hbl hbA hS (vp_in_nI (n := 4 * n + 1) (by omega) (by omega)) dL_law_948 ?_
    refine my_topi (y := xs (4 * n + 1)) (congrArg xs (nI_clamp (by omega))) ?_
    have hPc := hP.sub (ws' := (WM cy am r)) [2, 3, 4, 5, 6, 7, 8, 9, 10, 11, 12] rfl
    have hDc := hD.sub (ws' := (WM cy am r)) [2, 3, 4, 5, 6, 7, 8, 9, 10, 11, 12] (by decide) rfl
    have hFc := va_free (wc := (WM cy am r)) hD hS hA [2, 3, 4, 5, 6, 7, 8, 9, 10, 11, 12] rfl
    refine va_callf (va_runV (As := [.int (xs (4 * n + 1))]) (rest := []) ⟨hx, hb, hml, hown, hts⟩ (k_X8_busyPart l dC dI cy nb am r ((xs (4 * n + 1))) FP.fconst0 (th r 1) H.size e1) (cwV 1 hts (gV mw_937 mw_938 mw_939 mw_5 mw_940) rfl rfl rfl (by decide +kernel) ⟨Nat.le_of_ble_eq_true rfl, Nat.le_of_ble_eq_true rfl⟩) (my_preV hPc hK hDc hE hS hFc (va_recv (q := (RX8, TX8, 23)) hK hP (ci := 8) (q0 := 2) rfl rfl)) rfl rfl hl.1 rfl (lv_room (Nat.le_of_ble_eq_true rfl)) dL_law_949 ⟨by show _ ≤ 601024; omega, by show _ ≤ 7293034; omega⟩) hS (fun q _ h => hFc q h) hFc (fun rm9 u9 t9 H1 locs ht hvm hwm hB hz1 hk1 hS => ?_)
    obtain ⟨hP1, hD1⟩ := hB
    rw [ht] at hP1
    obtain ⟨hP, hD⟩ := va_joinQ (X := XLW cy o3 o4 am f3 f4 r) (cx := (WM cy am r)) (wr := [(o3, eL cy f3), (o4, eD cy f4)]) (w1 := (WM cy am (th r 1))) (pl := WC cy ad ks g u) hP hD [2, 3, 4, 5, 6, 7, 8, 9, 10, 11, 12] [0, 1] rfl rfl (by decide) (by decide) hk1 hFc hP1 hD1
    have hP : va_P (dC, dI) vwCl (XLW cy o3 o4 am f3 f4 (th r 1) ++ WC cy ad ks g u) H1 := hP
    have hD : va_D (fun q : Nat => s.heap.size ≤ q) (XLW cy o3 o4 am f3 f4 (th r 1) ++ WC cy ad ks g u) := hD
    generalize H1 = H at hP hS ⊢
    clear hP1 hD1 hPc hDc hFc hk1 hz1 hvm ht
    refine my_topf hwm ?_
    refine lv_fstore (lv' := [(7, .float FP.fconst0), (6, .int rw9), (5, .int (nI (4 * n))), (4, .ref o4), (3, .ref o3), (2, .ref (am 0)), (1, .ref (ad .cl)), (0, .ref b)]) hx hb dL_law_952 hl (by decide) rfl (fun ls hl => ?_)
    refine lv_goto (tgt := 1791) hx hb dL_law_954 (by decide) ?_
    refine W.widen (k := cells + 603) (n := slots + 9640) (by omega) (by omega) ?_
    exact K H locs ls ⟨ad, ks, g, u, (th r 1), f3, f4, hk, (hGI.thr).mono (by omega) (by omega) (by omega), hP, hD, hS, lv_sub hl [2, 3, 4, 5, 6, 7] rfl⟩
set_option maxHeartbeats 8000000 in
set_option maxRecDepth 100000 in
theorem law_c23 {p : Program} {e : Env} {s : State} {m : MethodId} {below : List Frame} {meth : Method} {c : Code} (l : Launch) (hst : l.stackTraces = false) {b L : Nat} {xs : Nat → Int32} (dC : Nat → ClassId) (dI : Nat → Nat → Nat) (cy : Nat → ClassId) (nb : Nat → Nat) (o3 o4 : Nat) (am : Nat → Nat) {n : Nat} (hn : n < 512) (hL : 4 * n + 4 ≤ L) (hL2 : L ≤ 2048) (C0 : LX p s m meth c b L xs dC dI cy nb) {Q : State → Prop} {H : Heap} {locs : List Loc} {ls : Array Slot} {cells slots : Nat} (hc : cells ≤ 400000) (hs : slots ≤ 6000000) (h : LSt s dC dI cy nb b o3 o4 am n (4 * n) H locs ls) (K : ∀ (H : Heap) (locs : List Loc) (ls : Array Slot), LSt s dC dI cy nb b o3 o4 am (n + 1) (4 * n) H locs ls → W p l e room_1 s m #[Value.ref b] below meth c H locs (cells + 603) (slots + 9640) Q (F0 m 1791 ls [])) : W p l e room_1 s m #[Value.ref b] below meth c H locs cells slots Q (F0 m 957 ls []) := by
  obtain ⟨hx, hb, hr, hml, hown, hts, hX, hbl, hlocks, hK, hE⟩ := C0
  have hA : ∀ q : Nat, s.heap.size ≤ q → (fun q : Nat => s.heap.size ≤ q) q := fun _ h => h
  have hbA : ¬ (fun q : Nat => s.heap.size ≤ q) b := Nat.not_le.mpr hbl
  obtain ⟨ad, ks, g, u, r, f3, f4, hk, hGI, hP, hD, hS, hl⟩ := h
  have h9 : QP (F8_bottleneck r) (C7_bottleneck g u) r := q_bottleneck hGI (by omega)
  obtain ⟨x, e1, e2⟩ := h9
  refine lv_aload_n hx hb dL_law_957 rfl (lv_at hl 4 rfl) ?_
  have hPc : va_P (dC, dI) vwCl (WC cy ad ks g u) H := hP.part (X := XLW cy o3 o4 am f3 f4 r) (cx := []) [] rfl
  have hDc : va_D (fun q : Nat => s.heap.size ≤ q) (WC cy ad ks g u) := hD.part (X := XLW cy o3 o4 am f3 f4 r) (cx := []) [] (by decide) rfl
  have hFc : ∀ q, va_A (WC cy ad ks g u) H.size q → s.heap.size ≤ q := va_freeP (X := XLW cy o3 o4 am f3 f4 r) (cx := []) hD hS hA [] rfl
  obtain ⟨q8, h8⟩ := wc_at (cy := cy) (ad := ad) (ks := ks) (g := g) (u := u) (κ := .cl) hk.1 True.intro
  refine va_calli (va_runV (As := []) (rest := []) ⟨hx, hb, hml, hown, hts⟩ (c_X7_bottleneck l dC dI cy nb ad ks g hk u  x H.size e2) (cwV 0 hts (gV mw_941 mw_942 mw_943 mw_2 mw_944) rfl rfl rfl (by decide +kernel) ⟨Nat.le_of_ble_eq_true rfl, Nat.le_of_ble_eq_true rfl⟩) (my_preV hPc hK hDc hE hS hFc (va_recv (q := (RX7, TX7, 12)) hK hPc (ci := 7) (q0 := q8) rfl h8)) rfl rfl hl.1 rfl (lv_room (Nat.le_of_ble_eq_true rfl)) dL_law_958 ⟨by show _ ≤ 601024; omega, by show _ ≤ 7293034; omega⟩) hS (fun q _ h => hFc q h) hFc (fun rw9 u9 t9 H1 locs ht hvm hw hB hz1 hk1 hS => ?_)
  clear h8
  obtain ⟨hP1, hD1⟩ := hB
  rw [ht] at hP1
  obtain ⟨hP, hD⟩ := va_joinP (X := XLW cy o3 o4 am f3 f4 r) (cx := []) (wr := XLW cy o3 o4 am f3 f4 r) (rx := []) (pl := WC cy ad ks g u) (pl1 := WC cy ad ks g u) hP hD [] [0, 1, 2, 3, 4, 5, 6, 7, 8, 9, 10, 11, 12] rfl rfl (by decide) (by decide) hk1 hFc hP1 hD1
  have hP : va_P (dC, dI) vwCl (XLW cy o3 o4 am f3 f4 r ++ WC cy ad ks g u) H1 := hP
  have hD : va_D (fun q : Nat => s.heap.size ≤ q) (XLW cy o3 o4 am f3 f4 r ++ WC cy ad ks g u) := hD
  generalize H1 = H at hP hS ⊢
  clear hP1 hD1 hPc hDc hFc hk1 hz1 hvm ht
  refine my_topi hw ?_
  refine lv_pop hx hb dL_law_961 rfl ?_
  refine lv_aload_n hx hb dL_law_962 rfl (lv_at hl 3 rfl) ?_
  have hPc := hP.sub (ws' := (WM cy am r)) [2, 3, 4, 5, 6, 7, 8, 9, 10, 11, 12] rfl
  have hDc := hD.sub (ws' := (WM cy am r)) [2, 3, 4, 5, 6, 7, 8, 9, 10, 11, 12] (by decide) rfl
  have hFc := va_free (wc := (WM cy am r)) hD hS hA [2, 3, 4, 5, 6, 7, 8, 9, 10, 11, 12] rfl
  refine va_calli (va_runV (As := []) (rest := []) ⟨hx, hb, hml, hown, hts⟩ (k_X8_bottleneck l dC dI cy nb am r  x (th r 0) H.size e1) (cwV 0 hts (gV mw_955 mw_956 mw_957 mw_5 mw_958) rfl rfl rfl (by decide +kernel) ⟨Nat.le_of_ble_eq_true rfl, Nat.le_of_ble_eq_true rfl⟩) (my_preV hPc hK hDc hE hS hFc (va_recv (q := (RX8, TX8, 23)) hK hP (ci := 8) (q0 := 2) rfl rfl)) rfl rfl hl.1 rfl (lv_room (Nat.le_of_ble_eq_true rfl)) dL_law_963 ⟨by show _ ≤ 601024; omega, by show _ ≤ 7293034; omega⟩) hS (fun q _ h => hFc q h) hFc (fun rm9 u9 t9 H1 locs ht hvm hwm hB hz1 hk1 hS => ?_)
  obtain ⟨hP1, hD1⟩ := hB
  rw [ht] at hP1
  obtain ⟨hP, hD⟩ := va_joinQ (X := XLW cy o3 o4 am f3 f4 r) (cx := (WM cy am r)) (wr := [(o3, eL cy f3), (o4, eD cy f4)]) (w1 := (WM cy am (th r 0))) (pl := WC cy ad ks g u) hP hD [2, 3, 4, 5, 6, 7, 8, 9, 10, 11, 12] [0, 1] rfl rfl (by decide) (by decide) hk1 hFc hP1 hD1
  have hP : va_P (dC, dI) vwCl (XLW cy o3 o4 am f3 f4 (th r 0) ++ WC cy ad ks g u) H1 := hP
  have hD : va_D (fun q : Nat => s.heap.size ≤ q) (XLW cy o3 o4 am f3 f4 (th r 0) ++ WC cy ad ks g u) := hD
  generalize H1 = H at hP hS ⊢
  clear hP1 hD1 hPc hDc hFc hk1 hz1 hvm ht
  refine my_topi hwm ?_
  refine lv_pop hx hb dL_law_966 rfl ?_
  refine lv_goto (tgt := 1791) hx hb dL_law_967 (by decide) ?_
  refine W.widen (k := cells + 603) (n := slots + 9640) (by omega) (by omega) ?_
  exact K H locs ls ⟨ad, ks, g, u, (th r 0), f3, f4, hk, (hGI.thr).mono (by omega) (by omega) (by omega), hP, hD, hS, lv_sub hl [0, 1, 2, 3, 4, 5] rfl⟩
set_option maxHeartbeats 8000000 in
set_option maxRecDepth 100000 in
theorem law_c24 {p : Program} {e : Env} {s : State} {m : MethodId} {below : List Frame} {meth : Method} {c : Code} (l : Launch) (hst : l.stackTraces = false) {b L : Nat} {xs : Nat → Int32} (dC : Nat → ClassId) (dI : Nat → Nat → Nat) (cy : Nat → ClassId) (nb : Nat → Nat) (o3 o4 : Nat) (am : Nat → Nat) {n : Nat} (hn : n < 512) (hL : 4 * n + 4 ≤ L) (hL2 : L ≤ 2048) (C0 : LX p s m meth c b L xs dC dI cy nb) {Q : State → Prop} {H : Heap} {locs : List Loc} {ls : Array Slot} {cells slots : Nat} (hc : cells ≤ 400000) (hs : slots ≤ 6000000) (h : LSt s dC dI cy nb b o3 o4 am n (4 * n) H locs ls) (K : ∀ (H : Heap) (locs : List Loc) (ls : Array Slot), LSt s dC dI cy nb b o3 o4 am (n + 1) (4 * n) H locs ls → W p l e room_1 s m #[Value.ref b] below meth c H locs (cells + 603) (slots + 9640) Q (F0 m 1791 ls [])) : W p l e room_1 s m #[Value.ref b] below meth c H locs cells slots Q (F0 m 970 ls []) := by
  obtain ⟨hx, hb, hr, hml, hown, hts, hX, hbl, hlocks, hK, hE⟩ := C0
  have hA : ∀ q : Nat, s.heap.size ≤ q → (fun q : Nat => s.heap.size ≤ q) q := fun _ h => h
  have hbA : ¬ (fun q : Nat => s.heap.size ≤ q) b := Nat.not_le.mpr hbl
  obtain ⟨ad, ks, g, u, r, f3, f4, hk, hGI, hP, hD, hS, hl⟩ := h
  have h9 : AT (F8_order r (xs (4 * n + 1))) (C7_order g u (xs (4 * n + 1))) r 0 (2001 * n) (602 * n + 1) := a_order hGI (by omega)
  rcases h9 with ⟨x, r2, c2, c2g, e1, e2, e3, e6⟩ | ⟨k, k1, k2, e1, e2⟩
  · refine lv_aload_n hx hb dL_law_970 rfl (lv_at hl 4 rfl) ?_
    refine lv_aload_n hx hb dL_law_971 rfl (lv_at hl 5 rfl) ?_
    refine lv_iload hx hb dL_law_972 (lv_at hl 0 rfl) ?_
    refine lv_iconst (v := 1) hx hb dL_law_974 (by decide) ?_
    refine lv_iadd hx hb dL_law_975 ?_
    refine my_topi (y := nI (4 * n + 1)) (nI_add (4 * n) 1) ?_
    refine va_sld hx hb hX hbl hbA hS (vp_in_nI (n := 4 * n + 1) (by omega) (by omega)) dL_law_976 ?_
    refine my_topi (y := xs (4 * n + 1)) (congrArg xs (nI_clamp (by omega))) ?_
    refine lv_aload_n hx hb dL_law_977 rfl (lv_at hl 2 rfl) ?_
    have hPc : va_P (dC, dI) vwCl ([(o3, eL cy f3)] ++ WC cy ad ks g u) H := hP.part (X := XLW cy o3 o4 am f3 f4 r) (cx := [(o3, eL cy f3)]) [0] rfl
    have hDc : va_D (fun q : Nat => s.heap.size ≤ q) ([(o3, eL cy f3)] ++ WC cy ad ks g u) := hD.part (X := XLW cy o3 o4 am f3 f4 r) (cx := [(o3, eL cy f3)]) [0] (by decide) rfl
    have hFc : ∀ q, va_A ([(o3, eL cy f3)] ++ WC cy ad ks g u) H.size q → s.heap.size ≤ q := va_freeP (X := XLW cy o3 o4 am f3 f4 r) (cx := [(o3, eL cy f3)]) hD hS hA [0] rfl
    refine vx_calli (vx_runSX (As := [.ref (ad .cl), .int (xs (4 * n + 1)), .ref o3]) (rest := []) ⟨hx, hb, hml, hown, hts⟩ (cn_order l hst dC dI cy nb ad ks g hk u ((xs (4 * n + 1))) o3 f3 x c2g c2 H.size e2) (vx_cwSW 3 hts (gSH mw_962 mw_963 mw_562 mw_964) rfl rfl rfl (by decide +kernel) ⟨Nat.le_of_ble_eq_true rfl, Nat.le_of_ble_eq_true rfl⟩) (my_preS hPc hK hDc hE hS hFc) rfl rfl hl.1 rfl (lv_room (Nat.le_of_ble_eq_true rfl)) dL_law_978 ⟨by show _ ≤ 601024; omega, by show _ ≤ 7293034; omega⟩) hS (fun q _ h => hFc q h) hFc (fun q _ h => hFc q h) (fun E9 ce9 q9 u9 t9 H1 locs1 ht9 hvm9 hp9 _ _ _ _ _ _ _ => hp9.elim) (fun rw9 u9 t9 H1 locs ht hvm hw hB hz1 hk1 hS => ?_)
    obtain ⟨ad', ks', hkz, axz, hP1, hD1⟩ := hB
    rw [ht] at hP1
    obtain ⟨hP, hD⟩ := va_joinP (X := XLW cy o3 o4 am f3 f4 r) (cx := [(o3, eL cy f3)]) (wr := ((o4, eD cy f4) :: WM cy am r)) (rx := [(o3, eL cy (vp_updL f3 ((0 : Int32).toNatClampNeg) (x.toInt64)))]) (pl := WC cy ad ks g u) (pl1 := WC cy ad' ks' c2g c2) hP hD [0] [1, 2, 3, 4, 5, 6, 7, 8, 9, 10, 11, 12] rfl rfl (by decide) (by decide) hk1 hFc hP1 hD1
    have hP : va_P (dC, dI) vwCl (XLW cy o3 o4 am (vp_updL f3 ((0 : Int32).toNatClampNeg) (x.toInt64)) f4 r ++ WC cy ad' ks' c2g c2) H1 := hP.part (X := ((o4, eD cy f4) :: WM cy am r) ++ [(o3, eL cy (vp_updL f3 ((0 : Int32).toNatClampNeg) (x.toInt64)))]) (cx := XLW cy o3 o4 am (vp_updL f3 ((0 : Int32).toNatClampNeg) (x.toInt64)) f4 r) [12, 0, 1, 2, 3, 4, 5, 6, 7, 8, 9, 10, 11] rfl
    have hD : va_D (fun q : Nat => s.heap.size ≤ q) (XLW cy o3 o4 am (vp_updL f3 ((0 : Int32).toNatClampNeg) (x.toInt64)) f4 r ++ WC cy ad' ks' c2g c2) := hD.part (X := ((o4, eD cy f4) :: WM cy am r) ++ [(o3, eL cy (vp_updL f3 ((0 : Int32).toNatClampNeg) (x.toInt64)))]) (cx := XLW cy o3 o4 am (vp_updL f3 ((0 : Int32).toNatClampNeg) (x.toInt64)) f4 r) [12, 0, 1, 2, 3, 4, 5, 6, 7, 8, 9, 10, 11] (by decide) rfl
    generalize H1 = H at hP hS ⊢
    have hl : lv_has ls 10 [(5, .int (nI (4 * n))), (4, .ref o4), (3, .ref o3), (2, .ref (am 0)), (1, .ref (ad' .cl)), (0, .ref b)] := by rw [(axz .cl True.intro).2]; exact hl
    clear hP1 hD1 hPc hDc hFc hk1 hz1 hvm ht
    refine lv_istore (lv' := [(6, .int rw9), (5, .int (nI (4 * n))), (4, .ref o4), (3, .ref o3), (2, .ref (am 0)), (1, .ref (ad' .cl)), (0, .ref b)]) hx hb dL_law_981 hl (by decide) rfl (fun ls hl => ?_)
    refine lv_aload_n hx hb dL_law_983 rfl (lv_at hl 4 rfl) ?_
    refine lv_aload_n hx hb dL_law_984 rfl (lv_at hl 6 rfl) ?_
    refine lv_iload hx hb dL_law_985 (lv_at hl 1 rfl) ?_
    refine lv_iconst (v := 1) hx hb dL_law_987 (by decide) ?_
    refine lv_iadd hx hb dL_law_988 ?_
    refine my_topi (y := nI (4 * n + 1)) (nI_add (4 * n) 1) ?_
    refine va_sld hx hb hX hbl hbA hS (vp_in_nI (n := 4 * n + 1) (by omega) (by omega)) dL_law_989 ?_
    refine my_topi (y := xs (4 * n + 1)) (congrArg xs (nI_clamp (by omega))) ?_
    have hPc := hP.sub (ws' := (WM cy am r)) [2, 3, 4, 5, 6, 7, 8, 9, 10, 11, 12] rfl
    have hDc := hD.sub (ws' := (WM cy am r)) [2, 3, 4, 5, 6, 7, 8, 9, 10, 11, 12] (by decide) rfl
    have hFc := va_free (wc := (WM cy am r)) hD hS hA [2, 3, 4, 5, 6, 7, 8, 9, 10, 11, 12] rfl
    refine va_calli (va_runV (As := [.int (xs (4 * n + 1))]) (rest := []) ⟨hx, hb, hml, hown, hts⟩ (k_X8_order l dC dI cy nb am r ((xs (4 * n + 1))) x (r2) H.size e1) (cwV 1 hts (gV mw_979 mw_980 mw_981 mw_5 mw_982) rfl rfl rfl (by decide +kernel) ⟨Nat.le_of_ble_eq_true rfl, Nat.le_of_ble_eq_true rfl⟩) (my_preV hPc hK hDc hE hS hFc (va_recv (q := (RX8, TX8, 23)) hK hP (ci := 8) (q0 := 2) rfl rfl)) rfl rfl hl.1 rfl (lv_room (Nat.le_of_ble_eq_true rfl)) dL_law_990 ⟨by show _ ≤ 601024; omega, by show _ ≤ 7293034; omega⟩) hS (fun q _ h => hFc q h) hFc (fun rm9 u9 t9 H1 locs ht hvm hwm hB hz1 hk1 hS => ?_)
    obtain ⟨hP1, hD1⟩ := hB
    rw [ht] at hP1
    obtain ⟨hP, hD⟩ := va_joinQ (X := XLW cy o3 o4 am (vp_updL f3 ((0 : Int32).toNatClampNeg) (x.toInt64)) f4 r) (cx := (WM cy am r)) (wr := [(o3, eL cy (vp_updL f3 ((0 : Int32).toNatClampNeg) (x.toInt64))), (o4, eD cy f4)]) (w1 := (WM cy am (r2))) (pl := WC cy ad' ks' c2g c2) hP hD [2, 3, 4, 5, 6, 7, 8, 9, 10, 11, 12] [0, 1] rfl rfl (by decide) (by decide) hk1 hFc hP1 hD1
    have hP : va_P (dC, dI) vwCl (XLW cy o3 o4 am (vp_updL f3 ((0 : Int32).toNatClampNeg) (x.toInt64)) f4 r2 ++ WC cy ad' ks' c2g c2) H1 := hP
    have hD : va_D (fun q : Nat => s.heap.size ≤ q) (XLW cy o3 o4 am (vp_updL f3 ((0 : Int32).toNatClampNeg) (x.toInt64)) f4 r2 ++ WC cy ad' ks' c2g c2) := hD
    generalize H1 = H at hP hS ⊢
    clear hP1 hD1 hPc hDc hFc hk1 hz1 hvm ht
    refine my_topi hwm ?_
    refine lv_istore (lv' := [(7, .int x), (6, .int rw9), (5, .int (nI (4 * n))), (4, .ref o4), (3, .ref o3), (2, .ref (am 0)), (1, .ref (ad' .cl)), (0, .ref b)]) hx hb dL_law_993 hl (by decide) rfl (fun ls hl => ?_)
    refine lv_goto (tgt := 1791) hx hb dL_law_995 (by decide) ?_
    refine W.widen (k := cells + 603) (n := slots + 9640) (by omega) (by omega) ?_
    exact K H locs ls ⟨ad', ks', c2g, c2, r2, (vp_updL f3 ((0 : Int32).toNatClampNeg) (x.toInt64)), f4, hkz, e3.mono (by omega) (by omega) (by omega), hP, hD, hS, lv_sub hl [2, 3, 4, 5, 6, 7] rfl⟩
  · have e2 : C7_order g u (xs (4 * n + 1)) = some (.inl (nI (k + 0))) := e2
    generalize hxx : (nI (k + 0)) = xk at e2
    have hxk : xk = 1 := x1_order e2
    refine lv_aload_n hx hb dL_law_970 rfl (lv_at hl 4 rfl) ?_
    refine lv_aload_n hx hb dL_law_971 rfl (lv_at hl 5 rfl) ?_
    refine lv_iload hx hb dL_law_972 (lv_at hl 0 rfl) ?_
    refine lv_iconst (v := 1) hx hb dL_law_974 (by decide) ?_
    refine lv_iadd hx hb dL_law_975 ?_
    refine my_topi (y := nI (4 * n + 1)) (nI_add (4 * n) 1) ?_
    refine va_sld hx hb hX hbl hbA hS (vp_in_nI (n := 4 * n + 1) (by omega) (by omega)) dL_law_976 ?_
    refine my_topi (y := xs (4 * n + 1)) (congrArg xs (nI_clamp (by omega))) ?_
    refine lv_aload_n hx hb dL_law_977 rfl (lv_at hl 2 rfl) ?_
    have hPc : va_P (dC, dI) vwCl ([(o3, eL cy f3)] ++ WC cy ad ks g u) H := hP.part (X := XLW cy o3 o4 am f3 f4 r) (cx := [(o3, eL cy f3)]) [0] rfl
    have hDc : va_D (fun q : Nat => s.heap.size ≤ q) ([(o3, eL cy f3)] ++ WC cy ad ks g u) := hD.part (X := XLW cy o3 o4 am f3 f4 r) (cx := [(o3, eL cy f3)]) [0] (by decide) rfl
    have hFc : ∀ q, va_A ([(o3, eL cy f3)] ++ WC cy ad ks g u) H.size q → s.heap.size ≤ q := va_freeP (X := XLW cy o3 o4 am f3 f4 r) (cx := [(o3, eL cy f3)]) hD hS hA [0] rfl
    refine vx_calli (vx_runSX (As := [.ref (ad .cl), .int (xs (4 * n + 1)), .ref o3]) (rest := []) ⟨hx, hb, hml, hown, hts⟩ (ct_order l hst dC dI cy nb ad ks g hk u ((xs (4 * n + 1))) o3 f3 xk H.size hxk e2) (vx_cwSW 3 hts (gSH mw_962 mw_963 mw_562 mw_964) rfl rfl rfl (by decide +kernel) ⟨Nat.le_of_ble_eq_true rfl, Nat.le_of_ble_eq_true rfl⟩) (my_preS hPc hK hDc hE hS hFc) rfl rfl hl.1 rfl (lv_room (Nat.le_of_ble_eq_true rfl)) dL_law_978 ⟨by show _ ≤ 601024; omega, by show _ ≤ 7293034; omega⟩) hS (fun q _ h => hFc q h) hFc (fun q _ h => hFc q h) (fun E9 ce9 q9 u9 t9 H1 locs1 ht9 hvm9 hp9 _ _ _ _ _ _ _ => hp9.elim) (fun rw9 u9 t9 H1 locs ht hvm hw hB hz1 hk1 hS => ?_)
    obtain ⟨hP1, hD1⟩ := hB
    rw [ht] at hP1
    obtain ⟨hP, hD⟩ := va_joinP (X := XLW cy o3 o4 am f3 f4 r) (cx := [(o3, eL cy f3)]) (wr := ((o4, eD cy f4) :: WM cy am r)) (rx := [(o3, eL cy f3)]) (pl := WC cy ad ks g u) (pl1 := WC cy ad ks g u) hP hD [0] [1, 2, 3, 4, 5, 6, 7, 8, 9, 10, 11, 12] rfl rfl (by decide) (by decide) hk1 hFc hP1 hD1
    have hP : va_P (dC, dI) vwCl (XLW cy o3 o4 am f3 f4 r ++ WC cy ad ks g u) H1 := hP.part (X := ((o4, eD cy f4) :: WM cy am r) ++ [(o3, eL cy f3)]) (cx := XLW cy o3 o4 am f3 f4 r) [12, 0, 1, 2, 3, 4, 5, 6, 7, 8, 9, 10, 11] rfl
    have hD : va_D (fun q : Nat => s.heap.size ≤ q) (XLW cy o3 o4 am f3 f4 r ++ WC cy ad ks g u) := hD.part (X := ((o4, eD cy f4) :: WM cy am r) ++ [(o3, eL cy f3)]) (cx := XLW cy o3 o4 am f3 f4 r) [12, 0, 1, 2, 3, 4, 5, 6, 7, 8, 9, 10, 11] (by decide) rfl
    generalize H1 = H at hP hS ⊢
    clear hP1 hD1 hPc hDc hFc hk1 hz1 hvm ht
    refine lv_istore (lv' := [(6, .int rw9), (5, .int (nI (4 * n))), (4, .ref o4), (3, .ref o3), (2, .ref (am 0)), (1, .ref (ad .cl)), (0, .ref b)]) hx hb dL_law_981 hl (by decide) rfl (fun ls hl => ?_)
    refine lv_aload_n hx hb dL_law_983 rfl (lv_at hl 4 rfl) ?_
    refine lv_aload_n hx hb dL_law_984 rfl (lv_at hl 6 rfl) ?_
    refine lv_iload hx hb dL_law_985 (lv_at hl 1 rfl) ?_
    refine lv_iconst (v := 1) hx hb dL_law_987 (by decide) ?_
    refine lv_iadd hx hb dL_law_988 ?_
    refine my_topi (y := nI (4 * n + 1)) (nI_add (4 * n) 1) ?_
    refine va_sld hx hb hX hbl hbA hS (vp_in_nI (n := 4 * n + 1) (by omega) (by omega)) dL_law_989 ?_
    refine my_topi (y := xs (4 * n + 1)) (congrArg xs (nI_clamp (by omega))) ?_
    have hPc := hP.sub (ws' := (WM cy am r)) [2, 3, 4, 5, 6, 7, 8, 9, 10, 11, 12] rfl
    have hDc := hD.sub (ws' := (WM cy am r)) [2, 3, 4, 5, 6, 7, 8, 9, 10, 11, 12] (by decide) rfl
    have hFc := va_free (wc := (WM cy am r)) hD hS hA [2, 3, 4, 5, 6, 7, 8, 9, 10, 11, 12] rfl
    refine va_calli (va_runV (As := [.int (xs (4 * n + 1))]) (rest := []) ⟨hx, hb, hml, hown, hts⟩ (k_X8_order l dC dI cy nb am r ((xs (4 * n + 1))) (nI 0) (th r k) H.size e1) (cwV 1 hts (gV mw_979 mw_980 mw_981 mw_5 mw_982) rfl rfl rfl (by decide +kernel) ⟨Nat.le_of_ble_eq_true rfl, Nat.le_of_ble_eq_true rfl⟩) (my_preV hPc hK hDc hE hS hFc (va_recv (q := (RX8, TX8, 23)) hK hP (ci := 8) (q0 := 2) rfl rfl)) rfl rfl hl.1 rfl (lv_room (Nat.le_of_ble_eq_true rfl)) dL_law_990 ⟨by show _ ≤ 601024; omega, by show _ ≤ 7293034; omega⟩) hS (fun q _ h => hFc q h) hFc (fun rm9 u9 t9 H1 locs ht hvm hwm hB hz1 hk1 hS => ?_)
    obtain ⟨hP1, hD1⟩ := hB
    rw [ht] at hP1
    obtain ⟨hP, hD⟩ := va_joinQ (X := XLW cy o3 o4 am f3 f4 r) (cx := (WM cy am r)) (wr := [(o3, eL cy f3), (o4, eD cy f4)]) (w1 := (WM cy am (th r k))) (pl := WC cy ad ks g u) hP hD [2, 3, 4, 5, 6, 7, 8, 9, 10, 11, 12] [0, 1] rfl rfl (by decide) (by decide) hk1 hFc hP1 hD1
    have hP : va_P (dC, dI) vwCl (XLW cy o3 o4 am f3 f4 (th r k) ++ WC cy ad ks g u) H1 := hP
    have hD : va_D (fun q : Nat => s.heap.size ≤ q) (XLW cy o3 o4 am f3 f4 (th r k) ++ WC cy ad ks g u) := hD
    generalize H1 = H at hP hS ⊢
    clear hP1 hD1 hPc hDc hFc hk1 hz1 hvm ht
    refine my_topi hwm ?_
    refine lv_istore (lv' := [(7, .int (nI 0)), (6, .int rw9), (5, .int (nI (4 * n))), (4, .ref o4), (3, .ref o3), (2, .ref (am 0)), (1, .ref (ad .cl)), (0, .ref b)]) hx hb dL_law_993 hl (by decide) rfl (fun ls hl => ?_)
    refine lv_goto (tgt := 1791) hx hb dL_law_995 (by decide) ?_
    refine W.widen (k := cells + 603) (n := slots + 9640) (by omega) (by omega) ?_
    exact K H locs ls ⟨ad, ks, g, u, (th r k), f3, f4, hk, (hGI.thr).mono (by omega) (by omega) (by omega), hP, hD, hS, lv_sub hl [2, 3, 4, 5, 6, 7] rfl⟩
set_option maxHeartbeats 8000000 in
set_option maxRecDepth 100000 in
theorem law_c25 {p : Program} {e : Env} {s : State} {m : MethodId} {below : List Frame} {meth : Method} {c : Code} (l : Launch) (hst : l.stackTraces = false) {b L : Nat} {xs : Nat → Int32} (dC : Nat → ClassId) (dI : Nat → Nat → Nat) (cy : Nat → ClassId) (nb : Nat → Nat) (o3 o4 : Nat) (am : Nat → Nat) {n : Nat} (hn : n < 512) (hL : 4 * n + 4 ≤ L) (hL2 : L ≤ 2048) (C0 : LX p s m meth c b L xs dC dI cy nb) {Q : State → Prop} {H : Heap} {locs : List Loc} {ls : Array Slot} {cells slots : Nat} (hc : cells ≤ 400000) (hs : slots ≤ 6000000) (h : LSt s dC dI cy nb b o3 o4 am n (4 * n) H locs ls) (K : ∀ (H : Heap) (locs : List Loc) (ls : Array Slot), LSt s dC dI cy nb b o3 o4 am (n + 1) (4 * n) H locs ls → W p l e room_1 s m #[Value.ref b] below meth c H locs (cells + 603) (slots + 9640) Q (F0 m 1791 ls [])) : W p l e room_1 s m #[Value.ref b] below meth c H locs cells slots Q (F0 m 998 ls []) := by
  obtain ⟨hx, hb, hr, hml, hown, hts, hX, hbl, hlocks, hK, hE⟩ := C0
  have hA : ∀ q : Nat, s.heap.size ≤ q → (fun q : Nat => s.heap.size ≤ q) q := fun _ h => h
  have hbA : ¬ (fun q : Nat => s.heap.size ≤ q) b := Nat.not_le.mpr hbl
  obtain ⟨ad, ks, g, u, r, f3, f4, hk, hGI, hP, hD, hS, hl⟩ := h
  have h9 : AT (F8_giveUp r (xs (4 * n + 1))) (C7_giveUp g u (xs (4 * n + 1))) r 0 (2001 * n) (602 * n) := a_giveUp hGI
  rcases h9 with ⟨x, r2, c2, c2g, e1, e2, e3, e6⟩ | ⟨k, k1, k2, e1, e2⟩
  · refine lv_aload_n hx hb dL_law_998 rfl (lv_at hl 4 rfl) ?_
    refine lv_aload_n hx hb dL_law_999 rfl (lv_at hl 5 rfl) ?_
    refine lv_iload hx hb dL_law_1000 (lv_at hl 0 rfl) ?_
    refine lv_iconst (v := 1) hx hb dL_law_1002 (by decide) ?_
    refine lv_iadd hx hb dL_law_1003 ?_
    refine my_topi (y := nI (4 * n + 1)) (nI_add (4 * n) 1) ?_
    refine va_sld hx hb hX hbl hbA hS (vp_in_nI (n := 4 * n + 1) (by omega) (by omega)) dL_law_1004 ?_
    refine my_topi (y := xs (4 * n + 1)) (congrArg xs (nI_clamp (by omega))) ?_
    refine lv_aload_n hx hb dL_law_1005 rfl (lv_at hl 2 rfl) ?_
    have hPc : va_P (dC, dI) vwCl ([(o3, eL cy f3)] ++ WC cy ad ks g u) H := hP.part (X := XLW cy o3 o4 am f3 f4 r) (cx := [(o3, eL cy f3)]) [0] rfl
    have hDc : va_D (fun q : Nat => s.heap.size ≤ q) ([(o3, eL cy f3)] ++ WC cy ad ks g u) := hD.part (X := XLW cy o3 o4 am f3 f4 r) (cx := [(o3, eL cy f3)]) [0] (by decide) rfl
    have hFc : ∀ q, va_A ([(o3, eL cy f3)] ++ WC cy ad ks g u) H.size q → s.heap.size ≤ q := va_freeP (X := XLW cy o3 o4 am f3 f4 r) (cx := [(o3, eL cy f3)]) hD hS hA [0] rfl
    refine vx_calli (vx_runSX (As := [.ref (ad .cl), .int (xs (4 * n + 1)), .ref o3]) (rest := []) ⟨hx, hb, hml, hown, hts⟩ (cn_giveUp l hst dC dI cy nb ad ks g hk u ((xs (4 * n + 1))) o3 f3 x c2g c2 H.size e2) (vx_cwSW 3 hts (gSH mw_987 mw_988 mw_562 mw_989) rfl rfl rfl (by decide +kernel) ⟨Nat.le_of_ble_eq_true rfl, Nat.le_of_ble_eq_true rfl⟩) (my_preS hPc hK hDc hE hS hFc) rfl rfl hl.1 rfl (lv_room (Nat.le_of_ble_eq_true rfl)) dL_law_1006 ⟨by show _ ≤ 601024; omega, by show _ ≤ 7293034; omega⟩) hS (fun q _ h => hFc q h) hFc (fun q _ h => hFc q h) (fun E9 ce9 q9 u9 t9 H1 locs1 ht9 hvm9 hp9 _ _ _ _ _ _ _ => hp9.elim) (fun rw9 u9 t9 H1 locs ht hvm hw hB hz1 hk1 hS => ?_)
    obtain ⟨ad', ks', hkz, axz, hP1, hD1⟩ := hB
    rw [ht] at hP1
    obtain ⟨hP, hD⟩ := va_joinP (X := XLW cy o3 o4 am f3 f4 r) (cx := [(o3, eL cy f3)]) (wr := ((o4, eD cy f4) :: WM cy am r)) (rx := [(o3, eL cy (vp_updL f3 ((0 : Int32).toNatClampNeg) (x.toInt64)))]) (pl := WC cy ad ks g u) (pl1 := WC cy ad' ks' c2g c2) hP hD [0] [1, 2, 3, 4, 5, 6, 7, 8, 9, 10, 11, 12] rfl rfl (by decide) (by decide) hk1 hFc hP1 hD1
    have hP : va_P (dC, dI) vwCl (XLW cy o3 o4 am (vp_updL f3 ((0 : Int32).toNatClampNeg) (x.toInt64)) f4 r ++ WC cy ad' ks' c2g c2) H1 := hP.part (X := ((o4, eD cy f4) :: WM cy am r) ++ [(o3, eL cy (vp_updL f3 ((0 : Int32).toNatClampNeg) (x.toInt64)))]) (cx := XLW cy o3 o4 am (vp_updL f3 ((0 : Int32).toNatClampNeg) (x.toInt64)) f4 r) [12, 0, 1, 2, 3, 4, 5, 6, 7, 8, 9, 10, 11] rfl
    have hD : va_D (fun q : Nat => s.heap.size ≤ q) (XLW cy o3 o4 am (vp_updL f3 ((0 : Int32).toNatClampNeg) (x.toInt64)) f4 r ++ WC cy ad' ks' c2g c2) := hD.part (X := ((o4, eD cy f4) :: WM cy am r) ++ [(o3, eL cy (vp_updL f3 ((0 : Int32).toNatClampNeg) (x.toInt64)))]) (cx := XLW cy o3 o4 am (vp_updL f3 ((0 : Int32).toNatClampNeg) (x.toInt64)) f4 r) [12, 0, 1, 2, 3, 4, 5, 6, 7, 8, 9, 10, 11] (by decide) rfl
    generalize H1 = H at hP hS ⊢
    have hl : lv_has ls 10 [(5, .int (nI (4 * n))), (4, .ref o4), (3, .ref o3), (2, .ref (am 0)), (1, .ref (ad' .cl)), (0, .ref b)] := by rw [(axz .cl True.intro).2]; exact hl
    clear hP1 hD1 hPc hDc hFc hk1 hz1 hvm ht
    refine lv_istore (lv' := [(6, .int rw9), (5, .int (nI (4 * n))), (4, .ref o4), (3, .ref o3), (2, .ref (am 0)), (1, .ref (ad' .cl)), (0, .ref b)]) hx hb dL_law_1009 hl (by decide) rfl (fun ls hl => ?_)
    refine lv_aload_n hx hb dL_law_1011 rfl (lv_at hl 4 rfl) ?_
    refine lv_aload_n hx hb dL_law_1012 rfl (lv_at hl 6 rfl) ?_
    refine lv_iload hx hb dL_law_1013 (lv_at hl 1 rfl) ?_
    refine lv_iconst (v := 1) hx hb dL_law_1015 (by decide) ?_
    refine lv_iadd hx hb dL_law_1016 ?_
    refine my_topi (y := nI (4 * n + 1)) (nI_add (4 * n) 1) ?_
    refine va_sld hx hb hX hbl hbA hS (vp_in_nI (n := 4 * n + 1) (by omega) (by omega)) dL_law_1017 ?_
    refine my_topi (y := xs (4 * n + 1)) (congrArg xs (nI_clamp (by omega))) ?_
    have hPc := hP.sub (ws' := (WM cy am r)) [2, 3, 4, 5, 6, 7, 8, 9, 10, 11, 12] rfl
    have hDc := hD.sub (ws' := (WM cy am r)) [2, 3, 4, 5, 6, 7, 8, 9, 10, 11, 12] (by decide) rfl
    have hFc := va_free (wc := (WM cy am r)) hD hS hA [2, 3, 4, 5, 6, 7, 8, 9, 10, 11, 12] rfl
    refine va_calli (va_runV (As := [.int (xs (4 * n + 1))]) (rest := []) ⟨hx, hb, hml, hown, hts⟩ (k_X8_giveUp l dC dI cy nb am r ((xs (4 * n + 1))) x (r2) H.size e1) (cwV 1 hts (gV mw_1013 mw_1014 mw_1015 mw_5 mw_1016) rfl rfl rfl (by decide +kernel) ⟨Nat.le_of_ble_eq_true rfl, Nat.le_of_ble_eq_true rfl⟩) (my_preV hPc hK hDc hE hS hFc (va_recv (q := (RX8, TX8, 23)) hK hP (ci := 8) (q0 := 2) rfl rfl)) rfl rfl hl.1 rfl (lv_room (Nat.le_of_ble_eq_true rfl)) dL_law_1018 ⟨by show _ ≤ 601024; omega, by show _ ≤ 7293034; omega⟩) hS (fun q _ h => hFc q h) hFc (fun rm9 u9 t9 H1 locs ht hvm hwm hB hz1 hk1 hS => ?_)
    obtain ⟨hP1, hD1⟩ := hB
    rw [ht] at hP1
    obtain ⟨hP, hD⟩ := va_joinQ (X := XLW cy o3 o4 am (vp_updL f3 ((0 : Int32).toNatClampNeg) (x.toInt64)) f4 r) (cx := (WM cy am r)) (wr := [(o3, eL cy (vp_updL f3 ((0 : Int32).toNatClampNeg) (x.toInt64))), (o4, eD cy f4)]) (w1 := (WM cy am (r2))) (pl := WC cy ad' ks' c2g c2) hP hD [2, 3, 4, 5, 6, 7, 8, 9, 10, 11, 12] [0, 1] rfl rfl (by decide) (by decide) hk1 hFc hP1 hD1
    have hP : va_P (dC, dI) vwCl (XLW cy o3 o4 am (vp_updL f3 ((0 : Int32).toNatClampNeg) (x.toInt64)) f4 r2 ++ WC cy ad' ks' c2g c2) H1 := hP
    have hD : va_D (fun q : Nat => s.heap.size ≤ q) (XLW cy o3 o4 am (vp_updL f3 ((0 : Int32).toNatClampNeg) (x.toInt64)) f4 r2 ++ WC cy ad' ks' c2g c2) := hD
    generalize H1 = H at hP hS ⊢
    clear hP1 hD1 hPc hDc hFc hk1 hz1 hvm ht
    refine my_topi hwm ?_
    refine lv_istore (lv' := [(7, .int x), (6, .int rw9), (5, .int (nI (4 * n))), (4, .ref o4), (3, .ref o3), (2, .ref (am 0)), (1, .ref (ad' .cl)), (0, .ref b)]) hx hb dL_law_1021 hl (by decide) rfl (fun ls hl => ?_)
    refine lv_goto (tgt := 1791) hx hb dL_law_1023 (by decide) ?_
    refine W.widen (k := cells + 603) (n := slots + 9640) (by omega) (by omega) ?_
    exact K H locs ls ⟨ad', ks', c2g, c2, r2, (vp_updL f3 ((0 : Int32).toNatClampNeg) (x.toInt64)), f4, hkz, e3.mono (by omega) (by omega) (by omega), hP, hD, hS, lv_sub hl [2, 3, 4, 5, 6, 7] rfl⟩
  · have e2 : C7_giveUp g u (xs (4 * n + 1)) = some (.inl (nI (k + 0))) := e2
    generalize hxx : (nI (k + 0)) = xk at e2
    have hxk : xk = 1 := x1_giveUp e2
    refine lv_aload_n hx hb dL_law_998 rfl (lv_at hl 4 rfl) ?_
    refine lv_aload_n hx hb dL_law_999 rfl (lv_at hl 5 rfl) ?_
    refine lv_iload hx hb dL_law_1000 (lv_at hl 0 rfl) ?_
    refine lv_iconst (v := 1) hx hb dL_law_1002 (by decide) ?_
    refine lv_iadd hx hb dL_law_1003 ?_
    refine my_topi (y := nI (4 * n + 1)) (nI_add (4 * n) 1) ?_
    refine va_sld hx hb hX hbl hbA hS (vp_in_nI (n := 4 * n + 1) (by omega) (by omega)) dL_law_1004 ?_
    refine my_topi (y := xs (4 * n + 1)) (congrArg xs (nI_clamp (by omega))) ?_
    refine lv_aload_n hx hb dL_law_1005 rfl (lv_at hl 2 rfl) ?_
    have hPc : va_P (dC, dI) vwCl ([(o3, eL cy f3)] ++ WC cy ad ks g u) H := hP.part (X := XLW cy o3 o4 am f3 f4 r) (cx := [(o3, eL cy f3)]) [0] rfl
    have hDc : va_D (fun q : Nat => s.heap.size ≤ q) ([(o3, eL cy f3)] ++ WC cy ad ks g u) := hD.part (X := XLW cy o3 o4 am f3 f4 r) (cx := [(o3, eL cy f3)]) [0] (by decide) rfl
    have hFc : ∀ q, va_A ([(o3, eL cy f3)] ++ WC cy ad ks g u) H.size q → s.heap.size ≤ q := va_freeP (X := XLW cy o3 o4 am f3 f4 r) (cx := [(o3, eL cy f3)]) hD hS hA [0] rfl
    refine vx_calli (vx_runSX (As := [.ref (ad .cl), .int (xs (4 * n + 1)), .ref o3]) (rest := []) ⟨hx, hb, hml, hown, hts⟩ (ct_giveUp l hst dC dI cy nb ad ks g hk u ((xs (4 * n + 1))) o3 f3 xk H.size hxk e2) (vx_cwSW 3 hts (gSH mw_987 mw_988 mw_562 mw_989) rfl rfl rfl (by decide +kernel) ⟨Nat.le_of_ble_eq_true rfl, Nat.le_of_ble_eq_true rfl⟩) (my_preS hPc hK hDc hE hS hFc) rfl rfl hl.1 rfl (lv_room (Nat.le_of_ble_eq_true rfl)) dL_law_1006 ⟨by show _ ≤ 601024; omega, by show _ ≤ 7293034; omega⟩) hS (fun q _ h => hFc q h) hFc (fun q _ h => hFc q h) (fun E9 ce9 q9 u9 t9 H1 locs1 ht9 hvm9 hp9 _ _ _ _ _ _ _ => hp9.elim) (fun rw9 u9 t9 H1 locs ht hvm hw hB hz1 hk1 hS => ?_)
    obtain ⟨hP1, hD1⟩ := hB
    rw [ht] at hP1
    obtain ⟨hP, hD⟩ := va_joinP (X := XLW cy o3 o4 am f3 f4 r) (cx := [(o3, eL cy f3)]) (wr := ((o4, eD cy f4) :: WM cy am r)) (rx := [(o3, eL cy f3)]) (pl := WC cy ad ks g u) (pl1 := WC cy ad ks g u) hP hD [0] [1, 2, 3, 4, 5, 6, 7, 8, 9, 10, 11, 12] rfl rfl (by decide) (by decide) hk1 hFc hP1 hD1
    have hP : va_P (dC, dI) vwCl (XLW cy o3 o4 am f3 f4 r ++ WC cy ad ks g u) H1 := hP.part (X := ((o4, eD cy f4) :: WM cy am r) ++ [(o3, eL cy f3)]) (cx := XLW cy o3 o4 am f3 f4 r) [12, 0, 1, 2, 3, 4, 5, 6, 7, 8, 9, 10, 11] rfl
    have hD : va_D (fun q : Nat => s.heap.size ≤ q) (XLW cy o3 o4 am f3 f4 r ++ WC cy ad ks g u) := hD.part (X := ((o4, eD cy f4) :: WM cy am r) ++ [(o3, eL cy f3)]) (cx := XLW cy o3 o4 am f3 f4 r) [12, 0, 1, 2, 3, 4, 5, 6, 7, 8, 9, 10, 11] (by decide) rfl
    generalize H1 = H at hP hS ⊢
    clear hP1 hD1 hPc hDc hFc hk1 hz1 hvm ht
    refine lv_istore (lv' := [(6, .int rw9), (5, .int (nI (4 * n))), (4, .ref o4), (3, .ref o3), (2, .ref (am 0)), (1, .ref (ad .cl)), (0, .ref b)]) hx hb dL_law_1009 hl (by decide) rfl (fun ls hl => ?_)
    refine lv_aload_n hx hb dL_law_1011 rfl (lv_at hl 4 rfl) ?_
    refine lv_aload_n hx hb dL_law_1012 rfl (lv_at hl 6 rfl) ?_
    refine lv_iload hx hb dL_law_1013 (lv_at hl 1 rfl) ?_
    refine lv_iconst (v := 1) hx hb dL_law_1015 (by decide) ?_
    refine lv_iadd hx hb dL_law_1016 ?_
    refine my_topi (y := nI (4 * n + 1)) (nI_add (4 * n) 1) ?_
    refine va_sld hx hb hX hbl hbA hS (vp_in_nI (n := 4 * n + 1) (by omega) (by omega)) dL_law_1017 ?_
    refine my_topi (y := xs (4 * n + 1)) (congrArg xs (nI_clamp (by omega))) ?_
    have hPc := hP.sub (ws' := (WM cy am r)) [2, 3, 4, 5, 6, 7, 8, 9, 10, 11, 12] rfl
    have hDc := hD.sub (ws' := (WM cy am r)) [2, 3, 4, 5, 6, 7, 8, 9, 10, 11, 12] (by decide) rfl
    have hFc := va_free (wc := (WM cy am r)) hD hS hA [2, 3, 4, 5, 6, 7, 8, 9, 10, 11, 12] rfl
    refine va_calli (va_runV (As := [.int (xs (4 * n + 1))]) (rest := []) ⟨hx, hb, hml, hown, hts⟩ (k_X8_giveUp l dC dI cy nb am r ((xs (4 * n + 1))) (nI 0) (th r k) H.size e1) (cwV 1 hts (gV mw_1013 mw_1014 mw_1015 mw_5 mw_1016) rfl rfl rfl (by decide +kernel) ⟨Nat.le_of_ble_eq_true rfl, Nat.le_of_ble_eq_true rfl⟩) (my_preV hPc hK hDc hE hS hFc (va_recv (q := (RX8, TX8, 23)) hK hP (ci := 8) (q0 := 2) rfl rfl)) rfl rfl hl.1 rfl (lv_room (Nat.le_of_ble_eq_true rfl)) dL_law_1018 ⟨by show _ ≤ 601024; omega, by show _ ≤ 7293034; omega⟩) hS (fun q _ h => hFc q h) hFc (fun rm9 u9 t9 H1 locs ht hvm hwm hB hz1 hk1 hS => ?_)
    obtain ⟨hP1, hD1⟩ := hB
    rw [ht] at hP1
    obtain ⟨hP, hD⟩ := va_joinQ (X := XLW cy o3 o4 am f3 f4 r) (cx := (WM cy am r)) (wr := [(o3, eL cy f3), (o4, eD cy f4)]) (w1 := (WM cy am (th r k))) (pl := WC cy ad ks g u) hP hD [2, 3, 4, 5, 6, 7, 8, 9, 10, 11, 12] [0, 1] rfl rfl (by decide) (by decide) hk1 hFc hP1 hD1
    have hP : va_P (dC, dI) vwCl (XLW cy o3 o4 am f3 f4 (th r k) ++ WC cy ad ks g u) H1 := hP
    have hD : va_D (fun q : Nat => s.heap.size ≤ q) (XLW cy o3 o4 am f3 f4 (th r k) ++ WC cy ad ks g u) := hD
    generalize H1 = H at hP hS ⊢
    clear hP1 hD1 hPc hDc hFc hk1 hz1 hvm ht
    refine my_topi hwm ?_
    refine lv_istore (lv' := [(7, .int (nI 0)), (6, .int rw9), (5, .int (nI (4 * n))), (4, .ref o4), (3, .ref o3), (2, .ref (am 0)), (1, .ref (ad .cl)), (0, .ref b)]) hx hb dL_law_1021 hl (by decide) rfl (fun ls hl => ?_)
    refine lv_goto (tgt := 1791) hx hb dL_law_1023 (by decide) ?_
    refine W.widen (k := cells + 603) (n := slots + 9640) (by omega) (by omega) ?_
    exact K H locs ls ⟨ad, ks, g, u, (th r k), f3, f4, hk, (hGI.thr).mono (by omega) (by omega) (by omega), hP, hD, hS, lv_sub hl [2, 3, 4, 5, 6, 7] rfl⟩
set_option maxHeartbeats 8000000 in
set_option maxRecDepth 100000 in
theorem law_c26 {p : Program} {e : Env} {s : State} {m : MethodId} {below : List Frame} {meth : Method} {c : Code} (l : Launch) (hst : l.stackTraces = false) {b L : Nat} {xs : Nat → Int32} (dC : Nat → ClassId) (dI : Nat → Nat → Nat) (cy : Nat → ClassId) (nb : Nat → Nat) (o3 o4 : Nat) (am : Nat → Nat) {n : Nat} (hn : n < 512) (hL : 4 * n + 4 ≤ L) (hL2 : L ≤ 2048) (C0 : LX p s m meth c b L xs dC dI cy nb) {Q : State → Prop} {H : Heap} {locs : List Loc} {ls : Array Slot} {cells slots : Nat} (hc : cells ≤ 400000) (hs : slots ≤ 6000000) (h : LSt s dC dI cy nb b o3 o4 am n (4 * n) H locs ls) (K : ∀ (H : Heap) (locs : List Loc) (ls : Array Slot), LSt s dC dI cy nb b o3 o4 am (n + 1) (4 * n) H locs ls → W p l e room_1 s m #[Value.ref b] below meth c H locs (cells + 603) (slots + 9640) Q (F0 m 1791 ls [])) : W p l e room_1 s m #[Value.ref b] below meth c H locs cells slots Q (F0 m 1026 ls []) := by
  obtain ⟨hx, hb, hr, hml, hown, hts, hX, hbl, hlocks, hK, hE⟩ := C0
  have hA : ∀ q : Nat, s.heap.size ≤ q → (fun q : Nat => s.heap.size ≤ q) q := fun _ h => h
  have hbA : ¬ (fun q : Nat => s.heap.size ≤ q) b := Nat.not_le.mpr hbl
  obtain ⟨ad, ks, g, u, r, f3, f4, hk, hGI, hP, hD, hS, hl⟩ := h
  have h9 : AT (F8_setRank r (xs (4 * n + 1)) (xs (4 * n + 2))) (C7_setRank g u (xs (4 * n + 1)) (xs (4 * n + 2))) r 0 (2001 * n) (602 * n) := a_setRank hGI
  rcases h9 with ⟨x, r2, c2, c2g, e1, e2, e3, e6⟩ | ⟨k, k1, k2, e1, e2⟩
  · refine lv_aload_n hx hb dL_law_1026 rfl (lv_at hl 4 rfl) ?_
    refine lv_aload_n hx hb dL_law_1027 rfl (lv_at hl 5 rfl) ?_
    refine lv_iload hx hb dL_law_1028 (lv_at hl 0 rfl) ?_
    refine lv_iconst (v := 1) hx hb dL_law_1030 (by decide) ?_
    refine lv_iadd hx hb dL_law_1031 ?_
    refine my_topi (y := nI (4 * n + 1)) (nI_add (4 * n) 1) ?_
    refine va_sld hx hb hX hbl hbA hS (vp_in_nI (n := 4 * n + 1) (by omega) (by omega)) dL_law_1032 ?_
    refine my_topi (y := xs (4 * n + 1)) (congrArg xs (nI_clamp (by omega))) ?_
    refine lv_aload_n hx hb dL_law_1033 rfl (lv_at hl 5 rfl) ?_
    refine lv_iload hx hb dL_law_1034 (lv_at hl 0 rfl) ?_
    refine lv_iconst (v := 2) hx hb dL_law_1036 (by decide) ?_
    refine lv_iadd hx hb dL_law_1037 ?_
    refine my_topi (y := nI (4 * n + 2)) (nI_add (4 * n) 2) ?_
    refine va_sld hx hb hX hbl hbA hS (vp_in_nI (n := 4 * n + 2) (by omega) (by omega)) dL_law_1038 ?_
    refine my_topi (y := xs (4 * n + 2)) (congrArg xs (nI_clamp (by omega))) ?_
    refine lv_aload_n hx hb dL_law_1039 rfl (lv_at hl 2 rfl) ?_
    have hPc : va_P (dC, dI) vwCl ([(o3, eL cy f3)] ++ WC cy ad ks g u) H := hP.part (X := XLW cy o3 o4 am f3 f4 r) (cx := [(o3, eL cy f3)]) [0] rfl
    have hDc : va_D (fun q : Nat => s.heap.size ≤ q) ([(o3, eL cy f3)] ++ WC cy ad ks g u) := hD.part (X := XLW cy o3 o4 am f3 f4 r) (cx := [(o3, eL cy f3)]) [0] (by decide) rfl
    have hFc : ∀ q, va_A ([(o3, eL cy f3)] ++ WC cy ad ks g u) H.size q → s.heap.size ≤ q := va_freeP (X := XLW cy o3 o4 am f3 f4 r) (cx := [(o3, eL cy f3)]) hD hS hA [0] rfl
    refine vx_calli (vx_runSX (As := [.ref (ad .cl), .int (xs (4 * n + 1)), .int (xs (4 * n + 2)), .ref o3]) (rest := []) ⟨hx, hb, hml, hown, hts⟩ (cn_setRank l hst dC dI cy nb ad ks g hk u ((xs (4 * n + 1))) ((xs (4 * n + 2))) o3 f3 x c2g c2 H.size e2) (vx_cwSW 4 hts (gSH mw_1017 mw_1018 mw_562 mw_1019) rfl rfl rfl (by decide +kernel) ⟨Nat.le_of_ble_eq_true rfl, Nat.le_of_ble_eq_true rfl⟩) (my_preS hPc hK hDc hE hS hFc) rfl rfl hl.1 rfl (lv_room (Nat.le_of_ble_eq_true rfl)) dL_law_1040 ⟨by show _ ≤ 601024; omega, by show _ ≤ 7293034; omega⟩) hS (fun q _ h => hFc q h) hFc (fun q _ h => hFc q h) (fun E9 ce9 q9 u9 t9 H1 locs1 ht9 hvm9 hp9 _ _ _ _ _ _ _ => hp9.elim) (fun rw9 u9 t9 H1 locs ht hvm hw hB hz1 hk1 hS => ?_)
    obtain ⟨ad', ks', hkz, axz, hP1, hD1⟩ := hB
    rw [ht] at hP1
    obtain ⟨hP, hD⟩ := va_joinP (X := XLW cy o3 o4 am f3 f4 r) (cx := [(o3, eL cy f3)]) (wr := ((o4, eD cy f4) :: WM cy am r)) (rx := [(o3, eL cy (vp_updL f3 ((0 : Int32).toNatClampNeg) (x.toInt64)))]) (pl := WC cy ad ks g u) (pl1 := WC cy ad' ks' c2g c2) hP hD [0] [1, 2, 3, 4, 5, 6, 7, 8, 9, 10, 11, 12] rfl rfl (by decide) (by decide) hk1 hFc hP1 hD1
    have hP : va_P (dC, dI) vwCl (XLW cy o3 o4 am (vp_updL f3 ((0 : Int32).toNatClampNeg) (x.toInt64)) f4 r ++ WC cy ad' ks' c2g c2) H1 := hP.part (X := ((o4, eD cy f4) :: WM cy am r) ++ [(o3, eL cy (vp_updL f3 ((0 : Int32).toNatClampNeg) (x.toInt64)))]) (cx := XLW cy o3 o4 am (vp_updL f3 ((0 : Int32).toNatClampNeg) (x.toInt64)) f4 r) [12, 0, 1, 2, 3, 4, 5, 6, 7, 8, 9, 10, 11] rfl
    have hD : va_D (fun q : Nat => s.heap.size ≤ q) (XLW cy o3 o4 am (vp_updL f3 ((0 : Int32).toNatClampNeg) (x.toInt64)) f4 r ++ WC cy ad' ks' c2g c2) := hD.part (X := ((o4, eD cy f4) :: WM cy am r) ++ [(o3, eL cy (vp_updL f3 ((0 : Int32).toNatClampNeg) (x.toInt64)))]) (cx := XLW cy o3 o4 am (vp_updL f3 ((0 : Int32).toNatClampNeg) (x.toInt64)) f4 r) [12, 0, 1, 2, 3, 4, 5, 6, 7, 8, 9, 10, 11] (by decide) rfl
    generalize H1 = H at hP hS ⊢
    have hl : lv_has ls 10 [(5, .int (nI (4 * n))), (4, .ref o4), (3, .ref o3), (2, .ref (am 0)), (1, .ref (ad' .cl)), (0, .ref b)] := by rw [(axz .cl True.intro).2]; exact hl
    clear hP1 hD1 hPc hDc hFc hk1 hz1 hvm ht
    refine lv_istore (lv' := [(6, .int rw9), (5, .int (nI (4 * n))), (4, .ref o4), (3, .ref o3), (2, .ref (am 0)), (1, .ref (ad' .cl)), (0, .ref b)]) hx hb dL_law_1043 hl (by decide) rfl (fun ls hl => ?_)
    refine lv_aload_n hx hb dL_law_1045 rfl (lv_at hl 4 rfl) ?_
    refine lv_aload_n hx hb dL_law_1046 rfl (lv_at hl 6 rfl) ?_
    refine lv_iload hx hb dL_law_1047 (lv_at hl 1 rfl) ?_
    refine lv_iconst (v := 1) hx hb dL_law_1049 (by decide) ?_
    refine lv_iadd hx hb dL_law_1050 ?_
    refine my_topi (y := nI (4 * n + 1)) (nI_add (4 * n) 1) ?_
    refine va_sld hx hb hX hbl hbA hS (vp_in_nI (n := 4 * n + 1) (by omega) (by omega)) dL_law_1051 ?_
    refine my_topi (y := xs (4 * n + 1)) (congrArg xs (nI_clamp (by omega))) ?_
    refine lv_aload_n hx hb dL_law_1052 rfl (lv_at hl 6 rfl) ?_
    refine lv_iload hx hb dL_law_1053 (lv_at hl 1 rfl) ?_
    refine lv_iconst (v := 2) hx hb dL_law_1055 (by decide) ?_
    refine lv_iadd hx hb dL_law_1056 ?_
    refine my_topi (y := nI (4 * n + 2)) (nI_add (4 * n) 2) ?_
    refine va_sld hx hb hX hbl hbA hS (vp_in_nI (n := 4 * n + 2) (by omega) (by omega)) dL_law_1057 ?_
    refine my_topi (y := xs (4 * n + 2)) (congrArg xs (nI_clamp (by omega))) ?_
    have hPc := hP.sub (ws' := (WM cy am r)) [2, 3, 4, 5, 6, 7, 8, 9, 10, 11, 12] rfl
    have hDc := hD.sub (ws' := (WM cy am r)) [2, 3, 4, 5, 6, 7, 8, 9, 10, 11, 12] (by decide) rfl
    have hFc := va_free (wc := (WM cy am r)) hD hS hA [2, 3, 4, 5, 6, 7, 8, 9, 10, 11, 12] rfl
    refine va_calli (va_runV (As := [.int (xs (4 * n + 1)), .int (xs (4 * n + 2))]) (rest := []) ⟨hx, hb, hml, hown, hts⟩ (k_X8_setRank l dC dI cy nb am r ((xs (4 * n + 1))) ((xs (4 * n + 2))) x (r2) H.size e1) (cwV 2 hts (gV mw_1024 mw_1025 mw_1026 mw_5 mw_1027) rfl rfl rfl (by decide +kernel) ⟨Nat.le_of_ble_eq_true rfl, Nat.le_of_ble_eq_true rfl⟩) (my_preV hPc hK hDc hE hS hFc (va_recv (q := (RX8, TX8, 23)) hK hP (ci := 8) (q0 := 2) rfl rfl)) rfl rfl hl.1 rfl (lv_room (Nat.le_of_ble_eq_true rfl)) dL_law_1058 ⟨by show _ ≤ 601024; omega, by show _ ≤ 7293034; omega⟩) hS (fun q _ h => hFc q h) hFc (fun rm9 u9 t9 H1 locs ht hvm hwm hB hz1 hk1 hS => ?_)
    obtain ⟨hP1, hD1⟩ := hB
    rw [ht] at hP1
    obtain ⟨hP, hD⟩ := va_joinQ (X := XLW cy o3 o4 am (vp_updL f3 ((0 : Int32).toNatClampNeg) (x.toInt64)) f4 r) (cx := (WM cy am r)) (wr := [(o3, eL cy (vp_updL f3 ((0 : Int32).toNatClampNeg) (x.toInt64))), (o4, eD cy f4)]) (w1 := (WM cy am (r2))) (pl := WC cy ad' ks' c2g c2) hP hD [2, 3, 4, 5, 6, 7, 8, 9, 10, 11, 12] [0, 1] rfl rfl (by decide) (by decide) hk1 hFc hP1 hD1
    have hP : va_P (dC, dI) vwCl (XLW cy o3 o4 am (vp_updL f3 ((0 : Int32).toNatClampNeg) (x.toInt64)) f4 r2 ++ WC cy ad' ks' c2g c2) H1 := hP
    have hD : va_D (fun q : Nat => s.heap.size ≤ q) (XLW cy o3 o4 am (vp_updL f3 ((0 : Int32).toNatClampNeg) (x.toInt64)) f4 r2 ++ WC cy ad' ks' c2g c2) := hD
    generalize H1 = H at hP hS ⊢
    clear hP1 hD1 hPc hDc hFc hk1 hz1 hvm ht
    refine my_topi hwm ?_
    refine lv_istore (lv' := [(7, .int x), (6, .int rw9), (5, .int (nI (4 * n))), (4, .ref o4), (3, .ref o3), (2, .ref (am 0)), (1, .ref (ad' .cl)), (0, .ref b)]) hx hb dL_law_1061 hl (by decide) rfl (fun ls hl => ?_)
    refine lv_goto (tgt := 1791) hx hb dL_law_1063 (by decide) ?_
    refine W.widen (k := cells + 603) (n := slots + 9640) (by omega) (by omega) ?_
    exact K H locs ls ⟨ad', ks', c2g, c2, r2, (vp_updL f3 ((0 : Int32).toNatClampNeg) (x.toInt64)), f4, hkz, e3.mono (by omega) (by omega) (by omega), hP, hD, hS, lv_sub hl [2, 3, 4, 5, 6, 7] rfl⟩
  · have e2 : C7_setRank g u (xs (4 * n + 1)) (xs (4 * n + 2)) = some (.inl (nI (k + 0))) := e2
    generalize hxx : (nI (k + 0)) = xk at e2
    refine lv_aload_n hx hb dL_law_1026 rfl (lv_at hl 4 rfl) ?_
    refine lv_aload_n hx hb dL_law_1027 rfl (lv_at hl 5 rfl) ?_
    refine lv_iload hx hb dL_law_1028 (lv_at hl 0 rfl) ?_
    refine lv_iconst (v := 1) hx hb dL_law_1030 (by decide) ?_
    refine lv_iadd hx hb dL_law_1031 ?_
    refine my_topi (y := nI (4 * n + 1)) (nI_add (4 * n) 1) ?_
    refine va_sld hx hb hX hbl hbA hS (vp_in_nI (n := 4 * n + 1) (by omega) (by omega)) dL_law_1032 ?_
    refine my_topi (y := xs (4 * n + 1)) (congrArg xs (nI_clamp (by omega))) ?_
    refine lv_aload_n hx hb dL_law_1033 rfl (lv_at hl 5 rfl) ?_
    refine lv_iload hx hb dL_law_1034 (lv_at hl 0 rfl) ?_
    refine lv_iconst (v := 2) hx hb dL_law_1036 (by decide) ?_
    refine lv_iadd hx hb dL_law_1037 ?_
    refine my_topi (y := nI (4 * n + 2)) (nI_add (4 * n) 2) ?_
    refine va_sld hx hb hX hbl hbA hS (vp_in_nI (n := 4 * n + 2) (by omega) (by omega)) dL_law_1038 ?_
    refine my_topi (y := xs (4 * n + 2)) (congrArg xs (nI_clamp (by omega))) ?_
    refine lv_aload_n hx hb dL_law_1039 rfl (lv_at hl 2 rfl) ?_
    have hPc : va_P (dC, dI) vwCl ([(o3, eL cy f3)] ++ WC cy ad ks g u) H := hP.part (X := XLW cy o3 o4 am f3 f4 r) (cx := [(o3, eL cy f3)]) [0] rfl
    have hDc : va_D (fun q : Nat => s.heap.size ≤ q) ([(o3, eL cy f3)] ++ WC cy ad ks g u) := hD.part (X := XLW cy o3 o4 am f3 f4 r) (cx := [(o3, eL cy f3)]) [0] (by decide) rfl
    have hFc : ∀ q, va_A ([(o3, eL cy f3)] ++ WC cy ad ks g u) H.size q → s.heap.size ≤ q := va_freeP (X := XLW cy o3 o4 am f3 f4 r) (cx := [(o3, eL cy f3)]) hD hS hA [0] rfl
    refine vx_calli (vx_runSX (As := [.ref (ad .cl), .int (xs (4 * n + 1)), .int (xs (4 * n + 2)), .ref o3]) (rest := []) ⟨hx, hb, hml, hown, hts⟩ (ct_setRank l hst dC dI cy nb ad ks g hk u ((xs (4 * n + 1))) ((xs (4 * n + 2))) o3 f3 xk H.size e2) (vx_cwSW 4 hts (gSH mw_1017 mw_1018 mw_562 mw_1019) rfl rfl rfl (by decide +kernel) ⟨Nat.le_of_ble_eq_true rfl, Nat.le_of_ble_eq_true rfl⟩) (my_preS hPc hK hDc hE hS hFc) rfl rfl hl.1 rfl (lv_room (Nat.le_of_ble_eq_true rfl)) dL_law_1040 ⟨by show _ ≤ 601024; omega, by show _ ≤ 7293034; omega⟩) hS (fun q _ h => hFc q h) hFc (fun q _ h => hFc q h) (fun E9 ce9 q9 u9 t9 H1 locs1 ht9 hvm9 hp9 _ _ _ _ _ _ _ => hp9.elim) (fun rw9 u9 t9 H1 locs ht hvm hw hB hz1 hk1 hS => ?_)
    obtain ⟨hP1, hD1⟩ := hB
    rw [ht] at hP1
    obtain ⟨hP, hD⟩ := va_joinP (X := XLW cy o3 o4 am f3 f4 r) (cx := [(o3, eL cy f3)]) (wr := ((o4, eD cy f4) :: WM cy am r)) (rx := [(o3, eL cy f3)]) (pl := WC cy ad ks g u) (pl1 := WC cy ad ks g u) hP hD [0] [1, 2, 3, 4, 5, 6, 7, 8, 9, 10, 11, 12] rfl rfl (by decide) (by decide) hk1 hFc hP1 hD1
    have hP : va_P (dC, dI) vwCl (XLW cy o3 o4 am f3 f4 r ++ WC cy ad ks g u) H1 := hP.part (X := ((o4, eD cy f4) :: WM cy am r) ++ [(o3, eL cy f3)]) (cx := XLW cy o3 o4 am f3 f4 r) [12, 0, 1, 2, 3, 4, 5, 6, 7, 8, 9, 10, 11] rfl
    have hD : va_D (fun q : Nat => s.heap.size ≤ q) (XLW cy o3 o4 am f3 f4 r ++ WC cy ad ks g u) := hD.part (X := ((o4, eD cy f4) :: WM cy am r) ++ [(o3, eL cy f3)]) (cx := XLW cy o3 o4 am f3 f4 r) [12, 0, 1, 2, 3, 4, 5, 6, 7, 8, 9, 10, 11] (by decide) rfl
    generalize H1 = H at hP hS ⊢
    clear hP1 hD1 hPc hDc hFc hk1 hz1 hvm ht
    refine lv_istore (lv' := [(6, .int rw9), (5, .int (nI (4 * n))), (4, .ref o4), (3, .ref o3), (2, .ref (am 0)), (1, .ref (ad .cl)), (0, .ref b)]) hx hb dL_law_1043 hl (by decide) rfl (fun ls hl => ?_)
    refine lv_aload_n hx hb dL_law_1045 rfl (lv_at hl 4 rfl) ?_
    refine lv_aload_n hx hb dL_law_1046 rfl (lv_at hl 6 rfl) ?_
    refine lv_iload hx hb dL_law_1047 (lv_at hl 1 rfl) ?_
    refine lv_iconst (v := 1) hx hb dL_law_1049 (by decide) ?_
    refine lv_iadd hx hb dL_law_1050 ?_
    refine my_topi (y := nI (4 * n + 1)) (nI_add (4 * n) 1) ?_
    refine va_sld hx hb hX hbl hbA hS (vp_in_nI (n := 4 * n + 1) (by omega) (by omega)) dL_law_1051 ?_
    refine my_topi (y := xs (4 * n + 1)) (congrArg xs (nI_clamp (by omega))) ?_
    refine lv_aload_n hx hb dL_law_1052 rfl (lv_at hl 6 rfl) ?_
    refine lv_iload hx hb dL_law_1053 (lv_at hl 1 rfl) ?_
    refine lv_iconst (v := 2) hx hb dL_law_1055 (by decide) ?_
    refine lv_iadd hx hb dL_law_1056 ?_
    refine my_topi (y := nI (4 * n + 2)) (nI_add (4 * n) 2) ?_
    refine va_sld hx hb hX hbl hbA hS (vp_in_nI (n := 4 * n + 2) (by omega) (by omega)) dL_law_1057 ?_
    refine my_topi (y := xs (4 * n + 2)) (congrArg xs (nI_clamp (by omega))) ?_
    have hPc := hP.sub (ws' := (WM cy am r)) [2, 3, 4, 5, 6, 7, 8, 9, 10, 11, 12] rfl
    have hDc := hD.sub (ws' := (WM cy am r)) [2, 3, 4, 5, 6, 7, 8, 9, 10, 11, 12] (by decide) rfl
    have hFc := va_free (wc := (WM cy am r)) hD hS hA [2, 3, 4, 5, 6, 7, 8, 9, 10, 11, 12] rfl
    refine va_calli (va_runV (As := [.int (xs (4 * n + 1)), .int (xs (4 * n + 2))]) (rest := []) ⟨hx, hb, hml, hown, hts⟩ (k_X8_setRank l dC dI cy nb am r ((xs (4 * n + 1))) ((xs (4 * n + 2))) (nI 0) (th r k) H.size e1) (cwV 2 hts (gV mw_1024 mw_1025 mw_1026 mw_5 mw_1027) rfl rfl rfl (by decide +kernel) ⟨Nat.le_of_ble_eq_true rfl, Nat.le_of_ble_eq_true rfl⟩) (my_preV hPc hK hDc hE hS hFc (va_recv (q := (RX8, TX8, 23)) hK hP (ci := 8) (q0 := 2) rfl rfl)) rfl rfl hl.1 rfl (lv_room (Nat.le_of_ble_eq_true rfl)) dL_law_1058 ⟨by show _ ≤ 601024; omega, by show _ ≤ 7293034; omega⟩) hS (fun q _ h => hFc q h) hFc (fun rm9 u9 t9 H1 locs ht hvm hwm hB hz1 hk1 hS => ?_)
    obtain ⟨hP1, hD1⟩ := hB
    rw [ht] at hP1
    obtain ⟨hP, hD⟩ := va_joinQ (X := XLW cy o3 o4 am f3 f4 r) (cx := (WM cy am r)) (wr := [(o3, eL cy f3), (o4, eD cy f4)]) (w1 := (WM cy am (th r k))) (pl := WC cy ad ks g u) hP hD [2, 3, 4, 5, 6, 7, 8, 9, 10, 11, 12] [0, 1] rfl rfl (by decide) (by decide) hk1 hFc hP1 hD1
    have hP : va_P (dC, dI) vwCl (XLW cy o3 o4 am f3 f4 (th r k) ++ WC cy ad ks g u) H1 := hP
    have hD : va_D (fun q : Nat => s.heap.size ≤ q) (XLW cy o3 o4 am f3 f4 (th r k) ++ WC cy ad ks g u) := hD
    generalize H1 = H at hP hS ⊢
    clear hP1 hD1 hPc hDc hFc hk1 hz1 hvm ht
    refine my_topi hwm ?_
    refine lv_istore (lv' := [(7, .int (nI 0)), (6, .int rw9), (5, .int (nI (4 * n))), (4, .ref o4), (3, .ref o3), (2, .ref (am 0)), (1, .ref (ad .cl)), (0, .ref b)]) hx hb dL_law_1061 hl (by decide) rfl (fun ls hl => ?_)
    refine lv_goto (tgt := 1791) hx hb dL_law_1063 (by decide) ?_
    refine W.widen (k := cells + 603) (n := slots + 9640) (by omega) (by omega) ?_
    exact K H locs ls ⟨ad, ks, g, u, (th r k), f3, f4, hk, (hGI.thr).mono (by omega) (by omega) (by omega), hP, hD, hS, lv_sub hl [2, 3, 4, 5, 6, 7] rfl⟩
set_option maxHeartbeats 8000000 in
set_option maxRecDepth 100000 in
theorem law_c27 {p : Program} {e : Env} {s : State} {m : MethodId} {below : List Frame} {meth : Method} {c : Code} (l : Launch) (hst : l.stackTraces = false) {b L : Nat} {xs : Nat → Int32} (dC : Nat → ClassId) (dI : Nat → Nat → Nat) (cy : Nat → ClassId) (nb : Nat → Nat) (o3 o4 : Nat) (am : Nat → Nat) {n : Nat} (hn : n < 512) (hL : 4 * n + 4 ≤ L) (hL2 : L ≤ 2048) (C0 : LX p s m meth c b L xs dC dI cy nb) {Q : State → Prop} {H : Heap} {locs : List Loc} {ls : Array Slot} {cells slots : Nat} (hc : cells ≤ 400000) (hs : slots ≤ 6000000) (h : LSt s dC dI cy nb b o3 o4 am n (4 * n) H locs ls) (K : ∀ (H : Heap) (locs : List Loc) (ls : Array Slot), LSt s dC dI cy nb b o3 o4 am (n + 1) (4 * n) H locs ls → W p l e room_1 s m #[Value.ref b] below meth c H locs (cells + 603) (slots + 9640) Q (F0 m 1791 ls [])) : W p l e room_1 s m #[Value.ref b] below meth c H locs cells slots Q (F0 m 1066 ls []) := by
  obtain ⟨hx, hb, hr, hml, hown, hts, hX, hbl, hlocks, hK, hE⟩ := C0
  have hA : ∀ q : Nat, s.heap.size ≤ q → (fun q : Nat => s.heap.size ≤ q) q := fun _ h => h
  have hbA : ¬ (fun q : Nat => s.heap.size ≤ q) b := Nat.not_le.mpr hbl
  obtain ⟨ad, ks, g, u, r, f3, f4, hk, hGI, hP, hD, hS, hl⟩ := h
  have h9 : AT (F8_refill r (xs (4 * n + 1))) (C7_refill g u (xs (4 * n + 1))) r 1 (2001 * n) (602 * n) := a_refill hGI
  rcases h9 with ⟨x, r2, c2, c2g, e1, e2, e3, e6⟩ | ⟨k, k1, k2, e1, e2⟩
  · refine lv_aload_n hx hb dL_law_1066 rfl (lv_at hl 4 rfl) ?_
    refine lv_aload_n hx hb dL_law_1067 rfl (lv_at hl 5 rfl) ?_
    refine lv_iload hx hb dL_law_1068 (lv_at hl 0 rfl) ?_
    refine lv_iconst (v := 1) hx hb dL_law_1070 (by decide) ?_
    refine lv_iadd hx hb dL_law_1071 ?_
    refine my_topi (y := nI (4 * n + 1)) (nI_add (4 * n) 1) ?_
    refine va_sld hx hb hX hbl hbA hS (vp_in_nI (n := 4 * n + 1) (by omega) (by omega)) dL_law_1072 ?_
    refine my_topi (y := xs (4 * n + 1)) (congrArg xs (nI_clamp (by omega))) ?_
    refine lv_aload_n hx hb dL_law_1073 rfl (lv_at hl 2 rfl) ?_
    have hPc : va_P (dC, dI) vwCl ([(o3, eL cy f3)] ++ WC cy ad ks g u) H := hP.part (X := XLW cy o3 o4 am f3 f4 r) (cx := [(o3, eL cy f3)]) [0] rfl
    have hDc : va_D (fun q : Nat => s.heap.size ≤ q) ([(o3, eL cy f3)] ++ WC cy ad ks g u) := hD.part (X := XLW cy o3 o4 am f3 f4 r) (cx := [(o3, eL cy f3)]) [0] (by decide) rfl
    have hFc : ∀ q, va_A ([(o3, eL cy f3)] ++ WC cy ad ks g u) H.size q → s.heap.size ≤ q := va_freeP (X := XLW cy o3 o4 am f3 f4 r) (cx := [(o3, eL cy f3)]) hD hS hA [0] rfl
    refine vx_calli (vx_runSX (As := [.ref (ad .cl), .int (xs (4 * n + 1)), .ref o3]) (rest := []) ⟨hx, hb, hml, hown, hts⟩ (cn_refill l hst dC dI cy nb ad ks g hk u ((xs (4 * n + 1))) o3 f3 x c2g c2 H.size e2) (vx_cwSW 3 hts (gSH mw_1032 mw_1033 mw_562 mw_1034) rfl rfl rfl (by decide +kernel) ⟨Nat.le_of_ble_eq_true rfl, Nat.le_of_ble_eq_true rfl⟩) (my_preS hPc hK hDc hE hS hFc) rfl rfl hl.1 rfl (lv_room (Nat.le_of_ble_eq_true rfl)) dL_law_1074 ⟨by show _ ≤ 601024; omega, by show _ ≤ 7293034; omega⟩) hS (fun q _ h => hFc q h) hFc (fun q _ h => hFc q h) (fun E9 ce9 q9 u9 t9 H1 locs1 ht9 hvm9 hp9 _ _ _ _ _ _ _ => hp9.elim) (fun rw9 u9 t9 H1 locs ht hvm hw hB hz1 hk1 hS => ?_)
    obtain ⟨ad', ks', hkz, axz, hP1, hD1⟩ := hB
    rw [ht] at hP1
    obtain ⟨hP, hD⟩ := va_joinP (X := XLW cy o3 o4 am f3 f4 r) (cx := [(o3, eL cy f3)]) (wr := ((o4, eD cy f4) :: WM cy am r)) (rx := [(o3, eL cy (vp_updL f3 ((0 : Int32).toNatClampNeg) (x.toInt64)))]) (pl := WC cy ad ks g u) (pl1 := WC cy ad' ks' c2g c2) hP hD [0] [1, 2, 3, 4, 5, 6, 7, 8, 9, 10, 11, 12] rfl rfl (by decide) (by decide) hk1 hFc hP1 hD1
    have hP : va_P (dC, dI) vwCl (XLW cy o3 o4 am (vp_updL f3 ((0 : Int32).toNatClampNeg) (x.toInt64)) f4 r ++ WC cy ad' ks' c2g c2) H1 := hP.part (X := ((o4, eD cy f4) :: WM cy am r) ++ [(o3, eL cy (vp_updL f3 ((0 : Int32).toNatClampNeg) (x.toInt64)))]) (cx := XLW cy o3 o4 am (vp_updL f3 ((0 : Int32).toNatClampNeg) (x.toInt64)) f4 r) [12, 0, 1, 2, 3, 4, 5, 6, 7, 8, 9, 10, 11] rfl
    have hD : va_D (fun q : Nat => s.heap.size ≤ q) (XLW cy o3 o4 am (vp_updL f3 ((0 : Int32).toNatClampNeg) (x.toInt64)) f4 r ++ WC cy ad' ks' c2g c2) := hD.part (X := ((o4, eD cy f4) :: WM cy am r) ++ [(o3, eL cy (vp_updL f3 ((0 : Int32).toNatClampNeg) (x.toInt64)))]) (cx := XLW cy o3 o4 am (vp_updL f3 ((0 : Int32).toNatClampNeg) (x.toInt64)) f4 r) [12, 0, 1, 2, 3, 4, 5, 6, 7, 8, 9, 10, 11] (by decide) rfl
    generalize H1 = H at hP hS ⊢
    have hl : lv_has ls 10 [(5, .int (nI (4 * n))), (4, .ref o4), (3, .ref o3), (2, .ref (am 0)), (1, .ref (ad' .cl)), (0, .ref b)] := by rw [(axz .cl True.intro).2]; exact hl
    clear hP1 hD1 hPc hDc hFc hk1 hz1 hvm ht
    refine lv_istore (lv' := [(6, .int rw9), (5, .int (nI (4 * n))), (4, .ref o4), (3, .ref o3), (2, .ref (am 0)), (1, .ref (ad' .cl)), (0, .ref b)]) hx hb dL_law_1077 hl (by decide) rfl (fun ls hl => ?_)
    refine lv_aload_n hx hb dL_law_1079 rfl (lv_at hl 4 rfl) ?_
    refine lv_aload_n hx hb dL_law_1080 rfl (lv_at hl 6 rfl) ?_
    refine lv_iload hx hb dL_law_1081 (lv_at hl 1 rfl) ?_
    refine lv_iconst (v := 1) hx hb dL_law_1083 (by decide) ?_
    refine lv_iadd hx hb dL_law_1084 ?_
    refine my_topi (y := nI (4 * n + 1)) (nI_add (4 * n) 1) ?_
    refine va_sld hx hb hX hbl hbA hS (vp_in_nI (n := 4 * n + 1) (by omega) (by omega)) dL_law_1085 ?_
    refine my_topi (y := xs (4 * n + 1)) (congrArg xs (nI_clamp (by omega))) ?_
    have hPc := hP.sub (ws' := (WM cy am r)) [2, 3, 4, 5, 6, 7, 8, 9, 10, 11, 12] rfl
    have hDc := hD.sub (ws' := (WM cy am r)) [2, 3, 4, 5, 6, 7, 8, 9, 10, 11, 12] (by decide) rfl
    have hFc := va_free (wc := (WM cy am r)) hD hS hA [2, 3, 4, 5, 6, 7, 8, 9, 10, 11, 12] rfl
    refine va_calli (va_runV (As := [.int (xs (4 * n + 1))]) (rest := []) ⟨hx, hb, hml, hown, hts⟩ (k_X8_refill l dC dI cy nb am r ((xs (4 * n + 1))) x (r2) H.size e1) (cwV 1 hts (gV mw_1039 mw_1040 mw_1041 mw_5 mw_1042) rfl rfl rfl (by decide +kernel) ⟨Nat.le_of_ble_eq_true rfl, Nat.le_of_ble_eq_true rfl⟩) (my_preV hPc hK hDc hE hS hFc (va_recv (q := (RX8, TX8, 23)) hK hP (ci := 8) (q0 := 2) rfl rfl)) rfl rfl hl.1 rfl (lv_room (Nat.le_of_ble_eq_true rfl)) dL_law_1086 ⟨by show _ ≤ 601024; omega, by show _ ≤ 7293034; omega⟩) hS (fun q _ h => hFc q h) hFc (fun rm9 u9 t9 H1 locs ht hvm hwm hB hz1 hk1 hS => ?_)
    obtain ⟨hP1, hD1⟩ := hB
    rw [ht] at hP1
    obtain ⟨hP, hD⟩ := va_joinQ (X := XLW cy o3 o4 am (vp_updL f3 ((0 : Int32).toNatClampNeg) (x.toInt64)) f4 r) (cx := (WM cy am r)) (wr := [(o3, eL cy (vp_updL f3 ((0 : Int32).toNatClampNeg) (x.toInt64))), (o4, eD cy f4)]) (w1 := (WM cy am (r2))) (pl := WC cy ad' ks' c2g c2) hP hD [2, 3, 4, 5, 6, 7, 8, 9, 10, 11, 12] [0, 1] rfl rfl (by decide) (by decide) hk1 hFc hP1 hD1
    have hP : va_P (dC, dI) vwCl (XLW cy o3 o4 am (vp_updL f3 ((0 : Int32).toNatClampNeg) (x.toInt64)) f4 r2 ++ WC cy ad' ks' c2g c2) H1 := hP
    have hD : va_D (fun q : Nat => s.heap.size ≤ q) (XLW cy o3 o4 am (vp_updL f3 ((0 : Int32).toNatClampNeg) (x.toInt64)) f4 r2 ++ WC cy ad' ks' c2g c2) := hD
    generalize H1 = H at hP hS ⊢
    clear hP1 hD1 hPc hDc hFc hk1 hz1 hvm ht
    refine my_topi hwm ?_
    refine lv_istore (lv' := [(7, .int x), (6, .int rw9), (5, .int (nI (4 * n))), (4, .ref o4), (3, .ref o3), (2, .ref (am 0)), (1, .ref (ad' .cl)), (0, .ref b)]) hx hb dL_law_1089 hl (by decide) rfl (fun ls hl => ?_)
    refine lv_goto (tgt := 1791) hx hb dL_law_1091 (by decide) ?_
    refine W.widen (k := cells + 603) (n := slots + 9640) (by omega) (by omega) ?_
    exact K H locs ls ⟨ad', ks', c2g, c2, r2, (vp_updL f3 ((0 : Int32).toNatClampNeg) (x.toInt64)), f4, hkz, e3.mono (by omega) (by omega) (by omega), hP, hD, hS, lv_sub hl [2, 3, 4, 5, 6, 7] rfl⟩
  · have e2 : C7_refill g u (xs (4 * n + 1)) = some (.inl (nI (k + 1))) := e2
    generalize hxx : (nI (k + 1)) = xk at e2
    have hxk : ¬ xk = 1 := by rw [← hxx]; exact nI_ne (b := 1) (by omega) (by omega) (by omega)
    refine lv_aload_n hx hb dL_law_1066 rfl (lv_at hl 4 rfl) ?_
    refine lv_aload_n hx hb dL_law_1067 rfl (lv_at hl 5 rfl) ?_
    refine lv_iload hx hb dL_law_1068 (lv_at hl 0 rfl) ?_
    refine lv_iconst (v := 1) hx hb dL_law_1070 (by decide) ?_
    refine lv_iadd hx hb dL_law_1071 ?_
    refine my_topi (y := nI (4 * n + 1)) (nI_add (4 * n) 1) ?_
    refine va_sld hx hb hX hbl hbA hS (vp_in_nI (n := 4 * n + 1) (by omega) (by omega)) dL_law_1072 ?_
    refine my_topi (y := xs (4 * n + 1)) (congrArg xs (nI_clamp (by omega))) ?_
    refine lv_aload_n hx hb dL_law_1073 rfl (lv_at hl 2 rfl) ?_
    have hPc : va_P (dC, dI) vwCl ([(o3, eL cy f3)] ++ WC cy ad ks g u) H := hP.part (X := XLW cy o3 o4 am f3 f4 r) (cx := [(o3, eL cy f3)]) [0] rfl
    have hDc : va_D (fun q : Nat => s.heap.size ≤ q) ([(o3, eL cy f3)] ++ WC cy ad ks g u) := hD.part (X := XLW cy o3 o4 am f3 f4 r) (cx := [(o3, eL cy f3)]) [0] (by decide) rfl
    have hFc : ∀ q, va_A ([(o3, eL cy f3)] ++ WC cy ad ks g u) H.size q → s.heap.size ≤ q := va_freeP (X := XLW cy o3 o4 am f3 f4 r) (cx := [(o3, eL cy f3)]) hD hS hA [0] rfl
    refine vx_calli (vx_runSX (As := [.ref (ad .cl), .int (xs (4 * n + 1)), .ref o3]) (rest := []) ⟨hx, hb, hml, hown, hts⟩ (ct_refill l hst dC dI cy nb ad ks g hk u ((xs (4 * n + 1))) o3 f3 xk H.size hxk e2) (vx_cwSW 3 hts (gSH mw_1032 mw_1033 mw_562 mw_1034) rfl rfl rfl (by decide +kernel) ⟨Nat.le_of_ble_eq_true rfl, Nat.le_of_ble_eq_true rfl⟩) (my_preS hPc hK hDc hE hS hFc) rfl rfl hl.1 rfl (lv_room (Nat.le_of_ble_eq_true rfl)) dL_law_1074 ⟨by show _ ≤ 601024; omega, by show _ ≤ 7293034; omega⟩) hS (fun q _ h => hFc q h) hFc (fun q _ h => hFc q h) (fun E9 ce9 q9 u9 t9 H1 locs1 ht9 hvm9 hp9 _ _ _ _ _ _ _ => hp9.elim) (fun rw9 u9 t9 H1 locs ht hvm hw hB hz1 hk1 hS => ?_)
    obtain ⟨hP1, hD1⟩ := hB
    rw [ht] at hP1
    obtain ⟨hP, hD⟩ := va_joinP (X := XLW cy o3 o4 am f3 f4 r) (cx := [(o3, eL cy f3)]) (wr := ((o4, eD cy f4) :: WM cy am r)) (rx := [(o3, eL cy f3)]) (pl := WC cy ad ks g u) (pl1 := WC cy ad ks g u) hP hD [0] [1, 2, 3, 4, 5, 6, 7, 8, 9, 10, 11, 12] rfl rfl (by decide) (by decide) hk1 hFc hP1 hD1
    have hP : va_P (dC, dI) vwCl (XLW cy o3 o4 am f3 f4 r ++ WC cy ad ks g u) H1 := hP.part (X := ((o4, eD cy f4) :: WM cy am r) ++ [(o3, eL cy f3)]) (cx := XLW cy o3 o4 am f3 f4 r) [12, 0, 1, 2, 3, 4, 5, 6, 7, 8, 9, 10, 11] rfl
    have hD : va_D (fun q : Nat => s.heap.size ≤ q) (XLW cy o3 o4 am f3 f4 r ++ WC cy ad ks g u) := hD.part (X := ((o4, eD cy f4) :: WM cy am r) ++ [(o3, eL cy f3)]) (cx := XLW cy o3 o4 am f3 f4 r) [12, 0, 1, 2, 3, 4, 5, 6, 7, 8, 9, 10, 11] (by decide) rfl
    generalize H1 = H at hP hS ⊢
    clear hP1 hD1 hPc hDc hFc hk1 hz1 hvm ht
    refine lv_istore (lv' := [(6, .int rw9), (5, .int (nI (4 * n))), (4, .ref o4), (3, .ref o3), (2, .ref (am 0)), (1, .ref (ad .cl)), (0, .ref b)]) hx hb dL_law_1077 hl (by decide) rfl (fun ls hl => ?_)
    refine lv_aload_n hx hb dL_law_1079 rfl (lv_at hl 4 rfl) ?_
    refine lv_aload_n hx hb dL_law_1080 rfl (lv_at hl 6 rfl) ?_
    refine lv_iload hx hb dL_law_1081 (lv_at hl 1 rfl) ?_
    refine lv_iconst (v := 1) hx hb dL_law_1083 (by decide) ?_
    refine lv_iadd hx hb dL_law_1084 ?_
    refine my_topi (y := nI (4 * n + 1)) (nI_add (4 * n) 1) ?_
    refine va_sld hx hb hX hbl hbA hS (vp_in_nI (n := 4 * n + 1) (by omega) (by omega)) dL_law_1085 ?_
    refine my_topi (y := xs (4 * n + 1)) (congrArg xs (nI_clamp (by omega))) ?_
    have hPc := hP.sub (ws' := (WM cy am r)) [2, 3, 4, 5, 6, 7, 8, 9, 10, 11, 12] rfl
    have hDc := hD.sub (ws' := (WM cy am r)) [2, 3, 4, 5, 6, 7, 8, 9, 10, 11, 12] (by decide) rfl
    have hFc := va_free (wc := (WM cy am r)) hD hS hA [2, 3, 4, 5, 6, 7, 8, 9, 10, 11, 12] rfl
    refine va_calli (va_runV (As := [.int (xs (4 * n + 1))]) (rest := []) ⟨hx, hb, hml, hown, hts⟩ (k_X8_refill l dC dI cy nb am r ((xs (4 * n + 1))) (nI 0) (th r k) H.size e1) (cwV 1 hts (gV mw_1039 mw_1040 mw_1041 mw_5 mw_1042) rfl rfl rfl (by decide +kernel) ⟨Nat.le_of_ble_eq_true rfl, Nat.le_of_ble_eq_true rfl⟩) (my_preV hPc hK hDc hE hS hFc (va_recv (q := (RX8, TX8, 23)) hK hP (ci := 8) (q0 := 2) rfl rfl)) rfl rfl hl.1 rfl (lv_room (Nat.le_of_ble_eq_true rfl)) dL_law_1086 ⟨by show _ ≤ 601024; omega, by show _ ≤ 7293034; omega⟩) hS (fun q _ h => hFc q h) hFc (fun rm9 u9 t9 H1 locs ht hvm hwm hB hz1 hk1 hS => ?_)
    obtain ⟨hP1, hD1⟩ := hB
    rw [ht] at hP1
    obtain ⟨hP, hD⟩ := va_joinQ (X := XLW cy o3 o4 am f3 f4 r) (cx := (WM cy am r)) (wr := [(o3, eL cy f3), (o4, eD cy f4)]) (w1 := (WM cy am (th r k))) (pl := WC cy ad ks g u) hP hD [2, 3, 4, 5, 6, 7, 8, 9, 10, 11, 12] [0, 1] rfl rfl (by decide) (by decide) hk1 hFc hP1 hD1
    have hP : va_P (dC, dI) vwCl (XLW cy o3 o4 am f3 f4 (th r k) ++ WC cy ad ks g u) H1 := hP
    have hD : va_D (fun q : Nat => s.heap.size ≤ q) (XLW cy o3 o4 am f3 f4 (th r k) ++ WC cy ad ks g u) := hD
    generalize H1 = H at hP hS ⊢
    clear hP1 hD1 hPc hDc hFc hk1 hz1 hvm ht
    refine my_topi hwm ?_
    refine lv_istore (lv' := [(7, .int (nI 0)), (6, .int rw9), (5, .int (nI (4 * n))), (4, .ref o4), (3, .ref o3), (2, .ref (am 0)), (1, .ref (ad .cl)), (0, .ref b)]) hx hb dL_law_1089 hl (by decide) rfl (fun ls hl => ?_)
    refine lv_goto (tgt := 1791) hx hb dL_law_1091 (by decide) ?_
    refine W.widen (k := cells + 603) (n := slots + 9640) (by omega) (by omega) ?_
    exact K H locs ls ⟨ad, ks, g, u, (th r k), f3, f4, hk, (hGI.thr).mono (by omega) (by omega) (by omega), hP, hD, hS, lv_sub hl [2, 3, 4, 5, 6, 7] rfl⟩
end
section
set_option maxHeartbeats 8000000 in
set_option maxRecDepth 100000 in
theorem law_c28 {p : Program} {e : Env} {s : State} {m : MethodId} {below : List Frame} {meth : Method} {c : Code} (l : Launch) (hst : l.stackTraces = false) {b L : Nat} {xs : Nat → Int32} (dC : Nat → ClassId) (dI : Nat → Nat → Nat) (cy : Nat → ClassId) (nb : Nat → Nat) (o3 o4 : Nat) (am : Nat → Nat) {n : Nat} (hn : n < 512) (hL : 4 * n + 4 ≤ L) (hL2 : L ≤ 2048) (C0 : LX p s m meth c b L xs dC dI cy nb) {Q : State → Prop} {H : Heap} {locs : List Loc} {ls : Array Slot} {cells slots : Nat} (hc : cells ≤ 400000) (hs : slots ≤ 6000000) (h : LSt s dC dI cy nb b o3 o4 am n (4 * n) H locs ls) (K : ∀ (H : Heap) (locs : List Loc) (ls : Array Slot), LSt s dC dI cy nb b o3 o4 am (n + 1) (4 * n) H locs ls → W p l e room_1 s m #[Value.ref b] below meth c H locs (cells + 603) (slots + 9640) Q (F0 m 1791 ls [])) : W p l e room_1 s m #[Value.ref b] below meth c H locs cells slots Q (F0 m 1094 ls []) := by
  obtain ⟨hx, hb, hr, hml, hown, hts, hX, hbl, hlocks, hK, hE⟩ := C0
  have hA : ∀ q : Nat, s.heap.size ≤ q → (fun q : Nat => s.heap.size ≤ q) q := fun _ h => h
  have hbA : ¬ (fun q : Nat => s.heap.size ≤ q) b := Nat.not_le.mpr hbl
  obtain ⟨ad, ks, g, u, r, f3, f4, hk, hGI, hP, hD, hS, hl⟩ := h
  have h9 : AT (F8_setPace r (xs (4 * n + 1)) (xs (4 * n + 2))) (C7_setPace g u (xs (4 * n + 1)) (xs (4 * n + 2))) r 0 (2001 * n) (602 * n) := a_setPace hGI
  rcases h9 with ⟨x, r2, c2, c2g, e1, e2, e3, e6⟩ | ⟨k, k1, k2, e1, e2⟩
  · refine lv_aload_n hx hb dL_law_1094 rfl (lv_at hl 4 rfl) ?_
    refine lv_aload_n hx hb dL_law_1095 rfl (lv_at hl 5 rfl) ?_
    refine lv_iload hx hb dL_law_1096 (lv_at hl 0 rfl) ?_
    refine lv_iconst (v := 1) hx hb dL_law_1098 (by decide) ?_
    refine lv_iadd hx hb dL_law_1099 ?_
    refine my_topi (y := nI (4 * n + 1)) (nI_add (4 * n) 1) ?_
    refine va_sld hx hb hX hbl hbA hS (vp_in_nI (n := 4 * n + 1) (by omega) (by omega)) dL_law_1100 ?_
    refine my_topi (y := xs (4 * n + 1)) (congrArg xs (nI_clamp (by omega))) ?_
    refine lv_aload_n hx hb dL_law_1101 rfl (lv_at hl 5 rfl) ?_
    refine lv_iload hx hb dL_law_1102 (lv_at hl 0 rfl) ?_
    refine lv_iconst (v := 2) hx hb dL_law_1104 (by decide) ?_
    refine lv_iadd hx hb dL_law_1105 ?_
    refine my_topi (y := nI (4 * n + 2)) (nI_add (4 * n) 2) ?_
    refine va_sld hx hb hX hbl hbA hS (vp_in_nI (n := 4 * n + 2) (by omega) (by omega)) dL_law_1106 ?_
    refine my_topi (y := xs (4 * n + 2)) (congrArg xs (nI_clamp (by omega))) ?_
    refine lv_aload_n hx hb dL_law_1107 rfl (lv_at hl 2 rfl) ?_
    have hPc : va_P (dC, dI) vwCl ([(o3, eL cy f3)] ++ WC cy ad ks g u) H := hP.part (X := XLW cy o3 o4 am f3 f4 r) (cx := [(o3, eL cy f3)]) [0] rfl
    have hDc : va_D (fun q : Nat => s.heap.size ≤ q) ([(o3, eL cy f3)] ++ WC cy ad ks g u) := hD.part (X := XLW cy o3 o4 am f3 f4 r) (cx := [(o3, eL cy f3)]) [0] (by decide) rfl
    have hFc : ∀ q, va_A ([(o3, eL cy f3)] ++ WC cy ad ks g u) H.size q → s.heap.size ≤ q := va_freeP (X := XLW cy o3 o4 am f3 f4 r) (cx := [(o3, eL cy f3)]) hD hS hA [0] rfl
    refine vx_calli (vx_runSX (As := [.ref (ad .cl), .int (xs (4 * n + 1)), .int (xs (4 * n + 2)), .ref o3]) (rest := []) ⟨hx, hb, hml, hown, hts⟩ (cn_setPace l hst dC dI cy nb ad ks g hk u ((xs (4 * n + 1))) ((xs (4 * n + 2))) o3 f3 x c2g c2 H.size e2) (vx_cwSW 4 hts (gSH mw_1044 mw_1045 mw_562 mw_1046) rfl rfl rfl (by decide +kernel) ⟨Nat.le_of_ble_eq_true rfl, Nat.le_of_ble_eq_true rfl⟩) (my_preS hPc hK hDc hE hS hFc) rfl rfl hl.1 rfl (lv_room (Nat.le_of_ble_eq_true rfl)) dL_law_1108 ⟨by show _ ≤ 601024; omega, by show _ ≤ 7293034; omega⟩) hS (fun q _ h => hFc q h) hFc (fun q _ h => hFc q h) (fun E9 ce9 q9 u9 t9 H1 locs1 ht9 hvm9 hp9 _ _ _ _ _ _ _ => hp9.elim) (fun rw9 u9 t9 H1 locs ht hvm hw hB hz1 hk1 hS => ?_)
    obtain ⟨ad', ks', hkz, axz, hP1, hD1⟩ := hB
    rw [ht] at hP1
    obtain ⟨hP, hD⟩ := va_joinP (X := XLW cy o3 o4 am f3 f4 r) (cx := [(o3, eL cy f3)]) (wr := ((o4, eD cy f4) :: WM cy am r)) (rx := [(o3, eL cy (vp_updL f3 ((0 : Int32).toNatClampNeg) (x.toInt64)))]) (pl := WC cy ad ks g u) (pl1 := WC cy ad' ks' c2g c2) hP hD [0] [1, 2, 3, 4, 5, 6, 7, 8, 9, 10, 11, 12] rfl rfl (by decide) (by decide) hk1 hFc hP1 hD1
    have hP : va_P (dC, dI) vwCl (XLW cy o3 o4 am (vp_updL f3 ((0 : Int32).toNatClampNeg) (x.toInt64)) f4 r ++ WC cy ad' ks' c2g c2) H1 := hP.part (X := ((o4, eD cy f4) :: WM cy am r) ++ [(o3, eL cy (vp_updL f3 ((0 : Int32).toNatClampNeg) (x.toInt64)))]) (cx := XLW cy o3 o4 am (vp_updL f3 ((0 : Int32).toNatClampNeg) (x.toInt64)) f4 r) [12, 0, 1, 2, 3, 4, 5, 6, 7, 8, 9, 10, 11] rfl
    have hD : va_D (fun q : Nat => s.heap.size ≤ q) (XLW cy o3 o4 am (vp_updL f3 ((0 : Int32).toNatClampNeg) (x.toInt64)) f4 r ++ WC cy ad' ks' c2g c2) := hD.part (X := ((o4, eD cy f4) :: WM cy am r) ++ [(o3, eL cy (vp_updL f3 ((0 : Int32).toNatClampNeg) (x.toInt64)))]) (cx := XLW cy o3 o4 am (vp_updL f3 ((0 : Int32).toNatClampNeg) (x.toInt64)) f4 r) [12, 0, 1, 2, 3, 4, 5, 6, 7, 8, 9, 10, 11] (by decide) rfl
    generalize H1 = H at hP hS ⊢
    have hl : lv_has ls 10 [(5, .int (nI (4 * n))), (4, .ref o4), (3, .ref o3), (2, .ref (am 0)), (1, .ref (ad' .cl)), (0, .ref b)] := by rw [(axz .cl True.intro).2]; exact hl
    clear hP1 hD1 hPc hDc hFc hk1 hz1 hvm ht
    refine lv_istore (lv' := [(6, .int rw9), (5, .int (nI (4 * n))), (4, .ref o4), (3, .ref o3), (2, .ref (am 0)), (1, .ref (ad' .cl)), (0, .ref b)]) hx hb dL_law_1111 hl (by decide) rfl (fun ls hl => ?_)
    refine lv_aload_n hx hb dL_law_1113 rfl (lv_at hl 4 rfl) ?_
    refine lv_aload_n hx hb dL_law_1114 rfl (lv_at hl 6 rfl) ?_
    refine lv_iload hx hb dL_law_1115 (lv_at hl 1 rfl) ?_
    refine lv_iconst (v := 1) hx hb dL_law_1117 (by decide) ?_
    refine lv_iadd hx hb dL_law_1118 ?_
    refine my_topi (y := nI (4 * n + 1)) (nI_add (4 * n) 1) ?_
    refine va_sld hx hb hX hbl hbA hS (vp_in_nI (n := 4 * n + 1) (by omega) (by omega)) dL_law_1119 ?_
    refine my_topi (y := xs (4 * n + 1)) (congrArg xs (nI_clamp (by omega))) ?_
    refine lv_aload_n hx hb dL_law_1120 rfl (lv_at hl 6 rfl) ?_
    refine lv_iload hx hb dL_law_1121 (lv_at hl 1 rfl) ?_
    refine lv_iconst (v := 2) hx hb dL_law_1123 (by decide) ?_
    refine lv_iadd hx hb dL_law_1124 ?_
    refine my_topi (y := nI (4 * n + 2)) (nI_add (4 * n) 2) ?_
    refine va_sld hx hb hX hbl hbA hS (vp_in_nI (n := 4 * n + 2) (by omega) (by omega)) dL_law_1125 ?_
    refine my_topi (y := xs (4 * n + 2)) (congrArg xs (nI_clamp (by omega))) ?_
    have hPc := hP.sub (ws' := (WM cy am r)) [2, 3, 4, 5, 6, 7, 8, 9, 10, 11, 12] rfl
    have hDc := hD.sub (ws' := (WM cy am r)) [2, 3, 4, 5, 6, 7, 8, 9, 10, 11, 12] (by decide) rfl
    have hFc := va_free (wc := (WM cy am r)) hD hS hA [2, 3, 4, 5, 6, 7, 8, 9, 10, 11, 12] rfl
    refine va_calli (va_runV (As := [.int (xs (4 * n + 1)), .int (xs (4 * n + 2))]) (rest := []) ⟨hx, hb, hml, hown, hts⟩ (k_X8_setPace l dC dI cy nb am r ((xs (4 * n + 1))) ((xs (4 * n + 2))) x (r2) H.size e1) (cwV 2 hts (gV mw_1052 mw_1053 mw_1054 mw_5 mw_1055) rfl rfl rfl (by decide +kernel) ⟨Nat.le_of_ble_eq_true rfl, Nat.le_of_ble_eq_true rfl⟩) (my_preV hPc hK hDc hE hS hFc (va_recv (q := (RX8, TX8, 23)) hK hP (ci := 8) (q0 := 2) rfl rfl)) rfl rfl hl.1 rfl (lv_room (Nat.le_of_ble_eq_true rfl)) dL_law_1126 ⟨by show _ ≤ 601024; omega, by show _ ≤ 7293034; omega⟩) hS (fun q _ h => hFc q h) hFc (fun rm9 u9 t9 H1 locs ht hvm hwm hB hz1 hk1 hS => ?_)
    obtain ⟨hP1, hD1⟩ := hB
    rw [ht] at hP1
    obtain ⟨hP, hD⟩ := va_joinQ (X := XLW cy o3 o4 am (vp_updL f3 ((0 : Int32).toNatClampNeg) (x.toInt64)) f4 r) (cx := (WM cy am r)) (wr := [(o3, eL cy (vp_updL f3 ((0 : Int32).toNatClampNeg) (x.toInt64))), (o4, eD cy f4)]) (w1 := (WM cy am (r2))) (pl := WC cy ad' ks' c2g c2) hP hD [2, 3, 4, 5, 6, 7, 8, 9, 10, 11, 12] [0, 1] rfl rfl (by decide) (by decide) hk1 hFc hP1 hD1
    have hP : va_P (dC, dI) vwCl (XLW cy o3 o4 am (vp_updL f3 ((0 : Int32).toNatClampNeg) (x.toInt64)) f4 r2 ++ WC cy ad' ks' c2g c2) H1 := hP
    have hD : va_D (fun q : Nat => s.heap.size ≤ q) (XLW cy o3 o4 am (vp_updL f3 ((0 : Int32).toNatClampNeg) (x.toInt64)) f4 r2 ++ WC cy ad' ks' c2g c2) := hD
    generalize H1 = H at hP hS ⊢
    clear hP1 hD1 hPc hDc hFc hk1 hz1 hvm ht
    refine my_topi hwm ?_
    refine lv_istore (lv' := [(7, .int x), (6, .int rw9), (5, .int (nI (4 * n))), (4, .ref o4), (3, .ref o3), (2, .ref (am 0)), (1, .ref (ad' .cl)), (0, .ref b)]) hx hb dL_law_1129 hl (by decide) rfl (fun ls hl => ?_)
    refine lv_goto (tgt := 1791) hx hb dL_law_1131 (by decide) ?_
    refine W.widen (k := cells + 603) (n := slots + 9640) (by omega) (by omega) ?_
    exact K H locs ls ⟨ad', ks', c2g, c2, r2, (vp_updL f3 ((0 : Int32).toNatClampNeg) (x.toInt64)), f4, hkz, e3.mono (by omega) (by omega) (by omega), hP, hD, hS, lv_sub hl [2, 3, 4, 5, 6, 7] rfl⟩
  · have e2 : C7_setPace g u (xs (4 * n + 1)) (xs (4 * n + 2)) = some (.inl (nI (k + 0))) := e2
    generalize hxx : (nI (k + 0)) = xk at e2
    refine lv_aload_n hx hb dL_law_1094 rfl (lv_at hl 4 rfl) ?_
    refine lv_aload_n hx hb dL_law_1095 rfl (lv_at hl 5 rfl) ?_
    refine lv_iload hx hb dL_law_1096 (lv_at hl 0 rfl) ?_
    refine lv_iconst (v := 1) hx hb dL_law_1098 (by decide) ?_
    refine lv_iadd hx hb dL_law_1099 ?_
    refine my_topi (y := nI (4 * n + 1)) (nI_add (4 * n) 1) ?_
    refine va_sld hx hb hX hbl hbA hS (vp_in_nI (n := 4 * n + 1) (by omega) (by omega)) dL_law_1100 ?_
    refine my_topi (y := xs (4 * n + 1)) (congrArg xs (nI_clamp (by omega))) ?_
    refine lv_aload_n hx hb dL_law_1101 rfl (lv_at hl 5 rfl) ?_
    refine lv_iload hx hb dL_law_1102 (lv_at hl 0 rfl) ?_
    refine lv_iconst (v := 2) hx hb dL_law_1104 (by decide) ?_
    refine lv_iadd hx hb dL_law_1105 ?_
    refine my_topi (y := nI (4 * n + 2)) (nI_add (4 * n) 2) ?_
    refine va_sld hx hb hX hbl hbA hS (vp_in_nI (n := 4 * n + 2) (by omega) (by omega)) dL_law_1106 ?_
    refine my_topi (y := xs (4 * n + 2)) (congrArg xs (nI_clamp (by omega))) ?_
    refine lv_aload_n hx hb dL_law_1107 rfl (lv_at hl 2 rfl) ?_
    have hPc : va_P (dC, dI) vwCl ([(o3, eL cy f3)] ++ WC cy ad ks g u) H := hP.part (X := XLW cy o3 o4 am f3 f4 r) (cx := [(o3, eL cy f3)]) [0] rfl
    have hDc : va_D (fun q : Nat => s.heap.size ≤ q) ([(o3, eL cy f3)] ++ WC cy ad ks g u) := hD.part (X := XLW cy o3 o4 am f3 f4 r) (cx := [(o3, eL cy f3)]) [0] (by decide) rfl
    have hFc : ∀ q, va_A ([(o3, eL cy f3)] ++ WC cy ad ks g u) H.size q → s.heap.size ≤ q := va_freeP (X := XLW cy o3 o4 am f3 f4 r) (cx := [(o3, eL cy f3)]) hD hS hA [0] rfl
    refine vx_calli (vx_runSX (As := [.ref (ad .cl), .int (xs (4 * n + 1)), .int (xs (4 * n + 2)), .ref o3]) (rest := []) ⟨hx, hb, hml, hown, hts⟩ (ct_setPace l hst dC dI cy nb ad ks g hk u ((xs (4 * n + 1))) ((xs (4 * n + 2))) o3 f3 xk H.size e2) (vx_cwSW 4 hts (gSH mw_1044 mw_1045 mw_562 mw_1046) rfl rfl rfl (by decide +kernel) ⟨Nat.le_of_ble_eq_true rfl, Nat.le_of_ble_eq_true rfl⟩) (my_preS hPc hK hDc hE hS hFc) rfl rfl hl.1 rfl (lv_room (Nat.le_of_ble_eq_true rfl)) dL_law_1108 ⟨by show _ ≤ 601024; omega, by show _ ≤ 7293034; omega⟩) hS (fun q _ h => hFc q h) hFc (fun q _ h => hFc q h) (fun E9 ce9 q9 u9 t9 H1 locs1 ht9 hvm9 hp9 _ _ _ _ _ _ _ => hp9.elim) (fun rw9 u9 t9 H1 locs ht hvm hw hB hz1 hk1 hS => ?_)
    obtain ⟨hP1, hD1⟩ := hB
    rw [ht] at hP1
    obtain ⟨hP, hD⟩ := va_joinP (X := XLW cy o3 o4 am f3 f4 r) (cx := [(o3, eL cy f3)]) (wr := ((o4, eD cy f4) :: WM cy am r)) (rx := [(o3, eL cy f3)]) (pl := WC cy ad ks g u) (pl1 := WC cy ad ks g u) hP hD [0] [1, 2, 3, 4, 5, 6, 7, 8, 9, 10, 11, 12] rfl rfl (by decide) (by decide) hk1 hFc hP1 hD1
    have hP : va_P (dC, dI) vwCl (XLW cy o3 o4 am f3 f4 r ++ WC cy ad ks g u) H1 := hP.part (X := ((o4, eD cy f4) :: WM cy am r) ++ [(o3, eL cy f3)]) (cx := XLW cy o3 o4 am f3 f4 r) [12, 0, 1, 2, 3, 4, 5, 6, 7, 8, 9, 10, 11] rfl
    have hD : va_D (fun q : Nat => s.heap.size ≤ q) (XLW cy o3 o4 am f3 f4 r ++ WC cy ad ks g u) := hD.part (X := ((o4, eD cy f4) :: WM cy am r) ++ [(o3, eL cy f3)]) (cx := XLW cy o3 o4 am f3 f4 r) [12, 0, 1, 2, 3, 4, 5, 6, 7, 8, 9, 10, 11] (by decide) rfl
    generalize H1 = H at hP hS ⊢
    clear hP1 hD1 hPc hDc hFc hk1 hz1 hvm ht
    refine lv_istore (lv' := [(6, .int rw9), (5, .int (nI (4 * n))), (4, .ref o4), (3, .ref o3), (2, .ref (am 0)), (1, .ref (ad .cl)), (0, .ref b)]) hx hb dL_law_1111 hl (by decide) rfl (fun ls hl => ?_)
    refine lv_aload_n hx hb dL_law_1113 rfl (lv_at hl 4 rfl) ?_
    refine lv_aload_n hx hb dL_law_1114 rfl (lv_at hl 6 rfl) ?_
    refine lv_iload hx hb dL_law_1115 (lv_at hl 1 rfl) ?_
    refine lv_iconst (v := 1) hx hb dL_law_1117 (by decide) ?_
    refine lv_iadd hx hb dL_law_1118 ?_
    refine my_topi (y := nI (4 * n + 1)) (nI_add (4 * n) 1) ?_
    refine va_sld hx hb hX hbl hbA hS (vp_in_nI (n := 4 * n + 1) (by omega) (by omega)) dL_law_1119 ?_
    refine my_topi (y := xs (4 * n + 1)) (congrArg xs (nI_clamp (by omega))) ?_
    refine lv_aload_n hx hb dL_law_1120 rfl (lv_at hl 6 rfl) ?_
    refine lv_iload hx hb dL_law_1121 (lv_at hl 1 rfl) ?_
    refine lv_iconst (v := 2) hx hb dL_law_1123 (by decide) ?_
    refine lv_iadd hx hb dL_law_1124 ?_
    refine my_topi (y := nI (4 * n + 2)) (nI_add (4 * n) 2) ?_
    refine va_sld hx hb hX hbl hbA hS (vp_in_nI (n := 4 * n + 2) (by omega) (by omega)) dL_law_1125 ?_
    refine my_topi (y := xs (4 * n + 2)) (congrArg xs (nI_clamp (by omega))) ?_
    have hPc := hP.sub (ws' := (WM cy am r)) [2, 3, 4, 5, 6, 7, 8, 9, 10, 11, 12] rfl
    have hDc := hD.sub (ws' := (WM cy am r)) [2, 3, 4, 5, 6, 7, 8, 9, 10, 11, 12] (by decide) rfl
    have hFc := va_free (wc := (WM cy am r)) hD hS hA [2, 3, 4, 5, 6, 7, 8, 9, 10, 11, 12] rfl
    refine va_calli (va_runV (As := [.int (xs (4 * n + 1)), .int (xs (4 * n + 2))]) (rest := []) ⟨hx, hb, hml, hown, hts⟩ (k_X8_setPace l dC dI cy nb am r ((xs (4 * n + 1))) ((xs (4 * n + 2))) (nI 0) (th r k) H.size e1) (cwV 2 hts (gV mw_1052 mw_1053 mw_1054 mw_5 mw_1055) rfl rfl rfl (by decide +kernel) ⟨Nat.le_of_ble_eq_true rfl, Nat.le_of_ble_eq_true rfl⟩) (my_preV hPc hK hDc hE hS hFc (va_recv (q := (RX8, TX8, 23)) hK hP (ci := 8) (q0 := 2) rfl rfl)) rfl rfl hl.1 rfl (lv_room (Nat.le_of_ble_eq_true rfl)) dL_law_1126 ⟨by show _ ≤ 601024; omega, by show _ ≤ 7293034; omega⟩) hS (fun q _ h => hFc q h) hFc (fun rm9 u9 t9 H1 locs ht hvm hwm hB hz1 hk1 hS => ?_)
    obtain ⟨hP1, hD1⟩ := hB
    rw [ht] at hP1
    obtain ⟨hP, hD⟩ := va_joinQ (X := XLW cy o3 o4 am f3 f4 r) (cx := (WM cy am r)) (wr := [(o3, eL cy f3), (o4, eD cy f4)]) (w1 := (WM cy am (th r k))) (pl := WC cy ad ks g u) hP hD [2, 3, 4, 5, 6, 7, 8, 9, 10, 11, 12] [0, 1] rfl rfl (by decide) (by decide) hk1 hFc hP1 hD1
    have hP : va_P (dC, dI) vwCl (XLW cy o3 o4 am f3 f4 (th r k) ++ WC cy ad ks g u) H1 := hP
    have hD : va_D (fun q : Nat => s.heap.size ≤ q) (XLW cy o3 o4 am f3 f4 (th r k) ++ WC cy ad ks g u) := hD
    generalize H1 = H at hP hS ⊢
    clear hP1 hD1 hPc hDc hFc hk1 hz1 hvm ht
    refine my_topi hwm ?_
    refine lv_istore (lv' := [(7, .int (nI 0)), (6, .int rw9), (5, .int (nI (4 * n))), (4, .ref o4), (3, .ref o3), (2, .ref (am 0)), (1, .ref (ad .cl)), (0, .ref b)]) hx hb dL_law_1129 hl (by decide) rfl (fun ls hl => ?_)
    refine lv_goto (tgt := 1791) hx hb dL_law_1131 (by decide) ?_
    refine W.widen (k := cells + 603) (n := slots + 9640) (by omega) (by omega) ?_
    exact K H locs ls ⟨ad, ks, g, u, (th r k), f3, f4, hk, (hGI.thr).mono (by omega) (by omega) (by omega), hP, hD, hS, lv_sub hl [2, 3, 4, 5, 6, 7] rfl⟩
set_option maxHeartbeats 8000000 in
set_option maxRecDepth 100000 in
theorem law_c29 {p : Program} {e : Env} {s : State} {m : MethodId} {below : List Frame} {meth : Method} {c : Code} (l : Launch) (hst : l.stackTraces = false) {b L : Nat} {xs : Nat → Int32} (dC : Nat → ClassId) (dI : Nat → Nat → Nat) (cy : Nat → ClassId) (nb : Nat → Nat) (o3 o4 : Nat) (am : Nat → Nat) {n : Nat} (hn : n < 512) (hL : 4 * n + 4 ≤ L) (hL2 : L ≤ 2048) (C0 : LX p s m meth c b L xs dC dI cy nb) {Q : State → Prop} {H : Heap} {locs : List Loc} {ls : Array Slot} {cells slots : Nat} (hc : cells ≤ 400000) (hs : slots ≤ 6000000) (h : LSt s dC dI cy nb b o3 o4 am n (4 * n) H locs ls) (K : ∀ (H : Heap) (locs : List Loc) (ls : Array Slot), LSt s dC dI cy nb b o3 o4 am (n + 1) (4 * n) H locs ls → W p l e room_1 s m #[Value.ref b] below meth c H locs (cells + 603) (slots + 9640) Q (F0 m 1791 ls [])) : W p l e room_1 s m #[Value.ref b] below meth c H locs cells slots Q (F0 m 1134 ls []) := by
  obtain ⟨hx, hb, hr, hml, hown, hts, hX, hbl, hlocks, hK, hE⟩ := C0
  have hA : ∀ q : Nat, s.heap.size ≤ q → (fun q : Nat => s.heap.size ≤ q) q := fun _ h => h
  have hbA : ¬ (fun q : Nat => s.heap.size ≤ q) b := Nat.not_le.mpr hbl
  obtain ⟨ad, ks, g, u, r, f3, f4, hk, hGI, hP, hD, hS, hl⟩ := h
  by_cases hsb : xs (4 * n + 2) = 0
  · have hzz : True := trivial
    have h9 : AT (F8_stop r (xs (4 * n + 1)) 0) (C7_stop g u (xs (4 * n + 1)) 0) r 0 (2001 * n) (602 * n) := a_stop (Or.inl rfl) hGI
    rcases h9 with ⟨x, r2, c2, c2g, e1, e2, e3, e6⟩ | ⟨k, k1, k2, e1, e2⟩
    · refine lv_aload_n hx hb dL_law_1134 rfl (lv_at hl 4 rfl) ?_
      refine lv_aload_n hx hb dL_law_1135 rfl (lv_at hl 5 rfl) ?_
      refine lv_iload hx hb dL_law_1136 (lv_at hl 0 rfl) ?_
      refine lv_iconst (v := 1) hx hb dL_law_1138 (by decide) ?_
      refine lv_iadd hx hb dL_law_1139 ?_
      refine my_topi (y := nI (4 * n + 1)) (nI_add (4 * n) 1) ?_
      refine va_sld hx hb hX hbl hbA hS (vp_in_nI (n := 4 * n + 1) (by omega) (by omega)) dL_law_1140 ?_
      refine my_topi (y := xs (4 * n + 1)) (congrArg xs (nI_clamp (by omega))) ?_
      refine lv_aload_n hx hb dL_law_1141 rfl (lv_at hl 5 rfl) ?_
      refine lv_iload hx hb dL_law_1142 (lv_at hl 0 rfl) ?_
      refine lv_iconst (v := 2) hx hb dL_law_1144 (by decide) ?_
      refine lv_iadd hx hb dL_law_1145 ?_
      refine my_topi (y := nI (4 * n + 2)) (nI_add (4 * n) 2) ?_
      refine va_sld hx hb hX hbl hbA hS (vp_in_nI (n := 4 * n + 2) (by omega) (by omega)) dL_law_1146 ?_
      refine my_topi (y := xs (4 * n + 2)) (congrArg xs (nI_clamp (by omega))) ?_
      refine lv_if_eq (tgt := 1154) hx hb dL_law_1147 (by decide) (fun _ => ?_) (fun h9 => absurd hsb h9)
      refine lv_iconst (v := 0) hx hb dL_law_1154 (by decide) ?_
      refine lv_aload_n hx hb dL_law_1155 rfl (lv_at hl 2 rfl) ?_
      have hPc : va_P (dC, dI) vwCl ([(o3, eL cy f3)] ++ WC cy ad ks g u) H := hP.part (X := XLW cy o3 o4 am f3 f4 r) (cx := [(o3, eL cy f3)]) [0] rfl
      have hDc : va_D (fun q : Nat => s.heap.size ≤ q) ([(o3, eL cy f3)] ++ WC cy ad ks g u) := hD.part (X := XLW cy o3 o4 am f3 f4 r) (cx := [(o3, eL cy f3)]) [0] (by decide) rfl
      have hFc : ∀ q, va_A ([(o3, eL cy f3)] ++ WC cy ad ks g u) H.size q → s.heap.size ≤ q := va_freeP (X := XLW cy o3 o4 am f3 f4 r) (cx := [(o3, eL cy f3)]) hD hS hA [0] rfl
      refine vx_calli (vx_runSX (As := [.ref (ad .cl), .int (xs (4 * n + 1)), .int 0, .ref o3]) (rest := []) ⟨hx, hb, hml, hown, hts⟩ (cn_stop l hst dC dI cy nb ad ks g hk u ((xs (4 * n + 1))) (0) o3 f3 x c2g c2 H.size e2) (vx_cwSW 4 hts (gSH mw_1056 mw_1057 mw_562 mw_1058) rfl rfl rfl (by decide +kernel) ⟨Nat.le_of_ble_eq_true rfl, Nat.le_of_ble_eq_true rfl⟩) (my_preS hPc hK hDc hE hS hFc) rfl rfl hl.1 rfl (lv_room (Nat.le_of_ble_eq_true rfl)) dL_law_1156 ⟨by show _ ≤ 601024; omega, by show _ ≤ 7293034; omega⟩) hS (fun q _ h => hFc q h) hFc (fun q _ h => hFc q h) (fun E9 ce9 q9 u9 t9 H1 locs1 ht9 hvm9 hp9 _ _ _ _ _ _ _ => hp9.elim) (fun rw9 u9 t9 H1 locs ht hvm hw hB hz1 hk1 hS => ?_)
      obtain ⟨ad', ks', hkz, axz, hP1, hD1⟩ := hB
      rw [ht] at hP1
      obtain ⟨hP, hD⟩ := va_joinP (X := XLW cy o3 o4 am f3 f4 r) (cx := [(o3, eL cy f3)]) (wr := ((o4, eD cy f4) :: WM cy am r)) (rx := [(o3, eL cy (vp_updL f3 ((0 : Int32).toNatClampNeg) (x.toInt64)))]) (pl := WC cy ad ks g u) (pl1 := WC cy ad' ks' c2g c2) hP hD [0] [1, 2, 3, 4, 5, 6, 7, 8, 9, 10, 11, 12] rfl rfl (by decide) (by decide) hk1 hFc hP1 hD1
      have hP : va_P (dC, dI) vwCl (XLW cy o3 o4 am (vp_updL f3 ((0 : Int32).toNatClampNeg) (x.toInt64)) f4 r ++ WC cy ad' ks' c2g c2) H1 := hP.part (X := ((o4, eD cy f4) :: WM cy am r) ++ [(o3, eL cy (vp_updL f3 ((0 : Int32).toNatClampNeg) (x.toInt64)))]) (cx := XLW cy o3 o4 am (vp_updL f3 ((0 : Int32).toNatClampNeg) (x.toInt64)) f4 r) [12, 0, 1, 2, 3, 4, 5, 6, 7, 8, 9, 10, 11] rfl
      have hD : va_D (fun q : Nat => s.heap.size ≤ q) (XLW cy o3 o4 am (vp_updL f3 ((0 : Int32).toNatClampNeg) (x.toInt64)) f4 r ++ WC cy ad' ks' c2g c2) := hD.part (X := ((o4, eD cy f4) :: WM cy am r) ++ [(o3, eL cy (vp_updL f3 ((0 : Int32).toNatClampNeg) (x.toInt64)))]) (cx := XLW cy o3 o4 am (vp_updL f3 ((0 : Int32).toNatClampNeg) (x.toInt64)) f4 r) [12, 0, 1, 2, 3, 4, 5, 6, 7, 8, 9, 10, 11] (by decide) rfl
      generalize H1 = H at hP hS ⊢
      have hl : lv_has ls 10 [(5, .int (nI (4 * n))), (4, .ref o4), (3, .ref o3), (2, .ref (am 0)), (1, .ref (ad' .cl)), (0, .ref b)] := by rw [(axz .cl True.intro).2]; exact hl
      clear hP1 hD1 hPc hDc hFc hk1 hz1 hvm ht
      refine lv_istore (lv' := [(6, .int rw9), (5, .int (nI (4 * n))), (4, .ref o4), (3, .ref o3), (2, .ref (am 0)), (1, .ref (ad' .cl)), (0, .ref b)]) hx hb dL_law_1159 hl (by decide) rfl (fun ls hl => ?_)
      refine lv_aload_n hx hb dL_law_1161 rfl (lv_at hl 4 rfl) ?_
      refine lv_aload_n hx hb dL_law_1162 rfl (lv_at hl 6 rfl) ?_
      refine lv_iload hx hb dL_law_1163 (lv_at hl 1 rfl) ?_
      refine lv_iconst (v := 1) hx hb dL_law_1165 (by decide) ?_
      refine lv_iadd hx hb dL_law_1166 ?_
      refine my_topi (y := nI (4 * n + 1)) (nI_add (4 * n) 1) ?_
      refine va_sld hx hb hX hbl hbA hS (vp_in_nI (n := 4 * n + 1) (by omega) (by omega)) dL_law_1167 ?_
      refine my_topi (y := xs (4 * n + 1)) (congrArg xs (nI_clamp (by omega))) ?_
      refine lv_aload_n hx hb dL_law_1168 rfl (lv_at hl 6 rfl) ?_
      refine lv_iload hx hb dL_law_1169 (lv_at hl 1 rfl) ?_
      refine lv_iconst (v := 2) hx hb dL_law_1171 (by decide) ?_
      refine lv_iadd hx hb dL_law_1172 ?_
      refine my_topi (y := nI (4 * n + 2)) (nI_add (4 * n) 2) ?_
      refine va_sld hx hb hX hbl hbA hS (vp_in_nI (n := 4 * n + 2) (by omega) (by omega)) dL_law_1173 ?_
      refine my_topi (y := xs (4 * n + 2)) (congrArg xs (nI_clamp (by omega))) ?_
      refine lv_if_eq (tgt := 1181) hx hb dL_law_1174 (by decide) (fun _ => ?_) (fun h9 => absurd hsb h9)
      refine lv_iconst (v := 0) hx hb dL_law_1181 (by decide) ?_
      have hPc := hP.sub (ws' := (WM cy am r)) [2, 3, 4, 5, 6, 7, 8, 9, 10, 11, 12] rfl
      have hDc := hD.sub (ws' := (WM cy am r)) [2, 3, 4, 5, 6, 7, 8, 9, 10, 11, 12] (by decide) rfl
      have hFc := va_free (wc := (WM cy am r)) hD hS hA [2, 3, 4, 5, 6, 7, 8, 9, 10, 11, 12] rfl
      refine va_calli (va_runV (As := [.int (xs (4 * n + 1)), .int 0]) (rest := []) ⟨hx, hb, hml, hown, hts⟩ (k_X8_stop l dC dI cy nb am r ((xs (4 * n + 1))) (0) x (r2) H.size e1) (cwV 2 hts (gV mw_1063 mw_1064 mw_1065 mw_5 mw_1066) rfl rfl rfl (by decide +kernel) ⟨Nat.le_of_ble_eq_true rfl, Nat.le_of_ble_eq_true rfl⟩) (my_preV hPc hK hDc hE hS hFc (va_recv (q := (RX8, TX8, 23)) hK hP (ci := 8) (q0 := 2) rfl rfl)) rfl rfl hl.1 rfl (lv_room (Nat.le_of_ble_eq_true rfl)) dL_law_1182 ⟨by show _ ≤ 601024; omega, by show _ ≤ 7293034; omega⟩) hS (fun q _ h => hFc q h) hFc (fun rm9 u9 t9 H1 locs ht hvm hwm hB hz1 hk1 hS => ?_)
      obtain ⟨hP1, hD1⟩ := hB
      rw [ht] at hP1
      obtain ⟨hP, hD⟩ := va_joinQ (X := XLW cy o3 o4 am (vp_updL f3 ((0 : Int32).toNatClampNeg) (x.toInt64)) f4 r) (cx := (WM cy am r)) (wr := [(o3, eL cy (vp_updL f3 ((0 : Int32).toNatClampNeg) (x.toInt64))), (o4, eD cy f4)]) (w1 := (WM cy am (r2))) (pl := WC cy ad' ks' c2g c2) hP hD [2, 3, 4, 5, 6, 7, 8, 9, 10, 11, 12] [0, 1] rfl rfl (by decide) (by decide) hk1 hFc hP1 hD1
      have hP : va_P (dC, dI) vwCl (XLW cy o3 o4 am (vp_updL f3 ((0 : Int32).toNatClampNeg) (x.toInt64)) f4 r2 ++ WC cy ad' ks' c2g c2) H1 := hP
      have hD : va_D (fun q : Nat => s.heap.size ≤ q) (XLW cy o3 o4 am (vp_updL f3 ((0 : Int32).toNatClampNeg) (x.toInt64)) f4 r2 ++ WC cy ad' ks' c2g c2) := hD
      generalize H1 = H at hP hS ⊢
      clear hP1 hD1 hPc hDc hFc hk1 hz1 hvm ht
      refine my_topi hwm ?_
      refine lv_istore (lv' := [(7, .int x), (6, .int rw9), (5, .int (nI (4 * n))), (4, .ref o4), (3, .ref o3), (2, .ref (am 0)), (1, .ref (ad' .cl)), (0, .ref b)]) hx hb dL_law_1185 hl (by decide) rfl (fun ls hl => ?_)
      refine lv_goto (tgt := 1791) hx hb dL_law_1187 (by decide) ?_
      refine W.widen (k := cells + 603) (n := slots + 9640) (by omega) (by omega) ?_
      exact K H locs ls ⟨ad', ks', c2g, c2, r2, (vp_updL f3 ((0 : Int32).toNatClampNeg) (x.toInt64)), f4, hkz, e3.mono (by omega) (by omega) (by omega), hP, hD, hS, lv_sub hl [2, 3, 4, 5, 6, 7] rfl⟩
    · have e2 : C7_stop g u (xs (4 * n + 1)) 0 = some (.inl (nI (k + 0))) := e2
      generalize hxx : (nI (k + 0)) = xk at e2
      have hxk : xk = 1 := x1_stop e2
      refine lv_aload_n hx hb dL_law_1134 rfl (lv_at hl 4 rfl) ?_
      refine lv_aload_n hx hb dL_law_1135 rfl (lv_at hl 5 rfl) ?_
      refine lv_iload hx hb dL_law_1136 (lv_at hl 0 rfl) ?_
      refine lv_iconst (v := 1) hx hb dL_law_1138 (by decide) ?_
      refine lv_iadd hx hb dL_law_1139 ?_
      refine my_topi (y := nI (4 * n + 1)) (nI_add (4 * n) 1) ?_
      refine va_sld hx hb hX hbl hbA hS (vp_in_nI (n := 4 * n + 1) (by omega) (by omega)) dL_law_1140 ?_
      refine my_topi (y := xs (4 * n + 1)) (congrArg xs (nI_clamp (by omega))) ?_
      refine lv_aload_n hx hb dL_law_1141 rfl (lv_at hl 5 rfl) ?_
      refine lv_iload hx hb dL_law_1142 (lv_at hl 0 rfl) ?_
      refine lv_iconst (v := 2) hx hb dL_law_1144 (by decide) ?_
      refine lv_iadd hx hb dL_law_1145 ?_
      refine my_topi (y := nI (4 * n + 2)) (nI_add (4 * n) 2) ?_
      refine va_sld hx hb hX hbl hbA hS (vp_in_nI (n := 4 * n + 2) (by omega) (by omega)) dL_law_1146 ?_
      refine my_topi (y := xs (4 * n + 2)) (congrArg xs (nI_clamp (by omega))) ?_
      refine lv_if_eq (tgt := 1154) hx hb dL_law_1147 (by decide) (fun _ => ?_) (fun h9 => absurd hsb h9)
      refine lv_iconst (v := 0) hx hb dL_law_1154 (by decide) ?_
      refine lv_aload_n hx hb dL_law_1155 rfl (lv_at hl 2 rfl) ?_
      have hPc : va_P (dC, dI) vwCl ([(o3, eL cy f3)] ++ WC cy ad ks g u) H := hP.part (X := XLW cy o3 o4 am f3 f4 r) (cx := [(o3, eL cy f3)]) [0] rfl
      have hDc : va_D (fun q : Nat => s.heap.size ≤ q) ([(o3, eL cy f3)] ++ WC cy ad ks g u) := hD.part (X := XLW cy o3 o4 am f3 f4 r) (cx := [(o3, eL cy f3)]) [0] (by decide) rfl
      have hFc : ∀ q, va_A ([(o3, eL cy f3)] ++ WC cy ad ks g u) H.size q → s.heap.size ≤ q := va_freeP (X := XLW cy o3 o4 am f3 f4 r) (cx := [(o3, eL cy f3)]) hD hS hA [0] rfl
      refine vx_calli (vx_runSX (As := [.ref (ad .cl), .int (xs (4 * n + 1)), .int 0, .ref o3]) (rest := []) ⟨hx, hb, hml, hown, hts⟩ (ct_stop l hst dC dI cy nb ad ks g hk u ((xs (4 * n + 1))) (0) o3 f3 xk H.size hxk e2) (vx_cwSW 4 hts (gSH mw_1056 mw_1057 mw_562 mw_1058) rfl rfl rfl (by decide +kernel) ⟨Nat.le_of_ble_eq_true rfl, Nat.le_of_ble_eq_true rfl⟩) (my_preS hPc hK hDc hE hS hFc) rfl rfl hl.1 rfl (lv_room (Nat.le_of_ble_eq_true rfl)) dL_law_1156 ⟨by show _ ≤ 601024; omega, by show _ ≤ 7293034; omega⟩) hS (fun q _ h => hFc q h) hFc (fun q _ h => hFc q h) (fun E9 ce9 q9 u9 t9 H1 locs1 ht9 hvm9 hp9 _ _ _ _ _ _ _ => hp9.elim) (fun rw9 u9 t9 H1 locs ht hvm hw hB hz1 hk1 hS => ?_)
      obtain ⟨hP1, hD1⟩ := hB
      rw [ht] at hP1
      obtain ⟨hP, hD⟩ := va_joinP (X := XLW cy o3 o4 am f3 f4 r) (cx := [(o3, eL cy f3)]) (wr := ((o4, eD cy f4) :: WM cy am r)) (rx := [(o3, eL cy f3)]) (pl := WC cy ad ks g u) (pl1 := WC cy ad ks g u) hP hD [0] [1, 2, 3, 4, 5, 6, 7, 8, 9, 10, 11, 12] rfl rfl (by decide) (by decide) hk1 hFc hP1 hD1
      have hP : va_P (dC, dI) vwCl (XLW cy o3 o4 am f3 f4 r ++ WC cy ad ks g u) H1 := hP.part (X := ((o4, eD cy f4) :: WM cy am r) ++ [(o3, eL cy f3)]) (cx := XLW cy o3 o4 am f3 f4 r) [12, 0, 1, 2, 3, 4, 5, 6, 7, 8, 9, 10, 11] rfl
      have hD : va_D (fun q : Nat => s.heap.size ≤ q) (XLW cy o3 o4 am f3 f4 r ++ WC cy ad ks g u) := hD.part (X := ((o4, eD cy f4) :: WM cy am r) ++ [(o3, eL cy f3)]) (cx := XLW cy o3 o4 am f3 f4 r) [12, 0, 1, 2, 3, 4, 5, 6, 7, 8, 9, 10, 11] (by decide) rfl
      generalize H1 = H at hP hS ⊢
      clear hP1 hD1 hPc hDc hFc hk1 hz1 hvm ht
      refine lv_istore (lv' := [(6, .int rw9), (5, .int (nI (4 * n))), (4, .ref o4), (3, .ref o3), (2, .ref (am 0)), (1, .ref (ad .cl)), (0, .ref b)]) hx hb dL_law_1159 hl (by decide) rfl (fun ls hl => ?_)
      refine lv_aload_n hx hb dL_law_1161 rfl (lv_at hl 4 rfl) ?_
      refine lv_aload_n hx hb dL_law_1162 rfl (lv_at hl 6 rfl) ?_
      refine lv_iload hx hb dL_law_1163 (lv_at hl 1 rfl) ?_
      refine lv_iconst (v := 1) hx hb dL_law_1165 (by decide) ?_
      refine lv_iadd hx hb dL_law_1166 ?_
      refine my_topi (y := nI (4 * n + 1)) (nI_add (4 * n) 1) ?_
      refine va_sld hx hb hX hbl hbA hS (vp_in_nI (n := 4 * n + 1) (by omega) (by omega)) dL_law_1167 ?_
      refine my_topi (y := xs (4 * n + 1)) (congrArg xs (nI_clamp (by omega))) ?_
      refine lv_aload_n hx hb dL_law_1168 rfl (lv_at hl 6 rfl) ?_
      refine lv_iload hx hb dL_law_1169 (lv_at hl 1 rfl) ?_
      refine lv_iconst (v := 2) hx hb dL_law_1171 (by decide) ?_
      refine lv_iadd hx hb dL_law_1172 ?_
      refine my_topi (y := nI (4 * n + 2)) (nI_add (4 * n) 2) ?_
      refine va_sld hx hb hX hbl hbA hS (vp_in_nI (n := 4 * n + 2) (by omega) (by omega)) dL_law_1173 ?_
      refine my_topi (y := xs (4 * n + 2)) (congrArg xs (nI_clamp (by omega))) ?_
      refine lv_if_eq (tgt := 1181) hx hb dL_law_1174 (by decide) (fun _ => ?_) (fun h9 => absurd hsb h9)
      refine lv_iconst (v := 0) hx hb dL_law_1181 (by decide) ?_
      have hPc := hP.sub (ws' := (WM cy am r)) [2, 3, 4, 5, 6, 7, 8, 9, 10, 11, 12] rfl
      have hDc := hD.sub (ws' := (WM cy am r)) [2, 3, 4, 5, 6, 7, 8, 9, 10, 11, 12] (by decide) rfl
      have hFc := va_free (wc := (WM cy am r)) hD hS hA [2, 3, 4, 5, 6, 7, 8, 9, 10, 11, 12] rfl
      refine va_calli (va_runV (As := [.int (xs (4 * n + 1)), .int 0]) (rest := []) ⟨hx, hb, hml, hown, hts⟩ (k_X8_stop l dC dI cy nb am r ((xs (4 * n + 1))) (0) (nI 0) (th r k) H.size e1) (cwV 2 hts (gV mw_1063 mw_1064 mw_1065 mw_5 mw_1066) rfl rfl rfl (by decide +kernel) ⟨Nat.le_of_ble_eq_true rfl, Nat.le_of_ble_eq_true rfl⟩) (my_preV hPc hK hDc hE hS hFc (va_recv (q := (RX8, TX8, 23)) hK hP (ci := 8) (q0 := 2) rfl rfl)) rfl rfl hl.1 rfl (lv_room (Nat.le_of_ble_eq_true rfl)) dL_law_1182 ⟨by show _ ≤ 601024; omega, by show _ ≤ 7293034; omega⟩) hS (fun q _ h => hFc q h) hFc (fun rm9 u9 t9 H1 locs ht hvm hwm hB hz1 hk1 hS => ?_)
      obtain ⟨hP1, hD1⟩ := hB
      rw [ht] at hP1
      obtain ⟨hP, hD⟩ := va_joinQ (X := XLW cy o3 o4 am f3 f4 r) (cx := (WM cy am r)) (wr := [(o3, eL cy f3), (o4, eD cy f4)]) (w1 := (WM cy am (th r k))) (pl := WC cy ad ks g u) hP hD [2, 3, 4, 5, 6, 7, 8, 9, 10, 11, 12] [0, 1] rfl rfl (by decide) (by decide) hk1 hFc hP1 hD1
      have hP : va_P (dC, dI) vwCl (XLW cy o3 o4 am f3 f4 (th r k) ++ WC cy ad ks g u) H1 := hP
      have hD : va_D (fun q : Nat => s.heap.size ≤ q) (XLW cy o3 o4 am f3 f4 (th r k) ++ WC cy ad ks g u) := hD
      generalize H1 = H at hP hS ⊢
      clear hP1 hD1 hPc hDc hFc hk1 hz1 hvm ht
      refine my_topi hwm ?_
      refine lv_istore (lv' := [(7, .int (nI 0)), (6, .int rw9), (5, .int (nI (4 * n))), (4, .ref o4), (3, .ref o3), (2, .ref (am 0)), (1, .ref (ad .cl)), (0, .ref b)]) hx hb dL_law_1185 hl (by decide) rfl (fun ls hl => ?_)
      refine lv_goto (tgt := 1791) hx hb dL_law_1187 (by decide) ?_
      refine W.widen (k := cells + 603) (n := slots + 9640) (by omega) (by omega) ?_
      exact K H locs ls ⟨ad, ks, g, u, (th r k), f3, f4, hk, (hGI.thr).mono (by omega) (by omega) (by omega), hP, hD, hS, lv_sub hl [2, 3, 4, 5, 6, 7] rfl⟩
  · have hzz : True := trivial
    have h9 : AT (F8_stop r (xs (4 * n + 1)) 1) (C7_stop g u (xs (4 * n + 1)) 1) r 0 (2001 * n) (602 * n) := a_stop (Or.inr rfl) hGI
    rcases h9 with ⟨x, r2, c2, c2g, e1, e2, e3, e6⟩ | ⟨k, k1, k2, e1, e2⟩
    · refine lv_aload_n hx hb dL_law_1134 rfl (lv_at hl 4 rfl) ?_
      refine lv_aload_n hx hb dL_law_1135 rfl (lv_at hl 5 rfl) ?_
      refine lv_iload hx hb dL_law_1136 (lv_at hl 0 rfl) ?_
      refine lv_iconst (v := 1) hx hb dL_law_1138 (by decide) ?_
      refine lv_iadd hx hb dL_law_1139 ?_
      refine my_topi (y := nI (4 * n + 1)) (nI_add (4 * n) 1) ?_
      refine va_sld hx hb hX hbl hbA hS (vp_in_nI (n := 4 * n + 1) (by omega) (by omega)) dL_law_1140 ?_
      refine my_topi (y := xs (4 * n + 1)) (congrArg xs (nI_clamp (by omega))) ?_
      refine lv_aload_n hx hb dL_law_1141 rfl (lv_at hl 5 rfl) ?_
      refine lv_iload hx hb dL_law_1142 (lv_at hl 0 rfl) ?_
      refine lv_iconst (v := 2) hx hb dL_law_1144 (by decide) ?_
      refine lv_iadd hx hb dL_law_1145 ?_
      refine my_topi (y := nI (4 * n + 2)) (nI_add (4 * n) 2) ?_
      refine va_sld hx hb hX hbl hbA hS (vp_in_nI (n := 4 * n + 2) (by omega) (by omega)) dL_law_1146 ?_
      refine my_topi (y := xs (4 * n + 2)) (congrArg xs (nI_clamp (by omega))) ?_
      refine lv_if_eq (tgt := 1154) hx hb dL_law_1147 (by decide) (fun h9 => absurd h9 hsb) (fun _ => ?_)
      refine lv_iconst (v := 1) hx hb dL_law_1150 (by decide) ?_
      refine lv_goto (tgt := 1155) hx hb dL_law_1151 (by decide) ?_
      refine lv_aload_n hx hb dL_law_1155 rfl (lv_at hl 2 rfl) ?_
      have hPc : va_P (dC, dI) vwCl ([(o3, eL cy f3)] ++ WC cy ad ks g u) H := hP.part (X := XLW cy o3 o4 am f3 f4 r) (cx := [(o3, eL cy f3)]) [0] rfl
      have hDc : va_D (fun q : Nat => s.heap.size ≤ q) ([(o3, eL cy f3)] ++ WC cy ad ks g u) := hD.part (X := XLW cy o3 o4 am f3 f4 r) (cx := [(o3, eL cy f3)]) [0] (by decide) rfl
      have hFc : ∀ q, va_A ([(o3, eL cy f3)] ++ WC cy ad ks g u) H.size q → s.heap.size ≤ q := va_freeP (X := XLW cy o3 o4 am f3 f4 r) (cx := [(o3, eL cy f3)]) hD hS hA [0] rfl
      refine vx_calli (vx_runSX (As := [.ref (ad .cl), .int (xs (4 * n + 1)), .int 1, .ref o3]) (rest := []) ⟨hx, hb, hml, hown, hts⟩ (cn_stop l hst dC dI cy nb ad ks g hk u ((xs (4 * n + 1))) (1) o3 f3 x c2g c2 H.size e2) (vx_cwSW 4 hts (gSH mw_1056 mw_1057 mw_562 mw_1058) rfl rfl rfl (by decide +kernel) ⟨Nat.le_of_ble_eq_true rfl, Nat.le_of_ble_eq_true rfl⟩) (my_preS hPc hK hDc hE hS hFc) rfl rfl hl.1 rfl (lv_room (Nat.le_of_ble_eq_true rfl)) dL_law_1156 ⟨by show _ ≤ 601024; omega, by show _ ≤ 7293034; omega⟩) hS (fun q _ h => hFc q h) hFc (fun q _ h => hFc q h) (fun E9 ce9 q9 u9 t9 H1 locs1 ht9 hvm9 hp9 _ _ _ _ _ _ _ => hp9.elim) (fun rw9 u9 t9 H1 locs ht hvm hw hB hz1 hk1 hS => ?_)
      obtain ⟨ad', ks', hkz, axz, hP1, hD1⟩ := hB
      rw [ht] at hP1
      obtain ⟨hP, hD⟩ := va_joinP (X := XLW cy o3 o4 am f3 f4 r) (cx := [(o3, eL cy f3)]) (wr := ((o4, eD cy f4) :: WM cy am r)) (rx := [(o3, eL cy (vp_updL f3 ((0 : Int32).toNatClampNeg) (x.toInt64)))]) (pl := WC cy ad ks g u) (pl1 := WC cy ad' ks' c2g c2) hP hD [0] [1, 2, 3, 4, 5, 6, 7, 8, 9, 10, 11, 12] rfl rfl (by decide) (by decide) hk1 hFc hP1 hD1
      have hP : va_P (dC, dI) vwCl (XLW cy o3 o4 am (vp_updL f3 ((0 : Int32).toNatClampNeg) (x.toInt64)) f4 r ++ WC cy ad' ks' c2g c2) H1 := hP.part (X := ((o4, eD cy f4) :: WM cy am r) ++ [(o3, eL cy (vp_updL f3 ((0 : Int32).toNatClampNeg) (x.toInt64)))]) (cx := XLW cy o3 o4 am (vp_updL f3 ((0 : Int32).toNatClampNeg) (x.toInt64)) f4 r) [12, 0, 1, 2, 3, 4, 5, 6, 7, 8, 9, 10, 11] rfl
      have hD : va_D (fun q : Nat => s.heap.size ≤ q) (XLW cy o3 o4 am (vp_updL f3 ((0 : Int32).toNatClampNeg) (x.toInt64)) f4 r ++ WC cy ad' ks' c2g c2) := hD.part (X := ((o4, eD cy f4) :: WM cy am r) ++ [(o3, eL cy (vp_updL f3 ((0 : Int32).toNatClampNeg) (x.toInt64)))]) (cx := XLW cy o3 o4 am (vp_updL f3 ((0 : Int32).toNatClampNeg) (x.toInt64)) f4 r) [12, 0, 1, 2, 3, 4, 5, 6, 7, 8, 9, 10, 11] (by decide) rfl
      generalize H1 = H at hP hS ⊢
      have hl : lv_has ls 10 [(5, .int (nI (4 * n))), (4, .ref o4), (3, .ref o3), (2, .ref (am 0)), (1, .ref (ad' .cl)), (0, .ref b)] := by rw [(axz .cl True.intro).2]; exact hl
      clear hP1 hD1 hPc hDc hFc hk1 hz1 hvm ht
      refine lv_istore (lv' := [(6, .int rw9), (5, .int (nI (4 * n))), (4, .ref o4), (3, .ref o3), (2, .ref (am 0)), (1, .ref (ad' .cl)), (0, .ref b)]) hx hb dL_law_1159 hl (by decide) rfl (fun ls hl => ?_)
      refine lv_aload_n hx hb dL_law_1161 rfl (lv_at hl 4 rfl) ?_
      refine lv_aload_n hx hb dL_law_1162 rfl (lv_at hl 6 rfl) ?_
      refine lv_iload hx hb dL_law_1163 (lv_at hl 1 rfl) ?_
      refine lv_iconst (v := 1) hx hb dL_law_1165 (by decide) ?_
      refine lv_iadd hx hb dL_law_1166 ?_
      refine my_topi (y := nI (4 * n + 1)) (nI_add (4 * n) 1) ?_
      refine va_sld hx hb hX hbl hbA hS (vp_in_nI (n := 4 * n + 1) (by omega) (by omega)) dL_law_1167 ?_
      refine my_topi (y := xs (4 * n + 1)) (congrArg xs (nI_clamp (by omega))) ?_
      refine lv_aload_n hx hb dL_law_1168 rfl (lv_at hl 6 rfl) ?_
      refine lv_iload hx hb dL_law_1169 (lv_at hl 1 rfl) ?_
      refine lv_iconst (v := 2) hx hb dL_law_1171 (by decide) ?_
      refine lv_iadd hx hb dL_law_1172 ?_
      refine my_topi (y := nI (4 * n + 2)) (nI_add (4 * n) 2) ?_
      refine va_sld hx hb hX hbl hbA hS (vp_in_nI (n := 4 * n + 2) (by omega) (by omega)) dL_law_1173 ?_
      refine my_topi (y := xs (4 * n + 2)) (congrArg xs (nI_clamp (by omega))) ?_
      refine lv_if_eq (tgt := 1181) hx hb dL_law_1174 (by decide) (fun h9 => absurd h9 hsb) (fun _ => ?_)
      refine lv_iconst (v := 1) hx hb dL_law_1177 (by decide) ?_
      refine lv_goto (tgt := 1182) hx hb dL_law_1178 (by decide) ?_
      have hPc := hP.sub (ws' := (WM cy am r)) [2, 3, 4, 5, 6, 7, 8, 9, 10, 11, 12] rfl
      have hDc := hD.sub (ws' := (WM cy am r)) [2, 3, 4, 5, 6, 7, 8, 9, 10, 11, 12] (by decide) rfl
      have hFc := va_free (wc := (WM cy am r)) hD hS hA [2, 3, 4, 5, 6, 7, 8, 9, 10, 11, 12] rfl
      refine va_calli (va_runV (As := [.int (xs (4 * n + 1)), .int 1]) (rest := []) ⟨hx, hb, hml, hown, hts⟩ (k_X8_stop l dC dI cy nb am r ((xs (4 * n + 1))) (1) x (r2) H.size e1) (cwV 2 hts (gV mw_1063 mw_1064 mw_1065 mw_5 mw_1066) rfl rfl rfl (by decide +kernel) ⟨Nat.le_of_ble_eq_true rfl, Nat.le_of_ble_eq_true rfl⟩) (my_preV hPc hK hDc hE hS hFc (va_recv (q := (RX8, TX8, 23)) hK hP (ci := 8) (q0 := 2) rfl rfl)) rfl rfl hl.1 rfl (lv_room (Nat.le_of_ble_eq_true rfl)) dL_law_1182 ⟨by show _ ≤ 601024; omega, by show _ ≤ 7293034; omega⟩) hS (fun q _ h => hFc q h) hFc (fun rm9 u9 t9 H1 locs ht hvm hwm hB hz1 hk1 hS => ?_)
      obtain ⟨hP1, hD1⟩ := hB
      rw [ht] at hP1
      obtain ⟨hP, hD⟩ := va_joinQ (X := XLW cy o3 o4 am (vp_updL f3 ((0 : Int32).toNatClampNeg) (x.toInt64)) f4 r) (cx := (WM cy am r)) (wr := [(o3, eL cy (vp_updL f3 ((0 : Int32).toNatClampNeg) (x.toInt64))), (o4, eD cy f4)]) (w1 := (WM cy am (r2))) (pl := WC cy ad' ks' c2g c2) hP hD [2, 3, 4, 5, 6, 7, 8, 9, 10, 11, 12] [0, 1] rfl rfl (by decide) (by decide) hk1 hFc hP1 hD1
      have hP : va_P (dC, dI) vwCl (XLW cy o3 o4 am (vp_updL f3 ((0 : Int32).toNatClampNeg) (x.toInt64)) f4 r2 ++ WC cy ad' ks' c2g c2) H1 := hP
      have hD : va_D (fun q : Nat => s.heap.size ≤ q) (XLW cy o3 o4 am (vp_updL f3 ((0 : Int32).toNatClampNeg) (x.toInt64)) f4 r2 ++ WC cy ad' ks' c2g c2) := hD
      generalize H1 = H at hP hS ⊢
      clear hP1 hD1 hPc hDc hFc hk1 hz1 hvm ht
      refine my_topi hwm ?_
      refine lv_istore (lv' := [(7, .int x), (6, .int rw9), (5, .int (nI (4 * n))), (4, .ref o4), (3, .ref o3), (2, .ref (am 0)), (1, .ref (ad' .cl)), (0, .ref b)]) hx hb dL_law_1185 hl (by decide) rfl (fun ls hl => ?_)
      refine lv_goto (tgt := 1791) hx hb dL_law_1187 (by decide) ?_
      refine W.widen (k := cells + 603) (n := slots + 9640) (by omega) (by omega) ?_
      exact K H locs ls ⟨ad', ks', c2g, c2, r2, (vp_updL f3 ((0 : Int32).toNatClampNeg) (x.toInt64)), f4, hkz, e3.mono (by omega) (by omega) (by omega), hP, hD, hS, lv_sub hl [2, 3, 4, 5, 6, 7] rfl⟩
    · have e2 : C7_stop g u (xs (4 * n + 1)) 1 = some (.inl (nI (k + 0))) := e2
      generalize hxx : (nI (k + 0)) = xk at e2
      have hxk : xk = 1 := x1_stop e2
      refine lv_aload_n hx hb dL_law_1134 rfl (lv_at hl 4 rfl) ?_
      refine lv_aload_n hx hb dL_law_1135 rfl (lv_at hl 5 rfl) ?_
      refine lv_iload hx hb dL_law_1136 (lv_at hl 0 rfl) ?_
      refine lv_iconst (v := 1) hx hb dL_law_1138 (by decide) ?_
      refine lv_iadd hx hb dL_law_1139 ?_
      refine my_topi (y := nI (4 * n + 1)) (nI_add (4 * n) 1) ?_
      refine va_sld hx hb hX hbl hbA hS (vp_in_nI (n := 4 * n + 1) (by omega) (by omega)) dL_law_1140 ?_
      refine my_topi (y := xs (4 * n + 1)) (congrArg xs (nI_clamp (by omega))) ?_
      refine lv_aload_n hx hb dL_law_1141 rfl (lv_at hl 5 rfl) ?_
      refine lv_iload hx hb dL_law_1142 (lv_at hl 0 rfl) ?_
      refine lv_iconst (v := 2) hx hb dL_law_1144 (by decide) ?_
      refine lv_iadd hx hb dL_law_1145 ?_
      refine my_topi (y := nI (4 * n + 2)) (nI_add (4 * n) 2) ?_
      refine va_sld hx hb hX hbl hbA hS (vp_in_nI (n := 4 * n + 2) (by omega) (by omega)) dL_law_1146 ?_
      refine my_topi (y := xs (4 * n + 2)) (congrArg xs (nI_clamp (by omega))) ?_
      refine lv_if_eq (tgt := 1154) hx hb dL_law_1147 (by decide) (fun h9 => absurd h9 hsb) (fun _ => ?_)
      refine lv_iconst (v := 1) hx hb dL_law_1150 (by decide) ?_
      refine lv_goto (tgt := 1155) hx hb dL_law_1151 (by decide) ?_
      refine lv_aload_n hx hb dL_law_1155 rfl (lv_at hl 2 rfl) ?_
      have hPc : va_P (dC, dI) vwCl ([(o3, eL cy f3)] ++ WC cy ad ks g u) H := hP.part (X := XLW cy o3 o4 am f3 f4 r) (cx := [(o3, eL cy f3)]) [0] rfl
      have hDc : va_D (fun q : Nat => s.heap.size ≤ q) ([(o3, eL cy f3)] ++ WC cy ad ks g u) := hD.part (X := XLW cy o3 o4 am f3 f4 r) (cx := [(o3, eL cy f3)]) [0] (by decide) rfl
      have hFc : ∀ q, va_A ([(o3, eL cy f3)] ++ WC cy ad ks g u) H.size q → s.heap.size ≤ q := va_freeP (X := XLW cy o3 o4 am f3 f4 r) (cx := [(o3, eL cy f3)]) hD hS hA [0] rfl
      refine vx_calli (vx_runSX (As := [.ref (ad .cl), .int (xs (4 * n + 1)), .int 1, .ref o3]) (rest := []) ⟨hx, hb, hml, hown, hts⟩ (ct_stop l hst dC dI cy nb ad ks g hk u ((xs (4 * n + 1))) (1) o3 f3 xk H.size hxk e2) (vx_cwSW 4 hts (gSH mw_1056 mw_1057 mw_562 mw_1058) rfl rfl rfl (by decide +kernel) ⟨Nat.le_of_ble_eq_true rfl, Nat.le_of_ble_eq_true rfl⟩) (my_preS hPc hK hDc hE hS hFc) rfl rfl hl.1 rfl (lv_room (Nat.le_of_ble_eq_true rfl)) dL_law_1156 ⟨by show _ ≤ 601024; omega, by show _ ≤ 7293034; omega⟩) hS (fun q _ h => hFc q h) hFc (fun q _ h => hFc q h) (fun E9 ce9 q9 u9 t9 H1 locs1 ht9 hvm9 hp9 _ _ _ _ _ _ _ => hp9.elim) (fun rw9 u9 t9 H1 locs ht hvm hw hB hz1 hk1 hS => ?_)
      obtain ⟨hP1, hD1⟩ := hB
      rw [ht] at hP1
      obtain ⟨hP, hD⟩ := va_joinP (X := XLW cy o3 o4 am f3 f4 r) (cx := [(o3, eL cy f3)]) (wr := ((o4, eD cy f4) :: WM cy am r)) (rx := [(o3, eL cy f3)]) (pl := WC cy ad ks g u) (pl1 := WC cy ad ks g u) hP hD [0] [1, 2, 3, 4, 5, 6, 7, 8, 9, 10, 11, 12] rfl rfl (by decide) (by decide) hk1 hFc hP1 hD1
      have hP : va_P (dC, dI) vwCl (XLW cy o3 o4 am f3 f4 r ++ WC cy ad ks g u) H1 := hP.part (X := ((o4, eD cy f4) :: WM cy am r) ++ [(o3, eL cy f3)]) (cx := XLW cy o3 o4 am f3 f4 r) [12, 0, 1, 2, 3, 4, 5, 6, 7, 8, 9, 10, 11] rfl
      have hD : va_D (fun q : Nat => s.heap.size ≤ q) (XLW cy o3 o4 am f3 f4 r ++ WC cy ad ks g u) := hD.part (X := ((o4, eD cy f4) :: WM cy am r) ++ [(o3, eL cy f3)]) (cx := XLW cy o3 o4 am f3 f4 r) [12, 0, 1, 2, 3, 4, 5, 6, 7, 8, 9, 10, 11] (by decide) rfl
      generalize H1 = H at hP hS ⊢
      clear hP1 hD1 hPc hDc hFc hk1 hz1 hvm ht
      refine lv_istore (lv' := [(6, .int rw9), (5, .int (nI (4 * n))), (4, .ref o4), (3, .ref o3), (2, .ref (am 0)), (1, .ref (ad .cl)), (0, .ref b)]) hx hb dL_law_1159 hl (by decide) rfl (fun ls hl => ?_)
      refine lv_aload_n hx hb dL_law_1161 rfl (lv_at hl 4 rfl) ?_
      refine lv_aload_n hx hb dL_law_1162 rfl (lv_at hl 6 rfl) ?_
      refine lv_iload hx hb dL_law_1163 (lv_at hl 1 rfl) ?_
      refine lv_iconst (v := 1) hx hb dL_law_1165 (by decide) ?_
      refine lv_iadd hx hb dL_law_1166 ?_
      refine my_topi (y := nI (4 * n + 1)) (nI_add (4 * n) 1) ?_
      refine va_sld hx hb hX hbl hbA hS (vp_in_nI (n := 4 * n + 1) (by omega) (by omega)) dL_law_1167 ?_
      refine my_topi (y := xs (4 * n + 1)) (congrArg xs (nI_clamp (by omega))) ?_
      refine lv_aload_n hx hb dL_law_1168 rfl (lv_at hl 6 rfl) ?_
      refine lv_iload hx hb dL_law_1169 (lv_at hl 1 rfl) ?_
      refine lv_iconst (v := 2) hx hb dL_law_1171 (by decide) ?_
      refine lv_iadd hx hb dL_law_1172 ?_
      refine my_topi (y := nI (4 * n + 2)) (nI_add (4 * n) 2) ?_
      refine va_sld hx hb hX hbl hbA hS (vp_in_nI (n := 4 * n + 2) (by omega) (by omega)) dL_law_1173 ?_
      refine my_topi (y := xs (4 * n + 2)) (congrArg xs (nI_clamp (by omega))) ?_
      refine lv_if_eq (tgt := 1181) hx hb dL_law_1174 (by decide) (fun h9 => absurd h9 hsb) (fun _ => ?_)
      refine lv_iconst (v := 1) hx hb dL_law_1177 (by decide) ?_
      refine lv_goto (tgt := 1182) hx hb dL_law_1178 (by decide) ?_
      have hPc := hP.sub (ws' := (WM cy am r)) [2, 3, 4, 5, 6, 7, 8, 9, 10, 11, 12] rfl
      have hDc := hD.sub (ws' := (WM cy am r)) [2, 3, 4, 5, 6, 7, 8, 9, 10, 11, 12] (by decide) rfl
      have hFc := va_free (wc := (WM cy am r)) hD hS hA [2, 3, 4, 5, 6, 7, 8, 9, 10, 11, 12] rfl
      refine va_calli (va_runV (As := [.int (xs (4 * n + 1)), .int 1]) (rest := []) ⟨hx, hb, hml, hown, hts⟩ (k_X8_stop l dC dI cy nb am r ((xs (4 * n + 1))) (1) (nI 0) (th r k) H.size e1) (cwV 2 hts (gV mw_1063 mw_1064 mw_1065 mw_5 mw_1066) rfl rfl rfl (by decide +kernel) ⟨Nat.le_of_ble_eq_true rfl, Nat.le_of_ble_eq_true rfl⟩) (my_preV hPc hK hDc hE hS hFc (va_recv (q := (RX8, TX8, 23)) hK hP (ci := 8) (q0 := 2) rfl rfl)) rfl rfl hl.1 rfl (lv_room (Nat.le_of_ble_eq_true rfl)) dL_law_1182 ⟨by show _ ≤ 601024; omega, by show _ ≤ 7293034; omega⟩) hS (fun q _ h => hFc q h) hFc (fun rm9 u9 t9 H1 locs ht hvm hwm hB hz1 hk1 hS => ?_)
      obtain ⟨hP1, hD1⟩ := hB
      rw [ht] at hP1
      obtain ⟨hP, hD⟩ := va_joinQ (X := XLW cy o3 o4 am f3 f4 r) (cx := (WM cy am r)) (wr := [(o3, eL cy f3), (o4, eD cy f4)]) (w1 := (WM cy am (th r k))) (pl := WC cy ad ks g u) hP hD [2, 3, 4, 5, 6, 7, 8, 9, 10, 11, 12] [0, 1] rfl rfl (by decide) (by decide) hk1 hFc hP1 hD1
      have hP : va_P (dC, dI) vwCl (XLW cy o3 o4 am f3 f4 (th r k) ++ WC cy ad ks g u) H1 := hP
      have hD : va_D (fun q : Nat => s.heap.size ≤ q) (XLW cy o3 o4 am f3 f4 (th r k) ++ WC cy ad ks g u) := hD
      generalize H1 = H at hP hS ⊢
      clear hP1 hD1 hPc hDc hFc hk1 hz1 hvm ht
      refine my_topi hwm ?_
      refine lv_istore (lv' := [(7, .int (nI 0)), (6, .int rw9), (5, .int (nI (4 * n))), (4, .ref o4), (3, .ref o3), (2, .ref (am 0)), (1, .ref (ad .cl)), (0, .ref b)]) hx hb dL_law_1185 hl (by decide) rfl (fun ls hl => ?_)
      refine lv_goto (tgt := 1791) hx hb dL_law_1187 (by decide) ?_
      refine W.widen (k := cells + 603) (n := slots + 9640) (by omega) (by omega) ?_
      exact K H locs ls ⟨ad, ks, g, u, (th r k), f3, f4, hk, (hGI.thr).mono (by omega) (by omega) (by omega), hP, hD, hS, lv_sub hl [2, 3, 4, 5, 6, 7] rfl⟩
set_option maxHeartbeats 8000000 in
set_option maxRecDepth 100000 in
theorem law_c30 {p : Program} {e : Env} {s : State} {m : MethodId} {below : List Frame} {meth : Method} {c : Code} (l : Launch) (hst : l.stackTraces = false) {b L : Nat} {xs : Nat → Int32} (dC : Nat → ClassId) (dI : Nat → Nat → Nat) (cy : Nat → ClassId) (nb : Nat → Nat) (o3 o4 : Nat) (am : Nat → Nat) {n : Nat} (hn : n < 512) (hL : 4 * n + 4 ≤ L) (hL2 : L ≤ 2048) (C0 : LX p s m meth c b L xs dC dI cy nb) {Q : State → Prop} {H : Heap} {locs : List Loc} {ls : Array Slot} {cells slots : Nat} (hc : cells ≤ 400000) (hs : slots ≤ 6000000) (h : LSt s dC dI cy nb b o3 o4 am n (4 * n) H locs ls) (K : ∀ (H : Heap) (locs : List Loc) (ls : Array Slot), LSt s dC dI cy nb b o3 o4 am (n + 1) (4 * n) H locs ls → W p l e room_1 s m #[Value.ref b] below meth c H locs (cells + 603) (slots + 9640) Q (F0 m 1791 ls [])) : W p l e room_1 s m #[Value.ref b] below meth c H locs cells slots Q (F0 m 1190 ls []) := by
  obtain ⟨hx, hb, hr, hml, hown, hts, hX, hbl, hlocks, hK, hE⟩ := C0
  have hA : ∀ q : Nat, s.heap.size ≤ q → (fun q : Nat => s.heap.size ≤ q) q := fun _ h => h
  have hbA : ¬ (fun q : Nat => s.heap.size ≤ q) b := Nat.not_le.mpr hbl
  obtain ⟨ad, ks, g, u, r, f3, f4, hk, hGI, hP, hD, hS, hl⟩ := h
  have h9 : AT (F8_setRest r (xs (4 * n + 1)) (xs (4 * n + 2)) (xs (4 * n + 3))) (C7_setRest g u (xs (4 * n + 1)) (xs (4 * n + 2)) (xs (4 * n + 3))) r 0 (2001 * n) (602 * n) := a_setRest hGI
  rcases h9 with ⟨x, r2, c2, c2g, e1, e2, e3, e6⟩ | ⟨k, k1, k2, e1, e2⟩
  · refine lv_aload_n hx hb dL_law_1190 rfl (lv_at hl 4 rfl) ?_
    refine lv_aload_n hx hb dL_law_1191 rfl (lv_at hl 5 rfl) ?_
    refine lv_iload hx hb dL_law_1192 (lv_at hl 0 rfl) ?_
    refine lv_iconst (v := 1) hx hb dL_law_1194 (by decide) ?_
    refine lv_iadd hx hb dL_law_1195 ?_
    refine my_topi (y := nI (4 * n + 1)) (nI_add (4 * n) 1) ?_
    refine va_sld hx hb hX hbl hbA hS (vp_in_nI (n := 4 * n + 1) (by omega) (by omega)) dL_law_1196 ?_
    refine my_topi (y := xs (4 * n + 1)) (congrArg xs (nI_clamp (by omega))) ?_
    refine lv_aload_n hx hb dL_law_1197 rfl (lv_at hl 5 rfl) ?_
    refine lv_iload hx hb dL_law_1198 (lv_at hl 0 rfl) ?_
    refine lv_iconst (v := 2) hx hb dL_law_1200 (by decide) ?_
    refine lv_iadd hx hb dL_law_1201 ?_
    refine my_topi (y := nI (4 * n + 2)) (nI_add (4 * n) 2) ?_
    refine va_sld hx hb hX hbl hbA hS (vp_in_nI (n := 4 * n + 2) (by omega) (by omega)) dL_law_1202 ?_
    refine my_topi (y := xs (4 * n + 2)) (congrArg xs (nI_clamp (by omega))) ?_
    refine lv_aload_n hx hb dL_law_1203 rfl (lv_at hl 5 rfl) ?_
    refine lv_iload hx hb dL_law_1204 (lv_at hl 0 rfl) ?_
    refine lv_iconst (v := 3) hx hb dL_law_1206 (by decide) ?_
    refine lv_iadd hx hb dL_law_1207 ?_
    refine my_topi (y := nI (4 * n + 3)) (nI_add (4 * n) 3) ?_
    refine va_sld hx hb hX hbl hbA hS (vp_in_nI (n := 4 * n + 3) (by omega) (by omega)) dL_law_1208 ?_
    refine my_topi (y := xs (4 * n + 3)) (congrArg xs (nI_clamp (by omega))) ?_
    refine lv_aload_n hx hb dL_law_1209 rfl (lv_at hl 2 rfl) ?_
    have hPc : va_P (dC, dI) vwCl ([(o3, eL cy f3)] ++ WC cy ad ks g u) H := hP.part (X := XLW cy o3 o4 am f3 f4 r) (cx := [(o3, eL cy f3)]) [0] rfl
    have hDc : va_D (fun q : Nat => s.heap.size ≤ q) ([(o3, eL cy f3)] ++ WC cy ad ks g u) := hD.part (X := XLW cy o3 o4 am f3 f4 r) (cx := [(o3, eL cy f3)]) [0] (by decide) rfl
    have hFc : ∀ q, va_A ([(o3, eL cy f3)] ++ WC cy ad ks g u) H.size q → s.heap.size ≤ q := va_freeP (X := XLW cy o3 o4 am f3 f4 r) (cx := [(o3, eL cy f3)]) hD hS hA [0] rfl
    refine vx_calli (vx_runSX (As := [.ref (ad .cl), .int (xs (4 * n + 1)), .int (xs (4 * n + 2)), .int (xs (4 * n + 3)), .ref o3]) (rest := []) ⟨hx, hb, hml, hown, hts⟩ (cn_setRest l hst dC dI cy nb ad ks g hk u ((xs (4 * n + 1))) ((xs (4 * n + 2))) ((xs (4 * n + 3))) o3 f3 x c2g c2 H.size e2) (vx_cwSW 5 hts (gSH mw_1067 mw_1068 mw_562 mw_1069) rfl rfl rfl (by decide +kernel) ⟨Nat.le_of_ble_eq_true rfl, Nat.le_of_ble_eq_true rfl⟩) (my_preS hPc hK hDc hE hS hFc) rfl rfl hl.1 rfl (lv_room (Nat.le_of_ble_eq_true rfl)) dL_law_1210 ⟨by show _ ≤ 601024; omega, by show _ ≤ 7293034; omega⟩) hS (fun q _ h => hFc q h) hFc (fun q _ h => hFc q h) (fun E9 ce9 q9 u9 t9 H1 locs1 ht9 hvm9 hp9 _ _ _ _ _ _ _ => hp9.elim) (fun rw9 u9 t9 H1 locs ht hvm hw hB hz1 hk1 hS => ?_)
    obtain ⟨ad', ks', hkz, axz, hP1, hD1⟩ := hB
    rw [ht] at hP1
    obtain ⟨hP, hD⟩ := va_joinP (X := XLW cy o3 o4 am f3 f4 r) (cx := [(o3, eL cy f3)]) (wr := ((o4, eD cy f4) :: WM cy am r)) (rx := [(o3, eL cy (vp_updL f3 ((0 : Int32).toNatClampNeg) (x.toInt64)))]) (pl := WC cy ad ks g u) (pl1 := WC cy ad' ks' c2g c2) hP hD [0] [1, 2, 3, 4, 5, 6, 7, 8, 9, 10, 11, 12] rfl rfl (by decide) (by decide) hk1 hFc hP1 hD1
    have hP : va_P (dC, dI) vwCl (XLW cy o3 o4 am (vp_updL f3 ((0 : Int32).toNatClampNeg) (x.toInt64)) f4 r ++ WC cy ad' ks' c2g c2) H1 := hP.part (X := ((o4, eD cy f4) :: WM cy am r) ++ [(o3, eL cy (vp_updL f3 ((0 : Int32).toNatClampNeg) (x.toInt64)))]) (cx := XLW cy o3 o4 am (vp_updL f3 ((0 : Int32).toNatClampNeg) (x.toInt64)) f4 r) [12, 0, 1, 2, 3, 4, 5, 6, 7, 8, 9, 10, 11] rfl
    have hD : va_D (fun q : Nat => s.heap.size ≤ q) (XLW cy o3 o4 am (vp_updL f3 ((0 : Int32).toNatClampNeg) (x.toInt64)) f4 r ++ WC cy ad' ks' c2g c2) := hD.part (X := ((o4, eD cy f4) :: WM cy am r) ++ [(o3, eL cy (vp_updL f3 ((0 : Int32).toNatClampNeg) (x.toInt64)))]) (cx := XLW cy o3 o4 am (vp_updL f3 ((0 : Int32).toNatClampNeg) (x.toInt64)) f4 r) [12, 0, 1, 2, 3, 4, 5, 6, 7, 8, 9, 10, 11] (by decide) rfl
    generalize H1 = H at hP hS ⊢
    have hl : lv_has ls 10 [(5, .int (nI (4 * n))), (4, .ref o4), (3, .ref o3), (2, .ref (am 0)), (1, .ref (ad' .cl)), (0, .ref b)] := by rw [(axz .cl True.intro).2]; exact hl
    clear hP1 hD1 hPc hDc hFc hk1 hz1 hvm ht
    refine lv_istore (lv' := [(6, .int rw9), (5, .int (nI (4 * n))), (4, .ref o4), (3, .ref o3), (2, .ref (am 0)), (1, .ref (ad' .cl)), (0, .ref b)]) hx hb dL_law_1213 hl (by decide) rfl (fun ls hl => ?_)
    refine lv_aload_n hx hb dL_law_1215 rfl (lv_at hl 4 rfl) ?_
    refine lv_aload_n hx hb dL_law_1216 rfl (lv_at hl 6 rfl) ?_
    refine lv_iload hx hb dL_law_1217 (lv_at hl 1 rfl) ?_
    refine lv_iconst (v := 1) hx hb dL_law_1219 (by decide) ?_
    refine lv_iadd hx hb dL_law_1220 ?_
    refine my_topi (y := nI (4 * n + 1)) (nI_add (4 * n) 1) ?_
    refine va_sld hx hb hX hbl hbA hS (vp_in_nI (n := 4 * n + 1) (by omega) (by omega)) dL_law_1221 ?_
    refine my_topi (y := xs (4 * n + 1)) (congrArg xs (nI_clamp (by omega))) ?_
    refine lv_aload_n hx hb dL_law_1222 rfl (lv_at hl 6 rfl) ?_
    refine lv_iload hx hb dL_law_1223 (lv_at hl 1 rfl) ?_
    refine lv_iconst (v := 2) hx hb dL_law_1225 (by decide) ?_
    refine lv_iadd hx hb dL_law_1226 ?_
    refine my_topi (y := nI (4 * n + 2)) (nI_add (4 * n) 2) ?_
    refine va_sld hx hb hX hbl hbA hS (vp_in_nI (n := 4 * n + 2) (by omega) (by omega)) dL_law_1227 ?_
    refine my_topi (y := xs (4 * n + 2)) (congrArg xs (nI_clamp (by omega))) ?_
    refine lv_aload_n hx hb dL_law_1228 rfl (lv_at hl 6 rfl) ?_
    refine lv_iload hx hb dL_law_1229 (lv_at hl 1 rfl) ?_
    refine lv_iconst (v := 3) hx hb dL_law_1231 (by decide) ?_
    refine lv_iadd hx hb dL_law_1232 ?_
    refine my_topi (y := nI (4 * n + 3)) (nI_add (4 * n) 3) ?_
    refine va_sld hx hb hX hbl hbA hS (vp_in_nI (n := 4 * n + 3) (by omega) (by omega)) dL_law_1233 ?_
    refine my_topi (y := xs (4 * n + 3)) (congrArg xs (nI_clamp (by omega))) ?_
    have hPc := hP.sub (ws' := (WM cy am r)) [2, 3, 4, 5, 6, 7, 8, 9, 10, 11, 12] rfl
    have hDc := hD.sub (ws' := (WM cy am r)) [2, 3, 4, 5, 6, 7, 8, 9, 10, 11, 12] (by decide) rfl
    have hFc := va_free (wc := (WM cy am r)) hD hS hA [2, 3, 4, 5, 6, 7, 8, 9, 10, 11, 12] rfl
    refine va_calli (va_runV (As := [.int (xs (4 * n + 1)), .int (xs (4 * n + 2)), .int (xs (4 * n + 3))]) (rest := []) ⟨hx, hb, hml, hown, hts⟩ (k_X8_setRest l dC dI cy nb am r ((xs (4 * n + 1))) ((xs (4 * n + 2))) ((xs (4 * n + 3))) x (r2) H.size e1) (cwV 3 hts (gV mw_1074 mw_1075 mw_1076 mw_5 mw_1077) rfl rfl rfl (by decide +kernel) ⟨Nat.le_of_ble_eq_true rfl, Nat.le_of_ble_eq_true rfl⟩) (my_preV hPc hK hDc hE hS hFc (va_recv (q := (RX8, TX8, 23)) hK hP (ci := 8) (q0 := 2) rfl rfl)) rfl rfl hl.1 rfl (lv_room (Nat.le_of_ble_eq_true rfl)) dL_law_1234 ⟨by show _ ≤ 601024; omega, by show _ ≤ 7293034; omega⟩) hS (fun q _ h => hFc q h) hFc (fun rm9 u9 t9 H1 locs ht hvm hwm hB hz1 hk1 hS => ?_)
    obtain ⟨hP1, hD1⟩ := hB
    rw [ht] at hP1
    obtain ⟨hP, hD⟩ := va_joinQ (X := XLW cy o3 o4 am (vp_updL f3 ((0 : Int32).toNatClampNeg) (x.toInt64)) f4 r) (cx := (WM cy am r)) (wr := [(o3, eL cy (vp_updL f3 ((0 : Int32).toNatClampNeg) (x.toInt64))), (o4, eD cy f4)]) (w1 := (WM cy am (r2))) (pl := WC cy ad' ks' c2g c2) hP hD [2, 3, 4, 5, 6, 7, 8, 9, 10, 11, 12] [0, 1] rfl rfl (by decide) (by decide) hk1 hFc hP1 hD1
    have hP : va_P (dC, dI) vwCl (XLW cy o3 o4 am (vp_updL f3 ((0 : Int32).toNatClampNeg) (x.toInt64)) f4 r2 ++ WC cy ad' ks' c2g c2) H1 := hP
    have hD : va_D (fun q : Nat => s.heap.size ≤ q) (XLW cy o3 o4 am (vp_updL f3 ((0 : Int32).toNatClampNeg) (x.toInt64)) f4 r2 ++ WC cy ad' ks' c2g c2) := hD
    generalize H1 = H at hP hS ⊢
    clear hP1 hD1 hPc hDc hFc hk1 hz1 hvm ht
    refine my_topi hwm ?_
    refine lv_istore (lv' := [(7, .int x), (6, .int rw9), (5, .int (nI (4 * n))), (4, .ref o4), (3, .ref o3), (2, .ref (am 0)), (1, .ref (ad' .cl)), (0, .ref b)]) hx hb dL_law_1237 hl (by decide) rfl (fun ls hl => ?_)
    refine lv_goto (tgt := 1791) hx hb dL_law_1239 (by decide) ?_
    refine W.widen (k := cells + 603) (n := slots + 9640) (by omega) (by omega) ?_
    exact K H locs ls ⟨ad', ks', c2g, c2, r2, (vp_updL f3 ((0 : Int32).toNatClampNeg) (x.toInt64)), f4, hkz, e3.mono (by omega) (by omega) (by omega), hP, hD, hS, lv_sub hl [2, 3, 4, 5, 6, 7] rfl⟩
  · have e2 : C7_setRest g u (xs (4 * n + 1)) (xs (4 * n + 2)) (xs (4 * n + 3)) = some (.inl (nI (k + 0))) := e2
    generalize hxx : (nI (k + 0)) = xk at e2
    refine lv_aload_n hx hb dL_law_1190 rfl (lv_at hl 4 rfl) ?_
    refine lv_aload_n hx hb dL_law_1191 rfl (lv_at hl 5 rfl) ?_
    refine lv_iload hx hb dL_law_1192 (lv_at hl 0 rfl) ?_
    refine lv_iconst (v := 1) hx hb dL_law_1194 (by decide) ?_
    refine lv_iadd hx hb dL_law_1195 ?_
    refine my_topi (y := nI (4 * n + 1)) (nI_add (4 * n) 1) ?_
    refine va_sld hx hb hX hbl hbA hS (vp_in_nI (n := 4 * n + 1) (by omega) (by omega)) dL_law_1196 ?_
    refine my_topi (y := xs (4 * n + 1)) (congrArg xs (nI_clamp (by omega))) ?_
    refine lv_aload_n hx hb dL_law_1197 rfl (lv_at hl 5 rfl) ?_
    refine lv_iload hx hb dL_law_1198 (lv_at hl 0 rfl) ?_
    refine lv_iconst (v := 2) hx hb dL_law_1200 (by decide) ?_
    refine lv_iadd hx hb dL_law_1201 ?_
    refine my_topi (y := nI (4 * n + 2)) (nI_add (4 * n) 2) ?_
    refine va_sld hx hb hX hbl hbA hS (vp_in_nI (n := 4 * n + 2) (by omega) (by omega)) dL_law_1202 ?_
    refine my_topi (y := xs (4 * n + 2)) (congrArg xs (nI_clamp (by omega))) ?_
    refine lv_aload_n hx hb dL_law_1203 rfl (lv_at hl 5 rfl) ?_
    refine lv_iload hx hb dL_law_1204 (lv_at hl 0 rfl) ?_
    refine lv_iconst (v := 3) hx hb dL_law_1206 (by decide) ?_
    refine lv_iadd hx hb dL_law_1207 ?_
    refine my_topi (y := nI (4 * n + 3)) (nI_add (4 * n) 3) ?_
    refine va_sld hx hb hX hbl hbA hS (vp_in_nI (n := 4 * n + 3) (by omega) (by omega)) dL_law_1208 ?_
    refine my_topi (y := xs (4 * n + 3)) (congrArg xs (nI_clamp (by omega))) ?_
    refine lv_aload_n hx hb dL_law_1209 rfl (lv_at hl 2 rfl) ?_
    have hPc : va_P (dC, dI) vwCl ([(o3, eL cy f3)] ++ WC cy ad ks g u) H := hP.part (X := XLW cy o3 o4 am f3 f4 r) (cx := [(o3, eL cy f3)]) [0] rfl
    have hDc : va_D (fun q : Nat => s.heap.size ≤ q) ([(o3, eL cy f3)] ++ WC cy ad ks g u) := hD.part (X := XLW cy o3 o4 am f3 f4 r) (cx := [(o3, eL cy f3)]) [0] (by decide) rfl
    have hFc : ∀ q, va_A ([(o3, eL cy f3)] ++ WC cy ad ks g u) H.size q → s.heap.size ≤ q := va_freeP (X := XLW cy o3 o4 am f3 f4 r) (cx := [(o3, eL cy f3)]) hD hS hA [0] rfl
    refine vx_calli (vx_runSX (As := [.ref (ad .cl), .int (xs (4 * n + 1)), .int (xs (4 * n + 2)), .int (xs (4 * n + 3)), .ref o3]) (rest := []) ⟨hx, hb, hml, hown, hts⟩ (ct_setRest l hst dC dI cy nb ad ks g hk u ((xs (4 * n + 1))) ((xs (4 * n + 2))) ((xs (4 * n + 3))) o3 f3 xk H.size e2) (vx_cwSW 5 hts (gSH mw_1067 mw_1068 mw_562 mw_1069) rfl rfl rfl (by decide +kernel) ⟨Nat.le_of_ble_eq_true rfl, Nat.le_of_ble_eq_true rfl⟩) (my_preS hPc hK hDc hE hS hFc) rfl rfl hl.1 rfl (lv_room (Nat.le_of_ble_eq_true rfl)) dL_law_1210 ⟨by show _ ≤ 601024; omega, by show _ ≤ 7293034; omega⟩) hS (fun q _ h => hFc q h) hFc (fun q _ h => hFc q h) (fun E9 ce9 q9 u9 t9 H1 locs1 ht9 hvm9 hp9 _ _ _ _ _ _ _ => hp9.elim) (fun rw9 u9 t9 H1 locs ht hvm hw hB hz1 hk1 hS => ?_)
    obtain ⟨hP1, hD1⟩ := hB
    rw [ht] at hP1
    obtain ⟨hP, hD⟩ := va_joinP (X := XLW cy o3 o4 am f3 f4 r) (cx := [(o3, eL cy f3)]) (wr := ((o4, eD cy f4) :: WM cy am r)) (rx := [(o3, eL cy f3)]) (pl := WC cy ad ks g u) (pl1 := WC cy ad ks g u) hP hD [0] [1, 2, 3, 4, 5, 6, 7, 8, 9, 10, 11, 12] rfl rfl (by decide) (by decide) hk1 hFc hP1 hD1
    have hP : va_P (dC, dI) vwCl (XLW cy o3 o4 am f3 f4 r ++ WC cy ad ks g u) H1 := hP.part (X := ((o4, eD cy f4) :: WM cy am r) ++ [(o3, eL cy f3)]) (cx := XLW cy o3 o4 am f3 f4 r) [12, 0, 1, 2, 3, 4, 5, 6, 7, 8, 9, 10, 11] rfl
    have hD : va_D (fun q : Nat => s.heap.size ≤ q) (XLW cy o3 o4 am f3 f4 r ++ WC cy ad ks g u) := hD.part (X := ((o4, eD cy f4) :: WM cy am r) ++ [(o3, eL cy f3)]) (cx := XLW cy o3 o4 am f3 f4 r) [12, 0, 1, 2, 3, 4, 5, 6, 7, 8, 9, 10, 11] (by decide) rfl
    generalize H1 = H at hP hS ⊢
    clear hP1 hD1 hPc hDc hFc hk1 hz1 hvm ht
    refine lv_istore (lv' := [(6, .int rw9), (5, .int (nI (4 * n))), (4, .ref o4), (3, .ref o3), (2, .ref (am 0)), (1, .ref (ad .cl)), (0, .ref b)]) hx hb dL_law_1213 hl (by decide) rfl (fun ls hl => ?_)
    refine lv_aload_n hx hb dL_law_1215 rfl (lv_at hl 4 rfl) ?_
    refine lv_aload_n hx hb dL_law_1216 rfl (lv_at hl 6 rfl) ?_
    refine lv_iload hx hb dL_law_1217 (lv_at hl 1 rfl) ?_
    refine lv_iconst (v := 1) hx hb dL_law_1219 (by decide) ?_
    refine lv_iadd hx hb dL_law_1220 ?_
    refine my_topi (y := nI (4 * n + 1)) (nI_add (4 * n) 1) ?_
    refine va_sld hx hb hX hbl hbA hS (vp_in_nI (n := 4 * n + 1) (by omega) (by omega)) dL_law_1221 ?_
    refine my_topi (y := xs (4 * n + 1)) (congrArg xs (nI_clamp (by omega))) ?_
    refine lv_aload_n hx hb dL_law_1222 rfl (lv_at hl 6 rfl) ?_
    refine lv_iload hx hb dL_law_1223 (lv_at hl 1 rfl) ?_
    refine lv_iconst (v := 2) hx hb dL_law_1225 (by decide) ?_
    refine lv_iadd hx hb dL_law_1226 ?_
    refine my_topi (y := nI (4 * n + 2)) (nI_add (4 * n) 2) ?_
    refine va_sld hx hb hX hbl hbA hS (vp_in_nI (n := 4 * n + 2) (by omega) (by omega)) dL_law_1227 ?_
    refine my_topi (y := xs (4 * n + 2)) (congrArg xs (nI_clamp (by omega))) ?_
    refine lv_aload_n hx hb dL_law_1228 rfl (lv_at hl 6 rfl) ?_
    refine lv_iload hx hb dL_law_1229 (lv_at hl 1 rfl) ?_
    refine lv_iconst (v := 3) hx hb dL_law_1231 (by decide) ?_
    refine lv_iadd hx hb dL_law_1232 ?_
    refine my_topi (y := nI (4 * n + 3)) (nI_add (4 * n) 3) ?_
    refine va_sld hx hb hX hbl hbA hS (vp_in_nI (n := 4 * n + 3) (by omega) (by omega)) dL_law_1233 ?_
    refine my_topi (y := xs (4 * n + 3)) (congrArg xs (nI_clamp (by omega))) ?_
    have hPc := hP.sub (ws' := (WM cy am r)) [2, 3, 4, 5, 6, 7, 8, 9, 10, 11, 12] rfl
    have hDc := hD.sub (ws' := (WM cy am r)) [2, 3, 4, 5, 6, 7, 8, 9, 10, 11, 12] (by decide) rfl
    have hFc := va_free (wc := (WM cy am r)) hD hS hA [2, 3, 4, 5, 6, 7, 8, 9, 10, 11, 12] rfl
    refine va_calli (va_runV (As := [.int (xs (4 * n + 1)), .int (xs (4 * n + 2)), .int (xs (4 * n + 3))]) (rest := []) ⟨hx, hb, hml, hown, hts⟩ (k_X8_setRest l dC dI cy nb am r ((xs (4 * n + 1))) ((xs (4 * n + 2))) ((xs (4 * n + 3))) (nI 0) (th r k) H.size e1) (cwV 3 hts (gV mw_1074 mw_1075 mw_1076 mw_5 mw_1077) rfl rfl rfl (by decide +kernel) ⟨Nat.le_of_ble_eq_true rfl, Nat.le_of_ble_eq_true rfl⟩) (my_preV hPc hK hDc hE hS hFc (va_recv (q := (RX8, TX8, 23)) hK hP (ci := 8) (q0 := 2) rfl rfl)) rfl rfl hl.1 rfl (lv_room (Nat.le_of_ble_eq_true rfl)) dL_law_1234 ⟨by show _ ≤ 601024; omega, by show _ ≤ 7293034; omega⟩) hS (fun q _ h => hFc q h) hFc (fun rm9 u9 t9 H1 locs ht hvm hwm hB hz1 hk1 hS => ?_)
    obtain ⟨hP1, hD1⟩ := hB
    rw [ht] at hP1
    obtain ⟨hP, hD⟩ := va_joinQ (X := XLW cy o3 o4 am f3 f4 r) (cx := (WM cy am r)) (wr := [(o3, eL cy f3), (o4, eD cy f4)]) (w1 := (WM cy am (th r k))) (pl := WC cy ad ks g u) hP hD [2, 3, 4, 5, 6, 7, 8, 9, 10, 11, 12] [0, 1] rfl rfl (by decide) (by decide) hk1 hFc hP1 hD1
    have hP : va_P (dC, dI) vwCl (XLW cy o3 o4 am f3 f4 (th r k) ++ WC cy ad ks g u) H1 := hP
    have hD : va_D (fun q : Nat => s.heap.size ≤ q) (XLW cy o3 o4 am f3 f4 (th r k) ++ WC cy ad ks g u) := hD
    generalize H1 = H at hP hS ⊢
    clear hP1 hD1 hPc hDc hFc hk1 hz1 hvm ht
    refine my_topi hwm ?_
    refine lv_istore (lv' := [(7, .int (nI 0)), (6, .int rw9), (5, .int (nI (4 * n))), (4, .ref o4), (3, .ref o3), (2, .ref (am 0)), (1, .ref (ad .cl)), (0, .ref b)]) hx hb dL_law_1237 hl (by decide) rfl (fun ls hl => ?_)
    refine lv_goto (tgt := 1791) hx hb dL_law_1239 (by decide) ?_
    refine W.widen (k := cells + 603) (n := slots + 9640) (by omega) (by omega) ?_
    exact K H locs ls ⟨ad, ks, g, u, (th r k), f3, f4, hk, (hGI.thr).mono (by omega) (by omega) (by omega), hP, hD, hS, lv_sub hl [2, 3, 4, 5, 6, 7] rfl⟩
set_option maxHeartbeats 8000000 in
set_option maxRecDepth 100000 in
theorem law_c31 {p : Program} {e : Env} {s : State} {m : MethodId} {below : List Frame} {meth : Method} {c : Code} (l : Launch) (hst : l.stackTraces = false) {b L : Nat} {xs : Nat → Int32} (dC : Nat → ClassId) (dI : Nat → Nat → Nat) (cy : Nat → ClassId) (nb : Nat → Nat) (o3 o4 : Nat) (am : Nat → Nat) {n : Nat} (hn : n < 512) (hL : 4 * n + 4 ≤ L) (hL2 : L ≤ 2048) (C0 : LX p s m meth c b L xs dC dI cy nb) {Q : State → Prop} {H : Heap} {locs : List Loc} {ls : Array Slot} {cells slots : Nat} (hc : cells ≤ 400000) (hs : slots ≤ 6000000) (h : LSt s dC dI cy nb b o3 o4 am n (4 * n) H locs ls) (K : ∀ (H : Heap) (locs : List Loc) (ls : Array Slot), LSt s dC dI cy nb b o3 o4 am (n + 1) (4 * n) H locs ls → W p l e room_1 s m #[Value.ref b] below meth c H locs (cells + 603) (slots + 9640) Q (F0 m 1791 ls [])) : W p l e room_1 s m #[Value.ref b] below meth c H locs cells slots Q (F0 m 1242 ls []) := by
  obtain ⟨hx, hb, hr, hml, hown, hts, hX, hbl, hlocks, hK, hE⟩ := C0
  have hA : ∀ q : Nat, s.heap.size ≤ q → (fun q : Nat => s.heap.size ≤ q) q := fun _ h => h
  have hbA : ¬ (fun q : Nat => s.heap.size ≤ q) b := Nat.not_le.mpr hbl
  obtain ⟨ad, ks, g, u, r, f3, f4, hk, hGI, hP, hD, hS, hl⟩ := h
  have h9 : AT (F8_rush r (xs (4 * n + 1))) (C7_rush g u (xs (4 * n + 1))) r 0 (2001 * n) (602 * n) := a_rush hGI
  rcases h9 with ⟨x, r2, c2, c2g, e1, e2, e3, e6⟩ | ⟨k, k1, k2, e1, e2⟩
  · refine lv_aload_n hx hb dL_law_1242 rfl (lv_at hl 4 rfl) ?_
    refine lv_aload_n hx hb dL_law_1243 rfl (lv_at hl 5 rfl) ?_
    refine lv_iload hx hb dL_law_1244 (lv_at hl 0 rfl) ?_
    refine lv_iconst (v := 1) hx hb dL_law_1246 (by decide) ?_
    refine lv_iadd hx hb dL_law_1247 ?_
    refine my_topi (y := nI (4 * n + 1)) (nI_add (4 * n) 1) ?_
    refine va_sld hx hb hX hbl hbA hS (vp_in_nI (n := 4 * n + 1) (by omega) (by omega)) dL_law_1248 ?_
    refine my_topi (y := xs (4 * n + 1)) (congrArg xs (nI_clamp (by omega))) ?_
    refine lv_aload_n hx hb dL_law_1249 rfl (lv_at hl 2 rfl) ?_
    have hPc : va_P (dC, dI) vwCl ([(o3, eL cy f3)] ++ WC cy ad ks g u) H := hP.part (X := XLW cy o3 o4 am f3 f4 r) (cx := [(o3, eL cy f3)]) [0] rfl
    have hDc : va_D (fun q : Nat => s.heap.size ≤ q) ([(o3, eL cy f3)] ++ WC cy ad ks g u) := hD.part (X := XLW cy o3 o4 am f3 f4 r) (cx := [(o3, eL cy f3)]) [0] (by decide) rfl
    have hFc : ∀ q, va_A ([(o3, eL cy f3)] ++ WC cy ad ks g u) H.size q → s.heap.size ≤ q := va_freeP (X := XLW cy o3 o4 am f3 f4 r) (cx := [(o3, eL cy f3)]) hD hS hA [0] rfl
    refine vx_calli (vx_runSX (As := [.ref (ad .cl), .int (xs (4 * n + 1)), .ref o3]) (rest := []) ⟨hx, hb, hml, hown, hts⟩ (cn_rush l hst dC dI cy nb ad ks g hk u ((xs (4 * n + 1))) o3 f3 x c2g c2 H.size e2) (vx_cwSW 3 hts (gSH mw_1079 mw_1080 mw_562 mw_1081) rfl rfl rfl (by decide +kernel) ⟨Nat.le_of_ble_eq_true rfl, Nat.le_of_ble_eq_true rfl⟩) (my_preS hPc hK hDc hE hS hFc) rfl rfl hl.1 rfl (lv_room (Nat.le_of_ble_eq_true rfl)) dL_law_1250 ⟨by show _ ≤ 601024; omega, by show _ ≤ 7293034; omega⟩) hS (fun q _ h => hFc q h) hFc (fun q _ h => hFc q h) (fun E9 ce9 q9 u9 t9 H1 locs1 ht9 hvm9 hp9 _ _ _ _ _ _ _ => hp9.elim) (fun rw9 u9 t9 H1 locs ht hvm hw hB hz1 hk1 hS => ?_)
    obtain ⟨ad', ks', hkz, axz, hP1, hD1⟩ := hB
    rw [ht] at hP1
    obtain ⟨hP, hD⟩ := va_joinP (X := XLW cy o3 o4 am f3 f4 r) (cx := [(o3, eL cy f3)]) (wr := ((o4, eD cy f4) :: WM cy am r)) (rx := [(o3, eL cy (vp_updL f3 ((0 : Int32).toNatClampNeg) (x.toInt64)))]) (pl := WC cy ad ks g u) (pl1 := WC cy ad' ks' c2g c2) hP hD [0] [1, 2, 3, 4, 5, 6, 7, 8, 9, 10, 11, 12] rfl rfl (by decide) (by decide) hk1 hFc hP1 hD1
    have hP : va_P (dC, dI) vwCl (XLW cy o3 o4 am (vp_updL f3 ((0 : Int32).toNatClampNeg) (x.toInt64)) f4 r ++ WC cy ad' ks' c2g c2) H1 := hP.part (X := ((o4, eD cy f4) :: WM cy am r) ++ [(o3, eL cy (vp_updL f3 ((0 : Int32).toNatClampNeg) (x.toInt64)))]) (cx := XLW cy o3 o4 am (vp_updL f3 ((0 : Int32).toNatClampNeg) (x.toInt64)) f4 r) [12, 0, 1, 2, 3, 4, 5, 6, 7, 8, 9, 10, 11] rfl
    have hD : va_D (fun q : Nat => s.heap.size ≤ q) (XLW cy o3 o4 am (vp_updL f3 ((0 : Int32).toNatClampNeg) (x.toInt64)) f4 r ++ WC cy ad' ks' c2g c2) := hD.part (X := ((o4, eD cy f4) :: WM cy am r) ++ [(o3, eL cy (vp_updL f3 ((0 : Int32).toNatClampNeg) (x.toInt64)))]) (cx := XLW cy o3 o4 am (vp_updL f3 ((0 : Int32).toNatClampNeg) (x.toInt64)) f4 r) [12, 0, 1, 2, 3, 4, 5, 6, 7, 8, 9, 10, 11] (by decide) rfl
    generalize H1 = H at hP hS ⊢
    have hl : lv_has ls 10 [(5, .int (nI (4 * n))), (4, .ref o4), (3, .ref o3), (2, .ref (am 0)), (1, .ref (ad' .cl)), (0, .ref b)] := by rw [(axz .cl True.intro).2]; exact hl
    clear hP1 hD1 hPc hDc hFc hk1 hz1 hvm ht
    refine lv_istore (lv' := [(6, .int rw9), (5, .int (nI (4 * n))), (4, .ref o4), (3, .ref o3), (2, .ref (am 0)), (1, .ref (ad' .cl)), (0, .ref b)]) hx hb dL_law_1253 hl (by decide) rfl (fun ls hl => ?_)
    refine lv_aload_n hx hb dL_law_1255 rfl (lv_at hl 4 rfl) ?_
    refine lv_aload_n hx hb dL_law_1256 rfl (lv_at hl 6 rfl) ?_
    refine lv_iload hx hb dL_law_1257 (lv_at hl 1 rfl) ?_
    refine lv_iconst (v := 1) hx hb dL_law_1259 (by decide) ?_
    refine lv_iadd hx hb dL_law_1260 ?_
    refine my_topi (y := nI (4 * n + 1)) (nI_add (4 * n) 1) ?_
    refine va_sld hx hb hX hbl hbA hS (vp_in_nI (n := 4 * n + 1) (by omega) (by omega)) dL_law_1261 ?_
    refine my_topi (y := xs (4 * n + 1)) (congrArg xs (nI_clamp (by omega))) ?_
    have hPc := hP.sub (ws' := (WM cy am r)) [2, 3, 4, 5, 6, 7, 8, 9, 10, 11, 12] rfl
    have hDc := hD.sub (ws' := (WM cy am r)) [2, 3, 4, 5, 6, 7, 8, 9, 10, 11, 12] (by decide) rfl
    have hFc := va_free (wc := (WM cy am r)) hD hS hA [2, 3, 4, 5, 6, 7, 8, 9, 10, 11, 12] rfl
    refine va_calli (va_runV (As := [.int (xs (4 * n + 1))]) (rest := []) ⟨hx, hb, hml, hown, hts⟩ (k_X8_rush l dC dI cy nb am r ((xs (4 * n + 1))) x (r2) H.size e1) (cwV 1 hts (gV mw_1087 mw_1088 mw_1089 mw_5 mw_1090) rfl rfl rfl (by decide +kernel) ⟨Nat.le_of_ble_eq_true rfl, Nat.le_of_ble_eq_true rfl⟩) (my_preV hPc hK hDc hE hS hFc (va_recv (q := (RX8, TX8, 23)) hK hP (ci := 8) (q0 := 2) rfl rfl)) rfl rfl hl.1 rfl (lv_room (Nat.le_of_ble_eq_true rfl)) dL_law_1262 ⟨by show _ ≤ 601024; omega, by show _ ≤ 7293034; omega⟩) hS (fun q _ h => hFc q h) hFc (fun rm9 u9 t9 H1 locs ht hvm hwm hB hz1 hk1 hS => ?_)
    obtain ⟨hP1, hD1⟩ := hB
    rw [ht] at hP1
    obtain ⟨hP, hD⟩ := va_joinQ (X := XLW cy o3 o4 am (vp_updL f3 ((0 : Int32).toNatClampNeg) (x.toInt64)) f4 r) (cx := (WM cy am r)) (wr := [(o3, eL cy (vp_updL f3 ((0 : Int32).toNatClampNeg) (x.toInt64))), (o4, eD cy f4)]) (w1 := (WM cy am (r2))) (pl := WC cy ad' ks' c2g c2) hP hD [2, 3, 4, 5, 6, 7, 8, 9, 10, 11, 12] [0, 1] rfl rfl (by decide) (by decide) hk1 hFc hP1 hD1
    have hP : va_P (dC, dI) vwCl (XLW cy o3 o4 am (vp_updL f3 ((0 : Int32).toNatClampNeg) (x.toInt64)) f4 r2 ++ WC cy ad' ks' c2g c2) H1 := hP
    have hD : va_D (fun q : Nat => s.heap.size ≤ q) (XLW cy o3 o4 am (vp_updL f3 ((0 : Int32).toNatClampNeg) (x.toInt64)) f4 r2 ++ WC cy ad' ks' c2g c2) := hD
    generalize H1 = H at hP hS ⊢
    clear hP1 hD1 hPc hDc hFc hk1 hz1 hvm ht
    refine my_topi hwm ?_
    refine lv_istore (lv' := [(7, .int x), (6, .int rw9), (5, .int (nI (4 * n))), (4, .ref o4), (3, .ref o3), (2, .ref (am 0)), (1, .ref (ad' .cl)), (0, .ref b)]) hx hb dL_law_1265 hl (by decide) rfl (fun ls hl => ?_)
    refine lv_goto (tgt := 1791) hx hb dL_law_1267 (by decide) ?_
    refine W.widen (k := cells + 603) (n := slots + 9640) (by omega) (by omega) ?_
    exact K H locs ls ⟨ad', ks', c2g, c2, r2, (vp_updL f3 ((0 : Int32).toNatClampNeg) (x.toInt64)), f4, hkz, e3.mono (by omega) (by omega) (by omega), hP, hD, hS, lv_sub hl [2, 3, 4, 5, 6, 7] rfl⟩
  · have e2 : C7_rush g u (xs (4 * n + 1)) = some (.inl (nI (k + 0))) := e2
    generalize hxx : (nI (k + 0)) = xk at e2
    have hxk : xk = 1 := x1_rush e2
    refine lv_aload_n hx hb dL_law_1242 rfl (lv_at hl 4 rfl) ?_
    refine lv_aload_n hx hb dL_law_1243 rfl (lv_at hl 5 rfl) ?_
    refine lv_iload hx hb dL_law_1244 (lv_at hl 0 rfl) ?_
    refine lv_iconst (v := 1) hx hb dL_law_1246 (by decide) ?_
    refine lv_iadd hx hb dL_law_1247 ?_
    refine my_topi (y := nI (4 * n + 1)) (nI_add (4 * n) 1) ?_
    refine va_sld hx hb hX hbl hbA hS (vp_in_nI (n := 4 * n + 1) (by omega) (by omega)) dL_law_1248 ?_
    refine my_topi (y := xs (4 * n + 1)) (congrArg xs (nI_clamp (by omega))) ?_
    refine lv_aload_n hx hb dL_law_1249 rfl (lv_at hl 2 rfl) ?_
    have hPc : va_P (dC, dI) vwCl ([(o3, eL cy f3)] ++ WC cy ad ks g u) H := hP.part (X := XLW cy o3 o4 am f3 f4 r) (cx := [(o3, eL cy f3)]) [0] rfl
    have hDc : va_D (fun q : Nat => s.heap.size ≤ q) ([(o3, eL cy f3)] ++ WC cy ad ks g u) := hD.part (X := XLW cy o3 o4 am f3 f4 r) (cx := [(o3, eL cy f3)]) [0] (by decide) rfl
    have hFc : ∀ q, va_A ([(o3, eL cy f3)] ++ WC cy ad ks g u) H.size q → s.heap.size ≤ q := va_freeP (X := XLW cy o3 o4 am f3 f4 r) (cx := [(o3, eL cy f3)]) hD hS hA [0] rfl
    refine vx_calli (vx_runSX (As := [.ref (ad .cl), .int (xs (4 * n + 1)), .ref o3]) (rest := []) ⟨hx, hb, hml, hown, hts⟩ (ct_rush l hst dC dI cy nb ad ks g hk u ((xs (4 * n + 1))) o3 f3 xk H.size hxk e2) (vx_cwSW 3 hts (gSH mw_1079 mw_1080 mw_562 mw_1081) rfl rfl rfl (by decide +kernel) ⟨Nat.le_of_ble_eq_true rfl, Nat.le_of_ble_eq_true rfl⟩) (my_preS hPc hK hDc hE hS hFc) rfl rfl hl.1 rfl (lv_room (Nat.le_of_ble_eq_true rfl)) dL_law_1250 ⟨by show _ ≤ 601024; omega, by show _ ≤ 7293034; omega⟩) hS (fun q _ h => hFc q h) hFc (fun q _ h => hFc q h) (fun E9 ce9 q9 u9 t9 H1 locs1 ht9 hvm9 hp9 _ _ _ _ _ _ _ => hp9.elim) (fun rw9 u9 t9 H1 locs ht hvm hw hB hz1 hk1 hS => ?_)
    obtain ⟨hP1, hD1⟩ := hB
    rw [ht] at hP1
    obtain ⟨hP, hD⟩ := va_joinP (X := XLW cy o3 o4 am f3 f4 r) (cx := [(o3, eL cy f3)]) (wr := ((o4, eD cy f4) :: WM cy am r)) (rx := [(o3, eL cy f3)]) (pl := WC cy ad ks g u) (pl1 := WC cy ad ks g u) hP hD [0] [1, 2, 3, 4, 5, 6, 7, 8, 9, 10, 11, 12] rfl rfl (by decide) (by decide) hk1 hFc hP1 hD1
    have hP : va_P (dC, dI) vwCl (XLW cy o3 o4 am f3 f4 r ++ WC cy ad ks g u) H1 := hP.part (X := ((o4, eD cy f4) :: WM cy am r) ++ [(o3, eL cy f3)]) (cx := XLW cy o3 o4 am f3 f4 r) [12, 0, 1, 2, 3, 4, 5, 6, 7, 8, 9, 10, 11] rfl
    have hD : va_D (fun q : Nat => s.heap.size ≤ q) (XLW cy o3 o4 am f3 f4 r ++ WC cy ad ks g u) := hD.part (X := ((o4, eD cy f4) :: WM cy am r) ++ [(o3, eL cy f3)]) (cx := XLW cy o3 o4 am f3 f4 r) [12, 0, 1, 2, 3, 4, 5, 6, 7, 8, 9, 10, 11] (by decide) rfl
    generalize H1 = H at hP hS ⊢
    clear hP1 hD1 hPc hDc hFc hk1 hz1 hvm ht
    refine lv_istore (lv' := [(6, .int rw9), (5, .int (nI (4 * n))), (4, .ref o4), (3, .ref o3), (2, .ref (am 0)), (1, .ref (ad .cl)), (0, .ref b)]) hx hb dL_law_1253 hl (by decide) rfl (fun ls hl => ?_)
    refine lv_aload_n hx hb dL_law_1255 rfl (lv_at hl 4 rfl) ?_
    refine lv_aload_n hx hb dL_law_1256 rfl (lv_at hl 6 rfl) ?_
    refine lv_iload hx hb dL_law_1257 (lv_at hl 1 rfl) ?_
    refine lv_iconst (v := 1) hx hb dL_law_1259 (by decide) ?_
    refine lv_iadd hx hb dL_law_1260 ?_
    refine my_topi (y := nI (4 * n + 1)) (nI_add (4 * n) 1) ?_
    refine va_sld hx hb hX hbl hbA hS (vp_in_nI (n := 4 * n + 1) (by omega) (by omega)) dL_law_1261 ?_
    refine my_topi (y := xs (4 * n + 1)) (congrArg xs (nI_clamp (by omega))) ?_
    have hPc := hP.sub (ws' := (WM cy am r)) [2, 3, 4, 5, 6, 7, 8, 9, 10, 11, 12] rfl
    have hDc := hD.sub (ws' := (WM cy am r)) [2, 3, 4, 5, 6, 7, 8, 9, 10, 11, 12] (by decide) rfl
    have hFc := va_free (wc := (WM cy am r)) hD hS hA [2, 3, 4, 5, 6, 7, 8, 9, 10, 11, 12] rfl
    refine va_calli (va_runV (As := [.int (xs (4 * n + 1))]) (rest := []) ⟨hx, hb, hml, hown, hts⟩ (k_X8_rush l dC dI cy nb am r ((xs (4 * n + 1))) (nI 0) (th r k) H.size e1) (cwV 1 hts (gV mw_1087 mw_1088 mw_1089 mw_5 mw_1090) rfl rfl rfl (by decide +kernel) ⟨Nat.le_of_ble_eq_true rfl, Nat.le_of_ble_eq_true rfl⟩) (my_preV hPc hK hDc hE hS hFc (va_recv (q := (RX8, TX8, 23)) hK hP (ci := 8) (q0 := 2) rfl rfl)) rfl rfl hl.1 rfl (lv_room (Nat.le_of_ble_eq_true rfl)) dL_law_1262 ⟨by show _ ≤ 601024; omega, by show _ ≤ 7293034; omega⟩) hS (fun q _ h => hFc q h) hFc (fun rm9 u9 t9 H1 locs ht hvm hwm hB hz1 hk1 hS => ?_)
    obtain ⟨hP1, hD1⟩ := hB
    rw [ht] at hP1
    obtain ⟨hP, hD⟩ := va_joinQ (X := XLW cy o3 o4 am f3 f4 r) (cx := (WM cy am r)) (wr := [(o3, eL cy f3), (o4, eD cy f4)]) (w1 := (WM cy am (th r k))) (pl := WC cy ad ks g u) hP hD [2, 3, 4, 5, 6, 7, 8, 9, 10, 11, 12] [0, 1] rfl rfl (by decide) (by decide) hk1 hFc hP1 hD1
    have hP : va_P (dC, dI) vwCl (XLW cy o3 o4 am f3 f4 (th r k) ++ WC cy ad ks g u) H1 := hP
    have hD : va_D (fun q : Nat => s.heap.size ≤ q) (XLW cy o3 o4 am f3 f4 (th r k) ++ WC cy ad ks g u) := hD
    generalize H1 = H at hP hS ⊢
    clear hP1 hD1 hPc hDc hFc hk1 hz1 hvm ht
    refine my_topi hwm ?_
    refine lv_istore (lv' := [(7, .int (nI 0)), (6, .int rw9), (5, .int (nI (4 * n))), (4, .ref o4), (3, .ref o3), (2, .ref (am 0)), (1, .ref (ad .cl)), (0, .ref b)]) hx hb dL_law_1265 hl (by decide) rfl (fun ls hl => ?_)
    refine lv_goto (tgt := 1791) hx hb dL_law_1267 (by decide) ?_
    refine W.widen (k := cells + 603) (n := slots + 9640) (by omega) (by omega) ?_
    exact K H locs ls ⟨ad, ks, g, u, (th r k), f3, f4, hk, (hGI.thr).mono (by omega) (by omega) (by omega), hP, hD, hS, lv_sub hl [2, 3, 4, 5, 6, 7] rfl⟩
set_option maxHeartbeats 8000000 in
set_option maxRecDepth 100000 in
theorem law_c32 {p : Program} {e : Env} {s : State} {m : MethodId} {below : List Frame} {meth : Method} {c : Code} (l : Launch) (hst : l.stackTraces = false) {b L : Nat} {xs : Nat → Int32} (dC : Nat → ClassId) (dI : Nat → Nat → Nat) (cy : Nat → ClassId) (nb : Nat → Nat) (o3 o4 : Nat) (am : Nat → Nat) {n : Nat} (hn : n < 512) (hL : 4 * n + 4 ≤ L) (hL2 : L ≤ 2048) (C0 : LX p s m meth c b L xs dC dI cy nb) {Q : State → Prop} {H : Heap} {locs : List Loc} {ls : Array Slot} {cells slots : Nat} (hc : cells ≤ 400000) (hs : slots ≤ 6000000) (h : LSt s dC dI cy nb b o3 o4 am n (4 * n) H locs ls) (K : ∀ (H : Heap) (locs : List Loc) (ls : Array Slot), LSt s dC dI cy nb b o3 o4 am (n + 1) (4 * n) H locs ls → W p l e room_1 s m #[Value.ref b] below meth c H locs (cells + 603) (slots + 9640) Q (F0 m 1791 ls [])) : W p l e room_1 s m #[Value.ref b] below meth c H locs cells slots Q (F0 m 1270 ls []) := by
  obtain ⟨hx, hb, hr, hml, hown, hts, hX, hbl, hlocks, hK, hE⟩ := C0
  have hA : ∀ q : Nat, s.heap.size ≤ q → (fun q : Nat => s.heap.size ≤ q) q := fun _ h => h
  have hbA : ¬ (fun q : Nat => s.heap.size ≤ q) b := Nat.not_le.mpr hbl
  obtain ⟨ad, ks, g, u, r, f3, f4, hk, hGI, hP, hD, hS, hl⟩ := h
  have h9 : AT (F8_swap r (xs (4 * n + 1)) (xs (4 * n + 2))) (C7_swap g u (xs (4 * n + 1)) (xs (4 * n + 2))) r 0 (2001 * n) (602 * n) := a_swap hGI
  rcases h9 with ⟨x, r2, c2, c2g, e1, e2, e3, e6⟩ | ⟨k, k1, k2, e1, e2⟩
  · refine lv_aload_n hx hb dL_law_1270 rfl (lv_at hl 4 rfl) ?_
    refine lv_aload_n hx hb dL_law_1271 rfl (lv_at hl 5 rfl) ?_
    refine lv_iload hx hb dL_law_1272 (lv_at hl 0 rfl) ?_
    refine lv_iconst (v := 1) hx hb dL_law_1274 (by decide) ?_
    refine lv_iadd hx hb dL_law_1275 ?_
    refine my_topi (y := nI (4 * n + 1)) (nI_add (4 * n) 1) ?_
    refine va_sld hx hb hX hbl hbA hS (vp_in_nI (n := 4 * n + 1) (by omega) (by omega)) dL_law_1276 ?_
    refine my_topi (y := xs (4 * n + 1)) (congrArg xs (nI_clamp (by omega))) ?_
    refine lv_aload_n hx hb dL_law_1277 rfl (lv_at hl 5 rfl) ?_
    refine lv_iload hx hb dL_law_1278 (lv_at hl 0 rfl) ?_
    refine lv_iconst (v := 2) hx hb dL_law_1280 (by decide) ?_
    refine lv_iadd hx hb dL_law_1281 ?_
    refine my_topi (y := nI (4 * n + 2)) (nI_add (4 * n) 2) ?_
    refine va_sld hx hb hX hbl hbA hS (vp_in_nI (n := 4 * n + 2) (by omega) (by omega)) dL_law_1282 ?_
    refine my_topi (y := xs (4 * n + 2)) (congrArg xs (nI_clamp (by omega))) ?_
    refine lv_aload_n hx hb dL_law_1283 rfl (lv_at hl 2 rfl) ?_
    have hPc : va_P (dC, dI) vwCl ([(o3, eL cy f3)] ++ WC cy ad ks g u) H := hP.part (X := XLW cy o3 o4 am f3 f4 r) (cx := [(o3, eL cy f3)]) [0] rfl
    have hDc : va_D (fun q : Nat => s.heap.size ≤ q) ([(o3, eL cy f3)] ++ WC cy ad ks g u) := hD.part (X := XLW cy o3 o4 am f3 f4 r) (cx := [(o3, eL cy f3)]) [0] (by decide) rfl
    have hFc : ∀ q, va_A ([(o3, eL cy f3)] ++ WC cy ad ks g u) H.size q → s.heap.size ≤ q := va_freeP (X := XLW cy o3 o4 am f3 f4 r) (cx := [(o3, eL cy f3)]) hD hS hA [0] rfl
    refine vx_calli (vx_runSX (As := [.ref (ad .cl), .int (xs (4 * n + 1)), .int (xs (4 * n + 2)), .ref o3]) (rest := []) ⟨hx, hb, hml, hown, hts⟩ (cn_swap l hst dC dI cy nb ad ks g hk u ((xs (4 * n + 1))) ((xs (4 * n + 2))) o3 f3 x c2g c2 H.size e2) (vx_cwSW 4 hts (gSH mw_1091 mw_1092 mw_562 mw_1093) rfl rfl rfl (by decide +kernel) ⟨Nat.le_of_ble_eq_true rfl, Nat.le_of_ble_eq_true rfl⟩) (my_preS hPc hK hDc hE hS hFc) rfl rfl hl.1 rfl (lv_room (Nat.le_of_ble_eq_true rfl)) dL_law_1284 ⟨by show _ ≤ 601024; omega, by show _ ≤ 7293034; omega⟩) hS (fun q _ h => hFc q h) hFc (fun q _ h => hFc q h) (fun E9 ce9 q9 u9 t9 H1 locs1 ht9 hvm9 hp9 _ _ _ _ _ _ _ => hp9.elim) (fun rw9 u9 t9 H1 locs ht hvm hw hB hz1 hk1 hS => ?_)
    obtain ⟨ad', ks', hkz, axz, hP1, hD1⟩ := hB
    rw [ht] at hP1
    obtain ⟨hP, hD⟩ := va_joinP (X := XLW cy o3 o4 am f3 f4 r) (cx := [(o3, eL cy f3)]) (wr := ((o4, eD cy f4) :: WM cy am r)) (rx := [(o3, eL cy (vp_updL f3 ((0 : Int32).toNatClampNeg) (x.toInt64)))]) (pl := WC cy ad ks g u) (pl1 := WC cy ad' ks' c2g c2) hP hD [0] [1, 2, 3, 4, 5, 6, 7, 8, 9, 10, 11, 12] rfl rfl (by decide) (by decide) hk1 hFc hP1 hD1
    have hP : va_P (dC, dI) vwCl (XLW cy o3 o4 am (vp_updL f3 ((0 : Int32).toNatClampNeg) (x.toInt64)) f4 r ++ WC cy ad' ks' c2g c2) H1 := hP.part (X := ((o4, eD cy f4) :: WM cy am r) ++ [(o3, eL cy (vp_updL f3 ((0 : Int32).toNatClampNeg) (x.toInt64)))]) (cx := XLW cy o3 o4 am (vp_updL f3 ((0 : Int32).toNatClampNeg) (x.toInt64)) f4 r) [12, 0, 1, 2, 3, 4, 5, 6, 7, 8, 9, 10, 11] rfl
    have hD : va_D (fun q : Nat => s.heap.size ≤ q) (XLW cy o3 o4 am (vp_updL f3 ((0 : Int32).toNatClampNeg) (x.toInt64)) f4 r ++ WC cy ad' ks' c2g c2) := hD.part (X := ((o4, eD cy f4) :: WM cy am r) ++ [(o3, eL cy (vp_updL f3 ((0 : Int32).toNatClampNeg) (x.toInt64)))]) (cx := XLW cy o3 o4 am (vp_updL f3 ((0 : Int32).toNatClampNeg) (x.toInt64)) f4 r) [12, 0, 1, 2, 3, 4, 5, 6, 7, 8, 9, 10, 11] (by decide) rfl
    generalize H1 = H at hP hS ⊢
    have hl : lv_has ls 10 [(5, .int (nI (4 * n))), (4, .ref o4), (3, .ref o3), (2, .ref (am 0)), (1, .ref (ad' .cl)), (0, .ref b)] := by rw [(axz .cl True.intro).2]; exact hl
    clear hP1 hD1 hPc hDc hFc hk1 hz1 hvm ht
    refine lv_istore (lv' := [(6, .int rw9), (5, .int (nI (4 * n))), (4, .ref o4), (3, .ref o3), (2, .ref (am 0)), (1, .ref (ad' .cl)), (0, .ref b)]) hx hb dL_law_1287 hl (by decide) rfl (fun ls hl => ?_)
    refine lv_aload_n hx hb dL_law_1289 rfl (lv_at hl 4 rfl) ?_
    refine lv_aload_n hx hb dL_law_1290 rfl (lv_at hl 6 rfl) ?_
    refine lv_iload hx hb dL_law_1291 (lv_at hl 1 rfl) ?_
    refine lv_iconst (v := 1) hx hb dL_law_1293 (by decide) ?_
    refine lv_iadd hx hb dL_law_1294 ?_
    refine my_topi (y := nI (4 * n + 1)) (nI_add (4 * n) 1) ?_
    refine va_sld hx hb hX hbl hbA hS (vp_in_nI (n := 4 * n + 1) (by omega) (by omega)) dL_law_1295 ?_
    refine my_topi (y := xs (4 * n + 1)) (congrArg xs (nI_clamp (by omega))) ?_
    refine lv_aload_n hx hb dL_law_1296 rfl (lv_at hl 6 rfl) ?_
    refine lv_iload hx hb dL_law_1297 (lv_at hl 1 rfl) ?_
    refine lv_iconst (v := 2) hx hb dL_law_1299 (by decide) ?_
    refine lv_iadd hx hb dL_law_1300 ?_
    refine my_topi (y := nI (4 * n + 2)) (nI_add (4 * n) 2) ?_
    refine va_sld hx hb hX hbl hbA hS (vp_in_nI (n := 4 * n + 2) (by omega) (by omega)) dL_law_1301 ?_
    refine my_topi (y := xs (4 * n + 2)) (congrArg xs (nI_clamp (by omega))) ?_
    have hPc := hP.sub (ws' := (WM cy am r)) [2, 3, 4, 5, 6, 7, 8, 9, 10, 11, 12] rfl
    have hDc := hD.sub (ws' := (WM cy am r)) [2, 3, 4, 5, 6, 7, 8, 9, 10, 11, 12] (by decide) rfl
    have hFc := va_free (wc := (WM cy am r)) hD hS hA [2, 3, 4, 5, 6, 7, 8, 9, 10, 11, 12] rfl
    refine va_calli (va_runV (As := [.int (xs (4 * n + 1)), .int (xs (4 * n + 2))]) (rest := []) ⟨hx, hb, hml, hown, hts⟩ (k_X8_swap l dC dI cy nb am r ((xs (4 * n + 1))) ((xs (4 * n + 2))) x (r2) H.size e1) (cwV 2 hts (gV mw_1103 mw_1104 mw_1105 mw_5 mw_1106) rfl rfl rfl (by decide +kernel) ⟨Nat.le_of_ble_eq_true rfl, Nat.le_of_ble_eq_true rfl⟩) (my_preV hPc hK hDc hE hS hFc (va_recv (q := (RX8, TX8, 23)) hK hP (ci := 8) (q0 := 2) rfl rfl)) rfl rfl hl.1 rfl (lv_room (Nat.le_of_ble_eq_true rfl)) dL_law_1302 ⟨by show _ ≤ 601024; omega, by show _ ≤ 7293034; omega⟩) hS (fun q _ h => hFc q h) hFc (fun rm9 u9 t9 H1 locs ht hvm hwm hB hz1 hk1 hS => ?_)
    obtain ⟨hP1, hD1⟩ := hB
    rw [ht] at hP1
    obtain ⟨hP, hD⟩ := va_joinQ (X := XLW cy o3 o4 am (vp_updL f3 ((0 : Int32).toNatClampNeg) (x.toInt64)) f4 r) (cx := (WM cy am r)) (wr := [(o3, eL cy (vp_updL f3 ((0 : Int32).toNatClampNeg) (x.toInt64))), (o4, eD cy f4)]) (w1 := (WM cy am (r2))) (pl := WC cy ad' ks' c2g c2) hP hD [2, 3, 4, 5, 6, 7, 8, 9, 10, 11, 12] [0, 1] rfl rfl (by decide) (by decide) hk1 hFc hP1 hD1
    have hP : va_P (dC, dI) vwCl (XLW cy o3 o4 am (vp_updL f3 ((0 : Int32).toNatClampNeg) (x.toInt64)) f4 r2 ++ WC cy ad' ks' c2g c2) H1 := hP
    have hD : va_D (fun q : Nat => s.heap.size ≤ q) (XLW cy o3 o4 am (vp_updL f3 ((0 : Int32).toNatClampNeg) (x.toInt64)) f4 r2 ++ WC cy ad' ks' c2g c2) := hD
    generalize H1 = H at hP hS ⊢
    clear hP1 hD1 hPc hDc hFc hk1 hz1 hvm ht
    refine my_topi hwm ?_
    refine lv_istore (lv' := [(7, .int x), (6, .int rw9), (5, .int (nI (4 * n))), (4, .ref o4), (3, .ref o3), (2, .ref (am 0)), (1, .ref (ad' .cl)), (0, .ref b)]) hx hb dL_law_1305 hl (by decide) rfl (fun ls hl => ?_)
    refine lv_goto (tgt := 1791) hx hb dL_law_1307 (by decide) ?_
    refine W.widen (k := cells + 603) (n := slots + 9640) (by omega) (by omega) ?_
    exact K H locs ls ⟨ad', ks', c2g, c2, r2, (vp_updL f3 ((0 : Int32).toNatClampNeg) (x.toInt64)), f4, hkz, e3.mono (by omega) (by omega) (by omega), hP, hD, hS, lv_sub hl [2, 3, 4, 5, 6, 7] rfl⟩
  · have e2 : C7_swap g u (xs (4 * n + 1)) (xs (4 * n + 2)) = some (.inl (nI (k + 0))) := e2
    generalize hxx : (nI (k + 0)) = xk at e2
    refine lv_aload_n hx hb dL_law_1270 rfl (lv_at hl 4 rfl) ?_
    refine lv_aload_n hx hb dL_law_1271 rfl (lv_at hl 5 rfl) ?_
    refine lv_iload hx hb dL_law_1272 (lv_at hl 0 rfl) ?_
    refine lv_iconst (v := 1) hx hb dL_law_1274 (by decide) ?_
    refine lv_iadd hx hb dL_law_1275 ?_
    refine my_topi (y := nI (4 * n + 1)) (nI_add (4 * n) 1) ?_
    refine va_sld hx hb hX hbl hbA hS (vp_in_nI (n := 4 * n + 1) (by omega) (by omega)) dL_law_1276 ?_
    refine my_topi (y := xs (4 * n + 1)) (congrArg xs (nI_clamp (by omega))) ?_
    refine lv_aload_n hx hb dL_law_1277 rfl (lv_at hl 5 rfl) ?_
    refine lv_iload hx hb dL_law_1278 (lv_at hl 0 rfl) ?_
    refine lv_iconst (v := 2) hx hb dL_law_1280 (by decide) ?_
    refine lv_iadd hx hb dL_law_1281 ?_
    refine my_topi (y := nI (4 * n + 2)) (nI_add (4 * n) 2) ?_
    refine va_sld hx hb hX hbl hbA hS (vp_in_nI (n := 4 * n + 2) (by omega) (by omega)) dL_law_1282 ?_
    refine my_topi (y := xs (4 * n + 2)) (congrArg xs (nI_clamp (by omega))) ?_
    refine lv_aload_n hx hb dL_law_1283 rfl (lv_at hl 2 rfl) ?_
    have hPc : va_P (dC, dI) vwCl ([(o3, eL cy f3)] ++ WC cy ad ks g u) H := hP.part (X := XLW cy o3 o4 am f3 f4 r) (cx := [(o3, eL cy f3)]) [0] rfl
    have hDc : va_D (fun q : Nat => s.heap.size ≤ q) ([(o3, eL cy f3)] ++ WC cy ad ks g u) := hD.part (X := XLW cy o3 o4 am f3 f4 r) (cx := [(o3, eL cy f3)]) [0] (by decide) rfl
    have hFc : ∀ q, va_A ([(o3, eL cy f3)] ++ WC cy ad ks g u) H.size q → s.heap.size ≤ q := va_freeP (X := XLW cy o3 o4 am f3 f4 r) (cx := [(o3, eL cy f3)]) hD hS hA [0] rfl
    refine vx_calli (vx_runSX (As := [.ref (ad .cl), .int (xs (4 * n + 1)), .int (xs (4 * n + 2)), .ref o3]) (rest := []) ⟨hx, hb, hml, hown, hts⟩ (ct_swap l hst dC dI cy nb ad ks g hk u ((xs (4 * n + 1))) ((xs (4 * n + 2))) o3 f3 xk H.size e2) (vx_cwSW 4 hts (gSH mw_1091 mw_1092 mw_562 mw_1093) rfl rfl rfl (by decide +kernel) ⟨Nat.le_of_ble_eq_true rfl, Nat.le_of_ble_eq_true rfl⟩) (my_preS hPc hK hDc hE hS hFc) rfl rfl hl.1 rfl (lv_room (Nat.le_of_ble_eq_true rfl)) dL_law_1284 ⟨by show _ ≤ 601024; omega, by show _ ≤ 7293034; omega⟩) hS (fun q _ h => hFc q h) hFc (fun q _ h => hFc q h) (fun E9 ce9 q9 u9 t9 H1 locs1 ht9 hvm9 hp9 _ _ _ _ _ _ _ => hp9.elim) (fun rw9 u9 t9 H1 locs ht hvm hw hB hz1 hk1 hS => ?_)
    obtain ⟨hP1, hD1⟩ := hB
    rw [ht] at hP1
    obtain ⟨hP, hD⟩ := va_joinP (X := XLW cy o3 o4 am f3 f4 r) (cx := [(o3, eL cy f3)]) (wr := ((o4, eD cy f4) :: WM cy am r)) (rx := [(o3, eL cy f3)]) (pl := WC cy ad ks g u) (pl1 := WC cy ad ks g u) hP hD [0] [1, 2, 3, 4, 5, 6, 7, 8, 9, 10, 11, 12] rfl rfl (by decide) (by decide) hk1 hFc hP1 hD1
    have hP : va_P (dC, dI) vwCl (XLW cy o3 o4 am f3 f4 r ++ WC cy ad ks g u) H1 := hP.part (X := ((o4, eD cy f4) :: WM cy am r) ++ [(o3, eL cy f3)]) (cx := XLW cy o3 o4 am f3 f4 r) [12, 0, 1, 2, 3, 4, 5, 6, 7, 8, 9, 10, 11] rfl
    have hD : va_D (fun q : Nat => s.heap.size ≤ q) (XLW cy o3 o4 am f3 f4 r ++ WC cy ad ks g u) := hD.part (X := ((o4, eD cy f4) :: WM cy am r) ++ [(o3, eL cy f3)]) (cx := XLW cy o3 o4 am f3 f4 r) [12, 0, 1, 2, 3, 4, 5, 6, 7, 8, 9, 10, 11] (by decide) rfl
    generalize H1 = H at hP hS ⊢
    clear hP1 hD1 hPc hDc hFc hk1 hz1 hvm ht
    refine lv_istore (lv' := [(6, .int rw9), (5, .int (nI (4 * n))), (4, .ref o4), (3, .ref o3), (2, .ref (am 0)), (1, .ref (ad .cl)), (0, .ref b)]) hx hb dL_law_1287 hl (by decide) rfl (fun ls hl => ?_)
    refine lv_aload_n hx hb dL_law_1289 rfl (lv_at hl 4 rfl) ?_
    refine lv_aload_n hx hb dL_law_1290 rfl (lv_at hl 6 rfl) ?_
    refine lv_iload hx hb dL_law_1291 (lv_at hl 1 rfl) ?_
    refine lv_iconst (v := 1) hx hb dL_law_1293 (by decide) ?_
    refine lv_iadd hx hb dL_law_1294 ?_
    refine my_topi (y := nI (4 * n + 1)) (nI_add (4 * n) 1) ?_
    refine va_sld hx hb hX hbl hbA hS (vp_in_nI (n := 4 * n + 1) (by omega) (by omega)) dL_law_1295 ?_
    refine my_topi (y := xs (4 * n + 1)) (congrArg xs (nI_clamp (by omega))) ?_
    refine lv_aload_n hx hb dL_law_1296 rfl (lv_at hl 6 rfl) ?_
    refine lv_iload hx hb dL_law_1297 (lv_at hl 1 rfl) ?_
    refine lv_iconst (v := 2) hx hb dL_law_1299 (by decide) ?_
    refine lv_iadd hx hb dL_law_1300 ?_
    refine my_topi (y := nI (4 * n + 2)) (nI_add (4 * n) 2) ?_
    refine va_sld hx hb hX hbl hbA hS (vp_in_nI (n := 4 * n + 2) (by omega) (by omega)) dL_law_1301 ?_
    refine my_topi (y := xs (4 * n + 2)) (congrArg xs (nI_clamp (by omega))) ?_
    have hPc := hP.sub (ws' := (WM cy am r)) [2, 3, 4, 5, 6, 7, 8, 9, 10, 11, 12] rfl
    have hDc := hD.sub (ws' := (WM cy am r)) [2, 3, 4, 5, 6, 7, 8, 9, 10, 11, 12] (by decide) rfl
    have hFc := va_free (wc := (WM cy am r)) hD hS hA [2, 3, 4, 5, 6, 7, 8, 9, 10, 11, 12] rfl
    refine va_calli (va_runV (As := [.int (xs (4 * n + 1)), .int (xs (4 * n + 2))]) (rest := []) ⟨hx, hb, hml, hown, hts⟩ (k_X8_swap l dC dI cy nb am r ((xs (4 * n + 1))) ((xs (4 * n + 2))) (nI 0) (th r k) H.size e1) (cwV 2 hts (gV mw_1103 mw_1104 mw_1105 mw_5 mw_1106) rfl rfl rfl (by decide +kernel) ⟨Nat.le_of_ble_eq_true rfl, Nat.le_of_ble_eq_true rfl⟩) (my_preV hPc hK hDc hE hS hFc (va_recv (q := (RX8, TX8, 23)) hK hP (ci := 8) (q0 := 2) rfl rfl)) rfl rfl hl.1 rfl (lv_room (Nat.le_of_ble_eq_true rfl)) dL_law_1302 ⟨by show _ ≤ 601024; omega, by show _ ≤ 7293034; omega⟩) hS (fun q _ h => hFc q h) hFc (fun rm9 u9 t9 H1 locs ht hvm hwm hB hz1 hk1 hS => ?_)
    obtain ⟨hP1, hD1⟩ := hB
    rw [ht] at hP1
    obtain ⟨hP, hD⟩ := va_joinQ (X := XLW cy o3 o4 am f3 f4 r) (cx := (WM cy am r)) (wr := [(o3, eL cy f3), (o4, eD cy f4)]) (w1 := (WM cy am (th r k))) (pl := WC cy ad ks g u) hP hD [2, 3, 4, 5, 6, 7, 8, 9, 10, 11, 12] [0, 1] rfl rfl (by decide) (by decide) hk1 hFc hP1 hD1
    have hP : va_P (dC, dI) vwCl (XLW cy o3 o4 am f3 f4 (th r k) ++ WC cy ad ks g u) H1 := hP
    have hD : va_D (fun q : Nat => s.heap.size ≤ q) (XLW cy o3 o4 am f3 f4 (th r k) ++ WC cy ad ks g u) := hD
    generalize H1 = H at hP hS ⊢
    clear hP1 hD1 hPc hDc hFc hk1 hz1 hvm ht
    refine my_topi hwm ?_
    refine lv_istore (lv' := [(7, .int (nI 0)), (6, .int rw9), (5, .int (nI (4 * n))), (4, .ref o4), (3, .ref o3), (2, .ref (am 0)), (1, .ref (ad .cl)), (0, .ref b)]) hx hb dL_law_1305 hl (by decide) rfl (fun ls hl => ?_)
    refine lv_goto (tgt := 1791) hx hb dL_law_1307 (by decide) ?_
    refine W.widen (k := cells + 603) (n := slots + 9640) (by omega) (by omega) ?_
    exact K H locs ls ⟨ad, ks, g, u, (th r k), f3, f4, hk, (hGI.thr).mono (by omega) (by omega) (by omega), hP, hD, hS, lv_sub hl [2, 3, 4, 5, 6, 7] rfl⟩
set_option maxHeartbeats 8000000 in
set_option maxRecDepth 100000 in
theorem law_c33 {p : Program} {e : Env} {s : State} {m : MethodId} {below : List Frame} {meth : Method} {c : Code} (l : Launch) (hst : l.stackTraces = false) {b L : Nat} {xs : Nat → Int32} (dC : Nat → ClassId) (dI : Nat → Nat → Nat) (cy : Nat → ClassId) (nb : Nat → Nat) (o3 o4 : Nat) (am : Nat → Nat) {n : Nat} (hn : n < 512) (hL : 4 * n + 4 ≤ L) (hL2 : L ≤ 2048) (C0 : LX p s m meth c b L xs dC dI cy nb) {Q : State → Prop} {H : Heap} {locs : List Loc} {ls : Array Slot} {cells slots : Nat} (hc : cells ≤ 400000) (hs : slots ≤ 6000000) (h : LSt s dC dI cy nb b o3 o4 am n (4 * n) H locs ls) (K : ∀ (H : Heap) (locs : List Loc) (ls : Array Slot), LSt s dC dI cy nb b o3 o4 am (n + 1) (4 * n) H locs ls → W p l e room_1 s m #[Value.ref b] below meth c H locs (cells + 603) (slots + 9640) Q (F0 m 1791 ls [])) : W p l e room_1 s m #[Value.ref b] below meth c H locs cells slots Q (F0 m 1310 ls []) := by
  obtain ⟨hx, hb, hr, hml, hown, hts, hX, hbl, hlocks, hK, hE⟩ := C0
  have hA : ∀ q : Nat, s.heap.size ≤ q → (fun q : Nat => s.heap.size ≤ q) q := fun _ h => h
  have hbA : ¬ (fun q : Nat => s.heap.size ≤ q) b := Nat.not_le.mpr hbl
  obtain ⟨ad, ks, g, u, r, f3, f4, hk, hGI, hP, hD, hS, hl⟩ := h
  have h9 : AT (F8_setTries r (xs (4 * n + 1))) (C7_setTries g u (xs (4 * n + 1))) r 1 (2001 * n) (602 * n) := a_setTries hGI
  rcases h9 with ⟨x, r2, c2, c2g, e1, e2, e3, e6⟩ | ⟨k, k1, k2, e1, e2⟩
  · refine lv_aload_n hx hb dL_law_1310 rfl (lv_at hl 4 rfl) ?_
    refine lv_aload_n hx hb dL_law_1311 rfl (lv_at hl 5 rfl) ?_
    refine lv_iload hx hb dL_law_1312 (lv_at hl 0 rfl) ?_
    refine lv_iconst (v := 1) hx hb dL_law_1314 (by decide) ?_
    refine lv_iadd hx hb dL_law_1315 ?_
    refine my_topi (y := nI (4 * n + 1)) (nI_add (4 * n) 1) ?_
    refine va_sld hx hb hX hbl hbA hS (vp_in_nI (n := 4 * n + 1) (by omega) (by omega)) dL_law_1316 ?_
    refine my_topi (y := xs (4 * n + 1)) (congrArg xs (nI_clamp (by omega))) ?_
    refine lv_aload_n hx hb dL_law_1317 rfl (lv_at hl 2 rfl) ?_
    have hPc : va_P (dC, dI) vwCl ([(o3, eL cy f3)] ++ WC cy ad ks g u) H := hP.part (X := XLW cy o3 o4 am f3 f4 r) (cx := [(o3, eL cy f3)]) [0] rfl
    have hDc : va_D (fun q : Nat => s.heap.size ≤ q) ([(o3, eL cy f3)] ++ WC cy ad ks g u) := hD.part (X := XLW cy o3 o4 am f3 f4 r) (cx := [(o3, eL cy f3)]) [0] (by decide) rfl
    have hFc : ∀ q, va_A ([(o3, eL cy f3)] ++ WC cy ad ks g u) H.size q → s.heap.size ≤ q := va_freeP (X := XLW cy o3 o4 am f3 f4 r) (cx := [(o3, eL cy f3)]) hD hS hA [0] rfl
    refine vx_calli (vx_runSX (As := [.ref (ad .cl), .int (xs (4 * n + 1)), .ref o3]) (rest := []) ⟨hx, hb, hml, hown, hts⟩ (cn_setTries l hst dC dI cy nb ad ks g hk u ((xs (4 * n + 1))) o3 f3 x c2g c2 H.size e2) (vx_cwSW 3 hts (gSH mw_1107 mw_1108 mw_562 mw_1109) rfl rfl rfl (by decide +kernel) ⟨Nat.le_of_ble_eq_true rfl, Nat.le_of_ble_eq_true rfl⟩) (my_preS hPc hK hDc hE hS hFc) rfl rfl hl.1 rfl (lv_room (Nat.le_of_ble_eq_true rfl)) dL_law_1318 ⟨by show _ ≤ 601024; omega, by show _ ≤ 7293034; omega⟩) hS (fun q _ h => hFc q h) hFc (fun q _ h => hFc q h) (fun E9 ce9 q9 u9 t9 H1 locs1 ht9 hvm9 hp9 _ _ _ _ _ _ _ => hp9.elim) (fun rw9 u9 t9 H1 locs ht hvm hw hB hz1 hk1 hS => ?_)
    obtain ⟨ad', ks', hkz, axz, hP1, hD1⟩ := hB
    rw [ht] at hP1
    obtain ⟨hP, hD⟩ := va_joinP (X := XLW cy o3 o4 am f3 f4 r) (cx := [(o3, eL cy f3)]) (wr := ((o4, eD cy f4) :: WM cy am r)) (rx := [(o3, eL cy (vp_updL f3 ((0 : Int32).toNatClampNeg) (x.toInt64)))]) (pl := WC cy ad ks g u) (pl1 := WC cy ad' ks' c2g c2) hP hD [0] [1, 2, 3, 4, 5, 6, 7, 8, 9, 10, 11, 12] rfl rfl (by decide) (by decide) hk1 hFc hP1 hD1
    have hP : va_P (dC, dI) vwCl (XLW cy o3 o4 am (vp_updL f3 ((0 : Int32).toNatClampNeg) (x.toInt64)) f4 r ++ WC cy ad' ks' c2g c2) H1 := hP.part (X := ((o4, eD cy f4) :: WM cy am r) ++ [(o3, eL cy (vp_updL f3 ((0 : Int32).toNatClampNeg) (x.toInt64)))]) (cx := XLW cy o3 o4 am (vp_updL f3 ((0 : Int32).toNatClampNeg) (x.toInt64)) f4 r) [12, 0, 1, 2, 3, 4, 5, 6, 7, 8, 9, 10, 11] rfl
    have hD : va_D (fun q : Nat => s.heap.size ≤ q) (XLW cy o3 o4 am (vp_updL f3 ((0 : Int32).toNatClampNeg) (x.toInt64)) f4 r ++ WC cy ad' ks' c2g c2) := hD.part (X := ((o4, eD cy f4) :: WM cy am r) ++ [(o3, eL cy (vp_updL f3 ((0 : Int32).toNatClampNeg) (x.toInt64)))]) (cx := XLW cy o3 o4 am (vp_updL f3 ((0 : Int32).toNatClampNeg) (x.toInt64)) f4 r) [12, 0, 1, 2, 3, 4, 5, 6, 7, 8, 9, 10, 11] (by decide) rfl
    generalize H1 = H at hP hS ⊢
    have hl : lv_has ls 10 [(5, .int (nI (4 * n))), (4, .ref o4), (3, .ref o3), (2, .ref (am 0)), (1, .ref (ad' .cl)), (0, .ref b)] := by rw [(axz .cl True.intro).2]; exact hl
    clear hP1 hD1 hPc hDc hFc hk1 hz1 hvm ht
    refine lv_istore (lv' := [(6, .int rw9), (5, .int (nI (4 * n))), (4, .ref o4), (3, .ref o3), (2, .ref (am 0)), (1, .ref (ad' .cl)), (0, .ref b)]) hx hb dL_law_1321 hl (by decide) rfl (fun ls hl => ?_)
    refine lv_aload_n hx hb dL_law_1323 rfl (lv_at hl 4 rfl) ?_
    refine lv_aload_n hx hb dL_law_1324 rfl (lv_at hl 6 rfl) ?_
    refine lv_iload hx hb dL_law_1325 (lv_at hl 1 rfl) ?_
    refine lv_iconst (v := 1) hx hb dL_law_1327 (by decide) ?_
    refine lv_iadd hx hb dL_law_1328 ?_
    refine my_topi (y := nI (4 * n + 1)) (nI_add (4 * n) 1) ?_
    refine va_sld hx hb hX hbl hbA hS (vp_in_nI (n := 4 * n + 1) (by omega) (by omega)) dL_law_1329 ?_
    refine my_topi (y := xs (4 * n + 1)) (congrArg xs (nI_clamp (by omega))) ?_
    have hPc := hP.sub (ws' := (WM cy am r)) [2, 3, 4, 5, 6, 7, 8, 9, 10, 11, 12] rfl
    have hDc := hD.sub (ws' := (WM cy am r)) [2, 3, 4, 5, 6, 7, 8, 9, 10, 11, 12] (by decide) rfl
    have hFc := va_free (wc := (WM cy am r)) hD hS hA [2, 3, 4, 5, 6, 7, 8, 9, 10, 11, 12] rfl
    refine va_calli (va_runV (As := [.int (xs (4 * n + 1))]) (rest := []) ⟨hx, hb, hml, hown, hts⟩ (k_X8_setTries l dC dI cy nb am r ((xs (4 * n + 1))) x (r2) H.size e1) (cwV 1 hts (gV mw_1114 mw_1115 mw_1116 mw_5 mw_1117) rfl rfl rfl (by decide +kernel) ⟨Nat.le_of_ble_eq_true rfl, Nat.le_of_ble_eq_true rfl⟩) (my_preV hPc hK hDc hE hS hFc (va_recv (q := (RX8, TX8, 23)) hK hP (ci := 8) (q0 := 2) rfl rfl)) rfl rfl hl.1 rfl (lv_room (Nat.le_of_ble_eq_true rfl)) dL_law_1330 ⟨by show _ ≤ 601024; omega, by show _ ≤ 7293034; omega⟩) hS (fun q _ h => hFc q h) hFc (fun rm9 u9 t9 H1 locs ht hvm hwm hB hz1 hk1 hS => ?_)
    obtain ⟨hP1, hD1⟩ := hB
    rw [ht] at hP1
    obtain ⟨hP, hD⟩ := va_joinQ (X := XLW cy o3 o4 am (vp_updL f3 ((0 : Int32).toNatClampNeg) (x.toInt64)) f4 r) (cx := (WM cy am r)) (wr := [(o3, eL cy (vp_updL f3 ((0 : Int32).toNatClampNeg) (x.toInt64))), (o4, eD cy f4)]) (w1 := (WM cy am (r2))) (pl := WC cy ad' ks' c2g c2) hP hD [2, 3, 4, 5, 6, 7, 8, 9, 10, 11, 12] [0, 1] rfl rfl (by decide) (by decide) hk1 hFc hP1 hD1
    have hP : va_P (dC, dI) vwCl (XLW cy o3 o4 am (vp_updL f3 ((0 : Int32).toNatClampNeg) (x.toInt64)) f4 r2 ++ WC cy ad' ks' c2g c2) H1 := hP
    have hD : va_D (fun q : Nat => s.heap.size ≤ q) (XLW cy o3 o4 am (vp_updL f3 ((0 : Int32).toNatClampNeg) (x.toInt64)) f4 r2 ++ WC cy ad' ks' c2g c2) := hD
    generalize H1 = H at hP hS ⊢
    clear hP1 hD1 hPc hDc hFc hk1 hz1 hvm ht
    refine my_topi hwm ?_
    refine lv_istore (lv' := [(7, .int x), (6, .int rw9), (5, .int (nI (4 * n))), (4, .ref o4), (3, .ref o3), (2, .ref (am 0)), (1, .ref (ad' .cl)), (0, .ref b)]) hx hb dL_law_1333 hl (by decide) rfl (fun ls hl => ?_)
    refine lv_goto (tgt := 1791) hx hb dL_law_1335 (by decide) ?_
    refine W.widen (k := cells + 603) (n := slots + 9640) (by omega) (by omega) ?_
    exact K H locs ls ⟨ad', ks', c2g, c2, r2, (vp_updL f3 ((0 : Int32).toNatClampNeg) (x.toInt64)), f4, hkz, e3.mono (by omega) (by omega) (by omega), hP, hD, hS, lv_sub hl [2, 3, 4, 5, 6, 7] rfl⟩
  · have e2 : C7_setTries g u (xs (4 * n + 1)) = some (.inl (nI (k + 1))) := e2
    generalize hxx : (nI (k + 1)) = xk at e2
    have hxk : ¬ xk = 1 := by rw [← hxx]; exact nI_ne (b := 1) (by omega) (by omega) (by omega)
    refine lv_aload_n hx hb dL_law_1310 rfl (lv_at hl 4 rfl) ?_
    refine lv_aload_n hx hb dL_law_1311 rfl (lv_at hl 5 rfl) ?_
    refine lv_iload hx hb dL_law_1312 (lv_at hl 0 rfl) ?_
    refine lv_iconst (v := 1) hx hb dL_law_1314 (by decide) ?_
    refine lv_iadd hx hb dL_law_1315 ?_
    refine my_topi (y := nI (4 * n + 1)) (nI_add (4 * n) 1) ?_
    refine va_sld hx hb hX hbl hbA hS (vp_in_nI (n := 4 * n + 1) (by omega) (by omega)) dL_law_1316 ?_
    refine my_topi (y := xs (4 * n + 1)) (congrArg xs (nI_clamp (by omega))) ?_
    refine lv_aload_n hx hb dL_law_1317 rfl (lv_at hl 2 rfl) ?_
    have hPc : va_P (dC, dI) vwCl ([(o3, eL cy f3)] ++ WC cy ad ks g u) H := hP.part (X := XLW cy o3 o4 am f3 f4 r) (cx := [(o3, eL cy f3)]) [0] rfl
    have hDc : va_D (fun q : Nat => s.heap.size ≤ q) ([(o3, eL cy f3)] ++ WC cy ad ks g u) := hD.part (X := XLW cy o3 o4 am f3 f4 r) (cx := [(o3, eL cy f3)]) [0] (by decide) rfl
    have hFc : ∀ q, va_A ([(o3, eL cy f3)] ++ WC cy ad ks g u) H.size q → s.heap.size ≤ q := va_freeP (X := XLW cy o3 o4 am f3 f4 r) (cx := [(o3, eL cy f3)]) hD hS hA [0] rfl
    refine vx_calli (vx_runSX (As := [.ref (ad .cl), .int (xs (4 * n + 1)), .ref o3]) (rest := []) ⟨hx, hb, hml, hown, hts⟩ (ct_setTries l hst dC dI cy nb ad ks g hk u ((xs (4 * n + 1))) o3 f3 xk H.size hxk e2) (vx_cwSW 3 hts (gSH mw_1107 mw_1108 mw_562 mw_1109) rfl rfl rfl (by decide +kernel) ⟨Nat.le_of_ble_eq_true rfl, Nat.le_of_ble_eq_true rfl⟩) (my_preS hPc hK hDc hE hS hFc) rfl rfl hl.1 rfl (lv_room (Nat.le_of_ble_eq_true rfl)) dL_law_1318 ⟨by show _ ≤ 601024; omega, by show _ ≤ 7293034; omega⟩) hS (fun q _ h => hFc q h) hFc (fun q _ h => hFc q h) (fun E9 ce9 q9 u9 t9 H1 locs1 ht9 hvm9 hp9 _ _ _ _ _ _ _ => hp9.elim) (fun rw9 u9 t9 H1 locs ht hvm hw hB hz1 hk1 hS => ?_)
    obtain ⟨hP1, hD1⟩ := hB
    rw [ht] at hP1
    obtain ⟨hP, hD⟩ := va_joinP (X := XLW cy o3 o4 am f3 f4 r) (cx := [(o3, eL cy f3)]) (wr := ((o4, eD cy f4) :: WM cy am r)) (rx := [(o3, eL cy f3)]) (pl := WC cy ad ks g u) (pl1 := WC cy ad ks g u) hP hD [0] [1, 2, 3, 4, 5, 6, 7, 8, 9, 10, 11, 12] rfl rfl (by decide) (by decide) hk1 hFc hP1 hD1
    have hP : va_P (dC, dI) vwCl (XLW cy o3 o4 am f3 f4 r ++ WC cy ad ks g u) H1 := hP.part (X := ((o4, eD cy f4) :: WM cy am r) ++ [(o3, eL cy f3)]) (cx := XLW cy o3 o4 am f3 f4 r) [12, 0, 1, 2, 3, 4, 5, 6, 7, 8, 9, 10, 11] rfl
    have hD : va_D (fun q : Nat => s.heap.size ≤ q) (XLW cy o3 o4 am f3 f4 r ++ WC cy ad ks g u) := hD.part (X := ((o4, eD cy f4) :: WM cy am r) ++ [(o3, eL cy f3)]) (cx := XLW cy o3 o4 am f3 f4 r) [12, 0, 1, 2, 3, 4, 5, 6, 7, 8, 9, 10, 11] (by decide) rfl
    generalize H1 = H at hP hS ⊢
    clear hP1 hD1 hPc hDc hFc hk1 hz1 hvm ht
    refine lv_istore (lv' := [(6, .int rw9), (5, .int (nI (4 * n))), (4, .ref o4), (3, .ref o3), (2, .ref (am 0)), (1, .ref (ad .cl)), (0, .ref b)]) hx hb dL_law_1321 hl (by decide) rfl (fun ls hl => ?_)
    refine lv_aload_n hx hb dL_law_1323 rfl (lv_at hl 4 rfl) ?_
    refine lv_aload_n hx hb dL_law_1324 rfl (lv_at hl 6 rfl) ?_
    refine lv_iload hx hb dL_law_1325 (lv_at hl 1 rfl) ?_
    refine lv_iconst (v := 1) hx hb dL_law_1327 (by decide) ?_
    refine lv_iadd hx hb dL_law_1328 ?_
    refine my_topi (y := nI (4 * n + 1)) (nI_add (4 * n) 1) ?_
    refine va_sld hx hb hX hbl hbA hS (vp_in_nI (n := 4 * n + 1) (by omega) (by omega)) dL_law_1329 ?_
    refine my_topi (y := xs (4 * n + 1)) (congrArg xs (nI_clamp (by omega))) ?_
    have hPc := hP.sub (ws' := (WM cy am r)) [2, 3, 4, 5, 6, 7, 8, 9, 10, 11, 12] rfl
    have hDc := hD.sub (ws' := (WM cy am r)) [2, 3, 4, 5, 6, 7, 8, 9, 10, 11, 12] (by decide) rfl
    have hFc := va_free (wc := (WM cy am r)) hD hS hA [2, 3, 4, 5, 6, 7, 8, 9, 10, 11, 12] rfl
    refine va_calli (va_runV (As := [.int (xs (4 * n + 1))]) (rest := []) ⟨hx, hb, hml, hown, hts⟩ (k_X8_setTries l dC dI cy nb am r ((xs (4 * n + 1))) (nI 0) (th r k) H.size e1) (cwV 1 hts (gV mw_1114 mw_1115 mw_1116 mw_5 mw_1117) rfl rfl rfl (by decide +kernel) ⟨Nat.le_of_ble_eq_true rfl, Nat.le_of_ble_eq_true rfl⟩) (my_preV hPc hK hDc hE hS hFc (va_recv (q := (RX8, TX8, 23)) hK hP (ci := 8) (q0 := 2) rfl rfl)) rfl rfl hl.1 rfl (lv_room (Nat.le_of_ble_eq_true rfl)) dL_law_1330 ⟨by show _ ≤ 601024; omega, by show _ ≤ 7293034; omega⟩) hS (fun q _ h => hFc q h) hFc (fun rm9 u9 t9 H1 locs ht hvm hwm hB hz1 hk1 hS => ?_)
    obtain ⟨hP1, hD1⟩ := hB
    rw [ht] at hP1
    obtain ⟨hP, hD⟩ := va_joinQ (X := XLW cy o3 o4 am f3 f4 r) (cx := (WM cy am r)) (wr := [(o3, eL cy f3), (o4, eD cy f4)]) (w1 := (WM cy am (th r k))) (pl := WC cy ad ks g u) hP hD [2, 3, 4, 5, 6, 7, 8, 9, 10, 11, 12] [0, 1] rfl rfl (by decide) (by decide) hk1 hFc hP1 hD1
    have hP : va_P (dC, dI) vwCl (XLW cy o3 o4 am f3 f4 (th r k) ++ WC cy ad ks g u) H1 := hP
    have hD : va_D (fun q : Nat => s.heap.size ≤ q) (XLW cy o3 o4 am f3 f4 (th r k) ++ WC cy ad ks g u) := hD
    generalize H1 = H at hP hS ⊢
    clear hP1 hD1 hPc hDc hFc hk1 hz1 hvm ht
    refine my_topi hwm ?_
    refine lv_istore (lv' := [(7, .int (nI 0)), (6, .int rw9), (5, .int (nI (4 * n))), (4, .ref o4), (3, .ref o3), (2, .ref (am 0)), (1, .ref (ad .cl)), (0, .ref b)]) hx hb dL_law_1333 hl (by decide) rfl (fun ls hl => ?_)
    refine lv_goto (tgt := 1791) hx hb dL_law_1335 (by decide) ?_
    refine W.widen (k := cells + 603) (n := slots + 9640) (by omega) (by omega) ?_
    exact K H locs ls ⟨ad, ks, g, u, (th r k), f3, f4, hk, (hGI.thr).mono (by omega) (by omega) (by omega), hP, hD, hS, lv_sub hl [2, 3, 4, 5, 6, 7] rfl⟩
set_option maxHeartbeats 8000000 in
set_option maxRecDepth 100000 in
theorem law_c34 {p : Program} {e : Env} {s : State} {m : MethodId} {below : List Frame} {meth : Method} {c : Code} (l : Launch) (hst : l.stackTraces = false) {b L : Nat} {xs : Nat → Int32} (dC : Nat → ClassId) (dI : Nat → Nat → Nat) (cy : Nat → ClassId) (nb : Nat → Nat) (o3 o4 : Nat) (am : Nat → Nat) {n : Nat} (hn : n < 512) (hL : 4 * n + 4 ≤ L) (hL2 : L ≤ 2048) (C0 : LX p s m meth c b L xs dC dI cy nb) {Q : State → Prop} {H : Heap} {locs : List Loc} {ls : Array Slot} {cells slots : Nat} (hc : cells ≤ 400000) (hs : slots ≤ 6000000) (h : LSt s dC dI cy nb b o3 o4 am n (4 * n) H locs ls) (K : ∀ (H : Heap) (locs : List Loc) (ls : Array Slot), LSt s dC dI cy nb b o3 o4 am (n + 1) (4 * n) H locs ls → W p l e room_1 s m #[Value.ref b] below meth c H locs (cells + 603) (slots + 9640) Q (F0 m 1791 ls [])) : W p l e room_1 s m #[Value.ref b] below meth c H locs cells slots Q (F0 m 1338 ls []) := by
  obtain ⟨hx, hb, hr, hml, hown, hts, hX, hbl, hlocks, hK, hE⟩ := C0
  have hA : ∀ q : Nat, s.heap.size ≤ q → (fun q : Nat => s.heap.size ≤ q) q := fun _ h => h
  have hbA : ¬ (fun q : Nat => s.heap.size ≤ q) b := Nat.not_le.mpr hbl
  obtain ⟨ad, ks, g, u, r, f3, f4, hk, hGI, hP, hD, hS, hl⟩ := h
  have h9 : AT (F8_setTray r (xs (4 * n + 1))) (C7_setTray g u (xs (4 * n + 1))) r 1 (2001 * n) (602 * n) := a_setTray hGI
  rcases h9 with ⟨x, r2, c2, c2g, e1, e2, e3, e6⟩ | ⟨k, k1, k2, e1, e2⟩
  · refine lv_aload_n hx hb dL_law_1338 rfl (lv_at hl 4 rfl) ?_
    refine lv_aload_n hx hb dL_law_1339 rfl (lv_at hl 5 rfl) ?_
    refine lv_iload hx hb dL_law_1340 (lv_at hl 0 rfl) ?_
    refine lv_iconst (v := 1) hx hb dL_law_1342 (by decide) ?_
    refine lv_iadd hx hb dL_law_1343 ?_
    refine my_topi (y := nI (4 * n + 1)) (nI_add (4 * n) 1) ?_
    refine va_sld hx hb hX hbl hbA hS (vp_in_nI (n := 4 * n + 1) (by omega) (by omega)) dL_law_1344 ?_
    refine my_topi (y := xs (4 * n + 1)) (congrArg xs (nI_clamp (by omega))) ?_
    refine lv_aload_n hx hb dL_law_1345 rfl (lv_at hl 2 rfl) ?_
    have hPc : va_P (dC, dI) vwCl ([(o3, eL cy f3)] ++ WC cy ad ks g u) H := hP.part (X := XLW cy o3 o4 am f3 f4 r) (cx := [(o3, eL cy f3)]) [0] rfl
    have hDc : va_D (fun q : Nat => s.heap.size ≤ q) ([(o3, eL cy f3)] ++ WC cy ad ks g u) := hD.part (X := XLW cy o3 o4 am f3 f4 r) (cx := [(o3, eL cy f3)]) [0] (by decide) rfl
    have hFc : ∀ q, va_A ([(o3, eL cy f3)] ++ WC cy ad ks g u) H.size q → s.heap.size ≤ q := va_freeP (X := XLW cy o3 o4 am f3 f4 r) (cx := [(o3, eL cy f3)]) hD hS hA [0] rfl
    refine vx_calli (vx_runSX (As := [.ref (ad .cl), .int (xs (4 * n + 1)), .ref o3]) (rest := []) ⟨hx, hb, hml, hown, hts⟩ (cn_setTray l hst dC dI cy nb ad ks g hk u ((xs (4 * n + 1))) o3 f3 x c2g c2 H.size e2) (vx_cwSW 3 hts (gSH mw_1118 mw_1119 mw_562 mw_1120) rfl rfl rfl (by decide +kernel) ⟨Nat.le_of_ble_eq_true rfl, Nat.le_of_ble_eq_true rfl⟩) (my_preS hPc hK hDc hE hS hFc) rfl rfl hl.1 rfl (lv_room (Nat.le_of_ble_eq_true rfl)) dL_law_1346 ⟨by show _ ≤ 601024; omega, by show _ ≤ 7293034; omega⟩) hS (fun q _ h => hFc q h) hFc (fun q _ h => hFc q h) (fun E9 ce9 q9 u9 t9 H1 locs1 ht9 hvm9 hp9 _ _ _ _ _ _ _ => hp9.elim) (fun rw9 u9 t9 H1 locs ht hvm hw hB hz1 hk1 hS => ?_)
    obtain ⟨ad', ks', hkz, axz, hP1, hD1⟩ := hB
    rw [ht] at hP1
    obtain ⟨hP, hD⟩ := va_joinP (X := XLW cy o3 o4 am f3 f4 r) (cx := [(o3, eL cy f3)]) (wr := ((o4, eD cy f4) :: WM cy am r)) (rx := [(o3, eL cy (vp_updL f3 ((0 : Int32).toNatClampNeg) (x.toInt64)))]) (pl := WC cy ad ks g u) (pl1 := WC cy ad' ks' c2g c2) hP hD [0] [1, 2, 3, 4, 5, 6, 7, 8, 9, 10, 11, 12] rfl rfl (by decide) (by decide) hk1 hFc hP1 hD1
    have hP : va_P (dC, dI) vwCl (XLW cy o3 o4 am (vp_updL f3 ((0 : Int32).toNatClampNeg) (x.toInt64)) f4 r ++ WC cy ad' ks' c2g c2) H1 := hP.part (X := ((o4, eD cy f4) :: WM cy am r) ++ [(o3, eL cy (vp_updL f3 ((0 : Int32).toNatClampNeg) (x.toInt64)))]) (cx := XLW cy o3 o4 am (vp_updL f3 ((0 : Int32).toNatClampNeg) (x.toInt64)) f4 r) [12, 0, 1, 2, 3, 4, 5, 6, 7, 8, 9, 10, 11] rfl
    have hD : va_D (fun q : Nat => s.heap.size ≤ q) (XLW cy o3 o4 am (vp_updL f3 ((0 : Int32).toNatClampNeg) (x.toInt64)) f4 r ++ WC cy ad' ks' c2g c2) := hD.part (X := ((o4, eD cy f4) :: WM cy am r) ++ [(o3, eL cy (vp_updL f3 ((0 : Int32).toNatClampNeg) (x.toInt64)))]) (cx := XLW cy o3 o4 am (vp_updL f3 ((0 : Int32).toNatClampNeg) (x.toInt64)) f4 r) [12, 0, 1, 2, 3, 4, 5, 6, 7, 8, 9, 10, 11] (by decide) rfl
    generalize H1 = H at hP hS ⊢
    have hl : lv_has ls 10 [(5, .int (nI (4 * n))), (4, .ref o4), (3, .ref o3), (2, .ref (am 0)), (1, .ref (ad' .cl)), (0, .ref b)] := by rw [(axz .cl True.intro).2]; exact hl
    clear hP1 hD1 hPc hDc hFc hk1 hz1 hvm ht
    refine lv_istore (lv' := [(6, .int rw9), (5, .int (nI (4 * n))), (4, .ref o4), (3, .ref o3), (2, .ref (am 0)), (1, .ref (ad' .cl)), (0, .ref b)]) hx hb dL_law_1349 hl (by decide) rfl (fun ls hl => ?_)
    refine lv_aload_n hx hb dL_law_1351 rfl (lv_at hl 4 rfl) ?_
    refine lv_aload_n hx hb dL_law_1352 rfl (lv_at hl 6 rfl) ?_
    refine lv_iload hx hb dL_law_1353 (lv_at hl 1 rfl) ?_
    refine lv_iconst (v := 1) hx hb dL_law_1355 (by decide) ?_
    refine lv_iadd hx hb dL_law_1356 ?_
    refine my_topi (y := nI (4 * n + 1)) (nI_add (4 * n) 1) ?_
    refine va_sld hx hb hX hbl hbA hS (vp_in_nI (n := 4 * n + 1) (by omega) (by omega)) dL_law_1357 ?_
    refine my_topi (y := xs (4 * n + 1)) (congrArg xs (nI_clamp (by omega))) ?_
    have hPc := hP.sub (ws' := (WM cy am r)) [2, 3, 4, 5, 6, 7, 8, 9, 10, 11, 12] rfl
    have hDc := hD.sub (ws' := (WM cy am r)) [2, 3, 4, 5, 6, 7, 8, 9, 10, 11, 12] (by decide) rfl
    have hFc := va_free (wc := (WM cy am r)) hD hS hA [2, 3, 4, 5, 6, 7, 8, 9, 10, 11, 12] rfl
    refine va_calli (va_runV (As := [.int (xs (4 * n + 1))]) (rest := []) ⟨hx, hb, hml, hown, hts⟩ (k_X8_setTray l dC dI cy nb am r ((xs (4 * n + 1))) x (r2) H.size e1) (cwV 1 hts (gV mw_1125 mw_1126 mw_1127 mw_5 mw_1128) rfl rfl rfl (by decide +kernel) ⟨Nat.le_of_ble_eq_true rfl, Nat.le_of_ble_eq_true rfl⟩) (my_preV hPc hK hDc hE hS hFc (va_recv (q := (RX8, TX8, 23)) hK hP (ci := 8) (q0 := 2) rfl rfl)) rfl rfl hl.1 rfl (lv_room (Nat.le_of_ble_eq_true rfl)) dL_law_1358 ⟨by show _ ≤ 601024; omega, by show _ ≤ 7293034; omega⟩) hS (fun q _ h => hFc q h) hFc (fun rm9 u9 t9 H1 locs ht hvm hwm hB hz1 hk1 hS => ?_)
    obtain ⟨hP1, hD1⟩ := hB
    rw [ht] at hP1
    obtain ⟨hP, hD⟩ := va_joinQ (X := XLW cy o3 o4 am (vp_updL f3 ((0 : Int32).toNatClampNeg) (x.toInt64)) f4 r) (cx := (WM cy am r)) (wr := [(o3, eL cy (vp_updL f3 ((0 : Int32).toNatClampNeg) (x.toInt64))), (o4, eD cy f4)]) (w1 := (WM cy am (r2))) (pl := WC cy ad' ks' c2g c2) hP hD [2, 3, 4, 5, 6, 7, 8, 9, 10, 11, 12] [0, 1] rfl rfl (by decide) (by decide) hk1 hFc hP1 hD1
    have hP : va_P (dC, dI) vwCl (XLW cy o3 o4 am (vp_updL f3 ((0 : Int32).toNatClampNeg) (x.toInt64)) f4 r2 ++ WC cy ad' ks' c2g c2) H1 := hP
    have hD : va_D (fun q : Nat => s.heap.size ≤ q) (XLW cy o3 o4 am (vp_updL f3 ((0 : Int32).toNatClampNeg) (x.toInt64)) f4 r2 ++ WC cy ad' ks' c2g c2) := hD
    generalize H1 = H at hP hS ⊢
    clear hP1 hD1 hPc hDc hFc hk1 hz1 hvm ht
    refine my_topi hwm ?_
    refine lv_istore (lv' := [(7, .int x), (6, .int rw9), (5, .int (nI (4 * n))), (4, .ref o4), (3, .ref o3), (2, .ref (am 0)), (1, .ref (ad' .cl)), (0, .ref b)]) hx hb dL_law_1361 hl (by decide) rfl (fun ls hl => ?_)
    refine lv_goto (tgt := 1791) hx hb dL_law_1363 (by decide) ?_
    refine W.widen (k := cells + 603) (n := slots + 9640) (by omega) (by omega) ?_
    exact K H locs ls ⟨ad', ks', c2g, c2, r2, (vp_updL f3 ((0 : Int32).toNatClampNeg) (x.toInt64)), f4, hkz, e3.mono (by omega) (by omega) (by omega), hP, hD, hS, lv_sub hl [2, 3, 4, 5, 6, 7] rfl⟩
  · have e2 : C7_setTray g u (xs (4 * n + 1)) = some (.inl (nI (k + 1))) := e2
    generalize hxx : (nI (k + 1)) = xk at e2
    have hxk : ¬ xk = 1 := by rw [← hxx]; exact nI_ne (b := 1) (by omega) (by omega) (by omega)
    refine lv_aload_n hx hb dL_law_1338 rfl (lv_at hl 4 rfl) ?_
    refine lv_aload_n hx hb dL_law_1339 rfl (lv_at hl 5 rfl) ?_
    refine lv_iload hx hb dL_law_1340 (lv_at hl 0 rfl) ?_
    refine lv_iconst (v := 1) hx hb dL_law_1342 (by decide) ?_
    refine lv_iadd hx hb dL_law_1343 ?_
    refine my_topi (y := nI (4 * n + 1)) (nI_add (4 * n) 1) ?_
    refine va_sld hx hb hX hbl hbA hS (vp_in_nI (n := 4 * n + 1) (by omega) (by omega)) dL_law_1344 ?_
    refine my_topi (y := xs (4 * n + 1)) (congrArg xs (nI_clamp (by omega))) ?_
    refine lv_aload_n hx hb dL_law_1345 rfl (lv_at hl 2 rfl) ?_
    have hPc : va_P (dC, dI) vwCl ([(o3, eL cy f3)] ++ WC cy ad ks g u) H := hP.part (X := XLW cy o3 o4 am f3 f4 r) (cx := [(o3, eL cy f3)]) [0] rfl
    have hDc : va_D (fun q : Nat => s.heap.size ≤ q) ([(o3, eL cy f3)] ++ WC cy ad ks g u) := hD.part (X := XLW cy o3 o4 am f3 f4 r) (cx := [(o3, eL cy f3)]) [0] (by decide) rfl
    have hFc : ∀ q, va_A ([(o3, eL cy f3)] ++ WC cy ad ks g u) H.size q → s.heap.size ≤ q := va_freeP (X := XLW cy o3 o4 am f3 f4 r) (cx := [(o3, eL cy f3)]) hD hS hA [0] rfl
    refine vx_calli (vx_runSX (As := [.ref (ad .cl), .int (xs (4 * n + 1)), .ref o3]) (rest := []) ⟨hx, hb, hml, hown, hts⟩ (ct_setTray l hst dC dI cy nb ad ks g hk u ((xs (4 * n + 1))) o3 f3 xk H.size hxk e2) (vx_cwSW 3 hts (gSH mw_1118 mw_1119 mw_562 mw_1120) rfl rfl rfl (by decide +kernel) ⟨Nat.le_of_ble_eq_true rfl, Nat.le_of_ble_eq_true rfl⟩) (my_preS hPc hK hDc hE hS hFc) rfl rfl hl.1 rfl (lv_room (Nat.le_of_ble_eq_true rfl)) dL_law_1346 ⟨by show _ ≤ 601024; omega, by show _ ≤ 7293034; omega⟩) hS (fun q _ h => hFc q h) hFc (fun q _ h => hFc q h) (fun E9 ce9 q9 u9 t9 H1 locs1 ht9 hvm9 hp9 _ _ _ _ _ _ _ => hp9.elim) (fun rw9 u9 t9 H1 locs ht hvm hw hB hz1 hk1 hS => ?_)
    obtain ⟨hP1, hD1⟩ := hB
    rw [ht] at hP1
    obtain ⟨hP, hD⟩ := va_joinP (X := XLW cy o3 o4 am f3 f4 r) (cx := [(o3, eL cy f3)]) (wr := ((o4, eD cy f4) :: WM cy am r)) (rx := [(o3, eL cy f3)]) (pl := WC cy ad ks g u) (pl1 := WC cy ad ks g u) hP hD [0] [1, 2, 3, 4, 5, 6, 7, 8, 9, 10, 11, 12] rfl rfl (by decide) (by decide) hk1 hFc hP1 hD1
    have hP : va_P (dC, dI) vwCl (XLW cy o3 o4 am f3 f4 r ++ WC cy ad ks g u) H1 := hP.part (X := ((o4, eD cy f4) :: WM cy am r) ++ [(o3, eL cy f3)]) (cx := XLW cy o3 o4 am f3 f4 r) [12, 0, 1, 2, 3, 4, 5, 6, 7, 8, 9, 10, 11] rfl
    have hD : va_D (fun q : Nat => s.heap.size ≤ q) (XLW cy o3 o4 am f3 f4 r ++ WC cy ad ks g u) := hD.part (X := ((o4, eD cy f4) :: WM cy am r) ++ [(o3, eL cy f3)]) (cx := XLW cy o3 o4 am f3 f4 r) [12, 0, 1, 2, 3, 4, 5, 6, 7, 8, 9, 10, 11] (by decide) rfl
    generalize H1 = H at hP hS ⊢
    clear hP1 hD1 hPc hDc hFc hk1 hz1 hvm ht
    refine lv_istore (lv' := [(6, .int rw9), (5, .int (nI (4 * n))), (4, .ref o4), (3, .ref o3), (2, .ref (am 0)), (1, .ref (ad .cl)), (0, .ref b)]) hx hb dL_law_1349 hl (by decide) rfl (fun ls hl => ?_)
    refine lv_aload_n hx hb dL_law_1351 rfl (lv_at hl 4 rfl) ?_
    refine lv_aload_n hx hb dL_law_1352 rfl (lv_at hl 6 rfl) ?_
    refine lv_iload hx hb dL_law_1353 (lv_at hl 1 rfl) ?_
    refine lv_iconst (v := 1) hx hb dL_law_1355 (by decide) ?_
    refine lv_iadd hx hb dL_law_1356 ?_
    refine my_topi (y := nI (4 * n + 1)) (nI_add (4 * n) 1) ?_
    refine va_sld hx hb hX hbl hbA hS (vp_in_nI (n := 4 * n + 1) (by omega) (by omega)) dL_law_1357 ?_
    refine my_topi (y := xs (4 * n + 1)) (congrArg xs (nI_clamp (by omega))) ?_
    have hPc := hP.sub (ws' := (WM cy am r)) [2, 3, 4, 5, 6, 7, 8, 9, 10, 11, 12] rfl
    have hDc := hD.sub (ws' := (WM cy am r)) [2, 3, 4, 5, 6, 7, 8, 9, 10, 11, 12] (by decide) rfl
    have hFc := va_free (wc := (WM cy am r)) hD hS hA [2, 3, 4, 5, 6, 7, 8, 9, 10, 11, 12] rfl
    refine va_calli (va_runV (As := [.int (xs (4 * n + 1))]) (rest := []) ⟨hx, hb, hml, hown, hts⟩ (k_X8_setTray l dC dI cy nb am r ((xs (4 * n + 1))) (nI 0) (th r k) H.size e1) (cwV 1 hts (gV mw_1125 mw_1126 mw_1127 mw_5 mw_1128) rfl rfl rfl (by decide +kernel) ⟨Nat.le_of_ble_eq_true rfl, Nat.le_of_ble_eq_true rfl⟩) (my_preV hPc hK hDc hE hS hFc (va_recv (q := (RX8, TX8, 23)) hK hP (ci := 8) (q0 := 2) rfl rfl)) rfl rfl hl.1 rfl (lv_room (Nat.le_of_ble_eq_true rfl)) dL_law_1358 ⟨by show _ ≤ 601024; omega, by show _ ≤ 7293034; omega⟩) hS (fun q _ h => hFc q h) hFc (fun rm9 u9 t9 H1 locs ht hvm hwm hB hz1 hk1 hS => ?_)
    obtain ⟨hP1, hD1⟩ := hB
    rw [ht] at hP1
    obtain ⟨hP, hD⟩ := va_joinQ (X := XLW cy o3 o4 am f3 f4 r) (cx := (WM cy am r)) (wr := [(o3, eL cy f3), (o4, eD cy f4)]) (w1 := (WM cy am (th r k))) (pl := WC cy ad ks g u) hP hD [2, 3, 4, 5, 6, 7, 8, 9, 10, 11, 12] [0, 1] rfl rfl (by decide) (by decide) hk1 hFc hP1 hD1
    have hP : va_P (dC, dI) vwCl (XLW cy o3 o4 am f3 f4 (th r k) ++ WC cy ad ks g u) H1 := hP
    have hD : va_D (fun q : Nat => s.heap.size ≤ q) (XLW cy o3 o4 am f3 f4 (th r k) ++ WC cy ad ks g u) := hD
    generalize H1 = H at hP hS ⊢
    clear hP1 hD1 hPc hDc hFc hk1 hz1 hvm ht
    refine my_topi hwm ?_
    refine lv_istore (lv' := [(7, .int (nI 0)), (6, .int rw9), (5, .int (nI (4 * n))), (4, .ref o4), (3, .ref o3), (2, .ref (am 0)), (1, .ref (ad .cl)), (0, .ref b)]) hx hb dL_law_1361 hl (by decide) rfl (fun ls hl => ?_)
    refine lv_goto (tgt := 1791) hx hb dL_law_1363 (by decide) ?_
    refine W.widen (k := cells + 603) (n := slots + 9640) (by omega) (by omega) ?_
    exact K H locs ls ⟨ad, ks, g, u, (th r k), f3, f4, hk, (hGI.thr).mono (by omega) (by omega) (by omega), hP, hD, hS, lv_sub hl [2, 3, 4, 5, 6, 7] rfl⟩
end
