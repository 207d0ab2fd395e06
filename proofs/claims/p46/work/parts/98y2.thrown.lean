set_option maxHeartbeats 4000000 in
set_option maxRecDepth 100000 in
theorem c_X7_restIn_y (l : Launch) (hst : l.stackTraces = false) (dC : Nat → ClassId) (dI : Nat → Nat → Nat) (cy : Nat → ClassId) (nb : Nat → Nat) (ad : CK → Nat) (ks : List CK) (g : CG) (hk : GA nb ad g ks) (u0 : RS) (a1 : Int32) (xc : Int32) (sz : Nat) (hF : C7_restIn g u0 a1 = some (.inl xc)) : vx_Met l yX7_restIn (wsg yX7_restIn cX7_restIn 2 (some .int)) ({ frames := 13, cells := 1, slots := 6, locals := 800 }) (va_Pc [.ref (ad .cl), .int a1] (fun U => U.heap.size = sz ∧ va_P (dC, dI) vwCl (WC cy ad ks g u0) U.heap ∧ va_K (dC, dI) vwCl (tyL cy) U ∧ va_D (fun _ => True) (WC cy ad ks g u0) ∧ GE nb (va_A (WC cy ad ks g u0) sz) U)) (va_Qi (fun (_ : Int32) (_ : Unit) => False) (fun _ _ => True) (va_A (WC cy ad ks g u0) sz)) (vx_X (fun (_ : Unit) => True) (fun E9 _ t9 => E9 = exn xc ∧ va_P (dC, dI) vwCl (WC cy ad ks g u0) t9.heap) (va_A (WC cy ad ks g u0) sz)) 1 6 (va_A (WC cy ad ks g u0) sz) := by
  refine vx_ofW (cc := cX7_restIn) (maxL := 2) (ret := (some .int)) pn_X7 rfl ?_
  intro p e s m args below meth c s₁ B hml hout hv
  obtain ⟨rfl, hsz, hP, hK, hD0, hE⟩ := hv
  have hx := B.exec
  have hb := B.bytes
  have hr := B.returns
  have hts0 := atoms_spec (ws := (wsg yX7_restIn cX7_restIn 2 (some .int))) B.pre
  have hts : ∀ w ∈ wsL_law, w.before _ s = true := fun w h => hts0 w (List.mem_cons_of_mem _ h)
  have hown : s.vm.findClass RX7 = some m.cls := by have h9 := findClass_of_methodNamed B.named; exact h9
  have hlocks := B.notSynchronized
  subst hsz
  have hD := hD0.self (sz := s.heap.size)
  generalize hAe : va_A (WC cy ad ks g u0) s.heap.size = A at hD hE ⊢
  have hA : ∀ q : Nat, s.heap.size ≤ q → A q := fun q h => by rw [← hAe]; exact Or.inr h
  have hS : va_S A s.heap s.heap [] := va_S.rf
  have hl := lv_entry ([.ref (ad .cl), .int a1]) (n := 2) (Nat.le_of_ble_eq_true rfl)
  rw [lg_entry_eq]
  generalize (lg_sl ([.ref (ad .cl), .int a1]) ++ List.replicate (2 - (lg_sl ([.ref (ad .cl), .int a1])).length) Slot.unset).toArray = ls at hl ⊢
  have hl : lv_has ls 2 [(0, .ref (ad .cl)), (1, .int a1)] := hl
  generalize hHe : s.heap = H at hP hS ⊢
  have hS : va_S A s.heap H [] := by rw [hHe]; exact hS
  refine my_Q (fun Qn hQ => ?_)
  simp only [C7_restIn] at hF
  refine lv_aload_n hx hb dX7_restIn_0 rfl (lv_at hl 0 rfl) ?_
  refine lv_iload_n hx hb dX7_restIn_1 rfl (lv_at hl 1 rfl) ?_
  obtain ⟨t1, e2, hF⟩ := ob hF
  rcases t1 with xz9 | t3
  · have hF : some (Sum.inl xz9) = some (.inl xc) := hF
    have hPc := hP
    have hDc := hD
    have hFc := my_free hD hS hA
    obtain ⟨q8, h8⟩ := wc_at (cy := cy) (ad := ad) (ks := ks) (g := g) (u := u0) (κ := .cl) hk.1 True.intro
    refine vx_callv (vx_runV (As := [.int a1]) (rest := []) ⟨hx, hb, hml, hown, hts⟩ (c_X7_needStation_y l hst dC dI cy nb ad ks g hk u0 (a1) xz9 H.size e2) (cwV 1 hts (gV mw_631 mw_632 mw_633 mw_2 mw_634) rfl rfl rfl (by decide +kernel) ⟨Nat.le_of_ble_eq_true rfl, Nat.le_of_ble_eq_true rfl⟩) (my_preV hPc hK hDc hE hS hFc (va_recv (q := (RX7, TX7, 12)) hK hP (ci := 7) (q0 := q8) rfl h8)) rfl rfl hl.1 rfl (lv_room (Nat.le_of_ble_eq_true rfl)) dX7_restIn_2 ⟨Nat.le_of_ble_eq_true rfl, Nat.le_of_ble_eq_true rfl⟩) hS (fun q _ h => hFc q h) hFc (fun q _ h => hFc q h) (fun E9 ce9 q9 u9 t9 H1 locs1 ht9 hvm9 hp9 hB9 hz9 hk9 hS9 hc9 hv9 hcl9 => ?_) (fun u9 t9 H1 locs1 ht9 hvm9 hp9 _ _ _ _ => hp9.elim)
    have hZ := s4 hF
    rw [hQ]
    exact vx_out (fun x hx => (hout x hx).elim) hlocks hc9 hv9 hcl9 (fun t h1 h2 => ⟨(), trivial, ⟨hB9.1.trans (congrArg exn hZ), by rw [h1, ← ht9]; exact hB9.2⟩, hS9.F h1⟩) hS9.2.2 (Nat.le_of_ble_eq_true rfl) (Nat.le_of_ble_eq_true rfl)
  · dsimp only [tr] at hF
    have hPc := hP
    have hDc := hD
    have hFc := my_free hD hS hA
    obtain ⟨q8, h8⟩ := wc_at (cy := cy) (ad := ad) (ks := ks) (g := g) (u := u0) (κ := .cl) hk.1 True.intro
    refine va_callv (va_runV (As := [.int a1]) (rest := []) ⟨hx, hb, hml, hown, hts⟩ (c_X7_needStation l dC dI cy nb ad ks g hk u0 (a1) H.size e2) (cwV 1 hts (gV mw_631 mw_632 mw_633 mw_2 mw_634) rfl rfl rfl (by decide +kernel) ⟨Nat.le_of_ble_eq_true rfl, Nat.le_of_ble_eq_true rfl⟩) (my_preV hPc hK hDc hE hS hFc (va_recv (q := (RX7, TX7, 12)) hK hP (ci := 7) (q0 := q8) rfl h8)) rfl rfl hl.1 rfl (lv_room (Nat.le_of_ble_eq_true rfl)) dX7_restIn_2 ⟨Nat.le_of_ble_eq_true rfl, Nat.le_of_ble_eq_true rfl⟩) hS (fun q _ h => hFc q h) hFc (fun u t H1 locs ht hvm hw hB hz1 hk1 hS => ?_)
    clear h8
    obtain ⟨hP1, hD1⟩ := hB
    rw [ht] at hP1
    have hP := hP1
    have hD := hD1.weaken (fun k q _ h => hFc q.1 h)
    generalize H1 = H at hP hS ⊢
    clear hP1 hD1 hPc hDc hFc hk1 hz1 hvm ht
    refine lv_aload_n hx hb dX7_restIn_5 rfl (lv_at hl 0 rfl) ?_
    obtain ⟨t4, e5, hF⟩ := ob hF
    have hPc := hP
    have hDc := hD
    have hFc := my_free hD hS hA
    obtain ⟨q8, h8⟩ := wc_at (cy := cy) (ad := ad) (ks := ks) (g := g) (u := u0) (κ := .cl) hk.1 True.intro
    refine va_callr (va_runV (As := []) (rest := []) ⟨hx, hb, hml, hown, hts⟩ (c_X7_copyOfLine l dC dI cy nb ad ks g hk u0 (t4) H.size e5) (cwV 0 hts (gV mw_1298 mw_1299 mw_1300 mw_2 mw_1301) rfl rfl rfl (by decide +kernel) ⟨Nat.le_of_ble_eq_true rfl, Nat.le_of_ble_eq_true rfl⟩) (my_preV hPc hK hDc hE hS hFc (va_recv (q := (RX7, TX7, 12)) hK hP (ci := 7) (q0 := q8) rfl h8)) rfl rfl hl.1 rfl (lv_room (Nat.le_of_ble_eq_true rfl)) dX7_restIn_6 ⟨Nat.le_of_ble_eq_true rfl, Nat.le_of_ble_eq_true rfl⟩) hS (fun q _ h => hFc q h) hFc (fun u ra t H1 locs ht hvm hw hB hz1 hk1 hS => ?_)
    clear h8
    obtain ⟨hra, hP1, hD1⟩ := hB
    rw [ht] at hP1
    have hP := hP1
    have hD := hD1.weaken (fun k q _ h => hFc q.1 h)
    generalize H1 = H at hP hS ⊢
    clear hP1 hD1 hPc hDc hFc hk1 hz1 hvm ht
    obtain rfl := hra.symm
    refine va_gets (C := RX2) (n := "STATION_RESTS") (d := "LCardLine$Event;") (ref := "CardLine$Event") (v := .ref (nb (40 + 4))) hx hb (hE.evk 4 rfl).1 hS hown (hts _ mw_1412) (fun _ h9 => h9) dX7_restIn_9 ?_
    refine lv_iload_n hx hb dX7_restIn_12 rfl (lv_at hl 1 rfl) ?_
    refine lv_sipush (v := 2000) hx hb dX7_restIn_13 (by decide) ?_
    obtain ⟨t6, e7, hF⟩ := ob hF
    have hPc := hP
    have hDc := hD
    have hFc := my_free hD hS hA
    refine va_calli (va_runS (As := [.ref (ad (.ln 1)), .ref (nb (40 + 4)), .int a1, .int 2000]) (rest := []) ⟨hx, hb, hml, hown, hts⟩ (c_X7_ticksUntil_e4 l dC dI cy nb ad ks g hk t4 1 (a1) (2000) (t6.1) (t6.2) H.size (Or.inl (by decide)) e7) (va_cwS 4 hts (gS mw_1302 mw_1303 mw_2 mw_1304) rfl rfl rfl (by decide +kernel) ⟨Nat.le_of_ble_eq_true rfl, Nat.le_of_ble_eq_true rfl⟩) (my_preS hPc hK hDc hE hS hFc) rfl rfl hl.1 rfl (lv_room (Nat.le_of_ble_eq_true rfl)) dX7_restIn_16 ⟨Nat.le_of_ble_eq_true rfl, Nat.le_of_ble_eq_true rfl⟩) hS (fun q _ h => hFc q h) hFc (fun r u t H1 locs ht hvm hw hB hz1 hk1 hS => ?_)
    obtain ⟨hP1, hD1⟩ := hB
    rw [ht] at hP1
    have hP := hP1
    have hD := hD1.weaken (fun k q _ h => hFc q.1 h)
    generalize H1 = H at hP hS ⊢
    clear hP1 hD1 hPc hDc hFc hk1 hz1 hvm ht
    obtain rfl := hw.symm
    cases hF
set_option maxHeartbeats 4000000 in
set_option maxRecDepth 100000 in
theorem c_X7_restoreSnapshot_y (l : Launch) (hst : l.stackTraces = false) (dC : Nat → ClassId) (dI : Nat → Nat → Nat) (cy : Nat → ClassId) (nb : Nat → Nat) (ad : CK → Nat) (ks : List CK) (g : CG) (hk : GA nb ad g ks) (u0 : RS) (a1 : Int32) (xc : Int32) (sz : Nat) (hF : C7_restoreSnapshot g u0 a1 = some (.inl xc)) : vx_Met l yX7_restoreSnapshot (wsg yX7_restoreSnapshot cX7_restoreSnapshot 2 (some .int)) ({ frames := 9, cells := 1, slots := 6, locals := 400 }) (va_Pc [.ref (ad .cl), .int a1] (fun U => U.heap.size = sz ∧ va_P (dC, dI) vwCl (WC cy ad ks g u0) U.heap ∧ va_K (dC, dI) vwCl (tyL cy) U ∧ va_D (fun _ => True) (WC cy ad ks g u0) ∧ GE nb (va_A (WC cy ad ks g u0) sz) U)) (va_Qi (fun (_ : Int32) (_ : Unit) => False) (fun _ _ => True) (va_A (WC cy ad ks g u0) sz)) (vx_X (fun (_ : Unit) => True) (fun E9 _ t9 => E9 = exn xc ∧ va_P (dC, dI) vwCl (WC cy ad ks g u0) t9.heap) (va_A (WC cy ad ks g u0) sz)) 1 6 (va_A (WC cy ad ks g u0) sz) := by
  refine vx_ofW (cc := cX7_restoreSnapshot) (maxL := 2) (ret := (some .int)) pn_X7 rfl ?_
  intro p e s m args below meth c s₁ B hml hout hv
  obtain ⟨rfl, hsz, hP, hK, hD0, hE⟩ := hv
  have hx := B.exec
  have hb := B.bytes
  have hr := B.returns
  have hts0 := atoms_spec (ws := (wsg yX7_restoreSnapshot cX7_restoreSnapshot 2 (some .int))) B.pre
  have hts : ∀ w ∈ wsL_law, w.before _ s = true := fun w h => hts0 w (List.mem_cons_of_mem _ h)
  have hown : s.vm.findClass RX7 = some m.cls := by have h9 := findClass_of_methodNamed B.named; exact h9
  have hlocks := B.notSynchronized
  subst hsz
  have hD := hD0.self (sz := s.heap.size)
  generalize hAe : va_A (WC cy ad ks g u0) s.heap.size = A at hD hE ⊢
  have hA : ∀ q : Nat, s.heap.size ≤ q → A q := fun q h => by rw [← hAe]; exact Or.inr h
  have hS : va_S A s.heap s.heap [] := va_S.rf
  have hl := lv_entry ([.ref (ad .cl), .int a1]) (n := 2) (Nat.le_of_ble_eq_true rfl)
  rw [lg_entry_eq]
  generalize (lg_sl ([.ref (ad .cl), .int a1]) ++ List.replicate (2 - (lg_sl ([.ref (ad .cl), .int a1])).length) Slot.unset).toArray = ls at hl ⊢
  have hl : lv_has ls 2 [(0, .ref (ad .cl)), (1, .int a1)] := hl
  generalize hHe : s.heap = H at hP hS ⊢
  have hS : va_S A s.heap H [] := by rw [hHe]; exact hS
  refine my_Q (fun Qn hQ => ?_)
  simp only [C7_restoreSnapshot] at hF
  refine lv_iload_n hx hb dX7_restoreSnapshot_0 rfl (lv_at hl 1 rfl) ?_
  refine lv_iconst (v := 0) hx hb dX7_restoreSnapshot_1 (by decide) ?_
  refine lv_iconst (v := 1) hx hb dX7_restoreSnapshot_2 (by decide) ?_
  obtain ⟨t1, e2, hF⟩ := ob hF
  rcases t1 with xz9 | t3
  · have hF : some (Sum.inl xz9) = some (.inl xc) := hF
    have hPc : va_P (dC, dI) vwCl ([] : va_W) H := fun k q h => by simp at h
    have hDc : va_D A ([] : va_W) := ⟨fun i j p q h => by simp at h, fun k q h => by simp at h⟩
    have hFc := my_free0 hS hA
    refine vx_callv (vx_runS (As := [.int a1, .int 0, .int 1]) (rest := []) ⟨hx, hb, hml, hown, hts⟩ (c_X7_needRange_x l hst dC dI cy nb (a1) (0) (1) xz9 H.size e2) (va_cwS 3 hts (gS mw_815 mw_816 mw_2 mw_817) rfl rfl rfl (by decide +kernel) ⟨Nat.le_of_ble_eq_true rfl, Nat.le_of_ble_eq_true rfl⟩) (my_preS hPc hK hDc hE hS hFc) rfl rfl hl.1 rfl (lv_room (Nat.le_of_ble_eq_true rfl)) dX7_restoreSnapshot_3 ⟨Nat.le_of_ble_eq_true rfl, Nat.le_of_ble_eq_true rfl⟩) hS (fun q _ h => hFc q h) hFc (fun q _ h => hFc q h) (fun E9 ce9 q9 u9 t9 H1 locs1 ht9 hvm9 hp9 hB9 hz9 hk9 hS9 hc9 hv9 hcl9 => ?_) (fun u9 t9 H1 locs1 ht9 hvm9 hp9 _ _ _ _ => hp9.elim)
    have hZ := s4 hF
    rw [hQ]
    exact vx_out (fun x hx => (hout x hx).elim) hlocks hc9 hv9 hcl9 (fun t h1 h2 => ⟨(), trivial, ⟨hB9.trans (congrArg exn hZ), by rw [h1]; exact my_keep hP hk9⟩, hS9.F h1⟩) hS9.2.2 (Nat.le_of_ble_eq_true rfl) (Nat.le_of_ble_eq_true rfl)
  · dsimp only [tr] at hF
    have hPc : va_P (dC, dI) vwCl ([] : va_W) H := fun k q h => by simp at h
    have hDc : va_D A ([] : va_W) := ⟨fun i j p q h => by simp at h, fun k q h => by simp at h⟩
    have hFc := my_free0 hS hA
    refine va_callv (va_runS (As := [.int a1, .int 0, .int 1]) (rest := []) ⟨hx, hb, hml, hown, hts⟩ (c_X7_needRange l dC dI cy nb (a1) (0) (1) H.size e2) (va_cwS 3 hts (gS mw_815 mw_816 mw_2 mw_817) rfl rfl rfl (by decide +kernel) ⟨Nat.le_of_ble_eq_true rfl, Nat.le_of_ble_eq_true rfl⟩) (my_preS hPc hK hDc hE hS hFc) rfl rfl hl.1 rfl (lv_room (Nat.le_of_ble_eq_true rfl)) dX7_restoreSnapshot_3 ⟨Nat.le_of_ble_eq_true rfl, Nat.le_of_ble_eq_true rfl⟩) hS (fun q _ h => hFc q h) hFc (fun u t H1 locs ht hvm hw hB hz1 hk1 hS => ?_)
    obtain ⟨hP1, hD1⟩ := hB
    rw [ht] at hP1
    have hP := my_keep hP hk1
    generalize H1 = H at hP hS ⊢
    clear hP1 hD1 hPc hDc hFc hk1 hz1 hvm ht
    refine lv_aload_n hx hb dX7_restoreSnapshot_6 rfl (lv_at hl 0 rfl) ?_
    obtain ⟨q9, h9⟩ := wc_at (cy := cy) (ad := ad) (ks := ks) (g := g) (u := u0) (κ := .cl) hk.1 True.intro
    refine va_get (D := (dC, dI)) (ci := 7) (v := .ref (ad .sa)) (C := RX7) (T := TX7) (N := 12) hx hb hts inlX7 hown hK hP q9 h9 rfl 5 (by decide) (hts _ mw_27) (fun _ h9 => h9) rfl dX7_restoreSnapshot_7 ?_
    clear h9
    refine lv_iload_n hx hb dX7_restoreSnapshot_10 rfl (lv_at hl 1 rfl) ?_
    obtain ⟨n4, e5, hF⟩ := ob hF
    by_cases c6 : g.pl (10 + n4) = true
    · rw [if_pos c6] at hF
      obtain ⟨q9, h9⟩ := wc_at (cy := cy) (ad := ad) (ks := ks) (g := g) (u := u0) (κ := .sa) hk.1 True.intro
      refine va_aldq hx hb hK hP q9 5 h9 rfl (ix_in e5) dX7_restoreSnapshot_11 ?_
      refine my_top (y := .ref (ad (.ln (10 + n4)))) (plv (F := fun j => ad (.ln (10 + j))) e5 c6) ?_
      clear h9
      refine lv_ifnonnull (tgt := 17) hx hb dX7_restoreSnapshot_12 (by decide) ?_
      refine lv_aload_n hx hb dX7_restoreSnapshot_17 rfl (lv_at hl 0 rfl) ?_
      obtain ⟨q9, h9⟩ := wc_at (cy := cy) (ad := ad) (ks := ks) (g := g) (u := u0) (κ := .cl) hk.1 True.intro
      refine va_get (D := (dC, dI)) (ci := 7) (v := .ref (ad (.ln 0))) (C := RX7) (T := TX7) (N := 12) hx hb hts inlX7 hown hK hP q9 h9 rfl 0 (by decide) (hts _ mw_18) (fun _ h9 => h9) rfl dX7_restoreSnapshot_18 ?_
      clear h9
      refine lv_aload_n hx hb dX7_restoreSnapshot_21 rfl (lv_at hl 0 rfl) ?_
      obtain ⟨q9, h9⟩ := wc_at (cy := cy) (ad := ad) (ks := ks) (g := g) (u := u0) (κ := .cl) hk.1 True.intro
      refine va_get (D := (dC, dI)) (ci := 7) (v := .ref (ad .sa)) (C := RX7) (T := TX7) (N := 12) hx hb hts inlX7 hown hK hP q9 h9 rfl 5 (by decide) (hts _ mw_27) (fun _ h9 => h9) rfl dX7_restoreSnapshot_22 ?_
      clear h9
      refine lv_iload_n hx hb dX7_restoreSnapshot_25 rfl (lv_at hl 1 rfl) ?_
      obtain ⟨q9, h9⟩ := wc_at (cy := cy) (ad := ad) (ks := ks) (g := g) (u := u0) (κ := .sa) hk.1 True.intro
      refine va_aldq hx hb hK hP q9 5 h9 rfl (ix_in e5) dX7_restoreSnapshot_26 ?_
      refine my_top (y := .ref (ad (.ln (10 + n4)))) (plv (F := fun j => ad (.ln (10 + j))) e5 c6) ?_
      clear h9
      obtain ⟨u7, e8, hF⟩ := ob hF
      have hPc := hP
      have hDc := hD
      have hFc := my_free hD hS hA
      obtain ⟨q8, h8⟩ := wc_at (cy := cy) (ad := ad) (ks := ks) (g := g) (u := u0) (κ := (.ln 0)) hk.1 (Or.inl (by decide))
      refine va_callv (va_runV (As := [.ref (ad (.ln (10 + n4)))]) (rest := []) ⟨hx, hb, hml, hown, hts⟩ (c_X3_copyFrom l dC dI cy nb ad ks g hk u0 0 (10 + n4) (u7) H.size (Or.inl (by decide)) (Or.inr ⟨by have := ix_lt e5; omega, c6⟩) e8) (cwV 1 hts (gV mw_392 mw_393 mw_394 mw_17 mw_395) rfl rfl rfl (by decide +kernel) ⟨Nat.le_of_ble_eq_true rfl, Nat.le_of_ble_eq_true rfl⟩) (my_preV hPc hK hDc hE hS hFc (va_recv (q := (RX3, TX3, 17)) hK hP (ci := 3) (q0 := q8) rfl h8)) rfl rfl hl.1 rfl (lv_room (Nat.le_of_ble_eq_true rfl)) dX7_restoreSnapshot_27 ⟨Nat.le_of_ble_eq_true rfl, Nat.le_of_ble_eq_true rfl⟩) hS (fun q _ h => hFc q h) hFc (fun u t H1 locs ht hvm hw hB hz1 hk1 hS => ?_)
      clear h8
      obtain ⟨hP1, hD1⟩ := hB
      rw [ht] at hP1
      have hP := hP1
      have hD := hD1.weaken (fun k q _ h => hFc q.1 h)
      generalize H1 = H at hP hS ⊢
      clear hP1 hD1 hPc hDc hFc hk1 hz1 hvm ht
      refine lv_aload_n hx hb dX7_restoreSnapshot_30 rfl (lv_at hl 0 rfl) ?_
      refine lv_iconst (v := 0) hx hb dX7_restoreSnapshot_31 (by decide) ?_
      obtain ⟨q9, h9, ez9⟩ := wc_set (cy := cy) (ad := ad) (ks := ks) (g := g) (u := u7) (κ := .cl) (r := 0) (i := 4) (v := (0)) hk.1 True.intro (own_cl (by decide)) (sf_cl_11)
      refine va_put (D := (dC, dI)) (ci := 7) (v := .int 0) (ty := .int) (C := RX7) (T := TX7) (N := 12) hx hb hts inlX7 tyX7 tyX7_ok nmX7 hown hK hP hD hS q9 h9 rfl 11 (by decide) (hts _ mw_34) (fun _ h9 => h9) rfl (by decide +kernel) rfl rfl (Nat.le_of_ble_eq_true rfl) dX7_restoreSnapshot_32 (fun H locs hP hD hS => ?_)
      obtain ⟨u9, e10, hF⟩ := ob hF
      have hP : va_P (dC, dI) vwCl (WC cy ad ks g u9) H := by rw [← pt_eq e10, ← ez9]; exact hP
      have hD : va_D A (WC cy ad ks g u9) := by rw [← pt_eq e10, ← ez9]; exact hD
      clear ez9 h9
      refine lv_aload_n hx hb dX7_restoreSnapshot_35 rfl (lv_at hl 0 rfl) ?_
      obtain ⟨q9, h9⟩ := wc_at (cy := cy) (ad := ad) (ks := ks) (g := g) (u := u9) (κ := .cl) hk.1 True.intro
      refine va_get (D := (dC, dI)) (ci := 7) (v := .ref (ad (.ln 0))) (C := RX7) (T := TX7) (N := 12) hx hb hts inlX7 hown hK hP q9 h9 rfl 0 (by decide) (hts _ mw_18) (fun _ h9 => h9) rfl dX7_restoreSnapshot_36 ?_
      clear h9
      obtain ⟨q9, h9⟩ := wc_at (cy := cy) (ad := ad) (ks := ks) (g := g) (u := u9) (κ := (.ln 0)) hk.1 (Or.inl (by decide))
      refine va_get (D := (dC, dI)) (ci := 3) (v := .int (u9 (10 + 0) 6)) (C := RX3) (T := TX3) (N := 17) hx hb hts inlX3 hown hK hP q9 h9 rfl 6 (by decide) (hts _ mw_867) (fun _ h9 => h9) rfl dX7_restoreSnapshot_39 ?_
      clear h9
      cases hF
    · rw [if_neg c6] at hF
      obtain ⟨q9, h9⟩ := wc_at (cy := cy) (ad := ad) (ks := ks) (g := g) (u := u0) (κ := .sa) hk.1 True.intro
      refine va_aldq hx hb hK hP q9 5 h9 rfl (ix_in e5) dX7_restoreSnapshot_11 ?_
      refine my_top (y := .null) (plv_n (F := fun j => ad (.ln (10 + j))) e5 c6) ?_
      clear h9
      refine lv_ifnonnullN hx hb dX7_restoreSnapshot_12 ?_
      refine lv_iconst (v := (-1)) hx hb dX7_restoreSnapshot_15 (by decide) ?_
      cases hF
set_option maxHeartbeats 4000000 in
set_option maxRecDepth 100000 in
theorem c_X7_run_y (l : Launch) (hst : l.stackTraces = false) (dC : Nat → ClassId) (dI : Nat → Nat → Nat) (cy : Nat → ClassId) (nb : Nat → Nat) (ad : CK → Nat) (ks : List CK) (g : CG) (hk : GA nb ad g ks) (u0 : RS) (a1 : Int32) (xc : Int32) (sz : Nat) (hF : C7_run g u0 a1 = some (.inl xc)) : vx_Met l yX7_run (wsg yX7_run cX7_run 3 (some .int)) ({ frames := 12, cells := 67, slots := 831, locals := 700 }) (va_Pc [.ref (ad .cl), .int a1] (fun U => U.heap.size = sz ∧ va_P (dC, dI) vwCl (WC cy ad ks g u0) U.heap ∧ va_K (dC, dI) vwCl (tyL cy) U ∧ va_D (fun _ => True) (WC cy ad ks g u0) ∧ GE nb (va_A (WC cy ad ks g u0) sz) U)) (va_Qi (fun (_ : Int32) (_ : Unit) => False) (fun _ _ => True) (va_A (WC cy ad ks g u0) sz)) (vx_X (fun (_ : Unit) => True) (fun E9 _ t9 => E9 = exn xc ∧ va_P (dC, dI) vwCl (WC cy ad ks g u0) t9.heap) (va_A (WC cy ad ks g u0) sz)) 67 831 (va_A (WC cy ad ks g u0) sz) := by
  refine vx_ofW (cc := cX7_run) (maxL := 3) (ret := (some .int)) pn_X7 rfl ?_
  intro p e s m args below meth c s₁ B hml hout hv
  obtain ⟨rfl, hsz, hP, hK, hD0, hE⟩ := hv
  have hx := B.exec
  have hb := B.bytes
  have hr := B.returns
  have hts0 := atoms_spec (ws := (wsg yX7_run cX7_run 3 (some .int))) B.pre
  have hts : ∀ w ∈ wsL_law, w.before _ s = true := fun w h => hts0 w (List.mem_cons_of_mem _ h)
  have hown : s.vm.findClass RX7 = some m.cls := by have h9 := findClass_of_methodNamed B.named; exact h9
  have hlocks := B.notSynchronized
  subst hsz
  have hD := hD0.self (sz := s.heap.size)
  generalize hAe : va_A (WC cy ad ks g u0) s.heap.size = A at hD hE ⊢
  have hA : ∀ q : Nat, s.heap.size ≤ q → A q := fun q h => by rw [← hAe]; exact Or.inr h
  have hS : va_S A s.heap s.heap [] := va_S.rf
  have hl := lv_entry ([.ref (ad .cl), .int a1]) (n := 3) (Nat.le_of_ble_eq_true rfl)
  rw [lg_entry_eq]
  generalize (lg_sl ([.ref (ad .cl), .int a1]) ++ List.replicate (3 - (lg_sl ([.ref (ad .cl), .int a1])).length) Slot.unset).toArray = ls at hl ⊢
  have hl : lv_has ls 3 [(0, .ref (ad .cl)), (1, .int a1)] := hl
  generalize hHe : s.heap = H at hP hS ⊢
  have hS : va_S A s.heap H [] := by rw [hHe]; exact hS
  refine my_Q (fun Qn hQ => ?_)
  simp only [C7_run] at hF
  refine lv_iload_n hx hb dX7_run_0 rfl (lv_at hl 1 rfl) ?_
  refine lv_iconst (v := 1) hx hb dX7_run_1 (by decide) ?_
  refine lv_sipush (v := 2000) hx hb dX7_run_2 (by decide) ?_
  obtain ⟨t1, e2, hF⟩ := ob hF
  rcases t1 with xz9 | t3
  · have hF : some (Sum.inl xz9) = some (.inl xc) := hF
    have hPc : va_P (dC, dI) vwCl ([] : va_W) H := fun k q h => by simp at h
    have hDc : va_D A ([] : va_W) := ⟨fun i j p q h => by simp at h, fun k q h => by simp at h⟩
    have hFc := my_free0 hS hA
    refine vx_callv (vx_runS (As := [.int a1, .int 1, .int 2000]) (rest := []) ⟨hx, hb, hml, hown, hts⟩ (c_X7_needRange_x l hst dC dI cy nb (a1) (1) (2000) xz9 H.size e2) (va_cwS 3 hts (gS mw_815 mw_816 mw_2 mw_817) rfl rfl rfl (by decide +kernel) ⟨Nat.le_of_ble_eq_true rfl, Nat.le_of_ble_eq_true rfl⟩) (my_preS hPc hK hDc hE hS hFc) rfl rfl hl.1 rfl (lv_room (Nat.le_of_ble_eq_true rfl)) dX7_run_5 ⟨Nat.le_of_ble_eq_true rfl, Nat.le_of_ble_eq_true rfl⟩) hS (fun q _ h => hFc q h) hFc (fun q _ h => hFc q h) (fun E9 ce9 q9 u9 t9 H1 locs1 ht9 hvm9 hp9 hB9 hz9 hk9 hS9 hc9 hv9 hcl9 => ?_) (fun u9 t9 H1 locs1 ht9 hvm9 hp9 _ _ _ _ => hp9.elim)
    have hZ := s4 hF
    rw [hQ]
    exact vx_out (fun x hx => (hout x hx).elim) hlocks hc9 hv9 hcl9 (fun t h1 h2 => ⟨(), trivial, ⟨hB9.trans (congrArg exn hZ), by rw [h1]; exact my_keep hP hk9⟩, hS9.F h1⟩) hS9.2.2 (Nat.le_of_ble_eq_true rfl) (Nat.le_of_ble_eq_true rfl)
  · dsimp only [tr] at hF
    have hPc : va_P (dC, dI) vwCl ([] : va_W) H := fun k q h => by simp at h
    have hDc : va_D A ([] : va_W) := ⟨fun i j p q h => by simp at h, fun k q h => by simp at h⟩
    have hFc := my_free0 hS hA
    refine va_callv (va_runS (As := [.int a1, .int 1, .int 2000]) (rest := []) ⟨hx, hb, hml, hown, hts⟩ (c_X7_needRange l dC dI cy nb (a1) (1) (2000) H.size e2) (va_cwS 3 hts (gS mw_815 mw_816 mw_2 mw_817) rfl rfl rfl (by decide +kernel) ⟨Nat.le_of_ble_eq_true rfl, Nat.le_of_ble_eq_true rfl⟩) (my_preS hPc hK hDc hE hS hFc) rfl rfl hl.1 rfl (lv_room (Nat.le_of_ble_eq_true rfl)) dX7_run_5 ⟨Nat.le_of_ble_eq_true rfl, Nat.le_of_ble_eq_true rfl⟩) hS (fun q _ h => hFc q h) hFc (fun u t H1 locs ht hvm hw hB hz1 hk1 hS => ?_)
    obtain ⟨hP1, hD1⟩ := hB
    rw [ht] at hP1
    have hP := my_keep hP hk1
    generalize H1 = H at hP hS ⊢
    clear hP1 hD1 hPc hDc hFc hk1 hz1 hvm ht
    refine lv_aload_n hx hb dX7_run_8 rfl (lv_at hl 0 rfl) ?_
    obtain ⟨t4, e5, hF⟩ := ob hF
    have hPc := hP
    have hDc := hD
    have hFc := my_free hD hS hA
    obtain ⟨q8, h8⟩ := wc_at (cy := cy) (ad := ad) (ks := ks) (g := g) (u := u0) (κ := .cl) hk.1 True.intro
    refine va_callv (va_runV (As := []) (rest := []) ⟨hx, hb, hml, hown, hts⟩ (c_X7_remember l dC dI cy nb ad ks g hk u0 (t4.1) (t4.2) H.size e5) (cwV 0 hts (gV mw_973 mw_974 mw_975 mw_2 mw_976) rfl rfl rfl (by decide +kernel) ⟨Nat.le_of_ble_eq_true rfl, Nat.le_of_ble_eq_true rfl⟩) (my_preV hPc hK hDc hE hS hFc (va_recv (q := (RX7, TX7, 12)) hK hP (ci := 7) (q0 := q8) rfl h8)) rfl rfl hl.1 rfl (lv_room (Nat.le_of_ble_eq_true rfl)) dX7_run_9 ⟨Nat.le_of_ble_eq_true rfl, Nat.le_of_ble_eq_true rfl⟩) hS (fun q _ h => hFc q h) hFc (fun u t H1 locs ht hvm hw hB hz1 hk1 hS => ?_)
    clear h8
    obtain ⟨ad6, ks7, hk8, ax9, hP1, hD1⟩ := hB
    rw [ht] at hP1
    have hP := hP1
    have hD := hD1.weaken (fun k q _ h => hFc q.1 h)
    generalize H1 = H at hP hS ⊢
    have hl : lv_has ls 3 [(0, .ref (ad6 .cl)), (1, .int a1)] := by rw [(ax9 .cl True.intro).2]; exact hl
    clear hP1 hD1 hPc hDc hFc hk1 hz1 hvm ht
    refine W.widen (k := 67) (n := 831) (by omega) (by omega) ?_
    refine lv_iconst (v := 0) hx hb dX7_run_12 (by decide) ?_
    refine lv_istore_n (lv' := [(2, .int 0), (0, .ref (ad6 .cl)), (1, .int a1)]) hx hb dX7_run_13 rfl hl (by decide) rfl (fun ls hl => ?_)
    obtain ⟨t12, hL13, hF⟩ := ob hF
    have kx14 : ∀ (H : Heap) (locs : List Loc) (ls : Array Slot), va_P (dC, dI) vwCl (WC cy ad6 ks7 (t4.1) (t12.2)) H → va_D A (WC cy ad6 ks7 (t4.1) (t12.2)) → va_S A s.heap H locs → lv_has ls 3 [(2, .int (t12.1)), (0, .ref (ad6 .cl)), (1, .int a1)] → W p l e (headSpec (wsg yX7_run cX7_run 3 (some .int)) ({ frames := 12, cells := 67, slots := 831, locals := 700 })).room s m ([.ref (ad .cl), .int a1] : List Value).toArray below meth c H locs 67 831 Qn (F0 m 33 ls []) := by
      intro H locs ls hP hD hS hl
      refine lv_aload_n hx hb dX7_run_33 rfl (lv_at hl 1 rfl) ?_
      obtain ⟨q9, h9⟩ := wc_at (cy := cy) (ad := ad6) (ks := ks7) (g := (t4.1)) (u := (t12.2)) (κ := .cl) hk8.1 True.intro
      refine va_get (D := (dC, dI)) (ci := 7) (v := .ref (ad6 (.ln 0))) (C := RX7) (T := TX7) (N := 12) hx hb hts inlX7 hown hK hP q9 h9 rfl 0 (by decide) (hts _ mw_18) (fun _ h9 => h9) rfl dX7_run_34 ?_
      clear h9
      obtain ⟨q9, h9⟩ := wc_at (cy := cy) (ad := ad6) (ks := ks7) (g := (t4.1)) (u := (t12.2)) (κ := (.ln 0)) hk8.1 (Or.inl (by decide))
      refine va_get (D := (dC, dI)) (ci := 3) (v := .ref (ad6 (.is 0))) (C := RX3) (T := TX3) (N := 17) hx hb hts inlX3 hown hK hP q9 h9 rfl 13 (by decide) (hts _ mw_574) (fun _ h9 => h9) rfl dX7_run_37 ?_
      clear h9
      refine lv_iconst (v := 3) hx hb dX7_run_40 (by decide) ?_
      obtain ⟨q9, h9⟩ := wc_at (cy := cy) (ad := ad6) (ks := ks7) (g := (t4.1)) (u := (t12.2)) (κ := (.is 0)) hk8.1 (Or.inl (by decide))
      refine va_iald hx hb hK hP q9 1 h9 rfl (vp_in_nI (n := 3) (by decide) (by decide)) dX7_run_41 ?_
      refine my_topi (y := ((t12.2) (400 + 0) 3)) (by rfl) ?_
      clear h9
      cases hF
    clear hF
    have loop16 : ∀ (m17 : Nat) (y10 : Int32) (u11 : RS), C7_run_L14 a1 t4 m17 y10 u11 = some t12 → ∀ (H : Heap) (locs : List Loc) (ls : Array Slot), va_P (dC, dI) vwCl (WC cy ad6 ks7 (t4.1) u11) H → va_D A (WC cy ad6 ks7 (t4.1) u11) → va_S A s.heap H locs → lv_has ls 3 [(2, .int y10), (0, .ref (ad6 .cl)), (1, .int a1)] → W p l e (headSpec (wsg yX7_run cX7_run 3 (some .int)) ({ frames := 12, cells := 67, slots := 831, locals := 700 })).room s m ([.ref (ad .cl), .int a1] : List Value).toArray below meth c H locs 67 831 Qn (F0 m 14 ls []) := by
      intro m17
      induction m17 with
      | zero => intro y10 u11 hF; cases hF
      | succ m17 ih =>
        intro y10 u11 hF H locs ls hP hD hS hl
        simp only [C7_run_L14] at hF
        refine lv_iload_n hx hb dX7_run_14 rfl (lv_at hl 0 rfl) ?_
        refine lv_iload_n hx hb dX7_run_15 rfl (lv_at hl 2 rfl) ?_
        refine lv_icmp_ge (tgt := 33) hx hb dX7_run_16 (by decide) (fun c18 => ?_) (fun c18 => ?_)
        · rw [if_pos c18] at hF
          have ht := s1 hF
          subst ht
          exact kx14 _ _ _ hP hD hS (lv_sub hl [0, 1, 2] rfl)
        · rw [if_neg c18] at hF
          refine lv_aload_n hx hb dX7_run_19 rfl (lv_at hl 1 rfl) ?_
          obtain ⟨q9, h9⟩ := wc_at (cy := cy) (ad := ad6) (ks := ks7) (g := (t4.1)) (u := u11) (κ := .cl) hk8.1 True.intro
          refine va_get (D := (dC, dI)) (ci := 7) (v := .ref (ad6 (.ln 0))) (C := RX7) (T := TX7) (N := 12) hx hb hts inlX7 hown hK hP q9 h9 rfl 0 (by decide) (hts _ mw_18) (fun _ h9 => h9) rfl dX7_run_20 ?_
          clear h9
          obtain ⟨t19, e20, hF⟩ := ob hF
          have hPc := hP
          have hDc := hD
          have hFc := my_free hD hS hA
          obtain ⟨q8, h8⟩ := wc_at (cy := cy) (ad := ad6) (ks := ks7) (g := (t4.1)) (u := u11) (κ := (.ln 0)) hk8.1 (Or.inl (by decide))
          refine va_calli (va_runV (As := []) (rest := []) ⟨hx, hb, hml, hown, hts⟩ (c_X3_tick l dC dI cy nb ad6 ks7 (t4.1) hk8 u11 0 (t19.1) (t19.2) H.size (Or.inl (by decide)) e20) (cwV 0 hts (gV mw_1137 mw_1138 mw_1139 mw_17 mw_1140) rfl rfl rfl (by decide +kernel) ⟨Nat.le_of_ble_eq_true rfl, Nat.le_of_ble_eq_true rfl⟩) (my_preV hPc hK hDc hE hS hFc (va_recv (q := (RX3, TX3, 17)) hK hP (ci := 3) (q0 := q8) rfl h8)) rfl rfl hl.1 rfl (lv_room (Nat.le_of_ble_eq_true rfl)) dX7_run_23 ⟨Nat.le_of_ble_eq_true rfl, Nat.le_of_ble_eq_true rfl⟩) hS (fun q _ h => hFc q h) hFc (fun r u t H1 locs ht hvm hw hB hz1 hk1 hS => ?_)
          clear h8
          obtain ⟨hP1, hD1⟩ := hB
          rw [ht] at hP1
          have hP := hP1
          have hD := hD1.weaken (fun k q _ h => hFc q.1 h)
          generalize H1 = H at hP hS ⊢
          clear hP1 hD1 hPc hDc hFc hk1 hz1 hvm ht
          obtain rfl := hw.symm
          refine lv_pop hx hb dX7_run_26 rfl ?_
          refine lv_iinc (v := (y10 + 1)) (lv' := [(2, .int (y10 + 1)), (0, .ref (ad6 .cl)), (1, .int a1)]) hx hb dX7_run_27 hl (k := 0) rfl (by rfl) (by decide) rfl (fun ls hl => ?_)
          refine lv_goto (tgt := 14) hx hb dX7_run_30 (by decide) ?_
          exact ih _ _ hF _ _ _ hP hD hS (lv_sub hl [0, 1, 2] rfl)
    exact loop16 FUEL _ _ hL13 _ _ _ hP hD hS (lv_sub hl [0, 1, 2] rfl)
set_option maxHeartbeats 4000000 in
set_option maxRecDepth 100000 in
theorem c_X7_runToLeave_y (l : Launch) (hst : l.stackTraces = false) (dC : Nat → ClassId) (dI : Nat → Nat → Nat) (cy : Nat → ClassId) (nb : Nat → Nat) (ad : CK → Nat) (ks : List CK) (g : CG) (hk : GA nb ad g ks) (u0 : RS) (a1 : Int32) (xc : Int32) (sz : Nat) (hF : C7_runToLeave g u0 a1 = some (.inl xc)) : vx_Met l yX7_runToLeave (wsg yX7_runToLeave cX7_runToLeave 4 (some .int)) ({ frames := 12, cells := 67, slots := 831, locals := 700 }) (va_Pc [.ref (ad .cl), .int a1] (fun U => U.heap.size = sz ∧ va_P (dC, dI) vwCl (WC cy ad ks g u0) U.heap ∧ va_K (dC, dI) vwCl (tyL cy) U ∧ va_D (fun _ => True) (WC cy ad ks g u0) ∧ GE nb (va_A (WC cy ad ks g u0) sz) U)) (va_Qi (fun (_ : Int32) (_ : Unit) => False) (fun _ _ => True) (va_A (WC cy ad ks g u0) sz)) (vx_X (fun (_ : Unit) => True) (fun E9 _ t9 => E9 = exn xc ∧ va_P (dC, dI) vwCl (WC cy ad ks g u0) t9.heap) (va_A (WC cy ad ks g u0) sz)) 67 831 (va_A (WC cy ad ks g u0) sz) := by
  refine vx_ofW (cc := cX7_runToLeave) (maxL := 4) (ret := (some .int)) pn_X7 rfl ?_
  intro p e s m args below meth c s₁ B hml hout hv
  obtain ⟨rfl, hsz, hP, hK, hD0, hE⟩ := hv
  have hx := B.exec
  have hb := B.bytes
  have hr := B.returns
  have hts0 := atoms_spec (ws := (wsg yX7_runToLeave cX7_runToLeave 4 (some .int))) B.pre
  have hts : ∀ w ∈ wsL_law, w.before _ s = true := fun w h => hts0 w (List.mem_cons_of_mem _ h)
  have hown : s.vm.findClass RX7 = some m.cls := by have h9 := findClass_of_methodNamed B.named; exact h9
  have hlocks := B.notSynchronized
  subst hsz
  have hD := hD0.self (sz := s.heap.size)
  generalize hAe : va_A (WC cy ad ks g u0) s.heap.size = A at hD hE ⊢
  have hA : ∀ q : Nat, s.heap.size ≤ q → A q := fun q h => by rw [← hAe]; exact Or.inr h
  have hS : va_S A s.heap s.heap [] := va_S.rf
  have hl := lv_entry ([.ref (ad .cl), .int a1]) (n := 4) (Nat.le_of_ble_eq_true rfl)
  rw [lg_entry_eq]
  generalize (lg_sl ([.ref (ad .cl), .int a1]) ++ List.replicate (4 - (lg_sl ([.ref (ad .cl), .int a1])).length) Slot.unset).toArray = ls at hl ⊢
  have hl : lv_has ls 4 [(0, .ref (ad .cl)), (1, .int a1)] := hl
  generalize hHe : s.heap = H at hP hS ⊢
  have hS : va_S A s.heap H [] := by rw [hHe]; exact hS
  refine my_Q (fun Qn hQ => ?_)
  simp only [C7_runToLeave] at hF
  refine lv_iload_n hx hb dX7_runToLeave_0 rfl (lv_at hl 1 rfl) ?_
  refine lv_iconst (v := 1) hx hb dX7_runToLeave_1 (by decide) ?_
  refine lv_sipush (v := 2000) hx hb dX7_runToLeave_2 (by decide) ?_
  obtain ⟨t1, e2, hF⟩ := ob hF
  rcases t1 with xz9 | t3
  · have hF : some (Sum.inl xz9) = some (.inl xc) := hF
    have hPc : va_P (dC, dI) vwCl ([] : va_W) H := fun k q h => by simp at h
    have hDc : va_D A ([] : va_W) := ⟨fun i j p q h => by simp at h, fun k q h => by simp at h⟩
    have hFc := my_free0 hS hA
    refine vx_callv (vx_runS (As := [.int a1, .int 1, .int 2000]) (rest := []) ⟨hx, hb, hml, hown, hts⟩ (c_X7_needRange_x l hst dC dI cy nb (a1) (1) (2000) xz9 H.size e2) (va_cwS 3 hts (gS mw_815 mw_816 mw_2 mw_817) rfl rfl rfl (by decide +kernel) ⟨Nat.le_of_ble_eq_true rfl, Nat.le_of_ble_eq_true rfl⟩) (my_preS hPc hK hDc hE hS hFc) rfl rfl hl.1 rfl (lv_room (Nat.le_of_ble_eq_true rfl)) dX7_runToLeave_5 ⟨Nat.le_of_ble_eq_true rfl, Nat.le_of_ble_eq_true rfl⟩) hS (fun q _ h => hFc q h) hFc (fun q _ h => hFc q h) (fun E9 ce9 q9 u9 t9 H1 locs1 ht9 hvm9 hp9 hB9 hz9 hk9 hS9 hc9 hv9 hcl9 => ?_) (fun u9 t9 H1 locs1 ht9 hvm9 hp9 _ _ _ _ => hp9.elim)
    have hZ := s4 hF
    rw [hQ]
    exact vx_out (fun x hx => (hout x hx).elim) hlocks hc9 hv9 hcl9 (fun t h1 h2 => ⟨(), trivial, ⟨hB9.trans (congrArg exn hZ), by rw [h1]; exact my_keep hP hk9⟩, hS9.F h1⟩) hS9.2.2 (Nat.le_of_ble_eq_true rfl) (Nat.le_of_ble_eq_true rfl)
  · dsimp only [tr] at hF
    have hPc : va_P (dC, dI) vwCl ([] : va_W) H := fun k q h => by simp at h
    have hDc : va_D A ([] : va_W) := ⟨fun i j p q h => by simp at h, fun k q h => by simp at h⟩
    have hFc := my_free0 hS hA
    refine va_callv (va_runS (As := [.int a1, .int 1, .int 2000]) (rest := []) ⟨hx, hb, hml, hown, hts⟩ (c_X7_needRange l dC dI cy nb (a1) (1) (2000) H.size e2) (va_cwS 3 hts (gS mw_815 mw_816 mw_2 mw_817) rfl rfl rfl (by decide +kernel) ⟨Nat.le_of_ble_eq_true rfl, Nat.le_of_ble_eq_true rfl⟩) (my_preS hPc hK hDc hE hS hFc) rfl rfl hl.1 rfl (lv_room (Nat.le_of_ble_eq_true rfl)) dX7_runToLeave_5 ⟨Nat.le_of_ble_eq_true rfl, Nat.le_of_ble_eq_true rfl⟩) hS (fun q _ h => hFc q h) hFc (fun u t H1 locs ht hvm hw hB hz1 hk1 hS => ?_)
    obtain ⟨hP1, hD1⟩ := hB
    rw [ht] at hP1
    have hP := my_keep hP hk1
    generalize H1 = H at hP hS ⊢
    clear hP1 hD1 hPc hDc hFc hk1 hz1 hvm ht
    refine lv_aload_n hx hb dX7_runToLeave_8 rfl (lv_at hl 0 rfl) ?_
    obtain ⟨t4, e5, hF⟩ := ob hF
    have hPc := hP
    have hDc := hD
    have hFc := my_free hD hS hA
    obtain ⟨q8, h8⟩ := wc_at (cy := cy) (ad := ad) (ks := ks) (g := g) (u := u0) (κ := .cl) hk.1 True.intro
    refine va_callv (va_runV (As := []) (rest := []) ⟨hx, hb, hml, hown, hts⟩ (c_X7_remember l dC dI cy nb ad ks g hk u0 (t4.1) (t4.2) H.size e5) (cwV 0 hts (gV mw_973 mw_974 mw_975 mw_2 mw_976) rfl rfl rfl (by decide +kernel) ⟨Nat.le_of_ble_eq_true rfl, Nat.le_of_ble_eq_true rfl⟩) (my_preV hPc hK hDc hE hS hFc (va_recv (q := (RX7, TX7, 12)) hK hP (ci := 7) (q0 := q8) rfl h8)) rfl rfl hl.1 rfl (lv_room (Nat.le_of_ble_eq_true rfl)) dX7_runToLeave_9 ⟨Nat.le_of_ble_eq_true rfl, Nat.le_of_ble_eq_true rfl⟩) hS (fun q _ h => hFc q h) hFc (fun u t H1 locs ht hvm hw hB hz1 hk1 hS => ?_)
    clear h8
    obtain ⟨ad6, ks7, hk8, ax9, hP1, hD1⟩ := hB
    rw [ht] at hP1
    have hP := hP1
    have hD := hD1.weaken (fun k q _ h => hFc q.1 h)
    generalize H1 = H at hP hS ⊢
    have hl : lv_has ls 4 [(0, .ref (ad6 .cl)), (1, .int a1)] := by rw [(ax9 .cl True.intro).2]; exact hl
    clear hP1 hD1 hPc hDc hFc hk1 hz1 hvm ht
    refine W.widen (k := 67) (n := 831) (by omega) (by omega) ?_
    refine lv_aload_n hx hb dX7_runToLeave_12 rfl (lv_at hl 0 rfl) ?_
    obtain ⟨q9, h9⟩ := wc_at (cy := cy) (ad := ad6) (ks := ks7) (g := (t4.1)) (u := (t4.2)) (κ := .cl) hk8.1 True.intro
    refine va_get (D := (dC, dI)) (ci := 7) (v := .ref (ad6 (.ln 0))) (C := RX7) (T := TX7) (N := 12) hx hb hts inlX7 hown hK hP q9 h9 rfl 0 (by decide) (hts _ mw_18) (fun _ h9 => h9) rfl dX7_runToLeave_13 ?_
    clear h9
    obtain ⟨q9, h9⟩ := wc_at (cy := cy) (ad := ad6) (ks := ks7) (g := (t4.1)) (u := (t4.2)) (κ := (.ln 0)) hk8.1 (Or.inl (by decide))
    refine va_get (D := (dC, dI)) (ci := 3) (v := .ref (ad6 (.is 0))) (C := RX3) (T := TX3) (N := 17) hx hb hts inlX3 hown hK hP q9 h9 rfl 13 (by decide) (hts _ mw_574) (fun _ h9 => h9) rfl dX7_runToLeave_16 ?_
    clear h9
    refine lv_iconst (v := 3) hx hb dX7_runToLeave_19 (by decide) ?_
    obtain ⟨q9, h9⟩ := wc_at (cy := cy) (ad := ad6) (ks := ks7) (g := (t4.1)) (u := (t4.2)) (κ := (.is 0)) hk8.1 (Or.inl (by decide))
    refine va_iald hx hb hK hP q9 1 h9 rfl (vp_in_nI (n := 3) (by decide) (by decide)) dX7_runToLeave_20 ?_
    refine my_topi (y := ((t4.2) (400 + 0) 3)) (by rfl) ?_
    clear h9
    refine lv_istore_n (lv' := [(2, .int ((t4.2) (400 + 0) 3)), (0, .ref (ad6 .cl)), (1, .int a1)]) hx hb dX7_runToLeave_21 rfl hl (by decide) rfl (fun ls hl => ?_)
    refine lv_iconst (v := 1) hx hb dX7_runToLeave_22 (by decide) ?_
    refine lv_istore_n (lv' := [(3, .int 1), (2, .int ((t4.2) (400 + 0) 3)), (0, .ref (ad6 .cl)), (1, .int a1)]) hx hb dX7_runToLeave_23 rfl hl (by decide) rfl (fun ls hl => ?_)
    obtain ⟨t12, hL13, hF⟩ := ob hF
    have kx14 : ∀ (t16 : Int32 × RS), t12 = .inr t16 → ∀ (H : Heap) (locs : List Loc) (ls : Array Slot), va_P (dC, dI) vwCl (WC cy ad6 ks7 (t4.1) (t16.2)) H → va_D A (WC cy ad6 ks7 (t4.1) (t16.2)) → va_S A s.heap H locs → lv_has ls 4 [(3, .int (t16.1)), (2, .int ((t4.2) (400 + 0) 3)), (0, .ref (ad6 .cl)), (1, .int a1)] → W p l e (headSpec (wsg yX7_runToLeave cX7_runToLeave 4 (some .int)) ({ frames := 12, cells := 67, slots := 831, locals := 700 })).room s m ([.ref (ad .cl), .int a1] : List Value).toArray below meth c H locs 67 831 Qn (F0 m 58 ls []) := by
      intro t16 he H locs ls hP hD hS hl
      subst he
      refine lv_iconst (v := (-1)) hx hb dX7_runToLeave_58 (by decide) ?_
      cases hF
    have kr15 : ∀ r : Sum Int32 (Int32 × CG × RS), t12 = .inl r → some r = some (.inl xc) := by
      intro r he
      subst he
      exact hF
    clear hF
    have loop17 : ∀ (m18 : Nat) (y10 : Int32) (u11 : RS), C7_runToLeave_L24 t4 a1 m18 y10 u11 = some t12 → ∀ (H : Heap) (locs : List Loc) (ls : Array Slot), va_P (dC, dI) vwCl (WC cy ad6 ks7 (t4.1) u11) H → va_D A (WC cy ad6 ks7 (t4.1) u11) → va_S A s.heap H locs → lv_has ls 4 [(3, .int y10), (2, .int ((t4.2) (400 + 0) 3)), (0, .ref (ad6 .cl)), (1, .int a1)] → W p l e (headSpec (wsg yX7_runToLeave cX7_runToLeave 4 (some .int)) ({ frames := 12, cells := 67, slots := 831, locals := 700 })).room s m ([.ref (ad .cl), .int a1] : List Value).toArray below meth c H locs 67 831 Qn (F0 m 24 ls []) := by
      intro m18
      induction m18 with
      | zero => intro y10 u11 hF; cases hF
      | succ m18 ih =>
        intro y10 u11 hF H locs ls hP hD hS hl
        simp only [C7_runToLeave_L24] at hF
        refine lv_iload_n hx hb dX7_runToLeave_24 rfl (lv_at hl 0 rfl) ?_
        refine lv_iload_n hx hb dX7_runToLeave_25 rfl (lv_at hl 3 rfl) ?_
        refine lv_icmp_gt (tgt := 58) hx hb dX7_runToLeave_26 (by decide) (fun c19 => ?_) (fun c19 => ?_)
        · rw [if_pos c19] at hF
          exact kx14 _ (s1 hF).symm _ _ _ hP hD hS (lv_sub hl [0, 1, 2, 3] rfl)
        · rw [if_neg c19] at hF
          refine lv_aload_n hx hb dX7_runToLeave_29 rfl (lv_at hl 2 rfl) ?_
          obtain ⟨q9, h9⟩ := wc_at (cy := cy) (ad := ad6) (ks := ks7) (g := (t4.1)) (u := u11) (κ := .cl) hk8.1 True.intro
          refine va_get (D := (dC, dI)) (ci := 7) (v := .ref (ad6 (.ln 0))) (C := RX7) (T := TX7) (N := 12) hx hb hts inlX7 hown hK hP q9 h9 rfl 0 (by decide) (hts _ mw_18) (fun _ h9 => h9) rfl dX7_runToLeave_30 ?_
          clear h9
          obtain ⟨t20, e21, hF⟩ := ob hF
          have hPc := hP
          have hDc := hD
          have hFc := my_free hD hS hA
          obtain ⟨q8, h8⟩ := wc_at (cy := cy) (ad := ad6) (ks := ks7) (g := (t4.1)) (u := u11) (κ := (.ln 0)) hk8.1 (Or.inl (by decide))
          refine va_calli (va_runV (As := []) (rest := []) ⟨hx, hb, hml, hown, hts⟩ (c_X3_tick l dC dI cy nb ad6 ks7 (t4.1) hk8 u11 0 (t20.1) (t20.2) H.size (Or.inl (by decide)) e21) (cwV 0 hts (gV mw_1137 mw_1138 mw_1139 mw_17 mw_1140) rfl rfl rfl (by decide +kernel) ⟨Nat.le_of_ble_eq_true rfl, Nat.le_of_ble_eq_true rfl⟩) (my_preV hPc hK hDc hE hS hFc (va_recv (q := (RX3, TX3, 17)) hK hP (ci := 3) (q0 := q8) rfl h8)) rfl rfl hl.1 rfl (lv_room (Nat.le_of_ble_eq_true rfl)) dX7_runToLeave_33 ⟨Nat.le_of_ble_eq_true rfl, Nat.le_of_ble_eq_true rfl⟩) hS (fun q _ h => hFc q h) hFc (fun r u t H1 locs ht hvm hw hB hz1 hk1 hS => ?_)
          clear h8
          obtain ⟨hP1, hD1⟩ := hB
          rw [ht] at hP1
          have hP := hP1
          have hD := hD1.weaken (fun k q _ h => hFc q.1 h)
          generalize H1 = H at hP hS ⊢
          clear hP1 hD1 hPc hDc hFc hk1 hz1 hvm ht
          obtain rfl := hw.symm
          refine lv_pop hx hb dX7_runToLeave_36 rfl ?_
          refine lv_aload_n hx hb dX7_runToLeave_37 rfl (lv_at hl 2 rfl) ?_
          obtain ⟨q9, h9⟩ := wc_at (cy := cy) (ad := ad6) (ks := ks7) (g := (t4.1)) (u := (t20.2)) (κ := .cl) hk8.1 True.intro
          refine va_get (D := (dC, dI)) (ci := 7) (v := .ref (ad6 (.ln 0))) (C := RX7) (T := TX7) (N := 12) hx hb hts inlX7 hown hK hP q9 h9 rfl 0 (by decide) (hts _ mw_18) (fun _ h9 => h9) rfl dX7_runToLeave_38 ?_
          clear h9
          obtain ⟨q9, h9⟩ := wc_at (cy := cy) (ad := ad6) (ks := ks7) (g := (t4.1)) (u := (t20.2)) (κ := (.ln 0)) hk8.1 (Or.inl (by decide))
          refine va_get (D := (dC, dI)) (ci := 3) (v := .ref (ad6 (.is 0))) (C := RX3) (T := TX3) (N := 17) hx hb hts inlX3 hown hK hP q9 h9 rfl 13 (by decide) (hts _ mw_574) (fun _ h9 => h9) rfl dX7_runToLeave_41 ?_
          clear h9
          refine lv_iconst (v := 3) hx hb dX7_runToLeave_44 (by decide) ?_
          obtain ⟨q9, h9⟩ := wc_at (cy := cy) (ad := ad6) (ks := ks7) (g := (t4.1)) (u := (t20.2)) (κ := (.is 0)) hk8.1 (Or.inl (by decide))
          refine va_iald hx hb hK hP q9 1 h9 rfl (vp_in_nI (n := 3) (by decide) (by decide)) dX7_runToLeave_45 ?_
          refine my_topi (y := ((t20.2) (400 + 0) 3)) (by rfl) ?_
          clear h9
          refine lv_iload_n hx hb dX7_runToLeave_46 rfl (lv_at hl 1 rfl) ?_
          refine lv_icmp_le (tgt := 52) hx hb dX7_runToLeave_47 (by decide) (fun c22 => ?_) (fun c22 => ?_)
          · rw [if_pos c22] at hF
            refine lv_iinc (v := (y10 + 1)) (lv' := [(3, .int (y10 + 1)), (2, .int ((t4.2) (400 + 0) 3)), (0, .ref (ad6 .cl)), (1, .int a1)]) hx hb dX7_runToLeave_52 hl (k := 0) rfl (by rfl) (by decide) rfl (fun ls hl => ?_)
            refine lv_goto (tgt := 24) hx hb dX7_runToLeave_55 (by decide) ?_
            exact ih _ _ hF _ _ _ hP hD hS (lv_sub hl [0, 1, 2, 3] rfl)
          · rw [if_neg c22] at hF
            refine lv_iload_n hx hb dX7_runToLeave_50 rfl (lv_at hl 0 rfl) ?_
            have hF := kr15 _ (s1 hF).symm
            cases hF
    exact loop17 FUEL _ _ hL13 _ _ _ hP hD hS (lv_sub hl [0, 1, 2, 3] rfl)
set_option maxHeartbeats 4000000 in
set_option maxRecDepth 100000 in
theorem c_X7_rush_y (l : Launch) (hst : l.stackTraces = false) (dC : Nat → ClassId) (dI : Nat → Nat → Nat) (cy : Nat → ClassId) (nb : Nat → Nat) (ad : CK → Nat) (ks : List CK) (g : CG) (hk : GA nb ad g ks) (u0 : RS) (a1 : Int32) (xc : Int32) (sz : Nat) (hF : C7_rush g u0 a1 = some (.inl xc)) : vx_Met l yX7_rush (wsg yX7_rush cX7_rush 4 (some .int)) ({ frames := 11, cells := 67, slots := 831, locals := 600 }) (va_Pc [.ref (ad .cl), .int a1] (fun U => U.heap.size = sz ∧ va_P (dC, dI) vwCl (WC cy ad ks g u0) U.heap ∧ va_K (dC, dI) vwCl (tyL cy) U ∧ va_D (fun _ => True) (WC cy ad ks g u0) ∧ GE nb (va_A (WC cy ad ks g u0) sz) U)) (va_Qi (fun (_ : Int32) (_ : Unit) => False) (fun _ _ => True) (va_A (WC cy ad ks g u0) sz)) (vx_X (fun (_ : Unit) => True) (fun E9 _ t9 => E9 = exn xc ∧ va_P (dC, dI) vwCl (WC cy ad ks g u0) t9.heap) (va_A (WC cy ad ks g u0) sz)) 67 831 (va_A (WC cy ad ks g u0) sz) := by
  refine vx_ofW (cc := cX7_rush) (maxL := 4) (ret := (some .int)) pn_X7 rfl ?_
  intro p e s m args below meth c s₁ B hml hout hv
  obtain ⟨rfl, hsz, hP, hK, hD0, hE⟩ := hv
  have hx := B.exec
  have hb := B.bytes
  have hr := B.returns
  have hts0 := atoms_spec (ws := (wsg yX7_rush cX7_rush 4 (some .int))) B.pre
  have hts : ∀ w ∈ wsL_law, w.before _ s = true := fun w h => hts0 w (List.mem_cons_of_mem _ h)
  have hown : s.vm.findClass RX7 = some m.cls := by have h9 := findClass_of_methodNamed B.named; exact h9
  have hlocks := B.notSynchronized
  subst hsz
  have hD := hD0.self (sz := s.heap.size)
  generalize hAe : va_A (WC cy ad ks g u0) s.heap.size = A at hD hE ⊢
  have hA : ∀ q : Nat, s.heap.size ≤ q → A q := fun q h => by rw [← hAe]; exact Or.inr h
  have hS : va_S A s.heap s.heap [] := va_S.rf
  have hl := lv_entry ([.ref (ad .cl), .int a1]) (n := 4) (Nat.le_of_ble_eq_true rfl)
  rw [lg_entry_eq]
  generalize (lg_sl ([.ref (ad .cl), .int a1]) ++ List.replicate (4 - (lg_sl ([.ref (ad .cl), .int a1])).length) Slot.unset).toArray = ls at hl ⊢
  have hl : lv_has ls 4 [(0, .ref (ad .cl)), (1, .int a1)] := hl
  generalize hHe : s.heap = H at hP hS ⊢
  have hS : va_S A s.heap H [] := by rw [hHe]; exact hS
  refine my_Q (fun Qn hQ => ?_)
  simp only [C7_rush] at hF
  refine lv_aload_n hx hb dX7_rush_0 rfl (lv_at hl 0 rfl) ?_
  refine lv_iload_n hx hb dX7_rush_1 rfl (lv_at hl 1 rfl) ?_
  obtain ⟨t1, e2, hF⟩ := ob hF
  rcases t1 with xz9 | t3
  · have hF : some (Sum.inl xz9) = some (.inl xc) := hF
    have hPc := hP
    have hDc := hD
    have hFc := my_free hD hS hA
    obtain ⟨q8, h8⟩ := wc_at (cy := cy) (ad := ad) (ks := ks) (g := g) (u := u0) (κ := .cl) hk.1 True.intro
    refine vx_callv (vx_runV (As := [.int a1]) (rest := []) ⟨hx, hb, hml, hown, hts⟩ (c_X7_needCard_y l hst dC dI cy nb ad ks g hk u0 (a1) xz9 H.size e2) (cwV 1 hts (gV mw_666 mw_667 mw_668 mw_2 mw_669) rfl rfl rfl (by decide +kernel) ⟨Nat.le_of_ble_eq_true rfl, Nat.le_of_ble_eq_true rfl⟩) (my_preV hPc hK hDc hE hS hFc (va_recv (q := (RX7, TX7, 12)) hK hP (ci := 7) (q0 := q8) rfl h8)) rfl rfl hl.1 rfl (lv_room (Nat.le_of_ble_eq_true rfl)) dX7_rush_2 ⟨Nat.le_of_ble_eq_true rfl, Nat.le_of_ble_eq_true rfl⟩) hS (fun q _ h => hFc q h) hFc (fun q _ h => hFc q h) (fun E9 ce9 q9 u9 t9 H1 locs1 ht9 hvm9 hp9 hB9 hz9 hk9 hS9 hc9 hv9 hcl9 => ?_) (fun u9 t9 H1 locs1 ht9 hvm9 hp9 _ _ _ _ => hp9.elim)
    have hZ := s4 hF
    rw [hQ]
    exact vx_out (fun x hx => (hout x hx).elim) hlocks hc9 hv9 hcl9 (fun t h1 h2 => ⟨(), trivial, ⟨hB9.1.trans (congrArg exn hZ), by rw [h1, ← ht9]; exact hB9.2⟩, hS9.F h1⟩) hS9.2.2 (Nat.le_of_ble_eq_true rfl) (Nat.le_of_ble_eq_true rfl)
  · dsimp only [tr] at hF
    have hPc := hP
    have hDc := hD
    have hFc := my_free hD hS hA
    obtain ⟨q8, h8⟩ := wc_at (cy := cy) (ad := ad) (ks := ks) (g := g) (u := u0) (κ := .cl) hk.1 True.intro
    refine va_callv (va_runV (As := [.int a1]) (rest := []) ⟨hx, hb, hml, hown, hts⟩ (c_X7_needCard l dC dI cy nb ad ks g hk u0 (a1) H.size e2) (cwV 1 hts (gV mw_666 mw_667 mw_668 mw_2 mw_669) rfl rfl rfl (by decide +kernel) ⟨Nat.le_of_ble_eq_true rfl, Nat.le_of_ble_eq_true rfl⟩) (my_preV hPc hK hDc hE hS hFc (va_recv (q := (RX7, TX7, 12)) hK hP (ci := 7) (q0 := q8) rfl h8)) rfl rfl hl.1 rfl (lv_room (Nat.le_of_ble_eq_true rfl)) dX7_rush_2 ⟨Nat.le_of_ble_eq_true rfl, Nat.le_of_ble_eq_true rfl⟩) hS (fun q _ h => hFc q h) hFc (fun u t H1 locs ht hvm hw hB hz1 hk1 hS => ?_)
    clear h8
    obtain ⟨hP1, hD1⟩ := hB
    rw [ht] at hP1
    have hP := hP1
    have hD := hD1.weaken (fun k q _ h => hFc q.1 h)
    generalize H1 = H at hP hS ⊢
    clear hP1 hD1 hPc hDc hFc hk1 hz1 hvm ht
    refine lv_aload_n hx hb dX7_rush_5 rfl (lv_at hl 0 rfl) ?_
    refine lv_iload_n hx hb dX7_rush_6 rfl (lv_at hl 1 rfl) ?_
    obtain ⟨x4, e5, hF⟩ := ob hF
    have hPc := hP
    have hDc := hD
    have hFc := my_free hD hS hA
    obtain ⟨q8, h8⟩ := wc_at (cy := cy) (ad := ad) (ks := ks) (g := g) (u := u0) (κ := .cl) hk.1 True.intro
    refine va_calli (va_runV (As := [.int a1]) (rest := []) ⟨hx, hb, hml, hown, hts⟩ (c_X7_waits l dC dI cy nb ad ks g hk u0 (a1) (x4) H.size e5) (cwV 1 hts (gV mw_994 mw_995 mw_996 mw_2 mw_997) rfl rfl rfl (by decide +kernel) ⟨Nat.le_of_ble_eq_true rfl, Nat.le_of_ble_eq_true rfl⟩) (my_preV hPc hK hDc hE hS hFc (va_recv (q := (RX7, TX7, 12)) hK hP (ci := 7) (q0 := q8) rfl h8)) rfl rfl hl.1 rfl (lv_room (Nat.le_of_ble_eq_true rfl)) dX7_rush_7 ⟨Nat.le_of_ble_eq_true rfl, Nat.le_of_ble_eq_true rfl⟩) hS (fun q _ h => hFc q h) hFc (fun r u t H1 locs ht hvm hw hB hz1 hk1 hS => ?_)
    clear h8
    obtain ⟨hP1, hD1⟩ := hB
    rw [ht] at hP1
    have hP := hP1
    have hD := hD1.weaken (fun k q _ h => hFc q.1 h)
    generalize H1 = H at hP hS ⊢
    clear hP1 hD1 hPc hDc hFc hk1 hz1 hvm ht
    obtain rfl := hw.symm
    refine lv_if_ne (tgt := 16) hx hb dX7_rush_10 (by decide) (fun c6 => ?_) (fun c6 => ?_)
    · rw [if_neg c6] at hF
      refine lv_aload_n hx hb dX7_rush_16 rfl (lv_at hl 0 rfl) ?_
      obtain ⟨t7, e8, hF⟩ := ob hF
      have hPc := hP
      have hDc := hD
      have hFc := my_free hD hS hA
      obtain ⟨q8, h8⟩ := wc_at (cy := cy) (ad := ad) (ks := ks) (g := g) (u := u0) (κ := .cl) hk.1 True.intro
      refine va_callv (va_runV (As := []) (rest := []) ⟨hx, hb, hml, hown, hts⟩ (c_X7_remember l dC dI cy nb ad ks g hk u0 (t7.1) (t7.2) H.size e8) (cwV 0 hts (gV mw_973 mw_974 mw_975 mw_2 mw_976) rfl rfl rfl (by decide +kernel) ⟨Nat.le_of_ble_eq_true rfl, Nat.le_of_ble_eq_true rfl⟩) (my_preV hPc hK hDc hE hS hFc (va_recv (q := (RX7, TX7, 12)) hK hP (ci := 7) (q0 := q8) rfl h8)) rfl rfl hl.1 rfl (lv_room (Nat.le_of_ble_eq_true rfl)) dX7_rush_17 ⟨Nat.le_of_ble_eq_true rfl, Nat.le_of_ble_eq_true rfl⟩) hS (fun q _ h => hFc q h) hFc (fun u t H1 locs ht hvm hw hB hz1 hk1 hS => ?_)
      clear h8
      obtain ⟨ad9, ks10, hk11, ax12, hP1, hD1⟩ := hB
      rw [ht] at hP1
      have hP := hP1
      have hD := hD1.weaken (fun k q _ h => hFc q.1 h)
      generalize H1 = H at hP hS ⊢
      have hl : lv_has ls 4 [(0, .ref (ad9 .cl)), (1, .int a1)] := by rw [(ax12 .cl True.intro).2]; exact hl
      clear hP1 hD1 hPc hDc hFc hk1 hz1 hvm ht
      refine W.widen (k := 67) (n := 831) (by omega) (by omega) ?_
      refine lv_aload_n hx hb dX7_rush_20 rfl (lv_at hl 0 rfl) ?_
      obtain ⟨q9, h9⟩ := wc_at (cy := cy) (ad := ad9) (ks := ks10) (g := (t7.1)) (u := (t7.2)) (κ := .cl) hk11.1 True.intro
      refine va_get (D := (dC, dI)) (ci := 7) (v := .ref (ad9 (.ln 0))) (C := RX7) (T := TX7) (N := 12) hx hb hts inlX7 hown hK hP q9 h9 rfl 0 (by decide) (hts _ mw_18) (fun _ h9 => h9) rfl dX7_rush_21 ?_
      clear h9
      obtain ⟨q9, h9⟩ := wc_at (cy := cy) (ad := ad9) (ks := ks10) (g := (t7.1)) (u := (t7.2)) (κ := (.ln 0)) hk11.1 (Or.inl (by decide))
      refine va_get (D := (dC, dI)) (ci := 3) (v := .ref (ad9 (.cs 0))) (C := RX3) (T := TX3) (N := 17) hx hb hts inlX3 hown hK hP q9 h9 rfl 12 (by decide) (hts _ mw_657) (fun _ h9 => h9) rfl dX7_rush_24 ?_
      clear h9
      refine lv_iload_n hx hb dX7_rush_27 rfl (lv_at hl 1 rfl) ?_
      obtain ⟨n13, e14, hF⟩ := ob hF
      obtain ⟨q9, h9⟩ := wc_at (cy := cy) (ad := ad9) (ks := ks10) (g := (t7.1)) (u := (t7.2)) (κ := (.cs 0)) hk11.1 (Or.inl (by decide))
      refine va_aldq hx hb hK hP q9 8 h9 rfl (ix_in e14) dX7_rush_28 ?_
      refine my_top (y := .ref (ad9 (.cd 0 n13))) (ixv (F := fun j => ad9 (.cd 0 j)) e14) ?_
      clear h9
      refine lv_iconst (v := 1) hx hb dX7_rush_29 (by decide) ?_
      obtain ⟨q9, h9, ez9⟩ := wc_set (cy := cy) (ad := ad9) (ks := ks10) (g := (t7.1)) (u := (t7.2)) (κ := (.cd 0 n13)) (r := (10 + 0)) (i := (137 + 25 * n13 + 8)) (v := (1)) hk11.1 ⟨(Or.inl (by decide)), (ix_lt e14)⟩ (own_cd (show 0 < 12 by decide) (ix_lt e14) (by decide)) (sf_cd_8)
      refine va_put (D := (dC, dI)) (ci := 2) (v := .int 1) (ty := .boolean) (C := RX1) (T := TX1) (N := 9) hx hb hts inlX1 tyX1 tyX1_ok nmX1 hown hK hP hD hS q9 h9 rfl 8 (by decide) (hts _ mw_1086) (fun _ h9 => h9) rfl (by decide +kernel) rfl rfl (Nat.le_of_ble_eq_true rfl) dX7_rush_30 (fun H locs hP hD hS => ?_)
      obtain ⟨u15, e16, hF⟩ := ob hF
      have hP : va_P (dC, dI) vwCl (WC cy ad9 ks10 (t7.1) u15) H := by rw [← pt_eq e16, ← ez9]; exact hP
      have hD : va_D A (WC cy ad9 ks10 (t7.1) u15) := by rw [← pt_eq e16, ← ez9]; exact hD
      clear ez9 h9
      refine lv_iconst (v := 0) hx hb dX7_rush_33 (by decide) ?_
      refine lv_istore_n (lv' := [(2, .int 0), (0, .ref (ad9 .cl)), (1, .int a1)]) hx hb dX7_rush_34 rfl hl (by decide) rfl (fun ls hl => ?_)
      refine lv_iconst (v := 0) hx hb dX7_rush_35 (by decide) ?_
      refine lv_istore_n (lv' := [(3, .int 0), (2, .int 0), (0, .ref (ad9 .cl)), (1, .int a1)]) hx hb dX7_rush_36 rfl hl (by decide) rfl (fun ls hl => ?_)
      obtain ⟨t19, hL20, hF⟩ := ob hF
      have kx21 : ∀ (H : Heap) (locs : List Loc) (ls : Array Slot), va_P (dC, dI) vwCl (WC cy ad9 ks10 (t7.1) u15) H → va_D A (WC cy ad9 ks10 (t7.1) u15) → va_S A s.heap H locs → lv_has ls 4 [(3, .int (t19.1)), (2, .int (t19.2)), (0, .ref (ad9 .cl)), (1, .int a1)] → W p l e (headSpec (wsg yX7_rush cX7_rush 4 (some .int)) ({ frames := 11, cells := 67, slots := 831, locals := 600 })).room s m ([.ref (ad .cl), .int a1] : List Value).toArray below meth c H locs 67 831 Qn (F0 m 72 ls []) := by
        intro H locs ls hP hD hS hl
        refine lv_iload_n hx hb dX7_rush_72 rfl (lv_at hl 1 rfl) ?_
        cases hF
      clear hF
      have loop23 : ∀ (m24 : Nat) (y17 : Int32) (y18 : Int32), C7_rush_L37 a1 t7 u15 m24 y17 y18 = some t19 → ∀ (H : Heap) (locs : List Loc) (ls : Array Slot), va_P (dC, dI) vwCl (WC cy ad9 ks10 (t7.1) u15) H → va_D A (WC cy ad9 ks10 (t7.1) u15) → va_S A s.heap H locs → lv_has ls 4 [(3, .int y17), (2, .int y18), (0, .ref (ad9 .cl)), (1, .int a1)] → W p l e (headSpec (wsg yX7_rush cX7_rush 4 (some .int)) ({ frames := 11, cells := 67, slots := 831, locals := 600 })).room s m ([.ref (ad .cl), .int a1] : List Value).toArray below meth c H locs 67 831 Qn (F0 m 37 ls []) := by
        intro m24
        induction m24 with
        | zero => intro y17 y18 hF; cases hF
        | succ m24 ih =>
          intro y17 y18 hF H locs ls hP hD hS hl
          simp only [C7_rush_L37] at hF
          refine lv_iload_n hx hb dX7_rush_37 rfl (lv_at hl 0 rfl) ?_
          refine lv_aload_n hx hb dX7_rush_38 rfl (lv_at hl 2 rfl) ?_
          obtain ⟨q9, h9⟩ := wc_at (cy := cy) (ad := ad9) (ks := ks10) (g := (t7.1)) (u := u15) (κ := .cl) hk11.1 True.intro
          refine va_get (D := (dC, dI)) (ci := 7) (v := .ref (ad9 (.ln 0))) (C := RX7) (T := TX7) (N := 12) hx hb hts inlX7 hown hK hP q9 h9 rfl 0 (by decide) (hts _ mw_18) (fun _ h9 => h9) rfl dX7_rush_39 ?_
          clear h9
          obtain ⟨q9, h9⟩ := wc_at (cy := cy) (ad := ad9) (ks := ks10) (g := (t7.1)) (u := u15) (κ := (.ln 0)) hk11.1 (Or.inl (by decide))
          refine va_get (D := (dC, dI)) (ci := 3) (v := .int (u15 (10 + 0) 9)) (C := RX3) (T := TX3) (N := 17) hx hb hts inlX3 hown hK hP q9 h9 rfl 9 (by decide) (hts _ mw_572) (fun _ h9 => h9) rfl dX7_rush_42 ?_
          clear h9
          refine lv_icmp_ge (tgt := 72) hx hb dX7_rush_45 (by decide) (fun c25 => ?_) (fun c25 => ?_)
          · rw [if_pos c25] at hF
            have ht := s1 hF
            subst ht
            exact kx21 _ _ _ hP hD hS (lv_sub hl [0, 1, 2, 3] rfl)
          · rw [if_neg c25] at hF
            refine lv_aload_n hx hb dX7_rush_48 rfl (lv_at hl 2 rfl) ?_
            obtain ⟨q9, h9⟩ := wc_at (cy := cy) (ad := ad9) (ks := ks10) (g := (t7.1)) (u := u15) (κ := .cl) hk11.1 True.intro
            refine va_get (D := (dC, dI)) (ci := 7) (v := .ref (ad9 (.ln 0))) (C := RX7) (T := TX7) (N := 12) hx hb hts inlX7 hown hK hP q9 h9 rfl 0 (by decide) (hts _ mw_18) (fun _ h9 => h9) rfl dX7_rush_49 ?_
            clear h9
            obtain ⟨q9, h9⟩ := wc_at (cy := cy) (ad := ad9) (ks := ks10) (g := (t7.1)) (u := u15) (κ := (.ln 0)) hk11.1 (Or.inl (by decide))
            refine va_get (D := (dC, dI)) (ci := 3) (v := .ref (ad9 (.cs 0))) (C := RX3) (T := TX3) (N := 17) hx hb hts inlX3 hown hK hP q9 h9 rfl 12 (by decide) (hts _ mw_657) (fun _ h9 => h9) rfl dX7_rush_52 ?_
            clear h9
            refine lv_iload_n hx hb dX7_rush_55 rfl (lv_at hl 0 rfl) ?_
            obtain ⟨n26, e27, hF⟩ := ob hF
            obtain ⟨q9, h9⟩ := wc_at (cy := cy) (ad := ad9) (ks := ks10) (g := (t7.1)) (u := u15) (κ := (.cs 0)) hk11.1 (Or.inl (by decide))
            refine va_aldq hx hb hK hP q9 8 h9 rfl (ix_in e27) dX7_rush_56 ?_
            refine my_top (y := .ref (ad9 (.cd 0 n26))) (ixv (F := fun j => ad9 (.cd 0 j)) e27) ?_
            clear h9
            obtain ⟨q9, h9⟩ := wc_at (cy := cy) (ad := ad9) (ks := ks10) (g := (t7.1)) (u := u15) (κ := (.cd 0 n26)) hk11.1 ⟨(Or.inl (by decide)), (ix_lt e27)⟩
            refine va_get (D := (dC, dI)) (ci := 2) (v := .int (u15 (10 + 0) (137 + 25 * n26 + 8))) (C := RX1) (T := TX1) (N := 9) hx hb hts inlX1 hown hK hP q9 h9 rfl 8 (by decide) (hts _ mw_1086) (fun _ h9 => h9) rfl dX7_rush_57 ?_
            clear h9
            obtain ⟨t29, hJ30, hF⟩ := ob hF
            have join31 : ∀ (H : Heap) (locs : List Loc) (ls : Array Slot), va_P (dC, dI) vwCl (WC cy ad9 ks10 (t7.1) u15) H → va_D A (WC cy ad9 ks10 (t7.1) u15) → va_S A s.heap H locs → lv_has ls 4 [(3, .int y17), (2, .int t29), (0, .ref (ad9 .cl)), (1, .int a1)] → W p l e (headSpec (wsg yX7_rush cX7_rush 4 (some .int)) ({ frames := 11, cells := 67, slots := 831, locals := 600 })).room s m ([.ref (ad .cl), .int a1] : List Value).toArray below meth c H locs 67 831 Qn (F0 m 66 ls []) := by
              intro H locs ls hP hD hS hl
              refine lv_iinc (v := (y17 + 1)) (lv' := [(3, .int (y17 + 1)), (2, .int t29), (0, .ref (ad9 .cl)), (1, .int a1)]) hx hb dX7_rush_66 hl (k := 0) rfl (by rfl) (by decide) rfl (fun ls hl => ?_)
              refine lv_goto (tgt := 37) hx hb dX7_rush_69 (by decide) ?_
              exact ih _ _ hF _ _ _ hP hD hS (lv_sub hl [0, 1, 2, 3] rfl)
            clear hF
            have hF := hJ30
            clear hJ30
            refine lv_if_eq (tgt := 66) hx hb dX7_rush_60 (by decide) (fun c28 => ?_) (fun c28 => ?_)
            · rw [if_pos c28] at hF
              have ht := s1 hF
              subst ht
              exact join31 _ _ _ hP hD hS (lv_sub hl [0, 1, 2, 3] rfl)
            · rw [if_neg c28] at hF
              refine lv_iinc (v := (y18 + 1)) (lv' := [(2, .int (y18 + 1)), (3, .int y17), (0, .ref (ad9 .cl)), (1, .int a1)]) hx hb dX7_rush_63 hl (k := 1) rfl (by rfl) (by decide) rfl (fun ls hl => ?_)
              have ht := s1 hF
              subst ht
              exact join31 _ _ _ hP hD hS (lv_sub hl [1, 0, 2, 3] rfl)
      exact loop23 FUEL _ _ hL20 _ _ _ hP hD hS (lv_sub hl [0, 1, 2, 3] rfl)
    · rw [if_pos c6] at hF
      refine lv_bipush (v := (-3)) hx hb dX7_rush_13 (by decide) ?_
      cases hF
set_option maxHeartbeats 4000000 in
set_option maxRecDepth 100000 in
theorem c_X7_saveSnapshot_y (l : Launch) (hst : l.stackTraces = false) (dC : Nat → ClassId) (dI : Nat → Nat → Nat) (cy : Nat → ClassId) (nb : Nat → Nat) (ad : CK → Nat) (ks : List CK) (g : CG) (hk : GA nb ad g ks) (u0 : RS) (a1 : Int32) (xc : Int32) (sz : Nat) (hF : C7_saveSnapshot g u0 a1 = some (.inl xc)) : vx_Met l yX7_saveSnapshot (wsg yX7_saveSnapshot cX7_saveSnapshot 2 (some .int)) ({ frames := 10, cells := 67, slots := 831, locals := 500 }) (va_Pc [.ref (ad .cl), .int a1] (fun U => U.heap.size = sz ∧ va_P (dC, dI) vwCl (WC cy ad ks g u0) U.heap ∧ va_K (dC, dI) vwCl (tyL cy) U ∧ va_D (fun _ => True) (WC cy ad ks g u0) ∧ GE nb (va_A (WC cy ad ks g u0) sz) U)) (va_Qi (fun (_ : Int32) (_ : Unit) => False) (fun _ _ => True) (va_A (WC cy ad ks g u0) sz)) (vx_X (fun (_ : Unit) => True) (fun E9 _ t9 => E9 = exn xc ∧ va_P (dC, dI) vwCl (WC cy ad ks g u0) t9.heap) (va_A (WC cy ad ks g u0) sz)) 67 831 (va_A (WC cy ad ks g u0) sz) := by
  refine vx_ofW (cc := cX7_saveSnapshot) (maxL := 2) (ret := (some .int)) pn_X7 rfl ?_
  intro p e s m args below meth c s₁ B hml hout hv
  obtain ⟨rfl, hsz, hP, hK, hD0, hE⟩ := hv
  have hx := B.exec
  have hb := B.bytes
  have hr := B.returns
  have hts0 := atoms_spec (ws := (wsg yX7_saveSnapshot cX7_saveSnapshot 2 (some .int))) B.pre
  have hts : ∀ w ∈ wsL_law, w.before _ s = true := fun w h => hts0 w (List.mem_cons_of_mem _ h)
  have hown : s.vm.findClass RX7 = some m.cls := by have h9 := findClass_of_methodNamed B.named; exact h9
  have hlocks := B.notSynchronized
  subst hsz
  have hD := hD0.self (sz := s.heap.size)
  generalize hAe : va_A (WC cy ad ks g u0) s.heap.size = A at hD hE ⊢
  have hA : ∀ q : Nat, s.heap.size ≤ q → A q := fun q h => by rw [← hAe]; exact Or.inr h
  have hS : va_S A s.heap s.heap [] := va_S.rf
  have hl := lv_entry ([.ref (ad .cl), .int a1]) (n := 2) (Nat.le_of_ble_eq_true rfl)
  rw [lg_entry_eq]
  generalize (lg_sl ([.ref (ad .cl), .int a1]) ++ List.replicate (2 - (lg_sl ([.ref (ad .cl), .int a1])).length) Slot.unset).toArray = ls at hl ⊢
  have hl : lv_has ls 2 [(0, .ref (ad .cl)), (1, .int a1)] := hl
  generalize hHe : s.heap = H at hP hS ⊢
  have hS : va_S A s.heap H [] := by rw [hHe]; exact hS
  refine my_Q (fun Qn hQ => ?_)
  simp only [C7_saveSnapshot] at hF
  refine lv_iload_n hx hb dX7_saveSnapshot_0 rfl (lv_at hl 1 rfl) ?_
  refine lv_iconst (v := 0) hx hb dX7_saveSnapshot_1 (by decide) ?_
  refine lv_iconst (v := 1) hx hb dX7_saveSnapshot_2 (by decide) ?_
  obtain ⟨t1, e2, hF⟩ := ob hF
  rcases t1 with xz9 | t3
  · have hF : some (Sum.inl xz9) = some (.inl xc) := hF
    have hPc : va_P (dC, dI) vwCl ([] : va_W) H := fun k q h => by simp at h
    have hDc : va_D A ([] : va_W) := ⟨fun i j p q h => by simp at h, fun k q h => by simp at h⟩
    have hFc := my_free0 hS hA
    refine vx_callv (vx_runS (As := [.int a1, .int 0, .int 1]) (rest := []) ⟨hx, hb, hml, hown, hts⟩ (c_X7_needRange_x l hst dC dI cy nb (a1) (0) (1) xz9 H.size e2) (va_cwS 3 hts (gS mw_815 mw_816 mw_2 mw_817) rfl rfl rfl (by decide +kernel) ⟨Nat.le_of_ble_eq_true rfl, Nat.le_of_ble_eq_true rfl⟩) (my_preS hPc hK hDc hE hS hFc) rfl rfl hl.1 rfl (lv_room (Nat.le_of_ble_eq_true rfl)) dX7_saveSnapshot_3 ⟨Nat.le_of_ble_eq_true rfl, Nat.le_of_ble_eq_true rfl⟩) hS (fun q _ h => hFc q h) hFc (fun q _ h => hFc q h) (fun E9 ce9 q9 u9 t9 H1 locs1 ht9 hvm9 hp9 hB9 hz9 hk9 hS9 hc9 hv9 hcl9 => ?_) (fun u9 t9 H1 locs1 ht9 hvm9 hp9 _ _ _ _ => hp9.elim)
    have hZ := s4 hF
    rw [hQ]
    exact vx_out (fun x hx => (hout x hx).elim) hlocks hc9 hv9 hcl9 (fun t h1 h2 => ⟨(), trivial, ⟨hB9.trans (congrArg exn hZ), by rw [h1]; exact my_keep hP hk9⟩, hS9.F h1⟩) hS9.2.2 (Nat.le_of_ble_eq_true rfl) (Nat.le_of_ble_eq_true rfl)
  · dsimp only [tr] at hF
    have hPc : va_P (dC, dI) vwCl ([] : va_W) H := fun k q h => by simp at h
    have hDc : va_D A ([] : va_W) := ⟨fun i j p q h => by simp at h, fun k q h => by simp at h⟩
    have hFc := my_free0 hS hA
    refine va_callv (va_runS (As := [.int a1, .int 0, .int 1]) (rest := []) ⟨hx, hb, hml, hown, hts⟩ (c_X7_needRange l dC dI cy nb (a1) (0) (1) H.size e2) (va_cwS 3 hts (gS mw_815 mw_816 mw_2 mw_817) rfl rfl rfl (by decide +kernel) ⟨Nat.le_of_ble_eq_true rfl, Nat.le_of_ble_eq_true rfl⟩) (my_preS hPc hK hDc hE hS hFc) rfl rfl hl.1 rfl (lv_room (Nat.le_of_ble_eq_true rfl)) dX7_saveSnapshot_3 ⟨Nat.le_of_ble_eq_true rfl, Nat.le_of_ble_eq_true rfl⟩) hS (fun q _ h => hFc q h) hFc (fun u t H1 locs ht hvm hw hB hz1 hk1 hS => ?_)
    obtain ⟨hP1, hD1⟩ := hB
    rw [ht] at hP1
    have hP := my_keep hP hk1
    generalize H1 = H at hP hS ⊢
    clear hP1 hD1 hPc hDc hFc hk1 hz1 hvm ht
    refine lv_aload_n hx hb dX7_saveSnapshot_6 rfl (lv_at hl 0 rfl) ?_
    obtain ⟨q9, h9⟩ := wc_at (cy := cy) (ad := ad) (ks := ks) (g := g) (u := u0) (κ := .cl) hk.1 True.intro
    refine va_get (D := (dC, dI)) (ci := 7) (v := .ref (ad .sa)) (C := RX7) (T := TX7) (N := 12) hx hb hts inlX7 hown hK hP q9 h9 rfl 5 (by decide) (hts _ mw_27) (fun _ h9 => h9) rfl dX7_saveSnapshot_7 ?_
    clear h9
    refine lv_iload_n hx hb dX7_saveSnapshot_10 rfl (lv_at hl 1 rfl) ?_
    obtain ⟨n4, e5, hF⟩ := ob hF
    by_cases c6 : g.pl (10 + n4) = true
    · rw [if_pos c6] at hF
      obtain ⟨q9, h9⟩ := wc_at (cy := cy) (ad := ad) (ks := ks) (g := g) (u := u0) (κ := .sa) hk.1 True.intro
      refine va_aldq hx hb hK hP q9 5 h9 rfl (ix_in e5) dX7_saveSnapshot_11 ?_
      refine my_top (y := .ref (ad (.ln (10 + n4)))) (plv (F := fun j => ad (.ln (10 + j))) e5 c6) ?_
      clear h9
      refine lv_ifnonnull (tgt := 28) hx hb dX7_saveSnapshot_12 (by decide) ?_
      refine lv_aload_n hx hb dX7_saveSnapshot_28 rfl (lv_at hl 0 rfl) ?_
      obtain ⟨q9, h9⟩ := wc_at (cy := cy) (ad := ad) (ks := ks) (g := g) (u := u0) (κ := .cl) hk.1 True.intro
      refine va_get (D := (dC, dI)) (ci := 7) (v := .ref (ad .sa)) (C := RX7) (T := TX7) (N := 12) hx hb hts inlX7 hown hK hP q9 h9 rfl 5 (by decide) (hts _ mw_27) (fun _ h9 => h9) rfl dX7_saveSnapshot_29 ?_
      clear h9
      refine lv_iload_n hx hb dX7_saveSnapshot_32 rfl (lv_at hl 1 rfl) ?_
      obtain ⟨q9, h9⟩ := wc_at (cy := cy) (ad := ad) (ks := ks) (g := g) (u := u0) (κ := .sa) hk.1 True.intro
      refine va_aldq hx hb hK hP q9 5 h9 rfl (ix_in e5) dX7_saveSnapshot_33 ?_
      refine my_top (y := .ref (ad (.ln (10 + n4)))) (plv (F := fun j => ad (.ln (10 + j))) e5 c6) ?_
      clear h9
      refine lv_aload_n hx hb dX7_saveSnapshot_34 rfl (lv_at hl 0 rfl) ?_
      obtain ⟨q9, h9⟩ := wc_at (cy := cy) (ad := ad) (ks := ks) (g := g) (u := u0) (κ := .cl) hk.1 True.intro
      refine va_get (D := (dC, dI)) (ci := 7) (v := .ref (ad (.ln 0))) (C := RX7) (T := TX7) (N := 12) hx hb hts inlX7 hown hK hP q9 h9 rfl 0 (by decide) (hts _ mw_18) (fun _ h9 => h9) rfl dX7_saveSnapshot_35 ?_
      clear h9
      obtain ⟨u7, e8, hF⟩ := ob hF
      have hPc := hP
      have hDc := hD
      have hFc := my_free hD hS hA
      obtain ⟨q8, h8⟩ := wc_at (cy := cy) (ad := ad) (ks := ks) (g := g) (u := u0) (κ := (.ln (10 + n4))) hk.1 (Or.inr ⟨by have := ix_lt e5; omega, c6⟩)
      refine va_callv (va_runV (As := [.ref (ad (.ln 0))]) (rest := []) ⟨hx, hb, hml, hown, hts⟩ (c_X3_copyFrom l dC dI cy nb ad ks g hk u0 (10 + n4) 0 (u7) H.size (Or.inr ⟨by have := ix_lt e5; omega, c6⟩) (Or.inl (by decide)) e8) (cwV 1 hts (gV mw_392 mw_393 mw_394 mw_17 mw_395) rfl rfl rfl (by decide +kernel) ⟨Nat.le_of_ble_eq_true rfl, Nat.le_of_ble_eq_true rfl⟩) (my_preV hPc hK hDc hE hS hFc (va_recv (q := (RX3, TX3, 17)) hK hP (ci := 3) (q0 := q8) rfl h8)) rfl rfl hl.1 rfl (lv_room (Nat.le_of_ble_eq_true rfl)) dX7_saveSnapshot_38 ⟨Nat.le_of_ble_eq_true rfl, Nat.le_of_ble_eq_true rfl⟩) hS (fun q _ h => hFc q h) hFc (fun u t H1 locs ht hvm hw hB hz1 hk1 hS => ?_)
      clear h8
      obtain ⟨hP1, hD1⟩ := hB
      rw [ht] at hP1
      have hP := hP1
      have hD := hD1.weaken (fun k q _ h => hFc q.1 h)
      generalize H1 = H at hP hS ⊢
      clear hP1 hD1 hPc hDc hFc hk1 hz1 hvm ht
      refine lv_aload_n hx hb dX7_saveSnapshot_41 rfl (lv_at hl 0 rfl) ?_
      obtain ⟨q9, h9⟩ := wc_at (cy := cy) (ad := ad) (ks := ks) (g := g) (u := u7) (κ := .cl) hk.1 True.intro
      refine va_get (D := (dC, dI)) (ci := 7) (v := .ref (ad (.ln 0))) (C := RX7) (T := TX7) (N := 12) hx hb hts inlX7 hown hK hP q9 h9 rfl 0 (by decide) (hts _ mw_18) (fun _ h9 => h9) rfl dX7_saveSnapshot_42 ?_
      clear h9
      obtain ⟨q9, h9⟩ := wc_at (cy := cy) (ad := ad) (ks := ks) (g := g) (u := u7) (κ := (.ln 0)) hk.1 (Or.inl (by decide))
      refine va_get (D := (dC, dI)) (ci := 3) (v := .int (u7 (10 + 0) 6)) (C := RX3) (T := TX3) (N := 17) hx hb hts inlX3 hown hK hP q9 h9 rfl 6 (by decide) (hts _ mw_867) (fun _ h9 => h9) rfl dX7_saveSnapshot_45 ?_
      clear h9
      cases hF
    · rw [if_neg c6] at hF
      obtain ⟨q9, h9⟩ := wc_at (cy := cy) (ad := ad) (ks := ks) (g := g) (u := u0) (κ := .sa) hk.1 True.intro
      refine va_aldq hx hb hK hP q9 5 h9 rfl (ix_in e5) dX7_saveSnapshot_11 ?_
      refine my_top (y := .null) (plv_n (F := fun j => ad (.ln (10 + j))) e5 c6) ?_
      clear h9
      refine lv_ifnonnullN hx hb dX7_saveSnapshot_12 ?_
      refine lv_aload_n hx hb dX7_saveSnapshot_15 rfl (lv_at hl 0 rfl) ?_
      obtain ⟨q9, h9⟩ := wc_at (cy := cy) (ad := ad) (ks := ks) (g := g) (u := u0) (κ := .cl) hk.1 True.intro
      refine va_get (D := (dC, dI)) (ci := 7) (v := .ref (ad .sa)) (C := RX7) (T := TX7) (N := 12) hx hb hts inlX7 hown hK hP q9 h9 rfl 5 (by decide) (hts _ mw_27) (fun _ h9 => h9) rfl dX7_saveSnapshot_16 ?_
      clear h9
      refine lv_iload_n hx hb dX7_saveSnapshot_19 rfl (lv_at hl 1 rfl) ?_
      obtain ⟨qp9, hq9, hp9⟩ := wc_pos (cy := cy) (ad := ad) (ks := ks) (g := g) (u := u0) (κ := .sa) hk.1 True.intro
      refine va_new (ci := 3) (fs := [.int 0, .int 0, .int 0, .int 0, .int 0, .int 0, .int 0, .int 0, .int 0, .int 0, .null, .null, .null, .null, .null, .null, .int 0]) (C := RX3) (T := TX3) (N := 17) hx hb hts inlX3 tyX3 tyX3_ok hown (hts _ mw_15) (hts _ mw_16) (hts _ mw_17) hK hP hD hS hA rfl (fun j hj => by match j, hj with | 0, _ => rfl | 1, _ => rfl | 2, _ => rfl | 3, _ => rfl | 4, _ => rfl | 5, _ => rfl | 6, _ => rfl | 7, _ => rfl | 8, _ => rfl | 9, _ => rfl | 10, _ => rfl | 11, _ => rfl | 12, _ => rfl | 13, _ => rfl | 14, _ => rfl | 15, _ => rfl | 16, _ => rfl | (n+17), h => omega) (Nat.le_of_ble_eq_true rfl) (Nat.le_of_ble_eq_true rfl) dX7_saveSnapshot_20 (fun qn9 H hP hD hS => ?_)
      have hPc := my_lastP hP
      have hDc := my_lastD hD
      have hFc := my_free hDc hS hA
      refine lv_dup hx hb dX7_saveSnapshot_23 rfl ?_
      refine va_callv (va_runI (As := []) (rest := [.ref qn9, .int a1, .ref (ad .sa)]) ⟨hx, hb, hml, hown, hts⟩ (c_X3_init l dC dI cy nb qn9 H.size) (cwI 0 hts (gI mw_37) rfl rfl rfl (hts _ mw_17) (hts _ mw_35) (hts _ mw_36) rfl (by decide +kernel) ⟨Nat.le_of_ble_eq_true rfl, Nat.le_of_ble_eq_true rfl⟩) (my_preS hPc hK hDc hE hS hFc) rfl rfl hl.1 rfl (lv_room (Nat.le_of_ble_eq_true rfl)) dX7_saveSnapshot_24 ⟨Nat.le_of_ble_eq_true rfl, Nat.le_of_ble_eq_true rfl⟩) hS (fun q _ h => hFc q h) hFc (fun u t H1 locs ht hvm hw hB hz1 hk1 hS => ?_)
      obtain ⟨qn1, qn2, qn3, qn4, qn5, qn6, fa, fb, fc, fd, ff, fk, hP1, hD1⟩ := hB
      rw [ht] at hP1
      obtain ⟨hP, hD⟩ := my_join hP hD hk1 hFc hP1 hD1
      generalize H1 = H at hP hS ⊢
      clear hP1 hD1 hPc hDc hFc hk1 hz1 hvm ht
      refine va_astq hx hb hK hP hD hS qp9 5 (WC cy ad ks g u0).length 3 (hp9 _) rfl (by rw [List.getElem?_append_right (Nat.le_refl _), Nat.sub_self]; rfl) rfl (ix_in e5) dX7_saveSnapshot_27 (fun H locs hP hD hS => ?_)
      rw [nl_sa e5 c6 hk hq9] at hP hD
      obtain ⟨hk11, ax12⟩ := nl_ga (h0 := qn9) (q1 := qn1) (q2 := qn2) (q3 := qn3) (q4 := qn4) (q5 := qn5) (q6 := qn6) (a := fa) (b := fb) (c := fc) (d := fd) (f := ff) (k := fk) (L := (10 + n4)) (by have := ix_lt e5; omega) (by omega) c6 hk
      have c13 : (gl g (10 + n4)).pl (10 + n4) = true := gl_pl
      generalize adl ad (10 + n4) qn9 qn1 qn2 qn3 qn4 qn5 qn6 fa fb fc fd ff fk = ad9 at hP hD hk11 ax12
      generalize ks ++ NK (10 + n4) = ks10 at hP hD hk11
      obtain ⟨g16, e17, hF⟩ := ob hF
      obtain ⟨u14, e15, hF⟩ := ob hF
      rw [s1 e15, s1 e17] at hP hD
      rw [s1 e17] at hk11 ax12 c13
      clear hp9 hq9
      refine W.widen (k := 67) (n := 831) (by omega) (by omega) ?_
      have hl : lv_has ls 2 [(0, .ref (ad9 .cl)), (1, .int a1)] := by rw [(ax12 .cl True.intro).2]; exact hl
      refine lv_aload_n hx hb dX7_saveSnapshot_28 rfl (lv_at hl 0 rfl) ?_
      obtain ⟨q9, h9⟩ := wc_at (cy := cy) (ad := ad9) (ks := ks10) (g := g16) (u := u14) (κ := .cl) hk11.1 True.intro
      refine va_get (D := (dC, dI)) (ci := 7) (v := .ref (ad9 .sa)) (C := RX7) (T := TX7) (N := 12) hx hb hts inlX7 hown hK hP q9 h9 rfl 5 (by decide) (hts _ mw_27) (fun _ h9 => h9) rfl dX7_saveSnapshot_29 ?_
      clear h9
      refine lv_iload_n hx hb dX7_saveSnapshot_32 rfl (lv_at hl 1 rfl) ?_
      obtain ⟨q9, h9⟩ := wc_at (cy := cy) (ad := ad9) (ks := ks10) (g := g16) (u := u14) (κ := .sa) hk11.1 True.intro
      refine va_aldq hx hb hK hP q9 5 h9 rfl (ix_in e5) dX7_saveSnapshot_33 ?_
      refine my_top (y := .ref (ad9 (.ln (10 + n4)))) (plv (F := fun j => ad9 (.ln (10 + j))) e5 c13) ?_
      clear h9
      refine lv_aload_n hx hb dX7_saveSnapshot_34 rfl (lv_at hl 0 rfl) ?_
      obtain ⟨q9, h9⟩ := wc_at (cy := cy) (ad := ad9) (ks := ks10) (g := g16) (u := u14) (κ := .cl) hk11.1 True.intro
      refine va_get (D := (dC, dI)) (ci := 7) (v := .ref (ad9 (.ln 0))) (C := RX7) (T := TX7) (N := 12) hx hb hts inlX7 hown hK hP q9 h9 rfl 0 (by decide) (hts _ mw_18) (fun _ h9 => h9) rfl dX7_saveSnapshot_35 ?_
      clear h9
      obtain ⟨u18, e19, hF⟩ := ob hF
      have hPc := hP
      have hDc := hD
      have hFc := my_free hD hS hA
      obtain ⟨q8, h8⟩ := wc_at (cy := cy) (ad := ad9) (ks := ks10) (g := g16) (u := u14) (κ := (.ln (10 + n4))) hk11.1 (Or.inr ⟨by have := ix_lt e5; omega, c13⟩)
      refine va_callv (va_runV (As := [.ref (ad9 (.ln 0))]) (rest := []) ⟨hx, hb, hml, hown, hts⟩ (c_X3_copyFrom l dC dI cy nb ad9 ks10 g16 hk11 u14 (10 + n4) 0 (u18) H.size (Or.inr ⟨by have := ix_lt e5; omega, c13⟩) (Or.inl (by decide)) e19) (cwV 1 hts (gV mw_392 mw_393 mw_394 mw_17 mw_395) rfl rfl rfl (by decide +kernel) ⟨Nat.le_of_ble_eq_true rfl, Nat.le_of_ble_eq_true rfl⟩) (my_preV hPc hK hDc hE hS hFc (va_recv (q := (RX3, TX3, 17)) hK hP (ci := 3) (q0 := q8) rfl h8)) rfl rfl hl.1 rfl (lv_room (Nat.le_of_ble_eq_true rfl)) dX7_saveSnapshot_38 ⟨Nat.le_of_ble_eq_true rfl, Nat.le_of_ble_eq_true rfl⟩) hS (fun q _ h => hFc q h) hFc (fun u t H1 locs ht hvm hw hB hz1 hk1 hS => ?_)
      clear h8
      obtain ⟨hP1, hD1⟩ := hB
      rw [ht] at hP1
      have hP := hP1
      have hD := hD1.weaken (fun k q _ h => hFc q.1 h)
      generalize H1 = H at hP hS ⊢
      clear hP1 hD1 hPc hDc hFc hk1 hz1 hvm ht
      refine lv_aload_n hx hb dX7_saveSnapshot_41 rfl (lv_at hl 0 rfl) ?_
      obtain ⟨q9, h9⟩ := wc_at (cy := cy) (ad := ad9) (ks := ks10) (g := g16) (u := u18) (κ := .cl) hk11.1 True.intro
      refine va_get (D := (dC, dI)) (ci := 7) (v := .ref (ad9 (.ln 0))) (C := RX7) (T := TX7) (N := 12) hx hb hts inlX7 hown hK hP q9 h9 rfl 0 (by decide) (hts _ mw_18) (fun _ h9 => h9) rfl dX7_saveSnapshot_42 ?_
      clear h9
      obtain ⟨q9, h9⟩ := wc_at (cy := cy) (ad := ad9) (ks := ks10) (g := g16) (u := u18) (κ := (.ln 0)) hk11.1 (Or.inl (by decide))
      refine va_get (D := (dC, dI)) (ci := 3) (v := .int (u18 (10 + 0) 6)) (C := RX3) (T := TX3) (N := 17) hx hb hts inlX3 hown hK hP q9 h9 rfl 6 (by decide) (hts _ mw_867) (fun _ h9 => h9) rfl dX7_saveSnapshot_45 ?_
      clear h9
      cases hF
set_option maxHeartbeats 4000000 in
set_option maxRecDepth 100000 in
theorem c_X7_setPace_y (l : Launch) (hst : l.stackTraces = false) (dC : Nat → ClassId) (dI : Nat → Nat → Nat) (cy : Nat → ClassId) (nb : Nat → Nat) (ad : CK → Nat) (ks : List CK) (g : CG) (hk : GA nb ad g ks) (u0 : RS) (a1 : Int32) (a2 : Int32) (xc : Int32) (sz : Nat) (hF : C7_setPace g u0 a1 a2 = some (.inl xc)) : vx_Met l yX7_setPace (wsg yX7_setPace cX7_setPace 5 (some .int)) ({ frames := 11, cells := 67, slots := 831, locals := 600 }) (va_Pc [.ref (ad .cl), .int a1, .int a2] (fun U => U.heap.size = sz ∧ va_P (dC, dI) vwCl (WC cy ad ks g u0) U.heap ∧ va_K (dC, dI) vwCl (tyL cy) U ∧ va_D (fun _ => True) (WC cy ad ks g u0) ∧ GE nb (va_A (WC cy ad ks g u0) sz) U)) (va_Qi (fun (_ : Int32) (_ : Unit) => False) (fun _ _ => True) (va_A (WC cy ad ks g u0) sz)) (vx_X (fun (_ : Unit) => True) (fun E9 _ t9 => E9 = exn xc ∧ va_P (dC, dI) vwCl (WC cy ad ks g u0) t9.heap) (va_A (WC cy ad ks g u0) sz)) 67 831 (va_A (WC cy ad ks g u0) sz) := by
  refine vx_ofW (cc := cX7_setPace) (maxL := 5) (ret := (some .int)) pn_X7 rfl ?_
  intro p e s m args below meth c s₁ B hml hout hv
  obtain ⟨rfl, hsz, hP, hK, hD0, hE⟩ := hv
  have hx := B.exec
  have hb := B.bytes
  have hr := B.returns
  have hts0 := atoms_spec (ws := (wsg yX7_setPace cX7_setPace 5 (some .int))) B.pre
  have hts : ∀ w ∈ wsL_law, w.before _ s = true := fun w h => hts0 w (List.mem_cons_of_mem _ h)
  have hown : s.vm.findClass RX7 = some m.cls := by have h9 := findClass_of_methodNamed B.named; exact h9
  have hlocks := B.notSynchronized
  subst hsz
  have hD := hD0.self (sz := s.heap.size)
  generalize hAe : va_A (WC cy ad ks g u0) s.heap.size = A at hD hE ⊢
  have hA : ∀ q : Nat, s.heap.size ≤ q → A q := fun q h => by rw [← hAe]; exact Or.inr h
  have hS : va_S A s.heap s.heap [] := va_S.rf
  have hl := lv_entry ([.ref (ad .cl), .int a1, .int a2]) (n := 5) (Nat.le_of_ble_eq_true rfl)
  rw [lg_entry_eq]
  generalize (lg_sl ([.ref (ad .cl), .int a1, .int a2]) ++ List.replicate (5 - (lg_sl ([.ref (ad .cl), .int a1, .int a2])).length) Slot.unset).toArray = ls at hl ⊢
  have hl : lv_has ls 5 [(0, .ref (ad .cl)), (1, .int a1), (2, .int a2)] := hl
  generalize hHe : s.heap = H at hP hS ⊢
  have hS : va_S A s.heap H [] := by rw [hHe]; exact hS
  refine my_Q (fun Qn hQ => ?_)
  simp only [C7_setPace] at hF
  refine lv_aload_n hx hb dX7_setPace_0 rfl (lv_at hl 0 rfl) ?_
  refine lv_iload_n hx hb dX7_setPace_1 rfl (lv_at hl 1 rfl) ?_
  obtain ⟨t1, e2, hF⟩ := ob hF
  rcases t1 with xz9 | t3
  · have hF : some (Sum.inl xz9) = some (.inl xc) := hF
    have hPc := hP
    have hDc := hD
    have hFc := my_free hD hS hA
    obtain ⟨q8, h8⟩ := wc_at (cy := cy) (ad := ad) (ks := ks) (g := g) (u := u0) (κ := .cl) hk.1 True.intro
    refine vx_callv (vx_runV (As := [.int a1]) (rest := []) ⟨hx, hb, hml, hown, hts⟩ (c_X7_needStation_y l hst dC dI cy nb ad ks g hk u0 (a1) xz9 H.size e2) (cwV 1 hts (gV mw_631 mw_632 mw_633 mw_2 mw_634) rfl rfl rfl (by decide +kernel) ⟨Nat.le_of_ble_eq_true rfl, Nat.le_of_ble_eq_true rfl⟩) (my_preV hPc hK hDc hE hS hFc (va_recv (q := (RX7, TX7, 12)) hK hP (ci := 7) (q0 := q8) rfl h8)) rfl rfl hl.1 rfl (lv_room (Nat.le_of_ble_eq_true rfl)) dX7_setPace_2 ⟨Nat.le_of_ble_eq_true rfl, Nat.le_of_ble_eq_true rfl⟩) hS (fun q _ h => hFc q h) hFc (fun q _ h => hFc q h) (fun E9 ce9 q9 u9 t9 H1 locs1 ht9 hvm9 hp9 hB9 hz9 hk9 hS9 hc9 hv9 hcl9 => ?_) (fun u9 t9 H1 locs1 ht9 hvm9 hp9 _ _ _ _ => hp9.elim)
    have hZ := s4 hF
    rw [hQ]
    exact vx_out (fun x hx => (hout x hx).elim) hlocks hc9 hv9 hcl9 (fun t h1 h2 => ⟨(), trivial, ⟨hB9.1.trans (congrArg exn hZ), by rw [h1, ← ht9]; exact hB9.2⟩, hS9.F h1⟩) hS9.2.2 (Nat.le_of_ble_eq_true rfl) (Nat.le_of_ble_eq_true rfl)
  · dsimp only [tr] at hF
    have hPc := hP
    have hDc := hD
    have hFc := my_free hD hS hA
    obtain ⟨q8, h8⟩ := wc_at (cy := cy) (ad := ad) (ks := ks) (g := g) (u := u0) (κ := .cl) hk.1 True.intro
    refine va_callv (va_runV (As := [.int a1]) (rest := []) ⟨hx, hb, hml, hown, hts⟩ (c_X7_needStation l dC dI cy nb ad ks g hk u0 (a1) H.size e2) (cwV 1 hts (gV mw_631 mw_632 mw_633 mw_2 mw_634) rfl rfl rfl (by decide +kernel) ⟨Nat.le_of_ble_eq_true rfl, Nat.le_of_ble_eq_true rfl⟩) (my_preV hPc hK hDc hE hS hFc (va_recv (q := (RX7, TX7, 12)) hK hP (ci := 7) (q0 := q8) rfl h8)) rfl rfl hl.1 rfl (lv_room (Nat.le_of_ble_eq_true rfl)) dX7_setPace_2 ⟨Nat.le_of_ble_eq_true rfl, Nat.le_of_ble_eq_true rfl⟩) hS (fun q _ h => hFc q h) hFc (fun u t H1 locs ht hvm hw hB hz1 hk1 hS => ?_)
    clear h8
    obtain ⟨hP1, hD1⟩ := hB
    rw [ht] at hP1
    have hP := hP1
    have hD := hD1.weaken (fun k q _ h => hFc q.1 h)
    generalize H1 = H at hP hS ⊢
    clear hP1 hD1 hPc hDc hFc hk1 hz1 hvm ht
    refine lv_aload_n hx hb dX7_setPace_5 rfl (lv_at hl 0 rfl) ?_
    obtain ⟨q9, h9⟩ := wc_at (cy := cy) (ad := ad) (ks := ks) (g := g) (u := u0) (κ := .cl) hk.1 True.intro
    refine va_get (D := (dC, dI)) (ci := 7) (v := .ref (ad (.ln 0))) (C := RX7) (T := TX7) (N := 12) hx hb hts inlX7 hown hK hP q9 h9 rfl 0 (by decide) (hts _ mw_18) (fun _ h9 => h9) rfl dX7_setPace_6 ?_
    clear h9
    obtain ⟨q9, h9⟩ := wc_at (cy := cy) (ad := ad) (ks := ks) (g := g) (u := u0) (κ := (.ln 0)) hk.1 (Or.inl (by decide))
    refine va_get (D := (dC, dI)) (ci := 3) (v := .ref (ad (.ss 0))) (C := RX3) (T := TX3) (N := 17) hx hb hts inlX3 hown hK hP q9 h9 rfl 10 (by decide) (hts _ mw_617) (fun _ h9 => h9) rfl dX7_setPace_9 ?_
    clear h9
    refine lv_iload_n hx hb dX7_setPace_12 rfl (lv_at hl 1 rfl) ?_
    obtain ⟨n4, e5, hF⟩ := ob hF
    obtain ⟨q9, h9⟩ := wc_at (cy := cy) (ad := ad) (ks := ks) (g := g) (u := u0) (κ := (.ss 0)) hk.1 (Or.inl (by decide))
    refine va_aldq hx hb hK hP q9 6 h9 rfl (ix_in e5) dX7_setPace_13 ?_
    refine my_top (y := .ref (ad (.st 0 n4))) (ixv (F := fun j => ad (.st 0 j)) e5) ?_
    clear h9
    refine lv_astore_n (lv' := [(3, .ref (ad (.st 0 n4))), (0, .ref (ad .cl)), (1, .int a1), (2, .int a2)]) hx hb dX7_setPace_14 rfl hl (by decide) rfl (fun ls hl => ?_)
    refine lv_iload_n hx hb dX7_setPace_15 rfl (lv_at hl 3 rfl) ?_
    refine lv_iconst (v := 1) hx hb dX7_setPace_16 (by decide) ?_
    refine lv_aload_n hx hb dX7_setPace_17 rfl (lv_at hl 0 rfl) ?_
    obtain ⟨q9, h9⟩ := wc_at (cy := cy) (ad := ad) (ks := ks) (g := g) (u := u0) (κ := (.st 0 n4)) hk.1 ⟨(Or.inl (by decide)), (ix_lt e5)⟩
    refine va_get (D := (dC, dI)) (ci := 6) (v := .int (u0 (10 + 0) (17 + 16 * n4 + 0))) (C := RX6) (T := TX6) (N := 15) hx hb hts inlX6 hown hK hP q9 h9 rfl 0 (by decide) (hts _ mw_618) (fun _ h9 => h9) rfl dX7_setPace_18 ?_
    clear h9
    obtain ⟨x6, e7, hF⟩ := ob hF
    have hPc : va_P (dC, dI) vwCl ([] : va_W) H := fun k q h => by simp at h
    have hDc : va_D A ([] : va_W) := ⟨fun i j p q h => by simp at h, fun k q h => by simp at h⟩
    have hFc := my_free0 hS hA
    refine va_calli (va_runS (As := [.int (u0 (10 + 0) (17 + 16 * n4 + 0))]) (rest := [.int 1, .int a2]) ⟨hx, hb, hml, hown, hts⟩ (c_X7_mostPace l dC dI cy nb ((u0 (10 + 0) (17 + 16 * n4 + 0))) (x6) H.size e7) (va_cwS 1 hts (gS mw_1051 mw_342 mw_2 mw_343) rfl rfl rfl (by decide +kernel) ⟨Nat.le_of_ble_eq_true rfl, Nat.le_of_ble_eq_true rfl⟩) (my_preS hPc hK hDc hE hS hFc) rfl rfl hl.1 rfl (lv_room (Nat.le_of_ble_eq_true rfl)) dX7_setPace_21 ⟨Nat.le_of_ble_eq_true rfl, Nat.le_of_ble_eq_true rfl⟩) hS (fun q _ h => hFc q h) hFc (fun r u t H1 locs ht hvm hw hB hz1 hk1 hS => ?_)
    obtain ⟨hP1, hD1⟩ := hB
    rw [ht] at hP1
    have hP := my_keep hP hk1
    generalize H1 = H at hP hS ⊢
    clear hP1 hD1 hPc hDc hFc hk1 hz1 hvm ht
    obtain rfl := hw.symm
    obtain ⟨t8, e9, hF⟩ := ob hF
    rcases t8 with xz9 | t10
    · have hF : some (Sum.inl xz9) = some (.inl xc) := hF
      have hPc : va_P (dC, dI) vwCl ([] : va_W) H := fun k q h => by simp at h
      have hDc : va_D A ([] : va_W) := ⟨fun i j p q h => by simp at h, fun k q h => by simp at h⟩
      have hFc := my_free0 hS hA
      refine vx_callv (vx_runS (As := [.int a2, .int 1, .int x6]) (rest := []) ⟨hx, hb, hml, hown, hts⟩ (c_X7_needRange_x l hst dC dI cy nb (a2) (1) (x6) xz9 H.size e9) (va_cwS 3 hts (gS mw_815 mw_816 mw_2 mw_817) rfl rfl rfl (by decide +kernel) ⟨Nat.le_of_ble_eq_true rfl, Nat.le_of_ble_eq_true rfl⟩) (my_preS hPc hK hDc hE hS hFc) rfl rfl hl.1 rfl (lv_room (Nat.le_of_ble_eq_true rfl)) dX7_setPace_24 ⟨Nat.le_of_ble_eq_true rfl, Nat.le_of_ble_eq_true rfl⟩) hS (fun q _ h => hFc q h) hFc (fun q _ h => hFc q h) (fun E9 ce9 q9 u9 t9 H1 locs1 ht9 hvm9 hp9 hB9 hz9 hk9 hS9 hc9 hv9 hcl9 => ?_) (fun u9 t9 H1 locs1 ht9 hvm9 hp9 _ _ _ _ => hp9.elim)
      have hZ := s4 hF
      rw [hQ]
      exact vx_out (fun x hx => (hout x hx).elim) hlocks hc9 hv9 hcl9 (fun t h1 h2 => ⟨(), trivial, ⟨hB9.trans (congrArg exn hZ), by rw [h1]; exact my_keep hP hk9⟩, hS9.F h1⟩) hS9.2.2 (Nat.le_of_ble_eq_true rfl) (Nat.le_of_ble_eq_true rfl)
    · dsimp only [tr] at hF
      have hPc : va_P (dC, dI) vwCl ([] : va_W) H := fun k q h => by simp at h
      have hDc : va_D A ([] : va_W) := ⟨fun i j p q h => by simp at h, fun k q h => by simp at h⟩
      have hFc := my_free0 hS hA
      refine va_callv (va_runS (As := [.int a2, .int 1, .int x6]) (rest := []) ⟨hx, hb, hml, hown, hts⟩ (c_X7_needRange l dC dI cy nb (a2) (1) (x6) H.size e9) (va_cwS 3 hts (gS mw_815 mw_816 mw_2 mw_817) rfl rfl rfl (by decide +kernel) ⟨Nat.le_of_ble_eq_true rfl, Nat.le_of_ble_eq_true rfl⟩) (my_preS hPc hK hDc hE hS hFc) rfl rfl hl.1 rfl (lv_room (Nat.le_of_ble_eq_true rfl)) dX7_setPace_24 ⟨Nat.le_of_ble_eq_true rfl, Nat.le_of_ble_eq_true rfl⟩) hS (fun q _ h => hFc q h) hFc (fun u t H1 locs ht hvm hw hB hz1 hk1 hS => ?_)
      obtain ⟨hP1, hD1⟩ := hB
      rw [ht] at hP1
      have hP := my_keep hP hk1
      generalize H1 = H at hP hS ⊢
      clear hP1 hD1 hPc hDc hFc hk1 hz1 hvm ht
      refine lv_aload_n hx hb dX7_setPace_27 rfl (lv_at hl 1 rfl) ?_
      obtain ⟨t11, e12, hF⟩ := ob hF
      have hPc := hP
      have hDc := hD
      have hFc := my_free hD hS hA
      obtain ⟨q8, h8⟩ := wc_at (cy := cy) (ad := ad) (ks := ks) (g := g) (u := u0) (κ := .cl) hk.1 True.intro
      refine va_callv (va_runV (As := []) (rest := []) ⟨hx, hb, hml, hown, hts⟩ (c_X7_remember l dC dI cy nb ad ks g hk u0 (t11.1) (t11.2) H.size e12) (cwV 0 hts (gV mw_973 mw_974 mw_975 mw_2 mw_976) rfl rfl rfl (by decide +kernel) ⟨Nat.le_of_ble_eq_true rfl, Nat.le_of_ble_eq_true rfl⟩) (my_preV hPc hK hDc hE hS hFc (va_recv (q := (RX7, TX7, 12)) hK hP (ci := 7) (q0 := q8) rfl h8)) rfl rfl hl.1 rfl (lv_room (Nat.le_of_ble_eq_true rfl)) dX7_setPace_28 ⟨Nat.le_of_ble_eq_true rfl, Nat.le_of_ble_eq_true rfl⟩) hS (fun q _ h => hFc q h) hFc (fun u t H1 locs ht hvm hw hB hz1 hk1 hS => ?_)
      clear h8
      obtain ⟨ad13, ks14, hk15, ax16, hP1, hD1⟩ := hB
      rw [ht] at hP1
      have hP := hP1
      have hD := hD1.weaken (fun k q _ h => hFc q.1 h)
      generalize H1 = H at hP hS ⊢
      have hl : lv_has ls 5 [(3, .ref (ad13 (.st 0 n4))), (0, .ref (ad13 .cl)), (1, .int a1), (2, .int a2)] := by rw [(ax16 (.st 0 n4) ⟨(Or.inl (by decide)), (ix_lt e5)⟩).2, (ax16 .cl True.intro).2]; exact hl
      clear hP1 hD1 hPc hDc hFc hk1 hz1 hvm ht
      refine W.widen (k := 67) (n := 831) (by omega) (by omega) ?_
      refine lv_aload_n hx hb dX7_setPace_31 rfl (lv_at hl 0 rfl) ?_
      obtain ⟨q9, h9⟩ := wc_at (cy := cy) (ad := ad13) (ks := ks14) (g := (t11.1)) (u := (t11.2)) (κ := (.st 0 n4)) hk15.1 ⟨(Or.inl (by decide)), (ix_lt e5)⟩
      refine va_get (D := (dC, dI)) (ci := 6) (v := .int ((t11.2) (10 + 0) (17 + 16 * n4 + 1))) (C := RX6) (T := TX6) (N := 15) hx hb hts inlX6 hown hK hP q9 h9 rfl 1 (by decide) (hts _ mw_619) (fun _ h9 => h9) rfl dX7_setPace_32 ?_
      clear h9
      refine lv_istore (lv' := [(4, .int ((t11.2) (10 + 0) (17 + 16 * n4 + 1))), (3, .ref (ad13 (.st 0 n4))), (0, .ref (ad13 .cl)), (1, .int a1), (2, .int a2)]) hx hb dX7_setPace_35 hl (by decide) rfl (fun ls hl => ?_)
      refine lv_aload_n hx hb dX7_setPace_37 rfl (lv_at hl 1 rfl) ?_
      refine lv_iload_n hx hb dX7_setPace_38 rfl (lv_at hl 4 rfl) ?_
      obtain ⟨q9, h9, ez9⟩ := wc_set (cy := cy) (ad := ad13) (ks := ks14) (g := (t11.1)) (u := (t11.2)) (κ := (.st 0 n4)) (r := (10 + 0)) (i := (17 + 16 * n4 + 1)) (v := a2) hk15.1 ⟨(Or.inl (by decide)), (ix_lt e5)⟩ (own_st (show 0 < 12 by decide) (ix_lt e5) (by decide)) (sf_st_1)
      refine va_put (D := (dC, dI)) (ci := 6) (v := .int a2) (ty := .int) (C := RX6) (T := TX6) (N := 15) hx hb hts inlX6 tyX6 tyX6_ok nmX6 hown hK hP hD hS q9 h9 rfl 1 (by decide) (hts _ mw_619) (fun _ h9 => h9) rfl (by decide +kernel) rfl rfl (Nat.le_of_ble_eq_true rfl) dX7_setPace_39 (fun H locs hP hD hS => ?_)
      obtain ⟨u17, e18, hF⟩ := ob hF
      have hP : va_P (dC, dI) vwCl (WC cy ad13 ks14 (t11.1) u17) H := by rw [← pt_eq e18, ← ez9]; exact hP
      have hD : va_D A (WC cy ad13 ks14 (t11.1) u17) := by rw [← pt_eq e18, ← ez9]; exact hD
      clear ez9 h9
      refine lv_iload hx hb dX7_setPace_42 (lv_at hl 0 rfl) ?_
      cases hF
set_option maxHeartbeats 4000000 in
set_option maxRecDepth 100000 in
theorem c_X7_setRank_y (l : Launch) (hst : l.stackTraces = false) (dC : Nat → ClassId) (dI : Nat → Nat → Nat) (cy : Nat → ClassId) (nb : Nat → Nat) (ad : CK → Nat) (ks : List CK) (g : CG) (hk : GA nb ad g ks) (u0 : RS) (a1 : Int32) (a2 : Int32) (xc : Int32) (sz : Nat) (hF : C7_setRank g u0 a1 a2 = some (.inl xc)) : vx_Met l yX7_setRank (wsg yX7_setRank cX7_setRank 4 (some .int)) ({ frames := 11, cells := 67, slots := 831, locals := 600 }) (va_Pc [.ref (ad .cl), .int a1, .int a2] (fun U => U.heap.size = sz ∧ va_P (dC, dI) vwCl (WC cy ad ks g u0) U.heap ∧ va_K (dC, dI) vwCl (tyL cy) U ∧ va_D (fun _ => True) (WC cy ad ks g u0) ∧ GE nb (va_A (WC cy ad ks g u0) sz) U)) (va_Qi (fun (_ : Int32) (_ : Unit) => False) (fun _ _ => True) (va_A (WC cy ad ks g u0) sz)) (vx_X (fun (_ : Unit) => True) (fun E9 _ t9 => E9 = exn xc ∧ va_P (dC, dI) vwCl (WC cy ad ks g u0) t9.heap) (va_A (WC cy ad ks g u0) sz)) 67 831 (va_A (WC cy ad ks g u0) sz) := by
  refine vx_ofW (cc := cX7_setRank) (maxL := 4) (ret := (some .int)) pn_X7 rfl ?_
  intro p e s m args below meth c s₁ B hml hout hv
  obtain ⟨rfl, hsz, hP, hK, hD0, hE⟩ := hv
  have hx := B.exec
  have hb := B.bytes
  have hr := B.returns
  have hts0 := atoms_spec (ws := (wsg yX7_setRank cX7_setRank 4 (some .int))) B.pre
  have hts : ∀ w ∈ wsL_law, w.before _ s = true := fun w h => hts0 w (List.mem_cons_of_mem _ h)
  have hown : s.vm.findClass RX7 = some m.cls := by have h9 := findClass_of_methodNamed B.named; exact h9
  have hlocks := B.notSynchronized
  subst hsz
  have hD := hD0.self (sz := s.heap.size)
  generalize hAe : va_A (WC cy ad ks g u0) s.heap.size = A at hD hE ⊢
  have hA : ∀ q : Nat, s.heap.size ≤ q → A q := fun q h => by rw [← hAe]; exact Or.inr h
  have hS : va_S A s.heap s.heap [] := va_S.rf
  have hl := lv_entry ([.ref (ad .cl), .int a1, .int a2]) (n := 4) (Nat.le_of_ble_eq_true rfl)
  rw [lg_entry_eq]
  generalize (lg_sl ([.ref (ad .cl), .int a1, .int a2]) ++ List.replicate (4 - (lg_sl ([.ref (ad .cl), .int a1, .int a2])).length) Slot.unset).toArray = ls at hl ⊢
  have hl : lv_has ls 4 [(0, .ref (ad .cl)), (1, .int a1), (2, .int a2)] := hl
  generalize hHe : s.heap = H at hP hS ⊢
  have hS : va_S A s.heap H [] := by rw [hHe]; exact hS
  refine my_Q (fun Qn hQ => ?_)
  simp only [C7_setRank] at hF
  refine lv_aload_n hx hb dX7_setRank_0 rfl (lv_at hl 0 rfl) ?_
  refine lv_iload_n hx hb dX7_setRank_1 rfl (lv_at hl 1 rfl) ?_
  obtain ⟨t1, e2, hF⟩ := ob hF
  rcases t1 with xz9 | t3
  · have hF : some (Sum.inl xz9) = some (.inl xc) := hF
    have hPc := hP
    have hDc := hD
    have hFc := my_free hD hS hA
    obtain ⟨q8, h8⟩ := wc_at (cy := cy) (ad := ad) (ks := ks) (g := g) (u := u0) (κ := .cl) hk.1 True.intro
    refine vx_callv (vx_runV (As := [.int a1]) (rest := []) ⟨hx, hb, hml, hown, hts⟩ (c_X7_needLot_y l hst dC dI cy nb ad ks g hk u0 (a1) xz9 H.size e2) (cwV 1 hts (gV mw_704 mw_705 mw_706 mw_2 mw_707) rfl rfl rfl (by decide +kernel) ⟨Nat.le_of_ble_eq_true rfl, Nat.le_of_ble_eq_true rfl⟩) (my_preV hPc hK hDc hE hS hFc (va_recv (q := (RX7, TX7, 12)) hK hP (ci := 7) (q0 := q8) rfl h8)) rfl rfl hl.1 rfl (lv_room (Nat.le_of_ble_eq_true rfl)) dX7_setRank_2 ⟨Nat.le_of_ble_eq_true rfl, Nat.le_of_ble_eq_true rfl⟩) hS (fun q _ h => hFc q h) hFc (fun q _ h => hFc q h) (fun E9 ce9 q9 u9 t9 H1 locs1 ht9 hvm9 hp9 hB9 hz9 hk9 hS9 hc9 hv9 hcl9 => ?_) (fun u9 t9 H1 locs1 ht9 hvm9 hp9 _ _ _ _ => hp9.elim)
    have hZ := s4 hF
    rw [hQ]
    exact vx_out (fun x hx => (hout x hx).elim) hlocks hc9 hv9 hcl9 (fun t h1 h2 => ⟨(), trivial, ⟨hB9.1.trans (congrArg exn hZ), by rw [h1, ← ht9]; exact hB9.2⟩, hS9.F h1⟩) hS9.2.2 (Nat.le_of_ble_eq_true rfl) (Nat.le_of_ble_eq_true rfl)
  · dsimp only [tr] at hF
    have hPc := hP
    have hDc := hD
    have hFc := my_free hD hS hA
    obtain ⟨q8, h8⟩ := wc_at (cy := cy) (ad := ad) (ks := ks) (g := g) (u := u0) (κ := .cl) hk.1 True.intro
    refine va_callv (va_runV (As := [.int a1]) (rest := []) ⟨hx, hb, hml, hown, hts⟩ (c_X7_needLot l dC dI cy nb ad ks g hk u0 (a1) H.size e2) (cwV 1 hts (gV mw_704 mw_705 mw_706 mw_2 mw_707) rfl rfl rfl (by decide +kernel) ⟨Nat.le_of_ble_eq_true rfl, Nat.le_of_ble_eq_true rfl⟩) (my_preV hPc hK hDc hE hS hFc (va_recv (q := (RX7, TX7, 12)) hK hP (ci := 7) (q0 := q8) rfl h8)) rfl rfl hl.1 rfl (lv_room (Nat.le_of_ble_eq_true rfl)) dX7_setRank_2 ⟨Nat.le_of_ble_eq_true rfl, Nat.le_of_ble_eq_true rfl⟩) hS (fun q _ h => hFc q h) hFc (fun u t H1 locs ht hvm hw hB hz1 hk1 hS => ?_)
    clear h8
    obtain ⟨hP1, hD1⟩ := hB
    rw [ht] at hP1
    have hP := hP1
    have hD := hD1.weaken (fun k q _ h => hFc q.1 h)
    generalize H1 = H at hP hS ⊢
    clear hP1 hD1 hPc hDc hFc hk1 hz1 hvm ht
    refine lv_iload_n hx hb dX7_setRank_5 rfl (lv_at hl 2 rfl) ?_
    refine lv_iconst (v := 0) hx hb dX7_setRank_6 (by decide) ?_
    refine lv_bipush (v := 9) hx hb dX7_setRank_7 (by decide) ?_
    obtain ⟨t4, e5, hF⟩ := ob hF
    rcases t4 with xz9 | t6
    · have hF : some (Sum.inl xz9) = some (.inl xc) := hF
      have hPc : va_P (dC, dI) vwCl ([] : va_W) H := fun k q h => by simp at h
      have hDc : va_D A ([] : va_W) := ⟨fun i j p q h => by simp at h, fun k q h => by simp at h⟩
      have hFc := my_free0 hS hA
      refine vx_callv (vx_runS (As := [.int a2, .int 0, .int 9]) (rest := []) ⟨hx, hb, hml, hown, hts⟩ (c_X7_needRange_x l hst dC dI cy nb (a2) (0) (9) xz9 H.size e5) (va_cwS 3 hts (gS mw_815 mw_816 mw_2 mw_817) rfl rfl rfl (by decide +kernel) ⟨Nat.le_of_ble_eq_true rfl, Nat.le_of_ble_eq_true rfl⟩) (my_preS hPc hK hDc hE hS hFc) rfl rfl hl.1 rfl (lv_room (Nat.le_of_ble_eq_true rfl)) dX7_setRank_9 ⟨Nat.le_of_ble_eq_true rfl, Nat.le_of_ble_eq_true rfl⟩) hS (fun q _ h => hFc q h) hFc (fun q _ h => hFc q h) (fun E9 ce9 q9 u9 t9 H1 locs1 ht9 hvm9 hp9 hB9 hz9 hk9 hS9 hc9 hv9 hcl9 => ?_) (fun u9 t9 H1 locs1 ht9 hvm9 hp9 _ _ _ _ => hp9.elim)
      have hZ := s4 hF
      rw [hQ]
      exact vx_out (fun x hx => (hout x hx).elim) hlocks hc9 hv9 hcl9 (fun t h1 h2 => ⟨(), trivial, ⟨hB9.trans (congrArg exn hZ), by rw [h1]; exact my_keep hP hk9⟩, hS9.F h1⟩) hS9.2.2 (Nat.le_of_ble_eq_true rfl) (Nat.le_of_ble_eq_true rfl)
    · dsimp only [tr] at hF
      have hPc : va_P (dC, dI) vwCl ([] : va_W) H := fun k q h => by simp at h
      have hDc : va_D A ([] : va_W) := ⟨fun i j p q h => by simp at h, fun k q h => by simp at h⟩
      have hFc := my_free0 hS hA
      refine va_callv (va_runS (As := [.int a2, .int 0, .int 9]) (rest := []) ⟨hx, hb, hml, hown, hts⟩ (c_X7_needRange l dC dI cy nb (a2) (0) (9) H.size e5) (va_cwS 3 hts (gS mw_815 mw_816 mw_2 mw_817) rfl rfl rfl (by decide +kernel) ⟨Nat.le_of_ble_eq_true rfl, Nat.le_of_ble_eq_true rfl⟩) (my_preS hPc hK hDc hE hS hFc) rfl rfl hl.1 rfl (lv_room (Nat.le_of_ble_eq_true rfl)) dX7_setRank_9 ⟨Nat.le_of_ble_eq_true rfl, Nat.le_of_ble_eq_true rfl⟩) hS (fun q _ h => hFc q h) hFc (fun u t H1 locs ht hvm hw hB hz1 hk1 hS => ?_)
      obtain ⟨hP1, hD1⟩ := hB
      rw [ht] at hP1
      have hP := my_keep hP hk1
      generalize H1 = H at hP hS ⊢
      clear hP1 hD1 hPc hDc hFc hk1 hz1 hvm ht
      refine lv_aload_n hx hb dX7_setRank_12 rfl (lv_at hl 0 rfl) ?_
      obtain ⟨t7, e8, hF⟩ := ob hF
      have hPc := hP
      have hDc := hD
      have hFc := my_free hD hS hA
      obtain ⟨q8, h8⟩ := wc_at (cy := cy) (ad := ad) (ks := ks) (g := g) (u := u0) (κ := .cl) hk.1 True.intro
      refine va_callv (va_runV (As := []) (rest := []) ⟨hx, hb, hml, hown, hts⟩ (c_X7_remember l dC dI cy nb ad ks g hk u0 (t7.1) (t7.2) H.size e8) (cwV 0 hts (gV mw_973 mw_974 mw_975 mw_2 mw_976) rfl rfl rfl (by decide +kernel) ⟨Nat.le_of_ble_eq_true rfl, Nat.le_of_ble_eq_true rfl⟩) (my_preV hPc hK hDc hE hS hFc (va_recv (q := (RX7, TX7, 12)) hK hP (ci := 7) (q0 := q8) rfl h8)) rfl rfl hl.1 rfl (lv_room (Nat.le_of_ble_eq_true rfl)) dX7_setRank_13 ⟨Nat.le_of_ble_eq_true rfl, Nat.le_of_ble_eq_true rfl⟩) hS (fun q _ h => hFc q h) hFc (fun u t H1 locs ht hvm hw hB hz1 hk1 hS => ?_)
      clear h8
      obtain ⟨ad9, ks10, hk11, ax12, hP1, hD1⟩ := hB
      rw [ht] at hP1
      have hP := hP1
      have hD := hD1.weaken (fun k q _ h => hFc q.1 h)
      generalize H1 = H at hP hS ⊢
      have hl : lv_has ls 4 [(0, .ref (ad9 .cl)), (1, .int a1), (2, .int a2)] := by rw [(ax12 .cl True.intro).2]; exact hl
      clear hP1 hD1 hPc hDc hFc hk1 hz1 hvm ht
      refine W.widen (k := 67) (n := 831) (by omega) (by omega) ?_
      refine lv_aload_n hx hb dX7_setRank_16 rfl (lv_at hl 0 rfl) ?_
      obtain ⟨q9, h9⟩ := wc_at (cy := cy) (ad := ad9) (ks := ks10) (g := (t7.1)) (u := (t7.2)) (κ := .cl) hk11.1 True.intro
      refine va_get (D := (dC, dI)) (ci := 7) (v := .ref (ad9 (.ln 0))) (C := RX7) (T := TX7) (N := 12) hx hb hts inlX7 hown hK hP q9 h9 rfl 0 (by decide) (hts _ mw_18) (fun _ h9 => h9) rfl dX7_setRank_17 ?_
      clear h9
      obtain ⟨q9, h9⟩ := wc_at (cy := cy) (ad := ad9) (ks := ks10) (g := (t7.1)) (u := (t7.2)) (κ := (.ln 0)) hk11.1 (Or.inl (by decide))
      refine va_get (D := (dC, dI)) (ci := 3) (v := .ref (ad9 (.ls 0))) (C := RX3) (T := TX3) (N := 17) hx hb hts inlX3 hown hK hP q9 h9 rfl 11 (by decide) (hts _ mw_697) (fun _ h9 => h9) rfl dX7_setRank_20 ?_
      clear h9
      refine lv_iload_n hx hb dX7_setRank_23 rfl (lv_at hl 1 rfl) ?_
      obtain ⟨n13, e14, hF⟩ := ob hF
      obtain ⟨q9, h9⟩ := wc_at (cy := cy) (ad := ad9) (ks := ks10) (g := (t7.1)) (u := (t7.2)) (κ := (.ls 0)) hk11.1 (Or.inl (by decide))
      refine va_aldq hx hb hK hP q9 7 h9 rfl (ix_in e14) dX7_setRank_24 ?_
      refine my_top (y := .ref (ad9 (.lo 0 n13))) (ixv (F := fun j => ad9 (.lo 0 j)) e14) ?_
      clear h9
      obtain ⟨q9, h9⟩ := wc_at (cy := cy) (ad := ad9) (ks := ks10) (g := (t7.1)) (u := (t7.2)) (κ := (.lo 0 n13)) hk11.1 ⟨(Or.inl (by decide)), (ix_lt e14)⟩
      refine va_get (D := (dC, dI)) (ci := 4) (v := .int ((t7.2) (10 + 0) (113 + 4 * n13 + 0))) (C := RX4) (T := TX4) (N := 12) hx hb hts inlX4 hown hK hP q9 h9 rfl 0 (by decide) (hts _ mw_698) (fun _ h9 => h9) rfl dX7_setRank_25 ?_
      clear h9
      refine lv_istore_n (lv' := [(3, .int ((t7.2) (10 + 0) (113 + 4 * n13 + 0))), (0, .ref (ad9 .cl)), (1, .int a1), (2, .int a2)]) hx hb dX7_setRank_28 rfl hl (by decide) rfl (fun ls hl => ?_)
      refine lv_aload_n hx hb dX7_setRank_29 rfl (lv_at hl 1 rfl) ?_
      obtain ⟨q9, h9⟩ := wc_at (cy := cy) (ad := ad9) (ks := ks10) (g := (t7.1)) (u := (t7.2)) (κ := .cl) hk11.1 True.intro
      refine va_get (D := (dC, dI)) (ci := 7) (v := .ref (ad9 (.ln 0))) (C := RX7) (T := TX7) (N := 12) hx hb hts inlX7 hown hK hP q9 h9 rfl 0 (by decide) (hts _ mw_18) (fun _ h9 => h9) rfl dX7_setRank_30 ?_
      clear h9
      obtain ⟨q9, h9⟩ := wc_at (cy := cy) (ad := ad9) (ks := ks10) (g := (t7.1)) (u := (t7.2)) (κ := (.ln 0)) hk11.1 (Or.inl (by decide))
      refine va_get (D := (dC, dI)) (ci := 3) (v := .ref (ad9 (.ls 0))) (C := RX3) (T := TX3) (N := 17) hx hb hts inlX3 hown hK hP q9 h9 rfl 11 (by decide) (hts _ mw_697) (fun _ h9 => h9) rfl dX7_setRank_33 ?_
      clear h9
      refine lv_iload_n hx hb dX7_setRank_36 rfl (lv_at hl 2 rfl) ?_
      obtain ⟨n15, e16, hF⟩ := ob hF
      obtain ⟨q9, h9⟩ := wc_at (cy := cy) (ad := ad9) (ks := ks10) (g := (t7.1)) (u := (t7.2)) (κ := (.ls 0)) hk11.1 (Or.inl (by decide))
      refine va_aldq hx hb hK hP q9 7 h9 rfl (ix_in e16) dX7_setRank_37 ?_
      refine my_top (y := .ref (ad9 (.lo 0 n15))) (ixv (F := fun j => ad9 (.lo 0 j)) e16) ?_
      clear h9
      refine lv_iload_n hx hb dX7_setRank_38 rfl (lv_at hl 3 rfl) ?_
      obtain ⟨q9, h9, ez9⟩ := wc_set (cy := cy) (ad := ad9) (ks := ks10) (g := (t7.1)) (u := (t7.2)) (κ := (.lo 0 n15)) (r := (10 + 0)) (i := (113 + 4 * n15 + 0)) (v := a2) hk11.1 ⟨(Or.inl (by decide)), (ix_lt e16)⟩ (own_lo (show 0 < 12 by decide) (ix_lt e16) (by decide)) (sf_lo_0)
      refine va_put (D := (dC, dI)) (ci := 4) (v := .int a2) (ty := .int) (C := RX4) (T := TX4) (N := 12) hx hb hts inlX4 tyX4 tyX4_ok nmX4 hown hK hP hD hS q9 h9 rfl 0 (by decide) (hts _ mw_698) (fun _ h9 => h9) rfl (by decide +kernel) rfl rfl (Nat.le_of_ble_eq_true rfl) dX7_setRank_39 (fun H locs hP hD hS => ?_)
      obtain ⟨u17, e18, hF⟩ := ob hF
      have hP : va_P (dC, dI) vwCl (WC cy ad9 ks10 (t7.1) u17) H := by rw [← pt_eq e18, ← ez9]; exact hP
      have hD : va_D A (WC cy ad9 ks10 (t7.1) u17) := by rw [← pt_eq e18, ← ez9]; exact hD
      clear ez9 h9
      refine lv_iload_n hx hb dX7_setRank_42 rfl (lv_at hl 0 rfl) ?_
      cases hF
set_option maxHeartbeats 4000000 in
set_option maxRecDepth 100000 in
theorem c_X7_setRest_y (l : Launch) (hst : l.stackTraces = false) (dC : Nat → ClassId) (dI : Nat → Nat → Nat) (cy : Nat → ClassId) (nb : Nat → Nat) (ad : CK → Nat) (ks : List CK) (g : CG) (hk : GA nb ad g ks) (u0 : RS) (a1 : Int32) (a2 : Int32) (a3 : Int32) (xc : Int32) (sz : Nat) (hF : C7_setRest g u0 a1 a2 a3 = some (.inl xc)) : vx_Met l yX7_setRest (wsg yX7_setRest cX7_setRest 6 (some .int)) ({ frames := 11, cells := 67, slots := 831, locals := 600 }) (va_Pc [.ref (ad .cl), .int a1, .int a2, .int a3] (fun U => U.heap.size = sz ∧ va_P (dC, dI) vwCl (WC cy ad ks g u0) U.heap ∧ va_K (dC, dI) vwCl (tyL cy) U ∧ va_D (fun _ => True) (WC cy ad ks g u0) ∧ GE nb (va_A (WC cy ad ks g u0) sz) U)) (va_Qi (fun (_ : Int32) (_ : Unit) => False) (fun _ _ => True) (va_A (WC cy ad ks g u0) sz)) (vx_X (fun (_ : Unit) => True) (fun E9 _ t9 => E9 = exn xc ∧ va_P (dC, dI) vwCl (WC cy ad ks g u0) t9.heap) (va_A (WC cy ad ks g u0) sz)) 67 831 (va_A (WC cy ad ks g u0) sz) := by
  refine vx_ofW (cc := cX7_setRest) (maxL := 6) (ret := (some .int)) pn_X7 rfl ?_
  intro p e s m args below meth c s₁ B hml hout hv
  obtain ⟨rfl, hsz, hP, hK, hD0, hE⟩ := hv
  have hx := B.exec
  have hb := B.bytes
  have hr := B.returns
  have hts0 := atoms_spec (ws := (wsg yX7_setRest cX7_setRest 6 (some .int))) B.pre
  have hts : ∀ w ∈ wsL_law, w.before _ s = true := fun w h => hts0 w (List.mem_cons_of_mem _ h)
  have hown : s.vm.findClass RX7 = some m.cls := by have h9 := findClass_of_methodNamed B.named; exact h9
  have hlocks := B.notSynchronized
  subst hsz
  have hD := hD0.self (sz := s.heap.size)
  generalize hAe : va_A (WC cy ad ks g u0) s.heap.size = A at hD hE ⊢
  have hA : ∀ q : Nat, s.heap.size ≤ q → A q := fun q h => by rw [← hAe]; exact Or.inr h
  have hS : va_S A s.heap s.heap [] := va_S.rf
  have hl := lv_entry ([.ref (ad .cl), .int a1, .int a2, .int a3]) (n := 6) (Nat.le_of_ble_eq_true rfl)
  rw [lg_entry_eq]
  generalize (lg_sl ([.ref (ad .cl), .int a1, .int a2, .int a3]) ++ List.replicate (6 - (lg_sl ([.ref (ad .cl), .int a1, .int a2, .int a3])).length) Slot.unset).toArray = ls at hl ⊢
  have hl : lv_has ls 6 [(0, .ref (ad .cl)), (1, .int a1), (2, .int a2), (3, .int a3)] := hl
  generalize hHe : s.heap = H at hP hS ⊢
  have hS : va_S A s.heap H [] := by rw [hHe]; exact hS
  refine my_Q (fun Qn hQ => ?_)
  simp only [C7_setRest] at hF
  refine lv_aload_n hx hb dX7_setRest_0 rfl (lv_at hl 0 rfl) ?_
  refine lv_iload_n hx hb dX7_setRest_1 rfl (lv_at hl 1 rfl) ?_
  obtain ⟨t1, e2, hF⟩ := ob hF
  rcases t1 with xz9 | t3
  · have hF : some (Sum.inl xz9) = some (.inl xc) := hF
    have hPc := hP
    have hDc := hD
    have hFc := my_free hD hS hA
    obtain ⟨q8, h8⟩ := wc_at (cy := cy) (ad := ad) (ks := ks) (g := g) (u := u0) (κ := .cl) hk.1 True.intro
    refine vx_callv (vx_runV (As := [.int a1]) (rest := []) ⟨hx, hb, hml, hown, hts⟩ (c_X7_needStation_y l hst dC dI cy nb ad ks g hk u0 (a1) xz9 H.size e2) (cwV 1 hts (gV mw_631 mw_632 mw_633 mw_2 mw_634) rfl rfl rfl (by decide +kernel) ⟨Nat.le_of_ble_eq_true rfl, Nat.le_of_ble_eq_true rfl⟩) (my_preV hPc hK hDc hE hS hFc (va_recv (q := (RX7, TX7, 12)) hK hP (ci := 7) (q0 := q8) rfl h8)) rfl rfl hl.1 rfl (lv_room (Nat.le_of_ble_eq_true rfl)) dX7_setRest_2 ⟨Nat.le_of_ble_eq_true rfl, Nat.le_of_ble_eq_true rfl⟩) hS (fun q _ h => hFc q h) hFc (fun q _ h => hFc q h) (fun E9 ce9 q9 u9 t9 H1 locs1 ht9 hvm9 hp9 hB9 hz9 hk9 hS9 hc9 hv9 hcl9 => ?_) (fun u9 t9 H1 locs1 ht9 hvm9 hp9 _ _ _ _ => hp9.elim)
    have hZ := s4 hF
    rw [hQ]
    exact vx_out (fun x hx => (hout x hx).elim) hlocks hc9 hv9 hcl9 (fun t h1 h2 => ⟨(), trivial, ⟨hB9.1.trans (congrArg exn hZ), by rw [h1, ← ht9]; exact hB9.2⟩, hS9.F h1⟩) hS9.2.2 (Nat.le_of_ble_eq_true rfl) (Nat.le_of_ble_eq_true rfl)
  · dsimp only [tr] at hF
    have hPc := hP
    have hDc := hD
    have hFc := my_free hD hS hA
    obtain ⟨q8, h8⟩ := wc_at (cy := cy) (ad := ad) (ks := ks) (g := g) (u := u0) (κ := .cl) hk.1 True.intro
    refine va_callv (va_runV (As := [.int a1]) (rest := []) ⟨hx, hb, hml, hown, hts⟩ (c_X7_needStation l dC dI cy nb ad ks g hk u0 (a1) H.size e2) (cwV 1 hts (gV mw_631 mw_632 mw_633 mw_2 mw_634) rfl rfl rfl (by decide +kernel) ⟨Nat.le_of_ble_eq_true rfl, Nat.le_of_ble_eq_true rfl⟩) (my_preV hPc hK hDc hE hS hFc (va_recv (q := (RX7, TX7, 12)) hK hP (ci := 7) (q0 := q8) rfl h8)) rfl rfl hl.1 rfl (lv_room (Nat.le_of_ble_eq_true rfl)) dX7_setRest_2 ⟨Nat.le_of_ble_eq_true rfl, Nat.le_of_ble_eq_true rfl⟩) hS (fun q _ h => hFc q h) hFc (fun u t H1 locs ht hvm hw hB hz1 hk1 hS => ?_)
    clear h8
    obtain ⟨hP1, hD1⟩ := hB
    rw [ht] at hP1
    have hP := hP1
    have hD := hD1.weaken (fun k q _ h => hFc q.1 h)
    generalize H1 = H at hP hS ⊢
    clear hP1 hD1 hPc hDc hFc hk1 hz1 hvm ht
    refine lv_iload_n hx hb dX7_setRest_5 rfl (lv_at hl 2 rfl) ?_
    refine lv_iconst (v := 0) hx hb dX7_setRest_6 (by decide) ?_
    refine lv_bipush (v := 99) hx hb dX7_setRest_7 (by decide) ?_
    obtain ⟨t4, e5, hF⟩ := ob hF
    rcases t4 with xz9 | t6
    · have hF : some (Sum.inl xz9) = some (.inl xc) := hF
      have hPc : va_P (dC, dI) vwCl ([] : va_W) H := fun k q h => by simp at h
      have hDc : va_D A ([] : va_W) := ⟨fun i j p q h => by simp at h, fun k q h => by simp at h⟩
      have hFc := my_free0 hS hA
      refine vx_callv (vx_runS (As := [.int a2, .int 0, .int 99]) (rest := []) ⟨hx, hb, hml, hown, hts⟩ (c_X7_needRange_x l hst dC dI cy nb (a2) (0) (99) xz9 H.size e5) (va_cwS 3 hts (gS mw_815 mw_816 mw_2 mw_817) rfl rfl rfl (by decide +kernel) ⟨Nat.le_of_ble_eq_true rfl, Nat.le_of_ble_eq_true rfl⟩) (my_preS hPc hK hDc hE hS hFc) rfl rfl hl.1 rfl (lv_room (Nat.le_of_ble_eq_true rfl)) dX7_setRest_9 ⟨Nat.le_of_ble_eq_true rfl, Nat.le_of_ble_eq_true rfl⟩) hS (fun q _ h => hFc q h) hFc (fun q _ h => hFc q h) (fun E9 ce9 q9 u9 t9 H1 locs1 ht9 hvm9 hp9 hB9 hz9 hk9 hS9 hc9 hv9 hcl9 => ?_) (fun u9 t9 H1 locs1 ht9 hvm9 hp9 _ _ _ _ => hp9.elim)
      have hZ := s4 hF
      rw [hQ]
      exact vx_out (fun x hx => (hout x hx).elim) hlocks hc9 hv9 hcl9 (fun t h1 h2 => ⟨(), trivial, ⟨hB9.trans (congrArg exn hZ), by rw [h1]; exact my_keep hP hk9⟩, hS9.F h1⟩) hS9.2.2 (Nat.le_of_ble_eq_true rfl) (Nat.le_of_ble_eq_true rfl)
    · dsimp only [tr] at hF
      have hPc : va_P (dC, dI) vwCl ([] : va_W) H := fun k q h => by simp at h
      have hDc : va_D A ([] : va_W) := ⟨fun i j p q h => by simp at h, fun k q h => by simp at h⟩
      have hFc := my_free0 hS hA
      refine va_callv (va_runS (As := [.int a2, .int 0, .int 99]) (rest := []) ⟨hx, hb, hml, hown, hts⟩ (c_X7_needRange l dC dI cy nb (a2) (0) (99) H.size e5) (va_cwS 3 hts (gS mw_815 mw_816 mw_2 mw_817) rfl rfl rfl (by decide +kernel) ⟨Nat.le_of_ble_eq_true rfl, Nat.le_of_ble_eq_true rfl⟩) (my_preS hPc hK hDc hE hS hFc) rfl rfl hl.1 rfl (lv_room (Nat.le_of_ble_eq_true rfl)) dX7_setRest_9 ⟨Nat.le_of_ble_eq_true rfl, Nat.le_of_ble_eq_true rfl⟩) hS (fun q _ h => hFc q h) hFc (fun u t H1 locs ht hvm hw hB hz1 hk1 hS => ?_)
      obtain ⟨hP1, hD1⟩ := hB
      rw [ht] at hP1
      have hP := my_keep hP hk1
      generalize H1 = H at hP hS ⊢
      clear hP1 hD1 hPc hDc hFc hk1 hz1 hvm ht
      refine lv_iload_n hx hb dX7_setRest_12 rfl (lv_at hl 2 rfl) ?_
      refine lv_if_le (tgt := 23) hx hb dX7_setRest_13 (by decide) (fun c7 => ?_) (fun c7 => ?_)
      · rw [if_pos c7] at hF
        refine lv_aload_n hx hb dX7_setRest_23 rfl (lv_at hl 0 rfl) ?_
        obtain ⟨t8, e9, hF⟩ := ob hF
        have hPc := hP
        have hDc := hD
        have hFc := my_free hD hS hA
        obtain ⟨q8, h8⟩ := wc_at (cy := cy) (ad := ad) (ks := ks) (g := g) (u := u0) (κ := .cl) hk.1 True.intro
        refine va_callv (va_runV (As := []) (rest := []) ⟨hx, hb, hml, hown, hts⟩ (c_X7_remember l dC dI cy nb ad ks g hk u0 (t8.1) (t8.2) H.size e9) (cwV 0 hts (gV mw_973 mw_974 mw_975 mw_2 mw_976) rfl rfl rfl (by decide +kernel) ⟨Nat.le_of_ble_eq_true rfl, Nat.le_of_ble_eq_true rfl⟩) (my_preV hPc hK hDc hE hS hFc (va_recv (q := (RX7, TX7, 12)) hK hP (ci := 7) (q0 := q8) rfl h8)) rfl rfl hl.1 rfl (lv_room (Nat.le_of_ble_eq_true rfl)) dX7_setRest_24 ⟨Nat.le_of_ble_eq_true rfl, Nat.le_of_ble_eq_true rfl⟩) hS (fun q _ h => hFc q h) hFc (fun u t H1 locs ht hvm hw hB hz1 hk1 hS => ?_)
        clear h8
        obtain ⟨ad10, ks11, hk12, ax13, hP1, hD1⟩ := hB
        rw [ht] at hP1
        have hP := hP1
        have hD := hD1.weaken (fun k q _ h => hFc q.1 h)
        generalize H1 = H at hP hS ⊢
        have hl : lv_has ls 6 [(0, .ref (ad10 .cl)), (1, .int a1), (2, .int a2), (3, .int a3)] := by rw [(ax13 .cl True.intro).2]; exact hl
        clear hP1 hD1 hPc hDc hFc hk1 hz1 hvm ht
        refine W.widen (k := 67) (n := 831) (by omega) (by omega) ?_
        refine lv_aload_n hx hb dX7_setRest_27 rfl (lv_at hl 0 rfl) ?_
        obtain ⟨q9, h9⟩ := wc_at (cy := cy) (ad := ad10) (ks := ks11) (g := (t8.1)) (u := (t8.2)) (κ := .cl) hk12.1 True.intro
        refine va_get (D := (dC, dI)) (ci := 7) (v := .ref (ad10 (.ln 0))) (C := RX7) (T := TX7) (N := 12) hx hb hts inlX7 hown hK hP q9 h9 rfl 0 (by decide) (hts _ mw_18) (fun _ h9 => h9) rfl dX7_setRest_28 ?_
        clear h9
        obtain ⟨q9, h9⟩ := wc_at (cy := cy) (ad := ad10) (ks := ks11) (g := (t8.1)) (u := (t8.2)) (κ := (.ln 0)) hk12.1 (Or.inl (by decide))
        refine va_get (D := (dC, dI)) (ci := 3) (v := .ref (ad10 (.ss 0))) (C := RX3) (T := TX3) (N := 17) hx hb hts inlX3 hown hK hP q9 h9 rfl 10 (by decide) (hts _ mw_617) (fun _ h9 => h9) rfl dX7_setRest_31 ?_
        clear h9
        refine lv_iload_n hx hb dX7_setRest_34 rfl (lv_at hl 1 rfl) ?_
        obtain ⟨n14, e15, hF⟩ := ob hF
        obtain ⟨q9, h9⟩ := wc_at (cy := cy) (ad := ad10) (ks := ks11) (g := (t8.1)) (u := (t8.2)) (κ := (.ss 0)) hk12.1 (Or.inl (by decide))
        refine va_aldq hx hb hK hP q9 6 h9 rfl (ix_in e15) dX7_setRest_35 ?_
        refine my_top (y := .ref (ad10 (.st 0 n14))) (ixv (F := fun j => ad10 (.st 0 j)) e15) ?_
        clear h9
        refine lv_astore (lv' := [(4, .ref (ad10 (.st 0 n14))), (0, .ref (ad10 .cl)), (1, .int a1), (2, .int a2), (3, .int a3)]) hx hb dX7_setRest_36 hl (by decide) rfl (fun ls hl => ?_)
        refine lv_aload hx hb dX7_setRest_38 (lv_at hl 0 rfl) ?_
        obtain ⟨q9, h9⟩ := wc_at (cy := cy) (ad := ad10) (ks := ks11) (g := (t8.1)) (u := (t8.2)) (κ := (.st 0 n14)) hk12.1 ⟨(Or.inl (by decide)), (ix_lt e15)⟩
        refine va_get (D := (dC, dI)) (ci := 6) (v := .int ((t8.2) (10 + 0) (17 + 16 * n14 + 9))) (C := RX6) (T := TX6) (N := 15) hx hb hts inlX6 hown hK hP q9 h9 rfl 11 (by decide) (hts _ mw_627) (fun _ h9 => h9) rfl dX7_setRest_40 ?_
        clear h9
        refine lv_istore (lv' := [(5, .int ((t8.2) (10 + 0) (17 + 16 * n14 + 9))), (4, .ref (ad10 (.st 0 n14))), (0, .ref (ad10 .cl)), (1, .int a1), (2, .int a2), (3, .int a3)]) hx hb dX7_setRest_43 hl (by decide) rfl (fun ls hl => ?_)
        refine lv_aload hx hb dX7_setRest_45 (lv_at hl 1 rfl) ?_
        refine lv_iload_n hx hb dX7_setRest_47 rfl (lv_at hl 4 rfl) ?_
        obtain ⟨q9, h9, ez9⟩ := wc_set (cy := cy) (ad := ad10) (ks := ks11) (g := (t8.1)) (u := (t8.2)) (κ := (.st 0 n14)) (r := (10 + 0)) (i := (17 + 16 * n14 + 9)) (v := a2) hk12.1 ⟨(Or.inl (by decide)), (ix_lt e15)⟩ (own_st (show 0 < 12 by decide) (ix_lt e15) (by decide)) (sf_st_11)
        refine va_put (D := (dC, dI)) (ci := 6) (v := .int a2) (ty := .int) (C := RX6) (T := TX6) (N := 15) hx hb hts inlX6 tyX6 tyX6_ok nmX6 hown hK hP hD hS q9 h9 rfl 11 (by decide) (hts _ mw_627) (fun _ h9 => h9) rfl (by decide +kernel) rfl rfl (Nat.le_of_ble_eq_true rfl) dX7_setRest_48 (fun H locs hP hD hS => ?_)
        obtain ⟨u16, e17, hF⟩ := ob hF
        have hP : va_P (dC, dI) vwCl (WC cy ad10 ks11 (t8.1) u16) H := by rw [← pt_eq e17, ← ez9]; exact hP
        have hD : va_D A (WC cy ad10 ks11 (t8.1) u16) := by rw [← pt_eq e17, ← ez9]; exact hD
        clear ez9 h9
        refine lv_aload hx hb dX7_setRest_51 (lv_at hl 1 rfl) ?_
        refine lv_iload_n hx hb dX7_setRest_53 rfl (lv_at hl 4 rfl) ?_
        obtain ⟨t19, hJ20, hF⟩ := ob hF
        have join21 : ∀ (H : Heap) (locs : List Loc) (ls : Array Slot), va_P (dC, dI) vwCl (WC cy ad10 ks11 (t8.1) u16) H → va_D A (WC cy ad10 ks11 (t8.1) u16) → va_S A s.heap H locs → lv_has ls 6 [(5, .int ((t8.2) (10 + 0) (17 + 16 * n14 + 9))), (4, .ref (ad10 (.st 0 n14))), (0, .ref (ad10 .cl)), (1, .int a1), (2, .int a2), (3, .int a3)] → W p l e (headSpec (wsg yX7_setRest cX7_setRest 6 (some .int)) ({ frames := 11, cells := 67, slots := 831, locals := 600 })).room s m ([.ref (ad .cl), .int a1, .int a2, .int a3] : List Value).toArray below meth c H locs 67 831 Qn (F0 m 62 ls [.int t19, .ref (ad10 (.st 0 n14))]) := by
          intro H locs ls hP hD hS hl
          obtain ⟨q9, h9, ez9⟩ := wc_set (cy := cy) (ad := ad10) (ks := ks11) (g := (t8.1)) (u := u16) (κ := (.st 0 n14)) (r := (10 + 0)) (i := (17 + 16 * n14 + 10)) (v := t19) hk12.1 ⟨(Or.inl (by decide)), (ix_lt e15)⟩ (own_st (show 0 < 12 by decide) (ix_lt e15) (by decide)) (sf_st_12)
          refine va_put (D := (dC, dI)) (ci := 6) (v := .int t19) (ty := .int) (C := RX6) (T := TX6) (N := 15) hx hb hts inlX6 tyX6 tyX6_ok nmX6 hown hK hP hD hS q9 h9 rfl 12 (by decide) (hts _ mw_628) (fun _ h9 => h9) rfl (by decide +kernel) rfl rfl (Nat.le_of_ble_eq_true rfl) dX7_setRest_62 (fun H locs hP hD hS => ?_)
          obtain ⟨u22, e23, hF⟩ := ob hF
          have hP : va_P (dC, dI) vwCl (WC cy ad10 ks11 (t8.1) u22) H := by rw [← pt_eq e23, ← ez9]; exact hP
          have hD : va_D A (WC cy ad10 ks11 (t8.1) u22) := by rw [← pt_eq e23, ← ez9]; exact hD
          clear ez9 h9
          refine lv_iload hx hb dX7_setRest_65 (lv_at hl 0 rfl) ?_
          cases hF
        clear hF
        have hF := hJ20
        clear hJ20
        refine lv_if_le (tgt := 61) hx hb dX7_setRest_54 (by decide) (fun c18 => ?_) (fun c18 => ?_)
        · rw [if_pos c18] at hF
          refine lv_iconst (v := 0) hx hb dX7_setRest_61 (by decide) ?_
          have ht := s1 hF
          subst ht
          exact join21 _ _ _ hP hD hS (lv_sub hl [0, 1, 2, 3, 4, 5] rfl)
        · rw [if_neg c18] at hF
          refine lv_iload_n hx hb dX7_setRest_57 rfl (lv_at hl 5 rfl) ?_
          refine lv_goto (tgt := 62) hx hb dX7_setRest_58 (by decide) ?_
          have ht := s1 hF
          subst ht
          exact join21 _ _ _ hP hD hS (lv_sub hl [0, 1, 2, 3, 4, 5] rfl)
      · rw [if_neg c7] at hF
        refine lv_iload_n hx hb dX7_setRest_16 rfl (lv_at hl 3 rfl) ?_
        refine lv_iconst (v := 1) hx hb dX7_setRest_17 (by decide) ?_
        refine lv_bipush (v := 99) hx hb dX7_setRest_18 (by decide) ?_
        obtain ⟨t24, e25, hF⟩ := ob hF
        rcases t24 with xz9 | t26
        · have hF : some (Sum.inl xz9) = some (.inl xc) := hF
          have hPc : va_P (dC, dI) vwCl ([] : va_W) H := fun k q h => by simp at h
          have hDc : va_D A ([] : va_W) := ⟨fun i j p q h => by simp at h, fun k q h => by simp at h⟩
          have hFc := my_free0 hS hA
          refine vx_callv (vx_runS (As := [.int a3, .int 1, .int 99]) (rest := []) ⟨hx, hb, hml, hown, hts⟩ (c_X7_needRange_x l hst dC dI cy nb (a3) (1) (99) xz9 H.size e25) (va_cwS 3 hts (gS mw_815 mw_816 mw_2 mw_817) rfl rfl rfl (by decide +kernel) ⟨Nat.le_of_ble_eq_true rfl, Nat.le_of_ble_eq_true rfl⟩) (my_preS hPc hK hDc hE hS hFc) rfl rfl hl.1 rfl (lv_room (Nat.le_of_ble_eq_true rfl)) dX7_setRest_20 ⟨Nat.le_of_ble_eq_true rfl, Nat.le_of_ble_eq_true rfl⟩) hS (fun q _ h => hFc q h) hFc (fun q _ h => hFc q h) (fun E9 ce9 q9 u9 t9 H1 locs1 ht9 hvm9 hp9 hB9 hz9 hk9 hS9 hc9 hv9 hcl9 => ?_) (fun u9 t9 H1 locs1 ht9 hvm9 hp9 _ _ _ _ => hp9.elim)
          have hZ := s4 hF
          rw [hQ]
          exact vx_out (fun x hx => (hout x hx).elim) hlocks hc9 hv9 hcl9 (fun t h1 h2 => ⟨(), trivial, ⟨hB9.trans (congrArg exn hZ), by rw [h1]; exact my_keep hP hk9⟩, hS9.F h1⟩) hS9.2.2 (Nat.le_of_ble_eq_true rfl) (Nat.le_of_ble_eq_true rfl)
        · dsimp only [tr] at hF
          have hPc : va_P (dC, dI) vwCl ([] : va_W) H := fun k q h => by simp at h
          have hDc : va_D A ([] : va_W) := ⟨fun i j p q h => by simp at h, fun k q h => by simp at h⟩
          have hFc := my_free0 hS hA
          refine va_callv (va_runS (As := [.int a3, .int 1, .int 99]) (rest := []) ⟨hx, hb, hml, hown, hts⟩ (c_X7_needRange l dC dI cy nb (a3) (1) (99) H.size e25) (va_cwS 3 hts (gS mw_815 mw_816 mw_2 mw_817) rfl rfl rfl (by decide +kernel) ⟨Nat.le_of_ble_eq_true rfl, Nat.le_of_ble_eq_true rfl⟩) (my_preS hPc hK hDc hE hS hFc) rfl rfl hl.1 rfl (lv_room (Nat.le_of_ble_eq_true rfl)) dX7_setRest_20 ⟨Nat.le_of_ble_eq_true rfl, Nat.le_of_ble_eq_true rfl⟩) hS (fun q _ h => hFc q h) hFc (fun u t H1 locs ht hvm hw hB hz1 hk1 hS => ?_)
          obtain ⟨hP1, hD1⟩ := hB
          rw [ht] at hP1
          have hP := my_keep hP hk1
          generalize H1 = H at hP hS ⊢
          clear hP1 hD1 hPc hDc hFc hk1 hz1 hvm ht
          refine lv_aload_n hx hb dX7_setRest_23 rfl (lv_at hl 0 rfl) ?_
          obtain ⟨t27, e28, hF⟩ := ob hF
          have hPc := hP
          have hDc := hD
          have hFc := my_free hD hS hA
          obtain ⟨q8, h8⟩ := wc_at (cy := cy) (ad := ad) (ks := ks) (g := g) (u := u0) (κ := .cl) hk.1 True.intro
          refine va_callv (va_runV (As := []) (rest := []) ⟨hx, hb, hml, hown, hts⟩ (c_X7_remember l dC dI cy nb ad ks g hk u0 (t27.1) (t27.2) H.size e28) (cwV 0 hts (gV mw_973 mw_974 mw_975 mw_2 mw_976) rfl rfl rfl (by decide +kernel) ⟨Nat.le_of_ble_eq_true rfl, Nat.le_of_ble_eq_true rfl⟩) (my_preV hPc hK hDc hE hS hFc (va_recv (q := (RX7, TX7, 12)) hK hP (ci := 7) (q0 := q8) rfl h8)) rfl rfl hl.1 rfl (lv_room (Nat.le_of_ble_eq_true rfl)) dX7_setRest_24 ⟨Nat.le_of_ble_eq_true rfl, Nat.le_of_ble_eq_true rfl⟩) hS (fun q _ h => hFc q h) hFc (fun u t H1 locs ht hvm hw hB hz1 hk1 hS => ?_)
          clear h8
          obtain ⟨ad29, ks30, hk31, ax32, hP1, hD1⟩ := hB
          rw [ht] at hP1
          have hP := hP1
          have hD := hD1.weaken (fun k q _ h => hFc q.1 h)
          generalize H1 = H at hP hS ⊢
          have hl : lv_has ls 6 [(0, .ref (ad29 .cl)), (1, .int a1), (2, .int a2), (3, .int a3)] := by rw [(ax32 .cl True.intro).2]; exact hl
          clear hP1 hD1 hPc hDc hFc hk1 hz1 hvm ht
          refine W.widen (k := 67) (n := 831) (by omega) (by omega) ?_
          refine lv_aload_n hx hb dX7_setRest_27 rfl (lv_at hl 0 rfl) ?_
          obtain ⟨q9, h9⟩ := wc_at (cy := cy) (ad := ad29) (ks := ks30) (g := (t27.1)) (u := (t27.2)) (κ := .cl) hk31.1 True.intro
          refine va_get (D := (dC, dI)) (ci := 7) (v := .ref (ad29 (.ln 0))) (C := RX7) (T := TX7) (N := 12) hx hb hts inlX7 hown hK hP q9 h9 rfl 0 (by decide) (hts _ mw_18) (fun _ h9 => h9) rfl dX7_setRest_28 ?_
          clear h9
          obtain ⟨q9, h9⟩ := wc_at (cy := cy) (ad := ad29) (ks := ks30) (g := (t27.1)) (u := (t27.2)) (κ := (.ln 0)) hk31.1 (Or.inl (by decide))
          refine va_get (D := (dC, dI)) (ci := 3) (v := .ref (ad29 (.ss 0))) (C := RX3) (T := TX3) (N := 17) hx hb hts inlX3 hown hK hP q9 h9 rfl 10 (by decide) (hts _ mw_617) (fun _ h9 => h9) rfl dX7_setRest_31 ?_
          clear h9
          refine lv_iload_n hx hb dX7_setRest_34 rfl (lv_at hl 1 rfl) ?_
          obtain ⟨n33, e34, hF⟩ := ob hF
          obtain ⟨q9, h9⟩ := wc_at (cy := cy) (ad := ad29) (ks := ks30) (g := (t27.1)) (u := (t27.2)) (κ := (.ss 0)) hk31.1 (Or.inl (by decide))
          refine va_aldq hx hb hK hP q9 6 h9 rfl (ix_in e34) dX7_setRest_35 ?_
          refine my_top (y := .ref (ad29 (.st 0 n33))) (ixv (F := fun j => ad29 (.st 0 j)) e34) ?_
          clear h9
          refine lv_astore (lv' := [(4, .ref (ad29 (.st 0 n33))), (0, .ref (ad29 .cl)), (1, .int a1), (2, .int a2), (3, .int a3)]) hx hb dX7_setRest_36 hl (by decide) rfl (fun ls hl => ?_)
          refine lv_aload hx hb dX7_setRest_38 (lv_at hl 0 rfl) ?_
          obtain ⟨q9, h9⟩ := wc_at (cy := cy) (ad := ad29) (ks := ks30) (g := (t27.1)) (u := (t27.2)) (κ := (.st 0 n33)) hk31.1 ⟨(Or.inl (by decide)), (ix_lt e34)⟩
          refine va_get (D := (dC, dI)) (ci := 6) (v := .int ((t27.2) (10 + 0) (17 + 16 * n33 + 9))) (C := RX6) (T := TX6) (N := 15) hx hb hts inlX6 hown hK hP q9 h9 rfl 11 (by decide) (hts _ mw_627) (fun _ h9 => h9) rfl dX7_setRest_40 ?_
          clear h9
          refine lv_istore (lv' := [(5, .int ((t27.2) (10 + 0) (17 + 16 * n33 + 9))), (4, .ref (ad29 (.st 0 n33))), (0, .ref (ad29 .cl)), (1, .int a1), (2, .int a2), (3, .int a3)]) hx hb dX7_setRest_43 hl (by decide) rfl (fun ls hl => ?_)
          refine lv_aload hx hb dX7_setRest_45 (lv_at hl 1 rfl) ?_
          refine lv_iload_n hx hb dX7_setRest_47 rfl (lv_at hl 4 rfl) ?_
          obtain ⟨q9, h9, ez9⟩ := wc_set (cy := cy) (ad := ad29) (ks := ks30) (g := (t27.1)) (u := (t27.2)) (κ := (.st 0 n33)) (r := (10 + 0)) (i := (17 + 16 * n33 + 9)) (v := a2) hk31.1 ⟨(Or.inl (by decide)), (ix_lt e34)⟩ (own_st (show 0 < 12 by decide) (ix_lt e34) (by decide)) (sf_st_11)
          refine va_put (D := (dC, dI)) (ci := 6) (v := .int a2) (ty := .int) (C := RX6) (T := TX6) (N := 15) hx hb hts inlX6 tyX6 tyX6_ok nmX6 hown hK hP hD hS q9 h9 rfl 11 (by decide) (hts _ mw_627) (fun _ h9 => h9) rfl (by decide +kernel) rfl rfl (Nat.le_of_ble_eq_true rfl) dX7_setRest_48 (fun H locs hP hD hS => ?_)
          obtain ⟨u35, e36, hF⟩ := ob hF
          have hP : va_P (dC, dI) vwCl (WC cy ad29 ks30 (t27.1) u35) H := by rw [← pt_eq e36, ← ez9]; exact hP
          have hD : va_D A (WC cy ad29 ks30 (t27.1) u35) := by rw [← pt_eq e36, ← ez9]; exact hD
          clear ez9 h9
          refine lv_aload hx hb dX7_setRest_51 (lv_at hl 1 rfl) ?_
          refine lv_iload_n hx hb dX7_setRest_53 rfl (lv_at hl 4 rfl) ?_
          obtain ⟨t38, hJ39, hF⟩ := ob hF
          have join40 : ∀ (H : Heap) (locs : List Loc) (ls : Array Slot), va_P (dC, dI) vwCl (WC cy ad29 ks30 (t27.1) u35) H → va_D A (WC cy ad29 ks30 (t27.1) u35) → va_S A s.heap H locs → lv_has ls 6 [(5, .int ((t27.2) (10 + 0) (17 + 16 * n33 + 9))), (4, .ref (ad29 (.st 0 n33))), (0, .ref (ad29 .cl)), (1, .int a1), (2, .int a2), (3, .int a3)] → W p l e (headSpec (wsg yX7_setRest cX7_setRest 6 (some .int)) ({ frames := 11, cells := 67, slots := 831, locals := 600 })).room s m ([.ref (ad .cl), .int a1, .int a2, .int a3] : List Value).toArray below meth c H locs 67 831 Qn (F0 m 62 ls [.int t38, .ref (ad29 (.st 0 n33))]) := by
            intro H locs ls hP hD hS hl
            obtain ⟨q9, h9, ez9⟩ := wc_set (cy := cy) (ad := ad29) (ks := ks30) (g := (t27.1)) (u := u35) (κ := (.st 0 n33)) (r := (10 + 0)) (i := (17 + 16 * n33 + 10)) (v := t38) hk31.1 ⟨(Or.inl (by decide)), (ix_lt e34)⟩ (own_st (show 0 < 12 by decide) (ix_lt e34) (by decide)) (sf_st_12)
            refine va_put (D := (dC, dI)) (ci := 6) (v := .int t38) (ty := .int) (C := RX6) (T := TX6) (N := 15) hx hb hts inlX6 tyX6 tyX6_ok nmX6 hown hK hP hD hS q9 h9 rfl 12 (by decide) (hts _ mw_628) (fun _ h9 => h9) rfl (by decide +kernel) rfl rfl (Nat.le_of_ble_eq_true rfl) dX7_setRest_62 (fun H locs hP hD hS => ?_)
            obtain ⟨u41, e42, hF⟩ := ob hF
            have hP : va_P (dC, dI) vwCl (WC cy ad29 ks30 (t27.1) u41) H := by rw [← pt_eq e42, ← ez9]; exact hP
            have hD : va_D A (WC cy ad29 ks30 (t27.1) u41) := by rw [← pt_eq e42, ← ez9]; exact hD
            clear ez9 h9
            refine lv_iload hx hb dX7_setRest_65 (lv_at hl 0 rfl) ?_
            cases hF
          clear hF
          have hF := hJ39
          clear hJ39
          refine lv_if_le (tgt := 61) hx hb dX7_setRest_54 (by decide) (fun c37 => ?_) (fun c37 => ?_)
          · rw [if_pos c37] at hF
            refine lv_iconst (v := 0) hx hb dX7_setRest_61 (by decide) ?_
            have ht := s1 hF
            subst ht
            exact join40 _ _ _ hP hD hS (lv_sub hl [0, 1, 2, 3, 4, 5] rfl)
          · rw [if_neg c37] at hF
            refine lv_iload_n hx hb dX7_setRest_57 rfl (lv_at hl 5 rfl) ?_
            refine lv_goto (tgt := 62) hx hb dX7_setRest_58 (by decide) ?_
            have ht := s1 hF
            subst ht
            exact join40 _ _ _ hP hD hS (lv_sub hl [0, 1, 2, 3, 4, 5] rfl)
set_option maxHeartbeats 4000000 in
set_option maxRecDepth 100000 in
theorem c_X7_setTray_y (l : Launch) (hst : l.stackTraces = false) (dC : Nat → ClassId) (dI : Nat → Nat → Nat) (cy : Nat → ClassId) (nb : Nat → Nat) (ad : CK → Nat) (ks : List CK) (g : CG) (hk : GA nb ad g ks) (u0 : RS) (a1 : Int32) (xc : Int32) (sz : Nat) (hF : C7_setTray g u0 a1 = some (.inl xc)) : vx_Met l yX7_setTray (wsg yX7_setTray cX7_setTray 3 (some .int)) ({ frames := 11, cells := 67, slots := 831, locals := 600 }) (va_Pc [.ref (ad .cl), .int a1] (fun U => U.heap.size = sz ∧ va_P (dC, dI) vwCl (WC cy ad ks g u0) U.heap ∧ va_K (dC, dI) vwCl (tyL cy) U ∧ va_D (fun _ => True) (WC cy ad ks g u0) ∧ GE nb (va_A (WC cy ad ks g u0) sz) U)) (va_Qi (fun (_ : Int32) (_ : Unit) => False) (fun _ _ => True) (va_A (WC cy ad ks g u0) sz)) (vx_X (fun (_ : Unit) => True) (fun E9 _ t9 => E9 = exn xc ∧ va_P (dC, dI) vwCl (WC cy ad ks g u0) t9.heap) (va_A (WC cy ad ks g u0) sz)) 67 831 (va_A (WC cy ad ks g u0) sz) := by
  refine vx_ofW (cc := cX7_setTray) (maxL := 3) (ret := (some .int)) pn_X7 rfl ?_
  intro p e s m args below meth c s₁ B hml hout hv
  obtain ⟨rfl, hsz, hP, hK, hD0, hE⟩ := hv
  have hx := B.exec
  have hb := B.bytes
  have hr := B.returns
  have hts0 := atoms_spec (ws := (wsg yX7_setTray cX7_setTray 3 (some .int))) B.pre
  have hts : ∀ w ∈ wsL_law, w.before _ s = true := fun w h => hts0 w (List.mem_cons_of_mem _ h)
  have hown : s.vm.findClass RX7 = some m.cls := by have h9 := findClass_of_methodNamed B.named; exact h9
  have hlocks := B.notSynchronized
  subst hsz
  have hD := hD0.self (sz := s.heap.size)
  generalize hAe : va_A (WC cy ad ks g u0) s.heap.size = A at hD hE ⊢
  have hA : ∀ q : Nat, s.heap.size ≤ q → A q := fun q h => by rw [← hAe]; exact Or.inr h
  have hS : va_S A s.heap s.heap [] := va_S.rf
  have hl := lv_entry ([.ref (ad .cl), .int a1]) (n := 3) (Nat.le_of_ble_eq_true rfl)
  rw [lg_entry_eq]
  generalize (lg_sl ([.ref (ad .cl), .int a1]) ++ List.replicate (3 - (lg_sl ([.ref (ad .cl), .int a1])).length) Slot.unset).toArray = ls at hl ⊢
  have hl : lv_has ls 3 [(0, .ref (ad .cl)), (1, .int a1)] := hl
  generalize hHe : s.heap = H at hP hS ⊢
  have hS : va_S A s.heap H [] := by rw [hHe]; exact hS
  refine my_Q (fun Qn hQ => ?_)
  simp only [C7_setTray] at hF
  refine lv_iload_n hx hb dX7_setTray_0 rfl (lv_at hl 1 rfl) ?_
  refine lv_iconst (v := 1) hx hb dX7_setTray_1 (by decide) ?_
  refine lv_bipush (v := 20) hx hb dX7_setTray_2 (by decide) ?_
  obtain ⟨t1, e2, hF⟩ := ob hF
  rcases t1 with xz9 | t3
  · have hF : some (Sum.inl xz9) = some (.inl xc) := hF
    have hPc : va_P (dC, dI) vwCl ([] : va_W) H := fun k q h => by simp at h
    have hDc : va_D A ([] : va_W) := ⟨fun i j p q h => by simp at h, fun k q h => by simp at h⟩
    have hFc := my_free0 hS hA
    refine vx_callv (vx_runS (As := [.int a1, .int 1, .int 20]) (rest := []) ⟨hx, hb, hml, hown, hts⟩ (c_X7_needRange_x l hst dC dI cy nb (a1) (1) (20) xz9 H.size e2) (va_cwS 3 hts (gS mw_815 mw_816 mw_2 mw_817) rfl rfl rfl (by decide +kernel) ⟨Nat.le_of_ble_eq_true rfl, Nat.le_of_ble_eq_true rfl⟩) (my_preS hPc hK hDc hE hS hFc) rfl rfl hl.1 rfl (lv_room (Nat.le_of_ble_eq_true rfl)) dX7_setTray_4 ⟨Nat.le_of_ble_eq_true rfl, Nat.le_of_ble_eq_true rfl⟩) hS (fun q _ h => hFc q h) hFc (fun q _ h => hFc q h) (fun E9 ce9 q9 u9 t9 H1 locs1 ht9 hvm9 hp9 hB9 hz9 hk9 hS9 hc9 hv9 hcl9 => ?_) (fun u9 t9 H1 locs1 ht9 hvm9 hp9 _ _ _ _ => hp9.elim)
    have hZ := s4 hF
    rw [hQ]
    exact vx_out (fun x hx => (hout x hx).elim) hlocks hc9 hv9 hcl9 (fun t h1 h2 => ⟨(), trivial, ⟨hB9.trans (congrArg exn hZ), by rw [h1]; exact my_keep hP hk9⟩, hS9.F h1⟩) hS9.2.2 (Nat.le_of_ble_eq_true rfl) (Nat.le_of_ble_eq_true rfl)
  · dsimp only [tr] at hF
    have hPc : va_P (dC, dI) vwCl ([] : va_W) H := fun k q h => by simp at h
    have hDc : va_D A ([] : va_W) := ⟨fun i j p q h => by simp at h, fun k q h => by simp at h⟩
    have hFc := my_free0 hS hA
    refine va_callv (va_runS (As := [.int a1, .int 1, .int 20]) (rest := []) ⟨hx, hb, hml, hown, hts⟩ (c_X7_needRange l dC dI cy nb (a1) (1) (20) H.size e2) (va_cwS 3 hts (gS mw_815 mw_816 mw_2 mw_817) rfl rfl rfl (by decide +kernel) ⟨Nat.le_of_ble_eq_true rfl, Nat.le_of_ble_eq_true rfl⟩) (my_preS hPc hK hDc hE hS hFc) rfl rfl hl.1 rfl (lv_room (Nat.le_of_ble_eq_true rfl)) dX7_setTray_4 ⟨Nat.le_of_ble_eq_true rfl, Nat.le_of_ble_eq_true rfl⟩) hS (fun q _ h => hFc q h) hFc (fun u t H1 locs ht hvm hw hB hz1 hk1 hS => ?_)
    obtain ⟨hP1, hD1⟩ := hB
    rw [ht] at hP1
    have hP := my_keep hP hk1
    generalize H1 = H at hP hS ⊢
    clear hP1 hD1 hPc hDc hFc hk1 hz1 hvm ht
    refine lv_aload_n hx hb dX7_setTray_7 rfl (lv_at hl 0 rfl) ?_
    obtain ⟨t4, e5, hF⟩ := ob hF
    have hPc := hP
    have hDc := hD
    have hFc := my_free hD hS hA
    obtain ⟨q8, h8⟩ := wc_at (cy := cy) (ad := ad) (ks := ks) (g := g) (u := u0) (κ := .cl) hk.1 True.intro
    refine va_callv (va_runV (As := []) (rest := []) ⟨hx, hb, hml, hown, hts⟩ (c_X7_remember l dC dI cy nb ad ks g hk u0 (t4.1) (t4.2) H.size e5) (cwV 0 hts (gV mw_973 mw_974 mw_975 mw_2 mw_976) rfl rfl rfl (by decide +kernel) ⟨Nat.le_of_ble_eq_true rfl, Nat.le_of_ble_eq_true rfl⟩) (my_preV hPc hK hDc hE hS hFc (va_recv (q := (RX7, TX7, 12)) hK hP (ci := 7) (q0 := q8) rfl h8)) rfl rfl hl.1 rfl (lv_room (Nat.le_of_ble_eq_true rfl)) dX7_setTray_8 ⟨Nat.le_of_ble_eq_true rfl, Nat.le_of_ble_eq_true rfl⟩) hS (fun q _ h => hFc q h) hFc (fun u t H1 locs ht hvm hw hB hz1 hk1 hS => ?_)
    clear h8
    obtain ⟨ad6, ks7, hk8, ax9, hP1, hD1⟩ := hB
    rw [ht] at hP1
    have hP := hP1
    have hD := hD1.weaken (fun k q _ h => hFc q.1 h)
    generalize H1 = H at hP hS ⊢
    have hl : lv_has ls 3 [(0, .ref (ad6 .cl)), (1, .int a1)] := by rw [(ax9 .cl True.intro).2]; exact hl
    clear hP1 hD1 hPc hDc hFc hk1 hz1 hvm ht
    refine W.widen (k := 67) (n := 831) (by omega) (by omega) ?_
    refine lv_aload_n hx hb dX7_setTray_11 rfl (lv_at hl 0 rfl) ?_
    obtain ⟨q9, h9⟩ := wc_at (cy := cy) (ad := ad6) (ks := ks7) (g := (t4.1)) (u := (t4.2)) (κ := .cl) hk8.1 True.intro
    refine va_get (D := (dC, dI)) (ci := 7) (v := .ref (ad6 (.ln 0))) (C := RX7) (T := TX7) (N := 12) hx hb hts inlX7 hown hK hP q9 h9 rfl 0 (by decide) (hts _ mw_18) (fun _ h9 => h9) rfl dX7_setTray_12 ?_
    clear h9
    obtain ⟨q9, h9⟩ := wc_at (cy := cy) (ad := ad6) (ks := ks7) (g := (t4.1)) (u := (t4.2)) (κ := (.ln 0)) hk8.1 (Or.inl (by decide))
    refine va_get (D := (dC, dI)) (ci := 3) (v := .int ((t4.2) (10 + 0) 1)) (C := RX3) (T := TX3) (N := 17) hx hb hts inlX3 hown hK hP q9 h9 rfl 1 (by decide) (hts _ mw_600) (fun _ h9 => h9) rfl dX7_setTray_15 ?_
    clear h9
    refine lv_istore_n (lv' := [(2, .int ((t4.2) (10 + 0) 1)), (0, .ref (ad6 .cl)), (1, .int a1)]) hx hb dX7_setTray_18 rfl hl (by decide) rfl (fun ls hl => ?_)
    refine lv_aload_n hx hb dX7_setTray_19 rfl (lv_at hl 1 rfl) ?_
    obtain ⟨q9, h9⟩ := wc_at (cy := cy) (ad := ad6) (ks := ks7) (g := (t4.1)) (u := (t4.2)) (κ := .cl) hk8.1 True.intro
    refine va_get (D := (dC, dI)) (ci := 7) (v := .ref (ad6 (.ln 0))) (C := RX7) (T := TX7) (N := 12) hx hb hts inlX7 hown hK hP q9 h9 rfl 0 (by decide) (hts _ mw_18) (fun _ h9 => h9) rfl dX7_setTray_20 ?_
    clear h9
    refine lv_iload_n hx hb dX7_setTray_23 rfl (lv_at hl 2 rfl) ?_
    obtain ⟨q9, h9, ez9⟩ := wc_set (cy := cy) (ad := ad6) (ks := ks7) (g := (t4.1)) (u := (t4.2)) (κ := (.ln 0)) (r := (10 + 0)) (i := 1) (v := a1) hk8.1 (Or.inl (by decide)) (own_ln (show 0 < 12 by decide) (by decide)) (sf_ln_1)
    refine va_put (D := (dC, dI)) (ci := 3) (v := .int a1) (ty := .int) (C := RX3) (T := TX3) (N := 17) hx hb hts inlX3 tyX3 tyX3_ok nmX3 hown hK hP hD hS q9 h9 rfl 1 (by decide) (hts _ mw_600) (fun _ h9 => h9) rfl (by decide +kernel) rfl rfl (Nat.le_of_ble_eq_true rfl) dX7_setTray_24 (fun H locs hP hD hS => ?_)
    obtain ⟨u10, e11, hF⟩ := ob hF
    have hP : va_P (dC, dI) vwCl (WC cy ad6 ks7 (t4.1) u10) H := by rw [← pt_eq e11, ← ez9]; exact hP
    have hD : va_D A (WC cy ad6 ks7 (t4.1) u10) := by rw [← pt_eq e11, ← ez9]; exact hD
    clear ez9 h9
    refine lv_iload_n hx hb dX7_setTray_27 rfl (lv_at hl 0 rfl) ?_
    cases hF
set_option maxHeartbeats 4000000 in
set_option maxRecDepth 100000 in
theorem c_X7_setTries_y (l : Launch) (hst : l.stackTraces = false) (dC : Nat → ClassId) (dI : Nat → Nat → Nat) (cy : Nat → ClassId) (nb : Nat → Nat) (ad : CK → Nat) (ks : List CK) (g : CG) (hk : GA nb ad g ks) (u0 : RS) (a1 : Int32) (xc : Int32) (sz : Nat) (hF : C7_setTries g u0 a1 = some (.inl xc)) : vx_Met l yX7_setTries (wsg yX7_setTries cX7_setTries 3 (some .int)) ({ frames := 11, cells := 67, slots := 831, locals := 600 }) (va_Pc [.ref (ad .cl), .int a1] (fun U => U.heap.size = sz ∧ va_P (dC, dI) vwCl (WC cy ad ks g u0) U.heap ∧ va_K (dC, dI) vwCl (tyL cy) U ∧ va_D (fun _ => True) (WC cy ad ks g u0) ∧ GE nb (va_A (WC cy ad ks g u0) sz) U)) (va_Qi (fun (_ : Int32) (_ : Unit) => False) (fun _ _ => True) (va_A (WC cy ad ks g u0) sz)) (vx_X (fun (_ : Unit) => True) (fun E9 _ t9 => E9 = exn xc ∧ va_P (dC, dI) vwCl (WC cy ad ks g u0) t9.heap) (va_A (WC cy ad ks g u0) sz)) 67 831 (va_A (WC cy ad ks g u0) sz) := by
  refine vx_ofW (cc := cX7_setTries) (maxL := 3) (ret := (some .int)) pn_X7 rfl ?_
  intro p e s m args below meth c s₁ B hml hout hv
  obtain ⟨rfl, hsz, hP, hK, hD0, hE⟩ := hv
  have hx := B.exec
  have hb := B.bytes
  have hr := B.returns
  have hts0 := atoms_spec (ws := (wsg yX7_setTries cX7_setTries 3 (some .int))) B.pre
  have hts : ∀ w ∈ wsL_law, w.before _ s = true := fun w h => hts0 w (List.mem_cons_of_mem _ h)
  have hown : s.vm.findClass RX7 = some m.cls := by have h9 := findClass_of_methodNamed B.named; exact h9
  have hlocks := B.notSynchronized
  subst hsz
  have hD := hD0.self (sz := s.heap.size)
  generalize hAe : va_A (WC cy ad ks g u0) s.heap.size = A at hD hE ⊢
  have hA : ∀ q : Nat, s.heap.size ≤ q → A q := fun q h => by rw [← hAe]; exact Or.inr h
  have hS : va_S A s.heap s.heap [] := va_S.rf
  have hl := lv_entry ([.ref (ad .cl), .int a1]) (n := 3) (Nat.le_of_ble_eq_true rfl)
  rw [lg_entry_eq]
  generalize (lg_sl ([.ref (ad .cl), .int a1]) ++ List.replicate (3 - (lg_sl ([.ref (ad .cl), .int a1])).length) Slot.unset).toArray = ls at hl ⊢
  have hl : lv_has ls 3 [(0, .ref (ad .cl)), (1, .int a1)] := hl
  generalize hHe : s.heap = H at hP hS ⊢
  have hS : va_S A s.heap H [] := by rw [hHe]; exact hS
  refine my_Q (fun Qn hQ => ?_)
  simp only [C7_setTries] at hF
  refine lv_iload_n hx hb dX7_setTries_0 rfl (lv_at hl 1 rfl) ?_
  refine lv_iconst (v := 1) hx hb dX7_setTries_1 (by decide) ?_
  refine lv_bipush (v := 9) hx hb dX7_setTries_2 (by decide) ?_
  obtain ⟨t1, e2, hF⟩ := ob hF
  rcases t1 with xz9 | t3
  · have hF : some (Sum.inl xz9) = some (.inl xc) := hF
    have hPc : va_P (dC, dI) vwCl ([] : va_W) H := fun k q h => by simp at h
    have hDc : va_D A ([] : va_W) := ⟨fun i j p q h => by simp at h, fun k q h => by simp at h⟩
    have hFc := my_free0 hS hA
    refine vx_callv (vx_runS (As := [.int a1, .int 1, .int 9]) (rest := []) ⟨hx, hb, hml, hown, hts⟩ (c_X7_needRange_x l hst dC dI cy nb (a1) (1) (9) xz9 H.size e2) (va_cwS 3 hts (gS mw_815 mw_816 mw_2 mw_817) rfl rfl rfl (by decide +kernel) ⟨Nat.le_of_ble_eq_true rfl, Nat.le_of_ble_eq_true rfl⟩) (my_preS hPc hK hDc hE hS hFc) rfl rfl hl.1 rfl (lv_room (Nat.le_of_ble_eq_true rfl)) dX7_setTries_4 ⟨Nat.le_of_ble_eq_true rfl, Nat.le_of_ble_eq_true rfl⟩) hS (fun q _ h => hFc q h) hFc (fun q _ h => hFc q h) (fun E9 ce9 q9 u9 t9 H1 locs1 ht9 hvm9 hp9 hB9 hz9 hk9 hS9 hc9 hv9 hcl9 => ?_) (fun u9 t9 H1 locs1 ht9 hvm9 hp9 _ _ _ _ => hp9.elim)
    have hZ := s4 hF
    rw [hQ]
    exact vx_out (fun x hx => (hout x hx).elim) hlocks hc9 hv9 hcl9 (fun t h1 h2 => ⟨(), trivial, ⟨hB9.trans (congrArg exn hZ), by rw [h1]; exact my_keep hP hk9⟩, hS9.F h1⟩) hS9.2.2 (Nat.le_of_ble_eq_true rfl) (Nat.le_of_ble_eq_true rfl)
  · dsimp only [tr] at hF
    have hPc : va_P (dC, dI) vwCl ([] : va_W) H := fun k q h => by simp at h
    have hDc : va_D A ([] : va_W) := ⟨fun i j p q h => by simp at h, fun k q h => by simp at h⟩
    have hFc := my_free0 hS hA
    refine va_callv (va_runS (As := [.int a1, .int 1, .int 9]) (rest := []) ⟨hx, hb, hml, hown, hts⟩ (c_X7_needRange l dC dI cy nb (a1) (1) (9) H.size e2) (va_cwS 3 hts (gS mw_815 mw_816 mw_2 mw_817) rfl rfl rfl (by decide +kernel) ⟨Nat.le_of_ble_eq_true rfl, Nat.le_of_ble_eq_true rfl⟩) (my_preS hPc hK hDc hE hS hFc) rfl rfl hl.1 rfl (lv_room (Nat.le_of_ble_eq_true rfl)) dX7_setTries_4 ⟨Nat.le_of_ble_eq_true rfl, Nat.le_of_ble_eq_true rfl⟩) hS (fun q _ h => hFc q h) hFc (fun u t H1 locs ht hvm hw hB hz1 hk1 hS => ?_)
    obtain ⟨hP1, hD1⟩ := hB
    rw [ht] at hP1
    have hP := my_keep hP hk1
    generalize H1 = H at hP hS ⊢
    clear hP1 hD1 hPc hDc hFc hk1 hz1 hvm ht
    refine lv_aload_n hx hb dX7_setTries_7 rfl (lv_at hl 0 rfl) ?_
    obtain ⟨t4, e5, hF⟩ := ob hF
    have hPc := hP
    have hDc := hD
    have hFc := my_free hD hS hA
    obtain ⟨q8, h8⟩ := wc_at (cy := cy) (ad := ad) (ks := ks) (g := g) (u := u0) (κ := .cl) hk.1 True.intro
    refine va_callv (va_runV (As := []) (rest := []) ⟨hx, hb, hml, hown, hts⟩ (c_X7_remember l dC dI cy nb ad ks g hk u0 (t4.1) (t4.2) H.size e5) (cwV 0 hts (gV mw_973 mw_974 mw_975 mw_2 mw_976) rfl rfl rfl (by decide +kernel) ⟨Nat.le_of_ble_eq_true rfl, Nat.le_of_ble_eq_true rfl⟩) (my_preV hPc hK hDc hE hS hFc (va_recv (q := (RX7, TX7, 12)) hK hP (ci := 7) (q0 := q8) rfl h8)) rfl rfl hl.1 rfl (lv_room (Nat.le_of_ble_eq_true rfl)) dX7_setTries_8 ⟨Nat.le_of_ble_eq_true rfl, Nat.le_of_ble_eq_true rfl⟩) hS (fun q _ h => hFc q h) hFc (fun u t H1 locs ht hvm hw hB hz1 hk1 hS => ?_)
    clear h8
    obtain ⟨ad6, ks7, hk8, ax9, hP1, hD1⟩ := hB
    rw [ht] at hP1
    have hP := hP1
    have hD := hD1.weaken (fun k q _ h => hFc q.1 h)
    generalize H1 = H at hP hS ⊢
    have hl : lv_has ls 3 [(0, .ref (ad6 .cl)), (1, .int a1)] := by rw [(ax9 .cl True.intro).2]; exact hl
    clear hP1 hD1 hPc hDc hFc hk1 hz1 hvm ht
    refine W.widen (k := 67) (n := 831) (by omega) (by omega) ?_
    refine lv_aload_n hx hb dX7_setTries_11 rfl (lv_at hl 0 rfl) ?_
    obtain ⟨q9, h9⟩ := wc_at (cy := cy) (ad := ad6) (ks := ks7) (g := (t4.1)) (u := (t4.2)) (κ := .cl) hk8.1 True.intro
    refine va_get (D := (dC, dI)) (ci := 7) (v := .ref (ad6 (.ln 0))) (C := RX7) (T := TX7) (N := 12) hx hb hts inlX7 hown hK hP q9 h9 rfl 0 (by decide) (hts _ mw_18) (fun _ h9 => h9) rfl dX7_setTries_12 ?_
    clear h9
    obtain ⟨q9, h9⟩ := wc_at (cy := cy) (ad := ad6) (ks := ks7) (g := (t4.1)) (u := (t4.2)) (κ := (.ln 0)) hk8.1 (Or.inl (by decide))
    refine va_get (D := (dC, dI)) (ci := 3) (v := .int ((t4.2) (10 + 0) 2)) (C := RX3) (T := TX3) (N := 17) hx hb hts inlX3 hown hK hP q9 h9 rfl 2 (by decide) (hts _ mw_601) (fun _ h9 => h9) rfl dX7_setTries_15 ?_
    clear h9
    refine lv_istore_n (lv' := [(2, .int ((t4.2) (10 + 0) 2)), (0, .ref (ad6 .cl)), (1, .int a1)]) hx hb dX7_setTries_18 rfl hl (by decide) rfl (fun ls hl => ?_)
    refine lv_aload_n hx hb dX7_setTries_19 rfl (lv_at hl 1 rfl) ?_
    obtain ⟨q9, h9⟩ := wc_at (cy := cy) (ad := ad6) (ks := ks7) (g := (t4.1)) (u := (t4.2)) (κ := .cl) hk8.1 True.intro
    refine va_get (D := (dC, dI)) (ci := 7) (v := .ref (ad6 (.ln 0))) (C := RX7) (T := TX7) (N := 12) hx hb hts inlX7 hown hK hP q9 h9 rfl 0 (by decide) (hts _ mw_18) (fun _ h9 => h9) rfl dX7_setTries_20 ?_
    clear h9
    refine lv_iload_n hx hb dX7_setTries_23 rfl (lv_at hl 2 rfl) ?_
    obtain ⟨q9, h9, ez9⟩ := wc_set (cy := cy) (ad := ad6) (ks := ks7) (g := (t4.1)) (u := (t4.2)) (κ := (.ln 0)) (r := (10 + 0)) (i := 2) (v := a1) hk8.1 (Or.inl (by decide)) (own_ln (show 0 < 12 by decide) (by decide)) (sf_ln_2)
    refine va_put (D := (dC, dI)) (ci := 3) (v := .int a1) (ty := .int) (C := RX3) (T := TX3) (N := 17) hx hb hts inlX3 tyX3 tyX3_ok nmX3 hown hK hP hD hS q9 h9 rfl 2 (by decide) (hts _ mw_601) (fun _ h9 => h9) rfl (by decide +kernel) rfl rfl (Nat.le_of_ble_eq_true rfl) dX7_setTries_24 (fun H locs hP hD hS => ?_)
    obtain ⟨u10, e11, hF⟩ := ob hF
    have hP : va_P (dC, dI) vwCl (WC cy ad6 ks7 (t4.1) u10) H := by rw [← pt_eq e11, ← ez9]; exact hP
    have hD : va_D A (WC cy ad6 ks7 (t4.1) u10) := by rw [← pt_eq e11, ← ez9]; exact hD
    clear ez9 h9
    refine lv_iload_n hx hb dX7_setTries_27 rfl (lv_at hl 0 rfl) ?_
    cases hF
set_option maxHeartbeats 4000000 in
set_option maxRecDepth 100000 in
theorem c_X7_setting_y (l : Launch) (hst : l.stackTraces = false) (dC : Nat → ClassId) (dI : Nat → Nat → Nat) (cy : Nat → ClassId) (nb : Nat → Nat) (ad : CK → Nat) (ks : List CK) (g : CG) (hk : GA nb ad g ks) (u0 : RS) (a1 : Int32) (xc : Int32) (sz : Nat) (hF : C7_setting g u0 a1 = some (.inl xc)) : vx_Met l yX7_setting (wsg yX7_setting cX7_setting 2 (some .int)) ({ frames := 7, cells := 1, slots := 6, locals := 200 }) (va_Pc [.ref (ad .cl), .int a1] (fun U => U.heap.size = sz ∧ va_P (dC, dI) vwCl (WC cy ad ks g u0) U.heap ∧ va_K (dC, dI) vwCl (tyL cy) U ∧ va_D (fun _ => True) (WC cy ad ks g u0) ∧ GE nb (va_A (WC cy ad ks g u0) sz) U)) (va_Qi (fun (_ : Int32) (_ : Unit) => False) (fun _ _ => True) (va_A (WC cy ad ks g u0) sz)) (vx_X (fun (_ : Unit) => True) (fun E9 _ t9 => E9 = exn xc ∧ va_P (dC, dI) vwCl (WC cy ad ks g u0) t9.heap) (va_A (WC cy ad ks g u0) sz)) 1 6 (va_A (WC cy ad ks g u0) sz) := by
  refine vx_ofW (cc := cX7_setting) (maxL := 2) (ret := (some .int)) pn_X7 rfl ?_
  intro p e s m args below meth c s₁ B hml hout hv
  obtain ⟨rfl, hsz, hP, hK, hD0, hE⟩ := hv
  have hx := B.exec
  have hb := B.bytes
  have hr := B.returns
  have hts0 := atoms_spec (ws := (wsg yX7_setting cX7_setting 2 (some .int))) B.pre
  have hts : ∀ w ∈ wsL_law, w.before _ s = true := fun w h => hts0 w (List.mem_cons_of_mem _ h)
  have hown : s.vm.findClass RX7 = some m.cls := by have h9 := findClass_of_methodNamed B.named; exact h9
  have hlocks := B.notSynchronized
  subst hsz
  have hD := hD0.self (sz := s.heap.size)
  generalize hAe : va_A (WC cy ad ks g u0) s.heap.size = A at hD hE ⊢
  have hA : ∀ q : Nat, s.heap.size ≤ q → A q := fun q h => by rw [← hAe]; exact Or.inr h
  have hS : va_S A s.heap s.heap [] := va_S.rf
  have hl := lv_entry ([.ref (ad .cl), .int a1]) (n := 2) (Nat.le_of_ble_eq_true rfl)
  rw [lg_entry_eq]
  generalize (lg_sl ([.ref (ad .cl), .int a1]) ++ List.replicate (2 - (lg_sl ([.ref (ad .cl), .int a1])).length) Slot.unset).toArray = ls at hl ⊢
  have hl : lv_has ls 2 [(0, .ref (ad .cl)), (1, .int a1)] := hl
  generalize hHe : s.heap = H at hP hS ⊢
  have hS : va_S A s.heap H [] := by rw [hHe]; exact hS
  refine my_Q (fun Qn hQ => ?_)
  simp only [C7_setting] at hF
  refine lv_iload_n hx hb dX7_setting_0 rfl (lv_at hl 1 rfl) ?_
  by_cases c1 : a1 = 0
  · rw [if_pos c1] at hF
    refine my_topi (y := 0) c1 ?_
    refine lv_tableIn (off := 35) (tgt := 36) hx hb dX7_setting_1 (by decide) (by decide) (by decide) (by decide) ?_
    refine lv_aload_n hx hb dX7_setting_36 rfl (lv_at hl 0 rfl) ?_
    obtain ⟨q9, h9⟩ := wc_at (cy := cy) (ad := ad) (ks := ks) (g := g) (u := u0) (κ := .cl) hk.1 True.intro
    refine va_get (D := (dC, dI)) (ci := 7) (v := .ref (ad (.ln 0))) (C := RX7) (T := TX7) (N := 12) hx hb hts inlX7 hown hK hP q9 h9 rfl 0 (by decide) (hts _ mw_18) (fun _ h9 => h9) rfl dX7_setting_37 ?_
    clear h9
    obtain ⟨q9, h9⟩ := wc_at (cy := cy) (ad := ad) (ks := ks) (g := g) (u := u0) (κ := (.ln 0)) hk.1 (Or.inl (by decide))
    refine va_get (D := (dC, dI)) (ci := 3) (v := .int (u0 (10 + 0) 0)) (C := RX3) (T := TX3) (N := 17) hx hb hts inlX3 hown hK hP q9 h9 rfl 0 (by decide) (hts _ mw_599) (fun _ h9 => h9) rfl dX7_setting_40 ?_
    clear h9
    cases hF
  · rw [if_neg c1] at hF
    by_cases c2 : a1 = 1
    · rw [if_pos c2] at hF
      refine my_topi (y := 1) c2 ?_
      refine lv_tableIn (off := 43) (tgt := 44) hx hb dX7_setting_1 (by decide) (by decide) (by decide) (by decide) ?_
      refine lv_aload_n hx hb dX7_setting_44 rfl (lv_at hl 0 rfl) ?_
      obtain ⟨q9, h9⟩ := wc_at (cy := cy) (ad := ad) (ks := ks) (g := g) (u := u0) (κ := .cl) hk.1 True.intro
      refine va_get (D := (dC, dI)) (ci := 7) (v := .ref (ad (.ln 0))) (C := RX7) (T := TX7) (N := 12) hx hb hts inlX7 hown hK hP q9 h9 rfl 0 (by decide) (hts _ mw_18) (fun _ h9 => h9) rfl dX7_setting_45 ?_
      clear h9
      obtain ⟨q9, h9⟩ := wc_at (cy := cy) (ad := ad) (ks := ks) (g := g) (u := u0) (κ := (.ln 0)) hk.1 (Or.inl (by decide))
      refine va_get (D := (dC, dI)) (ci := 3) (v := .int (u0 (10 + 0) 1)) (C := RX3) (T := TX3) (N := 17) hx hb hts inlX3 hown hK hP q9 h9 rfl 1 (by decide) (hts _ mw_600) (fun _ h9 => h9) rfl dX7_setting_48 ?_
      clear h9
      cases hF
    · rw [if_neg c2] at hF
      by_cases c3 : a1 = 2
      · rw [if_pos c3] at hF
        refine my_topi (y := 2) c3 ?_
        refine lv_tableIn (off := 51) (tgt := 52) hx hb dX7_setting_1 (by decide) (by decide) (by decide) (by decide) ?_
        refine lv_aload_n hx hb dX7_setting_52 rfl (lv_at hl 0 rfl) ?_
        obtain ⟨q9, h9⟩ := wc_at (cy := cy) (ad := ad) (ks := ks) (g := g) (u := u0) (κ := .cl) hk.1 True.intro
        refine va_get (D := (dC, dI)) (ci := 7) (v := .ref (ad (.ln 0))) (C := RX7) (T := TX7) (N := 12) hx hb hts inlX7 hown hK hP q9 h9 rfl 0 (by decide) (hts _ mw_18) (fun _ h9 => h9) rfl dX7_setting_53 ?_
        clear h9
        obtain ⟨q9, h9⟩ := wc_at (cy := cy) (ad := ad) (ks := ks) (g := g) (u := u0) (κ := (.ln 0)) hk.1 (Or.inl (by decide))
        refine va_get (D := (dC, dI)) (ci := 3) (v := .int (u0 (10 + 0) 2)) (C := RX3) (T := TX3) (N := 17) hx hb hts inlX3 hown hK hP q9 h9 rfl 2 (by decide) (hts _ mw_601) (fun _ h9 => h9) rfl dX7_setting_56 ?_
        clear h9
        cases hF
      · rw [if_neg c3] at hF
        by_cases c4 : a1 = 3
        · rw [if_pos c4] at hF
          refine my_topi (y := 3) c4 ?_
          refine lv_tableIn (off := 59) (tgt := 60) hx hb dX7_setting_1 (by decide) (by decide) (by decide) (by decide) ?_
          refine lv_aload_n hx hb dX7_setting_60 rfl (lv_at hl 0 rfl) ?_
          obtain ⟨q9, h9⟩ := wc_at (cy := cy) (ad := ad) (ks := ks) (g := g) (u := u0) (κ := .cl) hk.1 True.intro
          refine va_get (D := (dC, dI)) (ci := 7) (v := .ref (ad (.ln 0))) (C := RX7) (T := TX7) (N := 12) hx hb hts inlX7 hown hK hP q9 h9 rfl 0 (by decide) (hts _ mw_18) (fun _ h9 => h9) rfl dX7_setting_61 ?_
          clear h9
          obtain ⟨q9, h9⟩ := wc_at (cy := cy) (ad := ad) (ks := ks) (g := g) (u := u0) (κ := (.ln 0)) hk.1 (Or.inl (by decide))
          refine va_get (D := (dC, dI)) (ci := 3) (v := .int (u0 (10 + 0) 3)) (C := RX3) (T := TX3) (N := 17) hx hb hts inlX3 hown hK hP q9 h9 rfl 3 (by decide) (hts _ mw_602) (fun _ h9 => h9) rfl dX7_setting_64 ?_
          clear h9
          cases hF
        · rw [if_neg c4] at hF
          by_cases c5 : a1 = 4
          · rw [if_pos c5] at hF
            refine my_topi (y := 4) c5 ?_
            refine lv_tableIn (off := 67) (tgt := 68) hx hb dX7_setting_1 (by decide) (by decide) (by decide) (by decide) ?_
            refine lv_aload_n hx hb dX7_setting_68 rfl (lv_at hl 0 rfl) ?_
            obtain ⟨q9, h9⟩ := wc_at (cy := cy) (ad := ad) (ks := ks) (g := g) (u := u0) (κ := .cl) hk.1 True.intro
            refine va_get (D := (dC, dI)) (ci := 7) (v := .ref (ad (.ln 0))) (C := RX7) (T := TX7) (N := 12) hx hb hts inlX7 hown hK hP q9 h9 rfl 0 (by decide) (hts _ mw_18) (fun _ h9 => h9) rfl dX7_setting_69 ?_
            clear h9
            obtain ⟨q9, h9⟩ := wc_at (cy := cy) (ad := ad) (ks := ks) (g := g) (u := u0) (κ := (.ln 0)) hk.1 (Or.inl (by decide))
            refine va_get (D := (dC, dI)) (ci := 3) (v := .int (u0 (10 + 0) 4)) (C := RX3) (T := TX3) (N := 17) hx hb hts inlX3 hown hK hP q9 h9 rfl 4 (by decide) (hts _ mw_603) (fun _ h9 => h9) rfl dX7_setting_72 ?_
            clear h9
            cases hF
          · rw [if_neg c5] at hF
            refine lv_tableOut (tgt := 76) hx hb dX7_setting_1 (sw_out (lo := 0) (hi := 4) (fun k h1 h2 => by rcases (show k = 0 ∨ k = 1 ∨ k = 2 ∨ k = 3 ∨ k = 4 by omega) with rfl | rfl | rfl | rfl | rfl <;> intro q <;> first | exact c1 (q.trans (by decide)) | exact c2 (q.trans (by decide)) | exact c3 (q.trans (by decide)) | exact c4 (q.trans (by decide)) | exact c5 (q.trans (by decide)))) (by decide) ?_
            have hZ := s4 hF
            subst hZ
            obtain ⟨sa, hsa⟩ := hE.t116
            rw [hQ]
            exact vx_throwS (A := A) (own := RX7) (cls := xA) (text := "what is out of range") (names := ["java/lang/RuntimeException", "java/lang/Exception"]) (ik := 105) (is := 116) (ic := 109) hx hb hst hown (by decide) (by decide) (hts _ mw_569) (hts _ mw_570) hsa (my_hat (fun w h => hts w (List.mem_append_left _ (List.mem_append_right _ h))) my_atA hE.cA hE.dc) my_gA hE.zU hE.zN hS (by rw [hml]; exact hl.1) dX7_setting_76 dX7_setting_79 dX7_setting_80 dX7_setting_82 dX7_setting_85 (fun x hx => (hout x hx).elim) (Nat.le_of_ble_eq_true rfl) (Nat.le_of_ble_eq_true rfl) (Nat.le_of_ble_eq_true rfl) (Nat.le_of_ble_eq_true rfl) hlocks (fun t _ h1 h2 => ⟨(), trivial, ⟨rfl, my_keep hP (fun q9 z9 _ => h2 q9 z9)⟩, my_F hS h1 h2⟩) hS.2.2 (Nat.le_of_ble_eq_true rfl) (Nat.le_of_ble_eq_true rfl)
set_option maxHeartbeats 4000000 in
set_option maxRecDepth 100000 in
theorem c_X7_station_y (l : Launch) (hst : l.stackTraces = false) (dC : Nat → ClassId) (dI : Nat → Nat → Nat) (cy : Nat → ClassId) (nb : Nat → Nat) (ad : CK → Nat) (ks : List CK) (g : CG) (hk : GA nb ad g ks) (u0 : RS) (a1 : Int32) (a2 : Int32) (xc : Int32) (sz : Nat) (hF : C7_station g u0 a1 a2 = some (.inl xc)) : vx_Met l yX7_station (wsg yX7_station cX7_station 4 (some .int)) ({ frames := 8, cells := 1, slots := 6, locals := 300 }) (va_Pc [.ref (ad .cl), .int a1, .int a2] (fun U => U.heap.size = sz ∧ va_P (dC, dI) vwCl (WC cy ad ks g u0) U.heap ∧ va_K (dC, dI) vwCl (tyL cy) U ∧ va_D (fun _ => True) (WC cy ad ks g u0) ∧ GE nb (va_A (WC cy ad ks g u0) sz) U)) (va_Qi (fun (_ : Int32) (_ : Unit) => False) (fun _ _ => True) (va_A (WC cy ad ks g u0) sz)) (vx_X (fun (_ : Unit) => True) (fun E9 _ t9 => E9 = exn xc ∧ va_P (dC, dI) vwCl (WC cy ad ks g u0) t9.heap) (va_A (WC cy ad ks g u0) sz)) 1 6 (va_A (WC cy ad ks g u0) sz) := by
  refine vx_ofW (cc := cX7_station) (maxL := 4) (ret := (some .int)) pn_X7 rfl ?_
  intro p e s m args below meth c s₁ B hml hout hv
  obtain ⟨rfl, hsz, hP, hK, hD0, hE⟩ := hv
  have hx := B.exec
  have hb := B.bytes
  have hr := B.returns
  have hts0 := atoms_spec (ws := (wsg yX7_station cX7_station 4 (some .int))) B.pre
  have hts : ∀ w ∈ wsL_law, w.before _ s = true := fun w h => hts0 w (List.mem_cons_of_mem _ h)
  have hown : s.vm.findClass RX7 = some m.cls := by have h9 := findClass_of_methodNamed B.named; exact h9
  have hlocks := B.notSynchronized
  subst hsz
  have hD := hD0.self (sz := s.heap.size)
  generalize hAe : va_A (WC cy ad ks g u0) s.heap.size = A at hD hE ⊢
  have hA : ∀ q : Nat, s.heap.size ≤ q → A q := fun q h => by rw [← hAe]; exact Or.inr h
  have hS : va_S A s.heap s.heap [] := va_S.rf
  have hl := lv_entry ([.ref (ad .cl), .int a1, .int a2]) (n := 4) (Nat.le_of_ble_eq_true rfl)
  rw [lg_entry_eq]
  generalize (lg_sl ([.ref (ad .cl), .int a1, .int a2]) ++ List.replicate (4 - (lg_sl ([.ref (ad .cl), .int a1, .int a2])).length) Slot.unset).toArray = ls at hl ⊢
  have hl : lv_has ls 4 [(0, .ref (ad .cl)), (1, .int a1), (2, .int a2)] := hl
  generalize hHe : s.heap = H at hP hS ⊢
  have hS : va_S A s.heap H [] := by rw [hHe]; exact hS
  refine my_Q (fun Qn hQ => ?_)
  simp only [C7_station] at hF
  refine lv_aload_n hx hb dX7_station_0 rfl (lv_at hl 0 rfl) ?_
  refine lv_iload_n hx hb dX7_station_1 rfl (lv_at hl 1 rfl) ?_
  obtain ⟨t1, e2, hF⟩ := ob hF
  rcases t1 with xz9 | t3
  · have hF : some (Sum.inl xz9) = some (.inl xc) := hF
    have hPc := hP
    have hDc := hD
    have hFc := my_free hD hS hA
    obtain ⟨q8, h8⟩ := wc_at (cy := cy) (ad := ad) (ks := ks) (g := g) (u := u0) (κ := .cl) hk.1 True.intro
    refine vx_callv (vx_runV (As := [.int a1]) (rest := []) ⟨hx, hb, hml, hown, hts⟩ (c_X7_needStation_y l hst dC dI cy nb ad ks g hk u0 (a1) xz9 H.size e2) (cwV 1 hts (gV mw_631 mw_632 mw_633 mw_2 mw_634) rfl rfl rfl (by decide +kernel) ⟨Nat.le_of_ble_eq_true rfl, Nat.le_of_ble_eq_true rfl⟩) (my_preV hPc hK hDc hE hS hFc (va_recv (q := (RX7, TX7, 12)) hK hP (ci := 7) (q0 := q8) rfl h8)) rfl rfl hl.1 rfl (lv_room (Nat.le_of_ble_eq_true rfl)) dX7_station_2 ⟨Nat.le_of_ble_eq_true rfl, Nat.le_of_ble_eq_true rfl⟩) hS (fun q _ h => hFc q h) hFc (fun q _ h => hFc q h) (fun E9 ce9 q9 u9 t9 H1 locs1 ht9 hvm9 hp9 hB9 hz9 hk9 hS9 hc9 hv9 hcl9 => ?_) (fun u9 t9 H1 locs1 ht9 hvm9 hp9 _ _ _ _ => hp9.elim)
    have hZ := s4 hF
    rw [hQ]
    exact vx_out (fun x hx => (hout x hx).elim) hlocks hc9 hv9 hcl9 (fun t h1 h2 => ⟨(), trivial, ⟨hB9.1.trans (congrArg exn hZ), by rw [h1, ← ht9]; exact hB9.2⟩, hS9.F h1⟩) hS9.2.2 (Nat.le_of_ble_eq_true rfl) (Nat.le_of_ble_eq_true rfl)
  · dsimp only [tr] at hF
    have hPc := hP
    have hDc := hD
    have hFc := my_free hD hS hA
    obtain ⟨q8, h8⟩ := wc_at (cy := cy) (ad := ad) (ks := ks) (g := g) (u := u0) (κ := .cl) hk.1 True.intro
    refine va_callv (va_runV (As := [.int a1]) (rest := []) ⟨hx, hb, hml, hown, hts⟩ (c_X7_needStation l dC dI cy nb ad ks g hk u0 (a1) H.size e2) (cwV 1 hts (gV mw_631 mw_632 mw_633 mw_2 mw_634) rfl rfl rfl (by decide +kernel) ⟨Nat.le_of_ble_eq_true rfl, Nat.le_of_ble_eq_true rfl⟩) (my_preV hPc hK hDc hE hS hFc (va_recv (q := (RX7, TX7, 12)) hK hP (ci := 7) (q0 := q8) rfl h8)) rfl rfl hl.1 rfl (lv_room (Nat.le_of_ble_eq_true rfl)) dX7_station_2 ⟨Nat.le_of_ble_eq_true rfl, Nat.le_of_ble_eq_true rfl⟩) hS (fun q _ h => hFc q h) hFc (fun u t H1 locs ht hvm hw hB hz1 hk1 hS => ?_)
    clear h8
    obtain ⟨hP1, hD1⟩ := hB
    rw [ht] at hP1
    have hP := hP1
    have hD := hD1.weaken (fun k q _ h => hFc q.1 h)
    generalize H1 = H at hP hS ⊢
    clear hP1 hD1 hPc hDc hFc hk1 hz1 hvm ht
    refine lv_aload_n hx hb dX7_station_5 rfl (lv_at hl 0 rfl) ?_
    obtain ⟨q9, h9⟩ := wc_at (cy := cy) (ad := ad) (ks := ks) (g := g) (u := u0) (κ := .cl) hk.1 True.intro
    refine va_get (D := (dC, dI)) (ci := 7) (v := .ref (ad (.ln 0))) (C := RX7) (T := TX7) (N := 12) hx hb hts inlX7 hown hK hP q9 h9 rfl 0 (by decide) (hts _ mw_18) (fun _ h9 => h9) rfl dX7_station_6 ?_
    clear h9
    obtain ⟨q9, h9⟩ := wc_at (cy := cy) (ad := ad) (ks := ks) (g := g) (u := u0) (κ := (.ln 0)) hk.1 (Or.inl (by decide))
    refine va_get (D := (dC, dI)) (ci := 3) (v := .ref (ad (.ss 0))) (C := RX3) (T := TX3) (N := 17) hx hb hts inlX3 hown hK hP q9 h9 rfl 10 (by decide) (hts _ mw_617) (fun _ h9 => h9) rfl dX7_station_9 ?_
    clear h9
    refine lv_iload_n hx hb dX7_station_12 rfl (lv_at hl 1 rfl) ?_
    obtain ⟨n4, e5, hF⟩ := ob hF
    obtain ⟨q9, h9⟩ := wc_at (cy := cy) (ad := ad) (ks := ks) (g := g) (u := u0) (κ := (.ss 0)) hk.1 (Or.inl (by decide))
    refine va_aldq hx hb hK hP q9 6 h9 rfl (ix_in e5) dX7_station_13 ?_
    refine my_top (y := .ref (ad (.st 0 n4))) (ixv (F := fun j => ad (.st 0 j)) e5) ?_
    clear h9
    refine lv_astore_n (lv' := [(3, .ref (ad (.st 0 n4))), (0, .ref (ad .cl)), (1, .int a1), (2, .int a2)]) hx hb dX7_station_14 rfl hl (by decide) rfl (fun ls hl => ?_)
    refine lv_iload_n hx hb dX7_station_15 rfl (lv_at hl 3 rfl) ?_
    by_cases c6 : a2 = 0
    · rw [if_pos c6] at hF
      refine my_topi (y := 0) c6 ?_
      refine lv_tableIn (off := 68) (tgt := 84) hx hb dX7_station_16 (by decide) (by decide) (by decide) (by decide) ?_
      refine lv_aload_n hx hb dX7_station_84 rfl (lv_at hl 0 rfl) ?_
      obtain ⟨q9, h9⟩ := wc_at (cy := cy) (ad := ad) (ks := ks) (g := g) (u := u0) (κ := (.st 0 n4)) hk.1 ⟨(Or.inl (by decide)), (ix_lt e5)⟩
      refine va_get (D := (dC, dI)) (ci := 6) (v := .int (u0 (10 + 0) (17 + 16 * n4 + 0))) (C := RX6) (T := TX6) (N := 15) hx hb hts inlX6 hown hK hP q9 h9 rfl 0 (by decide) (hts _ mw_618) (fun _ h9 => h9) rfl dX7_station_85 ?_
      clear h9
      cases hF
    · rw [if_neg c6] at hF
      by_cases c7 : a2 = 1
      · rw [if_pos c7] at hF
        refine my_topi (y := 1) c7 ?_
        refine lv_tableIn (off := 73) (tgt := 89) hx hb dX7_station_16 (by decide) (by decide) (by decide) (by decide) ?_
        refine lv_aload_n hx hb dX7_station_89 rfl (lv_at hl 0 rfl) ?_
        obtain ⟨q9, h9⟩ := wc_at (cy := cy) (ad := ad) (ks := ks) (g := g) (u := u0) (κ := (.st 0 n4)) hk.1 ⟨(Or.inl (by decide)), (ix_lt e5)⟩
        refine va_get (D := (dC, dI)) (ci := 6) (v := .int (u0 (10 + 0) (17 + 16 * n4 + 1))) (C := RX6) (T := TX6) (N := 15) hx hb hts inlX6 hown hK hP q9 h9 rfl 1 (by decide) (hts _ mw_619) (fun _ h9 => h9) rfl dX7_station_90 ?_
        clear h9
        cases hF
      · rw [if_neg c7] at hF
        by_cases c8 : a2 = 2
        · rw [if_pos c8] at hF
          refine my_topi (y := 2) c8 ?_
          refine lv_tableIn (off := 78) (tgt := 94) hx hb dX7_station_16 (by decide) (by decide) (by decide) (by decide) ?_
          refine lv_aload_n hx hb dX7_station_94 rfl (lv_at hl 0 rfl) ?_
          obtain ⟨q9, h9⟩ := wc_at (cy := cy) (ad := ad) (ks := ks) (g := g) (u := u0) (κ := (.st 0 n4)) hk.1 ⟨(Or.inl (by decide)), (ix_lt e5)⟩
          refine va_get (D := (dC, dI)) (ci := 6) (v := .int (u0 (10 + 0) (17 + 16 * n4 + 2))) (C := RX6) (T := TX6) (N := 15) hx hb hts inlX6 hown hK hP q9 h9 rfl 3 (by decide) (hts _ mw_620) (fun _ h9 => h9) rfl dX7_station_95 ?_
          clear h9
          cases hF
        · rw [if_neg c8] at hF
          by_cases c9 : a2 = 3
          · rw [if_pos c9] at hF
            refine my_topi (y := 3) c9 ?_
            refine lv_tableIn (off := 83) (tgt := 99) hx hb dX7_station_16 (by decide) (by decide) (by decide) (by decide) ?_
            refine lv_aload_n hx hb dX7_station_99 rfl (lv_at hl 0 rfl) ?_
            obtain ⟨q9, h9⟩ := wc_at (cy := cy) (ad := ad) (ks := ks) (g := g) (u := u0) (κ := (.st 0 n4)) hk.1 ⟨(Or.inl (by decide)), (ix_lt e5)⟩
            refine va_get (D := (dC, dI)) (ci := 6) (v := .int (u0 (10 + 0) (17 + 16 * n4 + 3))) (C := RX6) (T := TX6) (N := 15) hx hb hts inlX6 hown hK hP q9 h9 rfl 4 (by decide) (hts _ mw_621) (fun _ h9 => h9) rfl dX7_station_100 ?_
            clear h9
            cases hF
          · rw [if_neg c9] at hF
            by_cases c10 : a2 = 4
            · rw [if_pos c10] at hF
              refine my_topi (y := 4) c10 ?_
              refine lv_tableIn (off := 88) (tgt := 104) hx hb dX7_station_16 (by decide) (by decide) (by decide) (by decide) ?_
              refine lv_aload_n hx hb dX7_station_104 rfl (lv_at hl 0 rfl) ?_
              obtain ⟨q9, h9⟩ := wc_at (cy := cy) (ad := ad) (ks := ks) (g := g) (u := u0) (κ := (.st 0 n4)) hk.1 ⟨(Or.inl (by decide)), (ix_lt e5)⟩
              refine va_get (D := (dC, dI)) (ci := 6) (v := .int (u0 (10 + 0) (17 + 16 * n4 + 4))) (C := RX6) (T := TX6) (N := 15) hx hb hts inlX6 hown hK hP q9 h9 rfl 5 (by decide) (hts _ mw_622) (fun _ h9 => h9) rfl dX7_station_105 ?_
              clear h9
              cases hF
            · rw [if_neg c10] at hF
              by_cases c11 : a2 = 5
              · rw [if_pos c11] at hF
                refine my_topi (y := 5) c11 ?_
                refine lv_tableIn (off := 93) (tgt := 109) hx hb dX7_station_16 (by decide) (by decide) (by decide) (by decide) ?_
                refine lv_aload_n hx hb dX7_station_109 rfl (lv_at hl 0 rfl) ?_
                obtain ⟨q9, h9⟩ := wc_at (cy := cy) (ad := ad) (ks := ks) (g := g) (u := u0) (κ := (.st 0 n4)) hk.1 ⟨(Or.inl (by decide)), (ix_lt e5)⟩
                refine va_get (D := (dC, dI)) (ci := 6) (v := .int (u0 (10 + 0) (17 + 16 * n4 + 5))) (C := RX6) (T := TX6) (N := 15) hx hb hts inlX6 hown hK hP q9 h9 rfl 7 (by decide) (hts _ mw_623) (fun _ h9 => h9) rfl dX7_station_110 ?_
                clear h9
                cases hF
              · rw [if_neg c11] at hF
                by_cases c12 : a2 = 6
                · rw [if_pos c12] at hF
                  refine my_topi (y := 6) c12 ?_
                  refine lv_tableIn (off := 98) (tgt := 114) hx hb dX7_station_16 (by decide) (by decide) (by decide) (by decide) ?_
                  refine lv_aload_n hx hb dX7_station_114 rfl (lv_at hl 0 rfl) ?_
                  obtain ⟨q9, h9⟩ := wc_at (cy := cy) (ad := ad) (ks := ks) (g := g) (u := u0) (κ := (.st 0 n4)) hk.1 ⟨(Or.inl (by decide)), (ix_lt e5)⟩
                  refine va_get (D := (dC, dI)) (ci := 6) (v := .int (u0 (10 + 0) (17 + 16 * n4 + 6))) (C := RX6) (T := TX6) (N := 15) hx hb hts inlX6 hown hK hP q9 h9 rfl 8 (by decide) (hts _ mw_624) (fun _ h9 => h9) rfl dX7_station_115 ?_
                  clear h9
                  cases hF
                · rw [if_neg c12] at hF
                  by_cases c13 : a2 = 7
                  · rw [if_pos c13] at hF
                    refine my_topi (y := 7) c13 ?_
                    refine lv_tableIn (off := 103) (tgt := 119) hx hb dX7_station_16 (by decide) (by decide) (by decide) (by decide) ?_
                    refine lv_aload_n hx hb dX7_station_119 rfl (lv_at hl 0 rfl) ?_
                    obtain ⟨q9, h9⟩ := wc_at (cy := cy) (ad := ad) (ks := ks) (g := g) (u := u0) (κ := (.st 0 n4)) hk.1 ⟨(Or.inl (by decide)), (ix_lt e5)⟩
                    refine va_get (D := (dC, dI)) (ci := 6) (v := .int (u0 (10 + 0) (17 + 16 * n4 + 7))) (C := RX6) (T := TX6) (N := 15) hx hb hts inlX6 hown hK hP q9 h9 rfl 9 (by decide) (hts _ mw_625) (fun _ h9 => h9) rfl dX7_station_120 ?_
                    clear h9
                    obtain ⟨t15, hJ16, hF⟩ := ob hF
                    have join17 : ∀ (H : Heap) (locs : List Loc) (ls : Array Slot), va_P (dC, dI) vwCl (WC cy ad ks g u0) H → va_D A (WC cy ad ks g u0) → va_S A s.heap H locs → lv_has ls 4 [(3, .ref (ad (.st 0 n4))), (0, .ref (ad .cl)), (1, .int a1), (2, .int a2)] → W p l e (headSpec (wsg yX7_station cX7_station 4 (some .int)) ({ frames := 8, cells := 1, slots := 6, locals := 300 })).room s m ([.ref (ad .cl), .int a1, .int a2] : List Value).toArray below meth c H locs 0 0 Qn (F0 m 131 ls [.int t15]) := by
                      intro H locs ls hP hD hS hl
                      cases hF
                    clear hF
                    have hF := hJ16
                    clear hJ16
                    refine lv_if_eq (tgt := 130) hx hb dX7_station_123 (by decide) (fun c14 => ?_) (fun c14 => ?_)
                    · rw [if_pos c14] at hF
                      refine lv_iconst (v := 0) hx hb dX7_station_130 (by decide) ?_
                      have ht := s1 hF
                      subst ht
                      exact join17 _ _ _ hP hD hS (lv_sub hl [0, 1, 2, 3] rfl)
                    · rw [if_neg c14] at hF
                      refine lv_iconst (v := 1) hx hb dX7_station_126 (by decide) ?_
                      refine lv_goto (tgt := 131) hx hb dX7_station_127 (by decide) ?_
                      have ht := s1 hF
                      subst ht
                      exact join17 _ _ _ hP hD hS (lv_sub hl [0, 1, 2, 3] rfl)
                  · rw [if_neg c13] at hF
                    by_cases c18 : a2 = 8
                    · rw [if_pos c18] at hF
                      refine my_topi (y := 8) c18 ?_
                      refine lv_tableIn (off := 116) (tgt := 132) hx hb dX7_station_16 (by decide) (by decide) (by decide) (by decide) ?_
                      refine lv_aload_n hx hb dX7_station_132 rfl (lv_at hl 0 rfl) ?_
                      obtain ⟨q9, h9⟩ := wc_at (cy := cy) (ad := ad) (ks := ks) (g := g) (u := u0) (κ := (.st 0 n4)) hk.1 ⟨(Or.inl (by decide)), (ix_lt e5)⟩
                      refine va_get (D := (dC, dI)) (ci := 6) (v := .int (u0 (10 + 0) (17 + 16 * n4 + 0))) (C := RX6) (T := TX6) (N := 15) hx hb hts inlX6 hown hK hP q9 h9 rfl 0 (by decide) (hts _ mw_618) (fun _ h9 => h9) rfl dX7_station_133 ?_
                      clear h9
                      refine lv_iconst (v := 3) hx hb dX7_station_136 (by decide) ?_
                      obtain ⟨t20, hJ21, hF⟩ := ob hF
                      have join22 : ∀ (H : Heap) (locs : List Loc) (ls : Array Slot), va_P (dC, dI) vwCl (WC cy ad ks g u0) H → va_D A (WC cy ad ks g u0) → va_S A s.heap H locs → lv_has ls 4 [(3, .ref (ad (.st 0 n4))), (0, .ref (ad .cl)), (1, .int a1), (2, .int a2)] → W p l e (headSpec (wsg yX7_station cX7_station 4 (some .int)) ({ frames := 8, cells := 1, slots := 6, locals := 300 })).room s m ([.ref (ad .cl), .int a1, .int a2] : List Value).toArray below meth c H locs 0 0 Qn (F0 m 148 ls [.int t20]) := by
                        intro H locs ls hP hD hS hl
                        cases hF
                      clear hF
                      have hF := hJ21
                      clear hJ21
                      refine lv_icmp_ne (tgt := 147) hx hb dX7_station_137 (by decide) (fun c19 => ?_) (fun c19 => ?_)
                      · rw [if_neg c19] at hF
                        refine lv_iconst (v := (-1)) hx hb dX7_station_147 (by decide) ?_
                        have ht := s1 hF
                        subst ht
                        exact join22 _ _ _ hP hD hS (lv_sub hl [0, 1, 2, 3] rfl)
                      · rw [if_pos c19] at hF
                        refine lv_aload_n hx hb dX7_station_140 rfl (lv_at hl 0 rfl) ?_
                        obtain ⟨q9, h9⟩ := wc_at (cy := cy) (ad := ad) (ks := ks) (g := g) (u := u0) (κ := (.st 0 n4)) hk.1 ⟨(Or.inl (by decide)), (ix_lt e5)⟩
                        refine va_get (D := (dC, dI)) (ci := 6) (v := .int (u0 (10 + 0) (17 + 16 * n4 + 8))) (C := RX6) (T := TX6) (N := 15) hx hb hts inlX6 hown hK hP q9 h9 rfl 10 (by decide) (hts _ mw_626) (fun _ h9 => h9) rfl dX7_station_141 ?_
                        clear h9
                        refine lv_goto (tgt := 148) hx hb dX7_station_144 (by decide) ?_
                        have ht := s1 hF
                        subst ht
                        exact join22 _ _ _ hP hD hS (lv_sub hl [0, 1, 2, 3] rfl)
                    · rw [if_neg c18] at hF
                      by_cases c23 : a2 = 9
                      · rw [if_pos c23] at hF
                        refine my_topi (y := 9) c23 ?_
                        refine lv_tableIn (off := 133) (tgt := 149) hx hb dX7_station_16 (by decide) (by decide) (by decide) (by decide) ?_
                        refine lv_aload_n hx hb dX7_station_149 rfl (lv_at hl 0 rfl) ?_
                        obtain ⟨q9, h9⟩ := wc_at (cy := cy) (ad := ad) (ks := ks) (g := g) (u := u0) (κ := (.st 0 n4)) hk.1 ⟨(Or.inl (by decide)), (ix_lt e5)⟩
                        refine va_get (D := (dC, dI)) (ci := 6) (v := .int (u0 (10 + 0) (17 + 16 * n4 + 9))) (C := RX6) (T := TX6) (N := 15) hx hb hts inlX6 hown hK hP q9 h9 rfl 11 (by decide) (hts _ mw_627) (fun _ h9 => h9) rfl dX7_station_150 ?_
                        clear h9
                        cases hF
                      · rw [if_neg c23] at hF
                        by_cases c24 : a2 = 10
                        · rw [if_pos c24] at hF
                          refine my_topi (y := 10) c24 ?_
                          refine lv_tableIn (off := 138) (tgt := 154) hx hb dX7_station_16 (by decide) (by decide) (by decide) (by decide) ?_
                          refine lv_aload_n hx hb dX7_station_154 rfl (lv_at hl 0 rfl) ?_
                          obtain ⟨q9, h9⟩ := wc_at (cy := cy) (ad := ad) (ks := ks) (g := g) (u := u0) (κ := (.st 0 n4)) hk.1 ⟨(Or.inl (by decide)), (ix_lt e5)⟩
                          refine va_get (D := (dC, dI)) (ci := 6) (v := .int (u0 (10 + 0) (17 + 16 * n4 + 10))) (C := RX6) (T := TX6) (N := 15) hx hb hts inlX6 hown hK hP q9 h9 rfl 12 (by decide) (hts _ mw_628) (fun _ h9 => h9) rfl dX7_station_155 ?_
                          clear h9
                          cases hF
                        · rw [if_neg c24] at hF
                          by_cases c25 : a2 = 11
                          · rw [if_pos c25] at hF
                            refine my_topi (y := 11) c25 ?_
                            refine lv_tableIn (off := 143) (tgt := 159) hx hb dX7_station_16 (by decide) (by decide) (by decide) (by decide) ?_
                            refine lv_aload_n hx hb dX7_station_159 rfl (lv_at hl 0 rfl) ?_
                            obtain ⟨q9, h9⟩ := wc_at (cy := cy) (ad := ad) (ks := ks) (g := g) (u := u0) (κ := (.st 0 n4)) hk.1 ⟨(Or.inl (by decide)), (ix_lt e5)⟩
                            refine va_get (D := (dC, dI)) (ci := 6) (v := .int (u0 (10 + 0) (17 + 16 * n4 + 11))) (C := RX6) (T := TX6) (N := 15) hx hb hts inlX6 hown hK hP q9 h9 rfl 13 (by decide) (hts _ mw_629) (fun _ h9 => h9) rfl dX7_station_160 ?_
                            clear h9
                            cases hF
                          · rw [if_neg c25] at hF
                            by_cases c26 : a2 = 12
                            · rw [if_pos c26] at hF
                              refine my_topi (y := 12) c26 ?_
                              refine lv_tableIn (off := 148) (tgt := 164) hx hb dX7_station_16 (by decide) (by decide) (by decide) (by decide) ?_
                              refine lv_aload_n hx hb dX7_station_164 rfl (lv_at hl 0 rfl) ?_
                              obtain ⟨q9, h9⟩ := wc_at (cy := cy) (ad := ad) (ks := ks) (g := g) (u := u0) (κ := (.st 0 n4)) hk.1 ⟨(Or.inl (by decide)), (ix_lt e5)⟩
                              refine va_get (D := (dC, dI)) (ci := 6) (v := .int (u0 (10 + 0) (17 + 16 * n4 + 12))) (C := RX6) (T := TX6) (N := 15) hx hb hts inlX6 hown hK hP q9 h9 rfl 14 (by decide) (hts _ mw_630) (fun _ h9 => h9) rfl dX7_station_165 ?_
                              clear h9
                              cases hF
                            · rw [if_neg c26] at hF
                              refine lv_tableOut (tgt := 169) hx hb dX7_station_16 (sw_out (lo := 0) (hi := 12) (fun k h1 h2 => by rcases (show k = 0 ∨ k = 1 ∨ k = 2 ∨ k = 3 ∨ k = 4 ∨ k = 5 ∨ k = 6 ∨ k = 7 ∨ k = 8 ∨ k = 9 ∨ k = 10 ∨ k = 11 ∨ k = 12 by omega) with rfl | rfl | rfl | rfl | rfl | rfl | rfl | rfl | rfl | rfl | rfl | rfl | rfl <;> intro q <;> first | exact c6 (q.trans (by decide)) | exact c7 (q.trans (by decide)) | exact c8 (q.trans (by decide)) | exact c9 (q.trans (by decide)) | exact c10 (q.trans (by decide)) | exact c11 (q.trans (by decide)) | exact c12 (q.trans (by decide)) | exact c13 (q.trans (by decide)) | exact c18 (q.trans (by decide)) | exact c23 (q.trans (by decide)) | exact c24 (q.trans (by decide)) | exact c25 (q.trans (by decide)) | exact c26 (q.trans (by decide)))) (by decide) ?_
                              have hZ := s4 hF
                              subst hZ
                              obtain ⟨sa, hsa⟩ := hE.t116
                              rw [hQ]
                              exact vx_throwS (A := A) (own := RX7) (cls := xA) (text := "what is out of range") (names := ["java/lang/RuntimeException", "java/lang/Exception"]) (ik := 105) (is := 116) (ic := 109) hx hb hst hown (by decide) (by decide) (hts _ mw_569) (hts _ mw_570) hsa (my_hat (fun w h => hts w (List.mem_append_left _ (List.mem_append_right _ h))) my_atA hE.cA hE.dc) my_gA hE.zU hE.zN hS (by rw [hml]; exact hl.1) dX7_station_169 dX7_station_172 dX7_station_173 dX7_station_175 dX7_station_178 (fun x hx => (hout x hx).elim) (Nat.le_of_ble_eq_true rfl) (Nat.le_of_ble_eq_true rfl) (Nat.le_of_ble_eq_true rfl) (Nat.le_of_ble_eq_true rfl) hlocks (fun t _ h1 h2 => ⟨(), trivial, ⟨rfl, my_keep hP (fun q9 z9 _ => h2 q9 z9)⟩, my_F hS h1 h2⟩) hS.2.2 (Nat.le_of_ble_eq_true rfl) (Nat.le_of_ble_eq_true rfl)
set_option maxHeartbeats 4000000 in
set_option maxRecDepth 100000 in
theorem c_X7_steps_y (l : Launch) (hst : l.stackTraces = false) (dC : Nat → ClassId) (dI : Nat → Nat → Nat) (cy : Nat → ClassId) (nb : Nat → Nat) (ad : CK → Nat) (ks : List CK) (g : CG) (hk : GA nb ad g ks) (u0 : RS) (a1 : Int32) (a2 : Int32) (xc : Int32) (sz : Nat) (hF : C7_steps g u0 a1 a2 = some (.inl xc)) : vx_Met l yX7_steps (wsg yX7_steps cX7_steps 3 (some .int)) ({ frames := 8, cells := 1, slots := 6, locals := 300 }) (va_Pc [.ref (ad .cl), .int a1, .int a2] (fun U => U.heap.size = sz ∧ va_P (dC, dI) vwCl (WC cy ad ks g u0) U.heap ∧ va_K (dC, dI) vwCl (tyL cy) U ∧ va_D (fun _ => True) (WC cy ad ks g u0) ∧ GE nb (va_A (WC cy ad ks g u0) sz) U)) (va_Qi (fun (_ : Int32) (_ : Unit) => False) (fun _ _ => True) (va_A (WC cy ad ks g u0) sz)) (vx_X (fun (_ : Unit) => True) (fun E9 _ t9 => E9 = exn xc ∧ va_P (dC, dI) vwCl (WC cy ad ks g u0) t9.heap) (va_A (WC cy ad ks g u0) sz)) 1 6 (va_A (WC cy ad ks g u0) sz) := by
  refine vx_ofW (cc := cX7_steps) (maxL := 3) (ret := (some .int)) pn_X7 rfl ?_
  intro p e s m args below meth c s₁ B hml hout hv
  obtain ⟨rfl, hsz, hP, hK, hD0, hE⟩ := hv
  have hx := B.exec
  have hb := B.bytes
  have hr := B.returns
  have hts0 := atoms_spec (ws := (wsg yX7_steps cX7_steps 3 (some .int))) B.pre
  have hts : ∀ w ∈ wsL_law, w.before _ s = true := fun w h => hts0 w (List.mem_cons_of_mem _ h)
  have hown : s.vm.findClass RX7 = some m.cls := by have h9 := findClass_of_methodNamed B.named; exact h9
  have hlocks := B.notSynchronized
  subst hsz
  have hD := hD0.self (sz := s.heap.size)
  generalize hAe : va_A (WC cy ad ks g u0) s.heap.size = A at hD hE ⊢
  have hA : ∀ q : Nat, s.heap.size ≤ q → A q := fun q h => by rw [← hAe]; exact Or.inr h
  have hS : va_S A s.heap s.heap [] := va_S.rf
  have hl := lv_entry ([.ref (ad .cl), .int a1, .int a2]) (n := 3) (Nat.le_of_ble_eq_true rfl)
  rw [lg_entry_eq]
  generalize (lg_sl ([.ref (ad .cl), .int a1, .int a2]) ++ List.replicate (3 - (lg_sl ([.ref (ad .cl), .int a1, .int a2])).length) Slot.unset).toArray = ls at hl ⊢
  have hl : lv_has ls 3 [(0, .ref (ad .cl)), (1, .int a1), (2, .int a2)] := hl
  generalize hHe : s.heap = H at hP hS ⊢
  have hS : va_S A s.heap H [] := by rw [hHe]; exact hS
  refine my_Q (fun Qn hQ => ?_)
  simp only [C7_steps] at hF
  refine lv_aload_n hx hb dX7_steps_0 rfl (lv_at hl 0 rfl) ?_
  refine lv_iload_n hx hb dX7_steps_1 rfl (lv_at hl 1 rfl) ?_
  obtain ⟨t1, e2, hF⟩ := ob hF
  rcases t1 with xz9 | t3
  · have hF : some (Sum.inl xz9) = some (.inl xc) := hF
    have hPc := hP
    have hDc := hD
    have hFc := my_free hD hS hA
    obtain ⟨q8, h8⟩ := wc_at (cy := cy) (ad := ad) (ks := ks) (g := g) (u := u0) (κ := .cl) hk.1 True.intro
    refine vx_callv (vx_runV (As := [.int a1]) (rest := []) ⟨hx, hb, hml, hown, hts⟩ (c_X7_needCard_y l hst dC dI cy nb ad ks g hk u0 (a1) xz9 H.size e2) (cwV 1 hts (gV mw_666 mw_667 mw_668 mw_2 mw_669) rfl rfl rfl (by decide +kernel) ⟨Nat.le_of_ble_eq_true rfl, Nat.le_of_ble_eq_true rfl⟩) (my_preV hPc hK hDc hE hS hFc (va_recv (q := (RX7, TX7, 12)) hK hP (ci := 7) (q0 := q8) rfl h8)) rfl rfl hl.1 rfl (lv_room (Nat.le_of_ble_eq_true rfl)) dX7_steps_2 ⟨Nat.le_of_ble_eq_true rfl, Nat.le_of_ble_eq_true rfl⟩) hS (fun q _ h => hFc q h) hFc (fun q _ h => hFc q h) (fun E9 ce9 q9 u9 t9 H1 locs1 ht9 hvm9 hp9 hB9 hz9 hk9 hS9 hc9 hv9 hcl9 => ?_) (fun u9 t9 H1 locs1 ht9 hvm9 hp9 _ _ _ _ => hp9.elim)
    have hZ := s4 hF
    rw [hQ]
    exact vx_out (fun x hx => (hout x hx).elim) hlocks hc9 hv9 hcl9 (fun t h1 h2 => ⟨(), trivial, ⟨hB9.1.trans (congrArg exn hZ), by rw [h1, ← ht9]; exact hB9.2⟩, hS9.F h1⟩) hS9.2.2 (Nat.le_of_ble_eq_true rfl) (Nat.le_of_ble_eq_true rfl)
  · dsimp only [tr] at hF
    have hPc := hP
    have hDc := hD
    have hFc := my_free hD hS hA
    obtain ⟨q8, h8⟩ := wc_at (cy := cy) (ad := ad) (ks := ks) (g := g) (u := u0) (κ := .cl) hk.1 True.intro
    refine va_callv (va_runV (As := [.int a1]) (rest := []) ⟨hx, hb, hml, hown, hts⟩ (c_X7_needCard l dC dI cy nb ad ks g hk u0 (a1) H.size e2) (cwV 1 hts (gV mw_666 mw_667 mw_668 mw_2 mw_669) rfl rfl rfl (by decide +kernel) ⟨Nat.le_of_ble_eq_true rfl, Nat.le_of_ble_eq_true rfl⟩) (my_preV hPc hK hDc hE hS hFc (va_recv (q := (RX7, TX7, 12)) hK hP (ci := 7) (q0 := q8) rfl h8)) rfl rfl hl.1 rfl (lv_room (Nat.le_of_ble_eq_true rfl)) dX7_steps_2 ⟨Nat.le_of_ble_eq_true rfl, Nat.le_of_ble_eq_true rfl⟩) hS (fun q _ h => hFc q h) hFc (fun u t H1 locs ht hvm hw hB hz1 hk1 hS => ?_)
    clear h8
    obtain ⟨hP1, hD1⟩ := hB
    rw [ht] at hP1
    have hP := hP1
    have hD := hD1.weaken (fun k q _ h => hFc q.1 h)
    generalize H1 = H at hP hS ⊢
    clear hP1 hD1 hPc hDc hFc hk1 hz1 hvm ht
    refine lv_iload_n hx hb dX7_steps_5 rfl (lv_at hl 2 rfl) ?_
    refine lv_iconst (v := 0) hx hb dX7_steps_6 (by decide) ?_
    refine lv_bipush (v := 25) hx hb dX7_steps_7 (by decide) ?_
    obtain ⟨t4, e5, hF⟩ := ob hF
    rcases t4 with xz9 | t6
    · have hF : some (Sum.inl xz9) = some (.inl xc) := hF
      have hPc : va_P (dC, dI) vwCl ([] : va_W) H := fun k q h => by simp at h
      have hDc : va_D A ([] : va_W) := ⟨fun i j p q h => by simp at h, fun k q h => by simp at h⟩
      have hFc := my_free0 hS hA
      refine vx_callv (vx_runS (As := [.int a2, .int 0, .int 25]) (rest := []) ⟨hx, hb, hml, hown, hts⟩ (c_X7_needRange_x l hst dC dI cy nb (a2) (0) (25) xz9 H.size e5) (va_cwS 3 hts (gS mw_815 mw_816 mw_2 mw_817) rfl rfl rfl (by decide +kernel) ⟨Nat.le_of_ble_eq_true rfl, Nat.le_of_ble_eq_true rfl⟩) (my_preS hPc hK hDc hE hS hFc) rfl rfl hl.1 rfl (lv_room (Nat.le_of_ble_eq_true rfl)) dX7_steps_9 ⟨Nat.le_of_ble_eq_true rfl, Nat.le_of_ble_eq_true rfl⟩) hS (fun q _ h => hFc q h) hFc (fun q _ h => hFc q h) (fun E9 ce9 q9 u9 t9 H1 locs1 ht9 hvm9 hp9 hB9 hz9 hk9 hS9 hc9 hv9 hcl9 => ?_) (fun u9 t9 H1 locs1 ht9 hvm9 hp9 _ _ _ _ => hp9.elim)
      have hZ := s4 hF
      rw [hQ]
      exact vx_out (fun x hx => (hout x hx).elim) hlocks hc9 hv9 hcl9 (fun t h1 h2 => ⟨(), trivial, ⟨hB9.trans (congrArg exn hZ), by rw [h1]; exact my_keep hP hk9⟩, hS9.F h1⟩) hS9.2.2 (Nat.le_of_ble_eq_true rfl) (Nat.le_of_ble_eq_true rfl)
    · dsimp only [tr] at hF
      have hPc : va_P (dC, dI) vwCl ([] : va_W) H := fun k q h => by simp at h
      have hDc : va_D A ([] : va_W) := ⟨fun i j p q h => by simp at h, fun k q h => by simp at h⟩
      have hFc := my_free0 hS hA
      refine va_callv (va_runS (As := [.int a2, .int 0, .int 25]) (rest := []) ⟨hx, hb, hml, hown, hts⟩ (c_X7_needRange l dC dI cy nb (a2) (0) (25) H.size e5) (va_cwS 3 hts (gS mw_815 mw_816 mw_2 mw_817) rfl rfl rfl (by decide +kernel) ⟨Nat.le_of_ble_eq_true rfl, Nat.le_of_ble_eq_true rfl⟩) (my_preS hPc hK hDc hE hS hFc) rfl rfl hl.1 rfl (lv_room (Nat.le_of_ble_eq_true rfl)) dX7_steps_9 ⟨Nat.le_of_ble_eq_true rfl, Nat.le_of_ble_eq_true rfl⟩) hS (fun q _ h => hFc q h) hFc (fun u t H1 locs ht hvm hw hB hz1 hk1 hS => ?_)
      obtain ⟨hP1, hD1⟩ := hB
      rw [ht] at hP1
      have hP := my_keep hP hk1
      generalize H1 = H at hP hS ⊢
      clear hP1 hD1 hPc hDc hFc hk1 hz1 hvm ht
      refine lv_aload_n hx hb dX7_steps_12 rfl (lv_at hl 0 rfl) ?_
      obtain ⟨q9, h9⟩ := wc_at (cy := cy) (ad := ad) (ks := ks) (g := g) (u := u0) (κ := .cl) hk.1 True.intro
      refine va_get (D := (dC, dI)) (ci := 7) (v := .ref (ad (.ln 0))) (C := RX7) (T := TX7) (N := 12) hx hb hts inlX7 hown hK hP q9 h9 rfl 0 (by decide) (hts _ mw_18) (fun _ h9 => h9) rfl dX7_steps_13 ?_
      clear h9
      obtain ⟨q9, h9⟩ := wc_at (cy := cy) (ad := ad) (ks := ks) (g := g) (u := u0) (κ := (.ln 0)) hk.1 (Or.inl (by decide))
      refine va_get (D := (dC, dI)) (ci := 3) (v := .ref (ad (.cs 0))) (C := RX3) (T := TX3) (N := 17) hx hb hts inlX3 hown hK hP q9 h9 rfl 12 (by decide) (hts _ mw_657) (fun _ h9 => h9) rfl dX7_steps_16 ?_
      clear h9
      refine lv_iload_n hx hb dX7_steps_19 rfl (lv_at hl 1 rfl) ?_
      obtain ⟨n7, e8, hF⟩ := ob hF
      obtain ⟨q9, h9⟩ := wc_at (cy := cy) (ad := ad) (ks := ks) (g := g) (u := u0) (κ := (.cs 0)) hk.1 (Or.inl (by decide))
      refine va_aldq hx hb hK hP q9 8 h9 rfl (ix_in e8) dX7_steps_20 ?_
      refine my_top (y := .ref (ad (.cd 0 n7))) (ixv (F := fun j => ad (.cd 0 j)) e8) ?_
      clear h9
      obtain ⟨q9, h9⟩ := wc_at (cy := cy) (ad := ad) (ks := ks) (g := g) (u := u0) (κ := (.cd 0 n7)) hk.1 ⟨(Or.inl (by decide)), (ix_lt e8)⟩
      refine va_get (D := (dC, dI)) (ci := 2) (v := .ref (ad (.tx (u0 (10 + 0) (137 + 25 * n7 + 2)).toNatClampNeg))) (C := RX1) (T := TX1) (N := 9) hx hb hts inlX1 hown hK hP q9 h9 rfl 2 (by decide) (hts _ mw_660) (fun _ h9 => h9) rfl dX7_steps_21 ?_
      clear h9
      refine lv_iload_n hx hb dX7_steps_24 rfl (lv_at hl 2 rfl) ?_
      obtain ⟨x9, e10, hF⟩ := ob hF
      have hPc := hP
      have hDc := hD
      have hFc := my_free hD hS hA
      refine va_calli (va_runS (As := [.ref (ad (.tx (u0 (10 + 0) (137 + 25 * n7 + 2)).toNatClampNeg)), .int a2]) (rest := []) ⟨hx, hb, hml, hown, hts⟩ (c_X7_stepsOf l dC dI cy nb ad ks g hk u0 (u0 (10 + 0) (137 + 25 * n7 + 2)) (a2) (x9) H.size e10) (va_cwS 2 hts (gS mw_818 mw_819 mw_2 mw_820) rfl rfl rfl (by decide +kernel) ⟨Nat.le_of_ble_eq_true rfl, Nat.le_of_ble_eq_true rfl⟩) (my_preS hPc hK hDc hE hS hFc) rfl rfl hl.1 rfl (lv_room (Nat.le_of_ble_eq_true rfl)) dX7_steps_25 ⟨Nat.le_of_ble_eq_true rfl, Nat.le_of_ble_eq_true rfl⟩) hS (fun q _ h => hFc q h) hFc (fun r u t H1 locs ht hvm hw hB hz1 hk1 hS => ?_)
      obtain ⟨hP1, hD1⟩ := hB
      rw [ht] at hP1
      have hP := hP1
      have hD := hD1.weaken (fun k q _ h => hFc q.1 h)
      generalize H1 = H at hP hS ⊢
      clear hP1 hD1 hPc hDc hFc hk1 hz1 hvm ht
      obtain rfl := hw.symm
      cases hF
set_option maxHeartbeats 4000000 in
set_option maxRecDepth 100000 in
theorem c_X7_stop_y (l : Launch) (hst : l.stackTraces = false) (dC : Nat → ClassId) (dI : Nat → Nat → Nat) (cy : Nat → ClassId) (nb : Nat → Nat) (ad : CK → Nat) (ks : List CK) (g : CG) (hk : GA nb ad g ks) (u0 : RS) (a1 : Int32) (a2 : Int32) (xc : Int32) (sz : Nat) (hF : C7_stop g u0 a1 a2 = some (.inl xc)) : vx_Met l yX7_stop (wsg yX7_stop cX7_stop 5 (some .int)) ({ frames := 11, cells := 67, slots := 831, locals := 600 }) (va_Pc [.ref (ad .cl), .int a1, .int a2] (fun U => U.heap.size = sz ∧ va_P (dC, dI) vwCl (WC cy ad ks g u0) U.heap ∧ va_K (dC, dI) vwCl (tyL cy) U ∧ va_D (fun _ => True) (WC cy ad ks g u0) ∧ GE nb (va_A (WC cy ad ks g u0) sz) U)) (va_Qi (fun (_ : Int32) (_ : Unit) => False) (fun _ _ => True) (va_A (WC cy ad ks g u0) sz)) (vx_X (fun (_ : Unit) => True) (fun E9 _ t9 => E9 = exn xc ∧ va_P (dC, dI) vwCl (WC cy ad ks g u0) t9.heap) (va_A (WC cy ad ks g u0) sz)) 67 831 (va_A (WC cy ad ks g u0) sz) := by
  refine vx_ofW (cc := cX7_stop) (maxL := 5) (ret := (some .int)) pn_X7 rfl ?_
  intro p e s m args below meth c s₁ B hml hout hv
  obtain ⟨rfl, hsz, hP, hK, hD0, hE⟩ := hv
  have hx := B.exec
  have hb := B.bytes
  have hr := B.returns
  have hts0 := atoms_spec (ws := (wsg yX7_stop cX7_stop 5 (some .int))) B.pre
  have hts : ∀ w ∈ wsL_law, w.before _ s = true := fun w h => hts0 w (List.mem_cons_of_mem _ h)
  have hown : s.vm.findClass RX7 = some m.cls := by have h9 := findClass_of_methodNamed B.named; exact h9
  have hlocks := B.notSynchronized
  subst hsz
  have hD := hD0.self (sz := s.heap.size)
  generalize hAe : va_A (WC cy ad ks g u0) s.heap.size = A at hD hE ⊢
  have hA : ∀ q : Nat, s.heap.size ≤ q → A q := fun q h => by rw [← hAe]; exact Or.inr h
  have hS : va_S A s.heap s.heap [] := va_S.rf
  have hl := lv_entry ([.ref (ad .cl), .int a1, .int a2]) (n := 5) (Nat.le_of_ble_eq_true rfl)
  rw [lg_entry_eq]
  generalize (lg_sl ([.ref (ad .cl), .int a1, .int a2]) ++ List.replicate (5 - (lg_sl ([.ref (ad .cl), .int a1, .int a2])).length) Slot.unset).toArray = ls at hl ⊢
  have hl : lv_has ls 5 [(0, .ref (ad .cl)), (1, .int a1), (2, .int a2)] := hl
  generalize hHe : s.heap = H at hP hS ⊢
  have hS : va_S A s.heap H [] := by rw [hHe]; exact hS
  refine my_Q (fun Qn hQ => ?_)
  simp only [C7_stop] at hF
  refine lv_aload_n hx hb dX7_stop_0 rfl (lv_at hl 0 rfl) ?_
  refine lv_iload_n hx hb dX7_stop_1 rfl (lv_at hl 1 rfl) ?_
  obtain ⟨t1, e2, hF⟩ := ob hF
  rcases t1 with xz9 | t3
  · have hF : some (Sum.inl xz9) = some (.inl xc) := hF
    have hPc := hP
    have hDc := hD
    have hFc := my_free hD hS hA
    obtain ⟨q8, h8⟩ := wc_at (cy := cy) (ad := ad) (ks := ks) (g := g) (u := u0) (κ := .cl) hk.1 True.intro
    refine vx_callv (vx_runV (As := [.int a1]) (rest := []) ⟨hx, hb, hml, hown, hts⟩ (c_X7_needStation_y l hst dC dI cy nb ad ks g hk u0 (a1) xz9 H.size e2) (cwV 1 hts (gV mw_631 mw_632 mw_633 mw_2 mw_634) rfl rfl rfl (by decide +kernel) ⟨Nat.le_of_ble_eq_true rfl, Nat.le_of_ble_eq_true rfl⟩) (my_preV hPc hK hDc hE hS hFc (va_recv (q := (RX7, TX7, 12)) hK hP (ci := 7) (q0 := q8) rfl h8)) rfl rfl hl.1 rfl (lv_room (Nat.le_of_ble_eq_true rfl)) dX7_stop_2 ⟨Nat.le_of_ble_eq_true rfl, Nat.le_of_ble_eq_true rfl⟩) hS (fun q _ h => hFc q h) hFc (fun q _ h => hFc q h) (fun E9 ce9 q9 u9 t9 H1 locs1 ht9 hvm9 hp9 hB9 hz9 hk9 hS9 hc9 hv9 hcl9 => ?_) (fun u9 t9 H1 locs1 ht9 hvm9 hp9 _ _ _ _ => hp9.elim)
    have hZ := s4 hF
    rw [hQ]
    exact vx_out (fun x hx => (hout x hx).elim) hlocks hc9 hv9 hcl9 (fun t h1 h2 => ⟨(), trivial, ⟨hB9.1.trans (congrArg exn hZ), by rw [h1, ← ht9]; exact hB9.2⟩, hS9.F h1⟩) hS9.2.2 (Nat.le_of_ble_eq_true rfl) (Nat.le_of_ble_eq_true rfl)
  · dsimp only [tr] at hF
    have hPc := hP
    have hDc := hD
    have hFc := my_free hD hS hA
    obtain ⟨q8, h8⟩ := wc_at (cy := cy) (ad := ad) (ks := ks) (g := g) (u := u0) (κ := .cl) hk.1 True.intro
    refine va_callv (va_runV (As := [.int a1]) (rest := []) ⟨hx, hb, hml, hown, hts⟩ (c_X7_needStation l dC dI cy nb ad ks g hk u0 (a1) H.size e2) (cwV 1 hts (gV mw_631 mw_632 mw_633 mw_2 mw_634) rfl rfl rfl (by decide +kernel) ⟨Nat.le_of_ble_eq_true rfl, Nat.le_of_ble_eq_true rfl⟩) (my_preV hPc hK hDc hE hS hFc (va_recv (q := (RX7, TX7, 12)) hK hP (ci := 7) (q0 := q8) rfl h8)) rfl rfl hl.1 rfl (lv_room (Nat.le_of_ble_eq_true rfl)) dX7_stop_2 ⟨Nat.le_of_ble_eq_true rfl, Nat.le_of_ble_eq_true rfl⟩) hS (fun q _ h => hFc q h) hFc (fun u t H1 locs ht hvm hw hB hz1 hk1 hS => ?_)
    clear h8
    obtain ⟨hP1, hD1⟩ := hB
    rw [ht] at hP1
    have hP := hP1
    have hD := hD1.weaken (fun k q _ h => hFc q.1 h)
    generalize H1 = H at hP hS ⊢
    clear hP1 hD1 hPc hDc hFc hk1 hz1 hvm ht
    refine lv_aload_n hx hb dX7_stop_5 rfl (lv_at hl 0 rfl) ?_
    obtain ⟨t4, e5, hF⟩ := ob hF
    have hPc := hP
    have hDc := hD
    have hFc := my_free hD hS hA
    obtain ⟨q8, h8⟩ := wc_at (cy := cy) (ad := ad) (ks := ks) (g := g) (u := u0) (κ := .cl) hk.1 True.intro
    refine va_callv (va_runV (As := []) (rest := []) ⟨hx, hb, hml, hown, hts⟩ (c_X7_remember l dC dI cy nb ad ks g hk u0 (t4.1) (t4.2) H.size e5) (cwV 0 hts (gV mw_973 mw_974 mw_975 mw_2 mw_976) rfl rfl rfl (by decide +kernel) ⟨Nat.le_of_ble_eq_true rfl, Nat.le_of_ble_eq_true rfl⟩) (my_preV hPc hK hDc hE hS hFc (va_recv (q := (RX7, TX7, 12)) hK hP (ci := 7) (q0 := q8) rfl h8)) rfl rfl hl.1 rfl (lv_room (Nat.le_of_ble_eq_true rfl)) dX7_stop_6 ⟨Nat.le_of_ble_eq_true rfl, Nat.le_of_ble_eq_true rfl⟩) hS (fun q _ h => hFc q h) hFc (fun u t H1 locs ht hvm hw hB hz1 hk1 hS => ?_)
    clear h8
    obtain ⟨ad6, ks7, hk8, ax9, hP1, hD1⟩ := hB
    rw [ht] at hP1
    have hP := hP1
    have hD := hD1.weaken (fun k q _ h => hFc q.1 h)
    generalize H1 = H at hP hS ⊢
    have hl : lv_has ls 5 [(0, .ref (ad6 .cl)), (1, .int a1), (2, .int a2)] := by rw [(ax9 .cl True.intro).2]; exact hl
    clear hP1 hD1 hPc hDc hFc hk1 hz1 hvm ht
    refine W.widen (k := 67) (n := 831) (by omega) (by omega) ?_
    refine lv_aload_n hx hb dX7_stop_9 rfl (lv_at hl 0 rfl) ?_
    obtain ⟨q9, h9⟩ := wc_at (cy := cy) (ad := ad6) (ks := ks7) (g := (t4.1)) (u := (t4.2)) (κ := .cl) hk8.1 True.intro
    refine va_get (D := (dC, dI)) (ci := 7) (v := .ref (ad6 (.ln 0))) (C := RX7) (T := TX7) (N := 12) hx hb hts inlX7 hown hK hP q9 h9 rfl 0 (by decide) (hts _ mw_18) (fun _ h9 => h9) rfl dX7_stop_10 ?_
    clear h9
    obtain ⟨q9, h9⟩ := wc_at (cy := cy) (ad := ad6) (ks := ks7) (g := (t4.1)) (u := (t4.2)) (κ := (.ln 0)) hk8.1 (Or.inl (by decide))
    refine va_get (D := (dC, dI)) (ci := 3) (v := .ref (ad6 (.ss 0))) (C := RX3) (T := TX3) (N := 17) hx hb hts inlX3 hown hK hP q9 h9 rfl 10 (by decide) (hts _ mw_617) (fun _ h9 => h9) rfl dX7_stop_13 ?_
    clear h9
    refine lv_iload_n hx hb dX7_stop_16 rfl (lv_at hl 1 rfl) ?_
    obtain ⟨n10, e11, hF⟩ := ob hF
    obtain ⟨q9, h9⟩ := wc_at (cy := cy) (ad := ad6) (ks := ks7) (g := (t4.1)) (u := (t4.2)) (κ := (.ss 0)) hk8.1 (Or.inl (by decide))
    refine va_aldq hx hb hK hP q9 6 h9 rfl (ix_in e11) dX7_stop_17 ?_
    refine my_top (y := .ref (ad6 (.st 0 n10))) (ixv (F := fun j => ad6 (.st 0 j)) e11) ?_
    clear h9
    refine lv_iload_n hx hb dX7_stop_18 rfl (lv_at hl 2 rfl) ?_
    obtain ⟨x12, e13, hF⟩ := ob hF
    refine my_topi (y := x12) (nz_e e13) ?_
    obtain ⟨q9, h9, ez9⟩ := wc_set (cy := cy) (ad := ad6) (ks := ks7) (g := (t4.1)) (u := (t4.2)) (κ := (.st 0 n10)) (r := (10 + 0)) (i := (17 + 16 * n10 + 7)) (v := x12) hk8.1 ⟨(Or.inl (by decide)), (ix_lt e11)⟩ (own_st (show 0 < 12 by decide) (ix_lt e11) (by decide)) (sf_st_9)
    refine va_put (D := (dC, dI)) (ci := 6) (v := .int x12) (ty := .boolean) (C := RX6) (T := TX6) (N := 15) hx hb hts inlX6 tyX6 tyX6_ok nmX6 hown hK hP hD hS q9 h9 rfl 9 (by decide) (hts _ mw_625) (fun _ h9 => h9) rfl (by decide +kernel) (nz_n e13) (nz_f e13) (Nat.le_of_ble_eq_true rfl) dX7_stop_19 (fun H locs hP hD hS => ?_)
    obtain ⟨u14, e15, hF⟩ := ob hF
    have hP : va_P (dC, dI) vwCl (WC cy ad6 ks7 (t4.1) u14) H := by rw [← pt_eq e15, ← ez9]; exact hP
    have hD : va_D A (WC cy ad6 ks7 (t4.1) u14) := by rw [← pt_eq e15, ← ez9]; exact hD
    clear ez9 h9
    refine lv_iconst (v := 0) hx hb dX7_stop_22 (by decide) ?_
    refine lv_istore_n (lv' := [(3, .int 0), (0, .ref (ad6 .cl)), (1, .int a1), (2, .int a2)]) hx hb dX7_stop_23 rfl hl (by decide) rfl (fun ls hl => ?_)
    refine lv_iconst (v := 0) hx hb dX7_stop_24 (by decide) ?_
    refine lv_istore (lv' := [(4, .int 0), (3, .int 0), (0, .ref (ad6 .cl)), (1, .int a1), (2, .int a2)]) hx hb dX7_stop_25 hl (by decide) rfl (fun ls hl => ?_)
    obtain ⟨t18, hL19, hF⟩ := ob hF
    have kx20 : ∀ (H : Heap) (locs : List Loc) (ls : Array Slot), va_P (dC, dI) vwCl (WC cy ad6 ks7 (t4.1) u14) H → va_D A (WC cy ad6 ks7 (t4.1) u14) → va_S A s.heap H locs → lv_has ls 5 [(4, .int (t18.1)), (3, .int (t18.2)), (0, .ref (ad6 .cl)), (1, .int a1), (2, .int a2)] → W p l e (headSpec (wsg yX7_stop cX7_stop 5 (some .int)) ({ frames := 11, cells := 67, slots := 831, locals := 600 })).room s m ([.ref (ad .cl), .int a1, .int a2] : List Value).toArray below meth c H locs 67 831 Qn (F0 m 64 ls []) := by
      intro H locs ls hP hD hS hl
      refine lv_iload_n hx hb dX7_stop_64 rfl (lv_at hl 1 rfl) ?_
      cases hF
    clear hF
    have loop22 : ∀ (m23 : Nat) (y16 : Int32) (y17 : Int32), C7_stop_L27 a1 a2 t4 u14 m23 y16 y17 = some t18 → ∀ (H : Heap) (locs : List Loc) (ls : Array Slot), va_P (dC, dI) vwCl (WC cy ad6 ks7 (t4.1) u14) H → va_D A (WC cy ad6 ks7 (t4.1) u14) → va_S A s.heap H locs → lv_has ls 5 [(4, .int y16), (3, .int y17), (0, .ref (ad6 .cl)), (1, .int a1), (2, .int a2)] → W p l e (headSpec (wsg yX7_stop cX7_stop 5 (some .int)) ({ frames := 11, cells := 67, slots := 831, locals := 600 })).room s m ([.ref (ad .cl), .int a1, .int a2] : List Value).toArray below meth c H locs 67 831 Qn (F0 m 27 ls []) := by
      intro m23
      induction m23 with
      | zero => intro y16 y17 hF; cases hF
      | succ m23 ih =>
        intro y16 y17 hF H locs ls hP hD hS hl
        simp only [C7_stop_L27] at hF
        refine lv_iload hx hb dX7_stop_27 (lv_at hl 0 rfl) ?_
        refine lv_aload_n hx hb dX7_stop_29 rfl (lv_at hl 2 rfl) ?_
        obtain ⟨q9, h9⟩ := wc_at (cy := cy) (ad := ad6) (ks := ks7) (g := (t4.1)) (u := u14) (κ := .cl) hk8.1 True.intro
        refine va_get (D := (dC, dI)) (ci := 7) (v := .ref (ad6 (.ln 0))) (C := RX7) (T := TX7) (N := 12) hx hb hts inlX7 hown hK hP q9 h9 rfl 0 (by decide) (hts _ mw_18) (fun _ h9 => h9) rfl dX7_stop_30 ?_
        clear h9
        obtain ⟨q9, h9⟩ := wc_at (cy := cy) (ad := ad6) (ks := ks7) (g := (t4.1)) (u := u14) (κ := (.ln 0)) hk8.1 (Or.inl (by decide))
        refine va_get (D := (dC, dI)) (ci := 3) (v := .int (u14 (10 + 0) 7)) (C := RX3) (T := TX3) (N := 17) hx hb hts inlX3 hown hK hP q9 h9 rfl 7 (by decide) (hts _ mw_138) (fun _ h9 => h9) rfl dX7_stop_33 ?_
        clear h9
        refine lv_icmp_ge (tgt := 64) hx hb dX7_stop_36 (by decide) (fun c24 => ?_) (fun c24 => ?_)
        · rw [if_pos c24] at hF
          have ht := s1 hF
          subst ht
          exact kx20 _ _ _ hP hD hS (lv_sub hl [0, 1, 2, 3, 4] rfl)
        · rw [if_neg c24] at hF
          refine lv_aload_n hx hb dX7_stop_39 rfl (lv_at hl 2 rfl) ?_
          obtain ⟨q9, h9⟩ := wc_at (cy := cy) (ad := ad6) (ks := ks7) (g := (t4.1)) (u := u14) (κ := .cl) hk8.1 True.intro
          refine va_get (D := (dC, dI)) (ci := 7) (v := .ref (ad6 (.ln 0))) (C := RX7) (T := TX7) (N := 12) hx hb hts inlX7 hown hK hP q9 h9 rfl 0 (by decide) (hts _ mw_18) (fun _ h9 => h9) rfl dX7_stop_40 ?_
          clear h9
          obtain ⟨q9, h9⟩ := wc_at (cy := cy) (ad := ad6) (ks := ks7) (g := (t4.1)) (u := u14) (κ := (.ln 0)) hk8.1 (Or.inl (by decide))
          refine va_get (D := (dC, dI)) (ci := 3) (v := .ref (ad6 (.ss 0))) (C := RX3) (T := TX3) (N := 17) hx hb hts inlX3 hown hK hP q9 h9 rfl 10 (by decide) (hts _ mw_617) (fun _ h9 => h9) rfl dX7_stop_43 ?_
          clear h9
          refine lv_iload hx hb dX7_stop_46 (lv_at hl 0 rfl) ?_
          obtain ⟨n25, e26, hF⟩ := ob hF
          obtain ⟨q9, h9⟩ := wc_at (cy := cy) (ad := ad6) (ks := ks7) (g := (t4.1)) (u := u14) (κ := (.ss 0)) hk8.1 (Or.inl (by decide))
          refine va_aldq hx hb hK hP q9 6 h9 rfl (ix_in e26) dX7_stop_48 ?_
          refine my_top (y := .ref (ad6 (.st 0 n25))) (ixv (F := fun j => ad6 (.st 0 j)) e26) ?_
          clear h9
          obtain ⟨q9, h9⟩ := wc_at (cy := cy) (ad := ad6) (ks := ks7) (g := (t4.1)) (u := u14) (κ := (.st 0 n25)) hk8.1 ⟨(Or.inl (by decide)), (ix_lt e26)⟩
          refine va_get (D := (dC, dI)) (ci := 6) (v := .int (u14 (10 + 0) (17 + 16 * n25 + 7))) (C := RX6) (T := TX6) (N := 15) hx hb hts inlX6 hown hK hP q9 h9 rfl 9 (by decide) (hts _ mw_625) (fun _ h9 => h9) rfl dX7_stop_49 ?_
          clear h9
          obtain ⟨t28, hJ29, hF⟩ := ob hF
          have join30 : ∀ (H : Heap) (locs : List Loc) (ls : Array Slot), va_P (dC, dI) vwCl (WC cy ad6 ks7 (t4.1) u14) H → va_D A (WC cy ad6 ks7 (t4.1) u14) → va_S A s.heap H locs → lv_has ls 5 [(4, .int y16), (3, .int t28), (0, .ref (ad6 .cl)), (1, .int a1), (2, .int a2)] → W p l e (headSpec (wsg yX7_stop cX7_stop 5 (some .int)) ({ frames := 11, cells := 67, slots := 831, locals := 600 })).room s m ([.ref (ad .cl), .int a1, .int a2] : List Value).toArray below meth c H locs 67 831 Qn (F0 m 58 ls []) := by
            intro H locs ls hP hD hS hl
            refine lv_iinc (v := (y16 + 1)) (lv' := [(4, .int (y16 + 1)), (3, .int t28), (0, .ref (ad6 .cl)), (1, .int a1), (2, .int a2)]) hx hb dX7_stop_58 hl (k := 0) rfl (by rfl) (by decide) rfl (fun ls hl => ?_)
            refine lv_goto (tgt := 27) hx hb dX7_stop_61 (by decide) ?_
            exact ih _ _ hF _ _ _ hP hD hS (lv_sub hl [0, 1, 2, 3, 4] rfl)
          clear hF
          have hF := hJ29
          clear hJ29
          refine lv_if_eq (tgt := 58) hx hb dX7_stop_52 (by decide) (fun c27 => ?_) (fun c27 => ?_)
          · rw [if_pos c27] at hF
            have ht := s1 hF
            subst ht
            exact join30 _ _ _ hP hD hS (lv_sub hl [0, 1, 2, 3, 4] rfl)
          · rw [if_neg c27] at hF
            refine lv_iinc (v := (y17 + 1)) (lv' := [(3, .int (y17 + 1)), (4, .int y16), (0, .ref (ad6 .cl)), (1, .int a1), (2, .int a2)]) hx hb dX7_stop_55 hl (k := 1) rfl (by rfl) (by decide) rfl (fun ls hl => ?_)
            have ht := s1 hF
            subst ht
            exact join30 _ _ _ hP hD hS (lv_sub hl [1, 0, 2, 3, 4] rfl)
    exact loop22 FUEL _ _ hL19 _ _ _ hP hD hS (lv_sub hl [0, 1, 2, 3, 4] rfl)
set_option maxHeartbeats 4000000 in
set_option maxRecDepth 100000 in
theorem c_X7_swap_y (l : Launch) (hst : l.stackTraces = false) (dC : Nat → ClassId) (dI : Nat → Nat → Nat) (cy : Nat → ClassId) (nb : Nat → Nat) (ad : CK → Nat) (ks : List CK) (g : CG) (hk : GA nb ad g ks) (u0 : RS) (a1 : Int32) (a2 : Int32) (xc : Int32) (sz : Nat) (hF : C7_swap g u0 a1 a2 = some (.inl xc)) : vx_Met l yX7_swap (wsg yX7_swap cX7_swap 4 (some .int)) ({ frames := 11, cells := 67, slots := 831, locals := 600 }) (va_Pc [.ref (ad .cl), .int a1, .int a2] (fun U => U.heap.size = sz ∧ va_P (dC, dI) vwCl (WC cy ad ks g u0) U.heap ∧ va_K (dC, dI) vwCl (tyL cy) U ∧ va_D (fun _ => True) (WC cy ad ks g u0) ∧ GE nb (va_A (WC cy ad ks g u0) sz) U)) (va_Qi (fun (_ : Int32) (_ : Unit) => False) (fun _ _ => True) (va_A (WC cy ad ks g u0) sz)) (vx_X (fun (_ : Unit) => True) (fun E9 _ t9 => E9 = exn xc ∧ va_P (dC, dI) vwCl (WC cy ad ks g u0) t9.heap) (va_A (WC cy ad ks g u0) sz)) 67 831 (va_A (WC cy ad ks g u0) sz) := by
  refine vx_ofW (cc := cX7_swap) (maxL := 4) (ret := (some .int)) pn_X7 rfl ?_
  intro p e s m args below meth c s₁ B hml hout hv
  obtain ⟨rfl, hsz, hP, hK, hD0, hE⟩ := hv
  have hx := B.exec
  have hb := B.bytes
  have hr := B.returns
  have hts0 := atoms_spec (ws := (wsg yX7_swap cX7_swap 4 (some .int))) B.pre
  have hts : ∀ w ∈ wsL_law, w.before _ s = true := fun w h => hts0 w (List.mem_cons_of_mem _ h)
  have hown : s.vm.findClass RX7 = some m.cls := by have h9 := findClass_of_methodNamed B.named; exact h9
  have hlocks := B.notSynchronized
  subst hsz
  have hD := hD0.self (sz := s.heap.size)
  generalize hAe : va_A (WC cy ad ks g u0) s.heap.size = A at hD hE ⊢
  have hA : ∀ q : Nat, s.heap.size ≤ q → A q := fun q h => by rw [← hAe]; exact Or.inr h
  have hS : va_S A s.heap s.heap [] := va_S.rf
  have hl := lv_entry ([.ref (ad .cl), .int a1, .int a2]) (n := 4) (Nat.le_of_ble_eq_true rfl)
  rw [lg_entry_eq]
  generalize (lg_sl ([.ref (ad .cl), .int a1, .int a2]) ++ List.replicate (4 - (lg_sl ([.ref (ad .cl), .int a1, .int a2])).length) Slot.unset).toArray = ls at hl ⊢
  have hl : lv_has ls 4 [(0, .ref (ad .cl)), (1, .int a1), (2, .int a2)] := hl
  generalize hHe : s.heap = H at hP hS ⊢
  have hS : va_S A s.heap H [] := by rw [hHe]; exact hS
  refine my_Q (fun Qn hQ => ?_)
  simp only [C7_swap] at hF
  refine lv_aload_n hx hb dX7_swap_0 rfl (lv_at hl 0 rfl) ?_
  refine lv_iload_n hx hb dX7_swap_1 rfl (lv_at hl 1 rfl) ?_
  obtain ⟨t1, e2, hF⟩ := ob hF
  rcases t1 with xz9 | t3
  · have hF : some (Sum.inl xz9) = some (.inl xc) := hF
    have hPc := hP
    have hDc := hD
    have hFc := my_free hD hS hA
    obtain ⟨q8, h8⟩ := wc_at (cy := cy) (ad := ad) (ks := ks) (g := g) (u := u0) (κ := .cl) hk.1 True.intro
    refine vx_callv (vx_runV (As := [.int a1]) (rest := []) ⟨hx, hb, hml, hown, hts⟩ (c_X7_needCard_y l hst dC dI cy nb ad ks g hk u0 (a1) xz9 H.size e2) (cwV 1 hts (gV mw_666 mw_667 mw_668 mw_2 mw_669) rfl rfl rfl (by decide +kernel) ⟨Nat.le_of_ble_eq_true rfl, Nat.le_of_ble_eq_true rfl⟩) (my_preV hPc hK hDc hE hS hFc (va_recv (q := (RX7, TX7, 12)) hK hP (ci := 7) (q0 := q8) rfl h8)) rfl rfl hl.1 rfl (lv_room (Nat.le_of_ble_eq_true rfl)) dX7_swap_2 ⟨Nat.le_of_ble_eq_true rfl, Nat.le_of_ble_eq_true rfl⟩) hS (fun q _ h => hFc q h) hFc (fun q _ h => hFc q h) (fun E9 ce9 q9 u9 t9 H1 locs1 ht9 hvm9 hp9 hB9 hz9 hk9 hS9 hc9 hv9 hcl9 => ?_) (fun u9 t9 H1 locs1 ht9 hvm9 hp9 _ _ _ _ => hp9.elim)
    have hZ := s4 hF
    rw [hQ]
    exact vx_out (fun x hx => (hout x hx).elim) hlocks hc9 hv9 hcl9 (fun t h1 h2 => ⟨(), trivial, ⟨hB9.1.trans (congrArg exn hZ), by rw [h1, ← ht9]; exact hB9.2⟩, hS9.F h1⟩) hS9.2.2 (Nat.le_of_ble_eq_true rfl) (Nat.le_of_ble_eq_true rfl)
  · dsimp only [tr] at hF
    have hPc := hP
    have hDc := hD
    have hFc := my_free hD hS hA
    obtain ⟨q8, h8⟩ := wc_at (cy := cy) (ad := ad) (ks := ks) (g := g) (u := u0) (κ := .cl) hk.1 True.intro
    refine va_callv (va_runV (As := [.int a1]) (rest := []) ⟨hx, hb, hml, hown, hts⟩ (c_X7_needCard l dC dI cy nb ad ks g hk u0 (a1) H.size e2) (cwV 1 hts (gV mw_666 mw_667 mw_668 mw_2 mw_669) rfl rfl rfl (by decide +kernel) ⟨Nat.le_of_ble_eq_true rfl, Nat.le_of_ble_eq_true rfl⟩) (my_preV hPc hK hDc hE hS hFc (va_recv (q := (RX7, TX7, 12)) hK hP (ci := 7) (q0 := q8) rfl h8)) rfl rfl hl.1 rfl (lv_room (Nat.le_of_ble_eq_true rfl)) dX7_swap_2 ⟨Nat.le_of_ble_eq_true rfl, Nat.le_of_ble_eq_true rfl⟩) hS (fun q _ h => hFc q h) hFc (fun u t H1 locs ht hvm hw hB hz1 hk1 hS => ?_)
    clear h8
    obtain ⟨hP1, hD1⟩ := hB
    rw [ht] at hP1
    have hP := hP1
    have hD := hD1.weaken (fun k q _ h => hFc q.1 h)
    generalize H1 = H at hP hS ⊢
    clear hP1 hD1 hPc hDc hFc hk1 hz1 hvm ht
    refine lv_aload_n hx hb dX7_swap_5 rfl (lv_at hl 0 rfl) ?_
    refine lv_iload_n hx hb dX7_swap_6 rfl (lv_at hl 2 rfl) ?_
    obtain ⟨t4, e5, hF⟩ := ob hF
    rcases t4 with xz9 | t6
    · have hF : some (Sum.inl xz9) = some (.inl xc) := hF
      have hPc := hP
      have hDc := hD
      have hFc := my_free hD hS hA
      obtain ⟨q8, h8⟩ := wc_at (cy := cy) (ad := ad) (ks := ks) (g := g) (u := u0) (κ := .cl) hk.1 True.intro
      refine vx_callv (vx_runV (As := [.int a2]) (rest := []) ⟨hx, hb, hml, hown, hts⟩ (c_X7_needCard_y l hst dC dI cy nb ad ks g hk u0 (a2) xz9 H.size e5) (cwV 1 hts (gV mw_666 mw_667 mw_668 mw_2 mw_669) rfl rfl rfl (by decide +kernel) ⟨Nat.le_of_ble_eq_true rfl, Nat.le_of_ble_eq_true rfl⟩) (my_preV hPc hK hDc hE hS hFc (va_recv (q := (RX7, TX7, 12)) hK hP (ci := 7) (q0 := q8) rfl h8)) rfl rfl hl.1 rfl (lv_room (Nat.le_of_ble_eq_true rfl)) dX7_swap_7 ⟨Nat.le_of_ble_eq_true rfl, Nat.le_of_ble_eq_true rfl⟩) hS (fun q _ h => hFc q h) hFc (fun q _ h => hFc q h) (fun E9 ce9 q9 u9 t9 H1 locs1 ht9 hvm9 hp9 hB9 hz9 hk9 hS9 hc9 hv9 hcl9 => ?_) (fun u9 t9 H1 locs1 ht9 hvm9 hp9 _ _ _ _ => hp9.elim)
      have hZ := s4 hF
      rw [hQ]
      exact vx_out (fun x hx => (hout x hx).elim) hlocks hc9 hv9 hcl9 (fun t h1 h2 => ⟨(), trivial, ⟨hB9.1.trans (congrArg exn hZ), by rw [h1, ← ht9]; exact hB9.2⟩, hS9.F h1⟩) hS9.2.2 (Nat.le_of_ble_eq_true rfl) (Nat.le_of_ble_eq_true rfl)
    · dsimp only [tr] at hF
      have hPc := hP
      have hDc := hD
      have hFc := my_free hD hS hA
      obtain ⟨q8, h8⟩ := wc_at (cy := cy) (ad := ad) (ks := ks) (g := g) (u := u0) (κ := .cl) hk.1 True.intro
      refine va_callv (va_runV (As := [.int a2]) (rest := []) ⟨hx, hb, hml, hown, hts⟩ (c_X7_needCard l dC dI cy nb ad ks g hk u0 (a2) H.size e5) (cwV 1 hts (gV mw_666 mw_667 mw_668 mw_2 mw_669) rfl rfl rfl (by decide +kernel) ⟨Nat.le_of_ble_eq_true rfl, Nat.le_of_ble_eq_true rfl⟩) (my_preV hPc hK hDc hE hS hFc (va_recv (q := (RX7, TX7, 12)) hK hP (ci := 7) (q0 := q8) rfl h8)) rfl rfl hl.1 rfl (lv_room (Nat.le_of_ble_eq_true rfl)) dX7_swap_7 ⟨Nat.le_of_ble_eq_true rfl, Nat.le_of_ble_eq_true rfl⟩) hS (fun q _ h => hFc q h) hFc (fun u t H1 locs ht hvm hw hB hz1 hk1 hS => ?_)
      clear h8
      obtain ⟨hP1, hD1⟩ := hB
      rw [ht] at hP1
      have hP := hP1
      have hD := hD1.weaken (fun k q _ h => hFc q.1 h)
      generalize H1 = H at hP hS ⊢
      clear hP1 hD1 hPc hDc hFc hk1 hz1 hvm ht
      refine lv_iload_n hx hb dX7_swap_10 rfl (lv_at hl 1 rfl) ?_
      refine lv_iload_n hx hb dX7_swap_11 rfl (lv_at hl 2 rfl) ?_
      refine lv_icmp_eq (tgt := 42) hx hb dX7_swap_12 (by decide) (fun c7 => ?_) (fun c7 => ?_)
      · rw [if_pos c7] at hF
        have hZ := s4 hF
        subst hZ
        obtain ⟨sa, hsa⟩ := hE.t316
        rw [hQ]
        exact vx_throwSW (A := A) (own := RX7) (cls := xA) (text := "not two cards of one lot") (names := ["java/lang/RuntimeException", "java/lang/Exception"]) (ik := 105) (is := 316) (ic := 109) hx hb hst hown (by decide) (by decide) (hts _ mw_569) (hts _ mw_570) hsa (my_hat (fun w h => hts w (List.mem_append_left _ (List.mem_append_right _ h))) my_atA hE.cA hE.dc) my_gA hE.zU hE.zN hS (by rw [hml]; exact hl.1) dX7_swap_42 dX7_swap_45 dX7_swap_46 dX7_swap_49 dX7_swap_52 (fun x hx => (hout x hx).elim) (Nat.le_of_ble_eq_true rfl) (Nat.le_of_ble_eq_true rfl) (Nat.le_of_ble_eq_true rfl) (Nat.le_of_ble_eq_true rfl) hlocks (fun t _ h1 h2 => ⟨(), trivial, ⟨rfl, my_keep hP (fun q9 z9 _ => h2 q9 z9)⟩, my_F hS h1 h2⟩) hS.2.2 (Nat.le_of_ble_eq_true rfl) (Nat.le_of_ble_eq_true rfl)
      · rw [if_neg c7] at hF
        refine lv_aload_n hx hb dX7_swap_15 rfl (lv_at hl 0 rfl) ?_
        obtain ⟨q9, h9⟩ := wc_at (cy := cy) (ad := ad) (ks := ks) (g := g) (u := u0) (κ := .cl) hk.1 True.intro
        refine va_get (D := (dC, dI)) (ci := 7) (v := .ref (ad (.ln 0))) (C := RX7) (T := TX7) (N := 12) hx hb hts inlX7 hown hK hP q9 h9 rfl 0 (by decide) (hts _ mw_18) (fun _ h9 => h9) rfl dX7_swap_16 ?_
        clear h9
        obtain ⟨q9, h9⟩ := wc_at (cy := cy) (ad := ad) (ks := ks) (g := g) (u := u0) (κ := (.ln 0)) hk.1 (Or.inl (by decide))
        refine va_get (D := (dC, dI)) (ci := 3) (v := .ref (ad (.cs 0))) (C := RX3) (T := TX3) (N := 17) hx hb hts inlX3 hown hK hP q9 h9 rfl 12 (by decide) (hts _ mw_657) (fun _ h9 => h9) rfl dX7_swap_19 ?_
        clear h9
        refine lv_iload_n hx hb dX7_swap_22 rfl (lv_at hl 1 rfl) ?_
        obtain ⟨n8, e9, hF⟩ := ob hF
        obtain ⟨q9, h9⟩ := wc_at (cy := cy) (ad := ad) (ks := ks) (g := g) (u := u0) (κ := (.cs 0)) hk.1 (Or.inl (by decide))
        refine va_aldq hx hb hK hP q9 8 h9 rfl (ix_in e9) dX7_swap_23 ?_
        refine my_top (y := .ref (ad (.cd 0 n8))) (ixv (F := fun j => ad (.cd 0 j)) e9) ?_
        clear h9
        obtain ⟨q9, h9⟩ := wc_at (cy := cy) (ad := ad) (ks := ks) (g := g) (u := u0) (κ := (.cd 0 n8)) hk.1 ⟨(Or.inl (by decide)), (ix_lt e9)⟩
        refine va_get (D := (dC, dI)) (ci := 2) (v := .int (u0 (10 + 0) (137 + 25 * n8 + 0))) (C := RX1) (T := TX1) (N := 9) hx hb hts inlX1 hown hK hP q9 h9 rfl 0 (by decide) (hts _ mw_658) (fun _ h9 => h9) rfl dX7_swap_24 ?_
        clear h9
        refine lv_aload_n hx hb dX7_swap_27 rfl (lv_at hl 0 rfl) ?_
        obtain ⟨q9, h9⟩ := wc_at (cy := cy) (ad := ad) (ks := ks) (g := g) (u := u0) (κ := .cl) hk.1 True.intro
        refine va_get (D := (dC, dI)) (ci := 7) (v := .ref (ad (.ln 0))) (C := RX7) (T := TX7) (N := 12) hx hb hts inlX7 hown hK hP q9 h9 rfl 0 (by decide) (hts _ mw_18) (fun _ h9 => h9) rfl dX7_swap_28 ?_
        clear h9
        obtain ⟨q9, h9⟩ := wc_at (cy := cy) (ad := ad) (ks := ks) (g := g) (u := u0) (κ := (.ln 0)) hk.1 (Or.inl (by decide))
        refine va_get (D := (dC, dI)) (ci := 3) (v := .ref (ad (.cs 0))) (C := RX3) (T := TX3) (N := 17) hx hb hts inlX3 hown hK hP q9 h9 rfl 12 (by decide) (hts _ mw_657) (fun _ h9 => h9) rfl dX7_swap_31 ?_
        clear h9
        refine lv_iload_n hx hb dX7_swap_34 rfl (lv_at hl 2 rfl) ?_
        obtain ⟨n10, e11, hF⟩ := ob hF
        obtain ⟨q9, h9⟩ := wc_at (cy := cy) (ad := ad) (ks := ks) (g := g) (u := u0) (κ := (.cs 0)) hk.1 (Or.inl (by decide))
        refine va_aldq hx hb hK hP q9 8 h9 rfl (ix_in e11) dX7_swap_35 ?_
        refine my_top (y := .ref (ad (.cd 0 n10))) (ixv (F := fun j => ad (.cd 0 j)) e11) ?_
        clear h9
        obtain ⟨q9, h9⟩ := wc_at (cy := cy) (ad := ad) (ks := ks) (g := g) (u := u0) (κ := (.cd 0 n10)) hk.1 ⟨(Or.inl (by decide)), (ix_lt e11)⟩
        refine va_get (D := (dC, dI)) (ci := 2) (v := .int (u0 (10 + 0) (137 + 25 * n10 + 0))) (C := RX1) (T := TX1) (N := 9) hx hb hts inlX1 hown hK hP q9 h9 rfl 0 (by decide) (hts _ mw_658) (fun _ h9 => h9) rfl dX7_swap_36 ?_
        clear h9
        refine lv_icmp_eq (tgt := 53) hx hb dX7_swap_39 (by decide) (fun c12 => ?_) (fun c12 => ?_)
        · rw [if_pos c12] at hF
          refine lv_aload_n hx hb dX7_swap_53 rfl (lv_at hl 0 rfl) ?_
          refine lv_iload_n hx hb dX7_swap_54 rfl (lv_at hl 1 rfl) ?_
          obtain ⟨x13, e14, hF⟩ := ob hF
          have hPc := hP
          have hDc := hD
          have hFc := my_free hD hS hA
          obtain ⟨q8, h8⟩ := wc_at (cy := cy) (ad := ad) (ks := ks) (g := g) (u := u0) (κ := .cl) hk.1 True.intro
          refine va_calli (va_runV (As := [.int a1]) (rest := []) ⟨hx, hb, hml, hown, hts⟩ (c_X7_waits l dC dI cy nb ad ks g hk u0 (a1) (x13) H.size e14) (cwV 1 hts (gV mw_994 mw_995 mw_996 mw_2 mw_997) rfl rfl rfl (by decide +kernel) ⟨Nat.le_of_ble_eq_true rfl, Nat.le_of_ble_eq_true rfl⟩) (my_preV hPc hK hDc hE hS hFc (va_recv (q := (RX7, TX7, 12)) hK hP (ci := 7) (q0 := q8) rfl h8)) rfl rfl hl.1 rfl (lv_room (Nat.le_of_ble_eq_true rfl)) dX7_swap_55 ⟨Nat.le_of_ble_eq_true rfl, Nat.le_of_ble_eq_true rfl⟩) hS (fun q _ h => hFc q h) hFc (fun r u t H1 locs ht hvm hw hB hz1 hk1 hS => ?_)
          clear h8
          obtain ⟨hP1, hD1⟩ := hB
          rw [ht] at hP1
          have hP := hP1
          have hD := hD1.weaken (fun k q _ h => hFc q.1 h)
          generalize H1 = H at hP hS ⊢
          clear hP1 hD1 hPc hDc hFc hk1 hz1 hvm ht
          obtain rfl := hw.symm
          refine lv_if_eq (tgt := 69) hx hb dX7_swap_58 (by decide) (fun c15 => ?_) (fun c15 => ?_)
          · rw [if_pos c15] at hF
            refine lv_bipush (v := (-3)) hx hb dX7_swap_69 (by decide) ?_
            cases hF
          · rw [if_neg c15] at hF
            refine lv_aload_n hx hb dX7_swap_61 rfl (lv_at hl 0 rfl) ?_
            refine lv_iload_n hx hb dX7_swap_62 rfl (lv_at hl 2 rfl) ?_
            obtain ⟨x16, e17, hF⟩ := ob hF
            have hPc := hP
            have hDc := hD
            have hFc := my_free hD hS hA
            obtain ⟨q8, h8⟩ := wc_at (cy := cy) (ad := ad) (ks := ks) (g := g) (u := u0) (κ := .cl) hk.1 True.intro
            refine va_calli (va_runV (As := [.int a2]) (rest := []) ⟨hx, hb, hml, hown, hts⟩ (c_X7_waits l dC dI cy nb ad ks g hk u0 (a2) (x16) H.size e17) (cwV 1 hts (gV mw_994 mw_995 mw_996 mw_2 mw_997) rfl rfl rfl (by decide +kernel) ⟨Nat.le_of_ble_eq_true rfl, Nat.le_of_ble_eq_true rfl⟩) (my_preV hPc hK hDc hE hS hFc (va_recv (q := (RX7, TX7, 12)) hK hP (ci := 7) (q0 := q8) rfl h8)) rfl rfl hl.1 rfl (lv_room (Nat.le_of_ble_eq_true rfl)) dX7_swap_63 ⟨Nat.le_of_ble_eq_true rfl, Nat.le_of_ble_eq_true rfl⟩) hS (fun q _ h => hFc q h) hFc (fun r u t H1 locs ht hvm hw hB hz1 hk1 hS => ?_)
            clear h8
            obtain ⟨hP1, hD1⟩ := hB
            rw [ht] at hP1
            have hP := hP1
            have hD := hD1.weaken (fun k q _ h => hFc q.1 h)
            generalize H1 = H at hP hS ⊢
            clear hP1 hD1 hPc hDc hFc hk1 hz1 hvm ht
            obtain rfl := hw.symm
            refine lv_if_ne (tgt := 72) hx hb dX7_swap_66 (by decide) (fun c18 => ?_) (fun c18 => ?_)
            · rw [if_neg c18] at hF
              refine lv_aload_n hx hb dX7_swap_72 rfl (lv_at hl 0 rfl) ?_
              obtain ⟨t19, e20, hF⟩ := ob hF
              have hPc := hP
              have hDc := hD
              have hFc := my_free hD hS hA
              obtain ⟨q8, h8⟩ := wc_at (cy := cy) (ad := ad) (ks := ks) (g := g) (u := u0) (κ := .cl) hk.1 True.intro
              refine va_callv (va_runV (As := []) (rest := []) ⟨hx, hb, hml, hown, hts⟩ (c_X7_remember l dC dI cy nb ad ks g hk u0 (t19.1) (t19.2) H.size e20) (cwV 0 hts (gV mw_973 mw_974 mw_975 mw_2 mw_976) rfl rfl rfl (by decide +kernel) ⟨Nat.le_of_ble_eq_true rfl, Nat.le_of_ble_eq_true rfl⟩) (my_preV hPc hK hDc hE hS hFc (va_recv (q := (RX7, TX7, 12)) hK hP (ci := 7) (q0 := q8) rfl h8)) rfl rfl hl.1 rfl (lv_room (Nat.le_of_ble_eq_true rfl)) dX7_swap_73 ⟨Nat.le_of_ble_eq_true rfl, Nat.le_of_ble_eq_true rfl⟩) hS (fun q _ h => hFc q h) hFc (fun u t H1 locs ht hvm hw hB hz1 hk1 hS => ?_)
              clear h8
              obtain ⟨ad21, ks22, hk23, ax24, hP1, hD1⟩ := hB
              rw [ht] at hP1
              have hP := hP1
              have hD := hD1.weaken (fun k q _ h => hFc q.1 h)
              generalize H1 = H at hP hS ⊢
              have hl : lv_has ls 4 [(0, .ref (ad21 .cl)), (1, .int a1), (2, .int a2)] := by rw [(ax24 .cl True.intro).2]; exact hl
              clear hP1 hD1 hPc hDc hFc hk1 hz1 hvm ht
              refine W.widen (k := 67) (n := 831) (by omega) (by omega) ?_
              refine lv_aload_n hx hb dX7_swap_76 rfl (lv_at hl 0 rfl) ?_
              obtain ⟨q9, h9⟩ := wc_at (cy := cy) (ad := ad21) (ks := ks22) (g := (t19.1)) (u := (t19.2)) (κ := .cl) hk23.1 True.intro
              refine va_get (D := (dC, dI)) (ci := 7) (v := .ref (ad21 (.ln 0))) (C := RX7) (T := TX7) (N := 12) hx hb hts inlX7 hown hK hP q9 h9 rfl 0 (by decide) (hts _ mw_18) (fun _ h9 => h9) rfl dX7_swap_77 ?_
              clear h9
              obtain ⟨q9, h9⟩ := wc_at (cy := cy) (ad := ad21) (ks := ks22) (g := (t19.1)) (u := (t19.2)) (κ := (.ln 0)) hk23.1 (Or.inl (by decide))
              refine va_get (D := (dC, dI)) (ci := 3) (v := .ref (ad21 (.cs 0))) (C := RX3) (T := TX3) (N := 17) hx hb hts inlX3 hown hK hP q9 h9 rfl 12 (by decide) (hts _ mw_657) (fun _ h9 => h9) rfl dX7_swap_80 ?_
              clear h9
              refine lv_iload_n hx hb dX7_swap_83 rfl (lv_at hl 2 rfl) ?_
              obtain ⟨n25, e26, hF⟩ := ob hF
              obtain ⟨q9, h9⟩ := wc_at (cy := cy) (ad := ad21) (ks := ks22) (g := (t19.1)) (u := (t19.2)) (κ := (.cs 0)) hk23.1 (Or.inl (by decide))
              refine va_aldq hx hb hK hP q9 8 h9 rfl (ix_in e26) dX7_swap_84 ?_
              refine my_top (y := .ref (ad21 (.cd 0 n25))) (ixv (F := fun j => ad21 (.cd 0 j)) e26) ?_
              clear h9
              obtain ⟨q9, h9⟩ := wc_at (cy := cy) (ad := ad21) (ks := ks22) (g := (t19.1)) (u := (t19.2)) (κ := (.cd 0 n25)) hk23.1 ⟨(Or.inl (by decide)), (ix_lt e26)⟩
              refine va_get (D := (dC, dI)) (ci := 2) (v := .int ((t19.2) (10 + 0) (137 + 25 * n25 + 1))) (C := RX1) (T := TX1) (N := 9) hx hb hts inlX1 hown hK hP q9 h9 rfl 1 (by decide) (hts _ mw_659) (fun _ h9 => h9) rfl dX7_swap_85 ?_
              clear h9
              refine lv_istore_n (lv' := [(3, .int ((t19.2) (10 + 0) (137 + 25 * n25 + 1))), (0, .ref (ad21 .cl)), (1, .int a1), (2, .int a2)]) hx hb dX7_swap_88 rfl hl (by decide) rfl (fun ls hl => ?_)
              refine lv_aload_n hx hb dX7_swap_89 rfl (lv_at hl 1 rfl) ?_
              obtain ⟨q9, h9⟩ := wc_at (cy := cy) (ad := ad21) (ks := ks22) (g := (t19.1)) (u := (t19.2)) (κ := .cl) hk23.1 True.intro
              refine va_get (D := (dC, dI)) (ci := 7) (v := .ref (ad21 (.ln 0))) (C := RX7) (T := TX7) (N := 12) hx hb hts inlX7 hown hK hP q9 h9 rfl 0 (by decide) (hts _ mw_18) (fun _ h9 => h9) rfl dX7_swap_90 ?_
              clear h9
              refine lv_iload_n hx hb dX7_swap_93 rfl (lv_at hl 3 rfl) ?_
              refine lv_aload_n hx hb dX7_swap_94 rfl (lv_at hl 1 rfl) ?_
              obtain ⟨q9, h9⟩ := wc_at (cy := cy) (ad := ad21) (ks := ks22) (g := (t19.1)) (u := (t19.2)) (κ := .cl) hk23.1 True.intro
              refine va_get (D := (dC, dI)) (ci := 7) (v := .ref (ad21 (.ln 0))) (C := RX7) (T := TX7) (N := 12) hx hb hts inlX7 hown hK hP q9 h9 rfl 0 (by decide) (hts _ mw_18) (fun _ h9 => h9) rfl dX7_swap_95 ?_
              clear h9
              obtain ⟨q9, h9⟩ := wc_at (cy := cy) (ad := ad21) (ks := ks22) (g := (t19.1)) (u := (t19.2)) (κ := (.ln 0)) hk23.1 (Or.inl (by decide))
              refine va_get (D := (dC, dI)) (ci := 3) (v := .ref (ad21 (.cs 0))) (C := RX3) (T := TX3) (N := 17) hx hb hts inlX3 hown hK hP q9 h9 rfl 12 (by decide) (hts _ mw_657) (fun _ h9 => h9) rfl dX7_swap_98 ?_
              clear h9
              refine lv_iload_n hx hb dX7_swap_101 rfl (lv_at hl 2 rfl) ?_
              obtain ⟨n27, e28, hF⟩ := ob hF
              obtain ⟨q9, h9⟩ := wc_at (cy := cy) (ad := ad21) (ks := ks22) (g := (t19.1)) (u := (t19.2)) (κ := (.cs 0)) hk23.1 (Or.inl (by decide))
              refine va_aldq hx hb hK hP q9 8 h9 rfl (ix_in e28) dX7_swap_102 ?_
              refine my_top (y := .ref (ad21 (.cd 0 n27))) (ixv (F := fun j => ad21 (.cd 0 j)) e28) ?_
              clear h9
              obtain ⟨q9, h9⟩ := wc_at (cy := cy) (ad := ad21) (ks := ks22) (g := (t19.1)) (u := (t19.2)) (κ := (.cd 0 n27)) hk23.1 ⟨(Or.inl (by decide)), (ix_lt e28)⟩
              refine va_get (D := (dC, dI)) (ci := 2) (v := .int ((t19.2) (10 + 0) (137 + 25 * n27 + 1))) (C := RX1) (T := TX1) (N := 9) hx hb hts inlX1 hown hK hP q9 h9 rfl 1 (by decide) (hts _ mw_659) (fun _ h9 => h9) rfl dX7_swap_103 ?_
              clear h9
              obtain ⟨u29, e30, hF⟩ := ob hF
              have hPc := hP
              have hDc := hD
              have hFc := my_free hD hS hA
              obtain ⟨q8, h8⟩ := wc_at (cy := cy) (ad := ad21) (ks := ks22) (g := (t19.1)) (u := (t19.2)) (κ := (.ln 0)) hk23.1 (Or.inl (by decide))
              refine va_callv (va_runV (As := [.int a2, .int ((t19.2) (10 + 0) (137 + 25 * n27 + 1))]) (rest := []) ⟨hx, hb, hml, hown, hts⟩ (c_X3_putAt l dC dI cy nb ad21 ks22 (t19.1) hk23 (t19.2) 0 (a2) (((t19.2) (10 + 0) (137 + 25 * n27 + 1))) (u29) H.size (Or.inl (by decide)) e30) (cwV 2 hts (gV mw_1098 mw_1099 mw_1100 mw_17 mw_1101) rfl rfl rfl (by decide +kernel) ⟨Nat.le_of_ble_eq_true rfl, Nat.le_of_ble_eq_true rfl⟩) (my_preV hPc hK hDc hE hS hFc (va_recv (q := (RX3, TX3, 17)) hK hP (ci := 3) (q0 := q8) rfl h8)) rfl rfl hl.1 rfl (lv_room (Nat.le_of_ble_eq_true rfl)) dX7_swap_106 ⟨Nat.le_of_ble_eq_true rfl, Nat.le_of_ble_eq_true rfl⟩) hS (fun q _ h => hFc q h) hFc (fun u t H1 locs ht hvm hw hB hz1 hk1 hS => ?_)
              clear h8
              obtain ⟨hP1, hD1⟩ := hB
              rw [ht] at hP1
              have hP := hP1
              have hD := hD1.weaken (fun k q _ h => hFc q.1 h)
              generalize H1 = H at hP hS ⊢
              clear hP1 hD1 hPc hDc hFc hk1 hz1 hvm ht
              refine lv_aload_n hx hb dX7_swap_109 rfl (lv_at hl 1 rfl) ?_
              obtain ⟨q9, h9⟩ := wc_at (cy := cy) (ad := ad21) (ks := ks22) (g := (t19.1)) (u := u29) (κ := .cl) hk23.1 True.intro
              refine va_get (D := (dC, dI)) (ci := 7) (v := .ref (ad21 (.ln 0))) (C := RX7) (T := TX7) (N := 12) hx hb hts inlX7 hown hK hP q9 h9 rfl 0 (by decide) (hts _ mw_18) (fun _ h9 => h9) rfl dX7_swap_110 ?_
              clear h9
              refine lv_iload_n hx hb dX7_swap_113 rfl (lv_at hl 2 rfl) ?_
              refine lv_iload_n hx hb dX7_swap_114 rfl (lv_at hl 0 rfl) ?_
              obtain ⟨u31, e32, hF⟩ := ob hF
              have hPc := hP
              have hDc := hD
              have hFc := my_free hD hS hA
              obtain ⟨q8, h8⟩ := wc_at (cy := cy) (ad := ad21) (ks := ks22) (g := (t19.1)) (u := u29) (κ := (.ln 0)) hk23.1 (Or.inl (by decide))
              refine va_callv (va_runV (As := [.int a1, .int ((t19.2) (10 + 0) (137 + 25 * n25 + 1))]) (rest := []) ⟨hx, hb, hml, hown, hts⟩ (c_X3_putAt l dC dI cy nb ad21 ks22 (t19.1) hk23 u29 0 (a1) (((t19.2) (10 + 0) (137 + 25 * n25 + 1))) (u31) H.size (Or.inl (by decide)) e32) (cwV 2 hts (gV mw_1098 mw_1099 mw_1100 mw_17 mw_1101) rfl rfl rfl (by decide +kernel) ⟨Nat.le_of_ble_eq_true rfl, Nat.le_of_ble_eq_true rfl⟩) (my_preV hPc hK hDc hE hS hFc (va_recv (q := (RX3, TX3, 17)) hK hP (ci := 3) (q0 := q8) rfl h8)) rfl rfl hl.1 rfl (lv_room (Nat.le_of_ble_eq_true rfl)) dX7_swap_115 ⟨Nat.le_of_ble_eq_true rfl, Nat.le_of_ble_eq_true rfl⟩) hS (fun q _ h => hFc q h) hFc (fun u t H1 locs ht hvm hw hB hz1 hk1 hS => ?_)
              clear h8
              obtain ⟨hP1, hD1⟩ := hB
              rw [ht] at hP1
              have hP := hP1
              have hD := hD1.weaken (fun k q _ h => hFc q.1 h)
              generalize H1 = H at hP hS ⊢
              clear hP1 hD1 hPc hDc hFc hk1 hz1 hvm ht
              refine lv_iload_n hx hb dX7_swap_118 rfl (lv_at hl 0 rfl) ?_
              cases hF
            · rw [if_pos c18] at hF
              refine lv_bipush (v := (-3)) hx hb dX7_swap_69 (by decide) ?_
              cases hF
        · rw [if_neg c12] at hF
          have hZ := s4 hF
          subst hZ
          obtain ⟨sa, hsa⟩ := hE.t316
          rw [hQ]
          exact vx_throwSW (A := A) (own := RX7) (cls := xA) (text := "not two cards of one lot") (names := ["java/lang/RuntimeException", "java/lang/Exception"]) (ik := 105) (is := 316) (ic := 109) hx hb hst hown (by decide) (by decide) (hts _ mw_569) (hts _ mw_570) hsa (my_hat (fun w h => hts w (List.mem_append_left _ (List.mem_append_right _ h))) my_atA hE.cA hE.dc) my_gA hE.zU hE.zN hS (by rw [hml]; exact hl.1) dX7_swap_42 dX7_swap_45 dX7_swap_46 dX7_swap_49 dX7_swap_52 (fun x hx => (hout x hx).elim) (Nat.le_of_ble_eq_true rfl) (Nat.le_of_ble_eq_true rfl) (Nat.le_of_ble_eq_true rfl) (Nat.le_of_ble_eq_true rfl) hlocks (fun t _ h1 h2 => ⟨(), trivial, ⟨rfl, my_keep hP (fun q9 z9 _ => h2 q9 z9)⟩, my_F hS h1 h2⟩) hS.2.2 (Nat.le_of_ble_eq_true rfl) (Nat.le_of_ble_eq_true rfl)
set_option maxHeartbeats 4000000 in
set_option maxRecDepth 100000 in
theorem c_X7_ticksFor_y (l : Launch) (hst : l.stackTraces = false) (dC : Nat → ClassId) (dI : Nat → Nat → Nat) (cy : Nat → ClassId) (nb : Nat → Nat) (ad : CK → Nat) (ks : List CK) (g : CG) (hk : GA nb ad g ks) (u0 : RS) (a1 : Int32) (a2 : Int32) (xc : Int32) (sz : Nat) (hF : C7_ticksFor g u0 a1 a2 = some (.inl xc)) : vx_Met l yX7_ticksFor (wsg yX7_ticksFor cX7_ticksFor 3 (some .int)) ({ frames := 10, cells := 1, slots := 6, locals := 500 }) (va_Pc [.ref (ad .cl), .int a1, .int a2] (fun U => U.heap.size = sz ∧ va_P (dC, dI) vwCl (WC cy ad ks g u0) U.heap ∧ va_K (dC, dI) vwCl (tyL cy) U ∧ va_D (fun _ => True) (WC cy ad ks g u0) ∧ GE nb (va_A (WC cy ad ks g u0) sz) U)) (va_Qi (fun (_ : Int32) (_ : Unit) => False) (fun _ _ => True) (va_A (WC cy ad ks g u0) sz)) (vx_X (fun (_ : Unit) => True) (fun E9 _ t9 => E9 = exn xc ∧ va_P (dC, dI) vwCl (WC cy ad ks g u0) t9.heap) (va_A (WC cy ad ks g u0) sz)) 1 6 (va_A (WC cy ad ks g u0) sz) := by
  refine vx_ofW (cc := cX7_ticksFor) (maxL := 3) (ret := (some .int)) pn_X7 rfl ?_
  intro p e s m args below meth c s₁ B hml hout hv
  obtain ⟨rfl, hsz, hP, hK, hD0, hE⟩ := hv
  have hx := B.exec
  have hb := B.bytes
  have hr := B.returns
  have hts0 := atoms_spec (ws := (wsg yX7_ticksFor cX7_ticksFor 3 (some .int))) B.pre
  have hts : ∀ w ∈ wsL_law, w.before _ s = true := fun w h => hts0 w (List.mem_cons_of_mem _ h)
  have hown : s.vm.findClass RX7 = some m.cls := by have h9 := findClass_of_methodNamed B.named; exact h9
  have hlocks := B.notSynchronized
  subst hsz
  have hD := hD0.self (sz := s.heap.size)
  generalize hAe : va_A (WC cy ad ks g u0) s.heap.size = A at hD hE ⊢
  have hA : ∀ q : Nat, s.heap.size ≤ q → A q := fun q h => by rw [← hAe]; exact Or.inr h
  have hS : va_S A s.heap s.heap [] := va_S.rf
  have hl := lv_entry ([.ref (ad .cl), .int a1, .int a2]) (n := 3) (Nat.le_of_ble_eq_true rfl)
  rw [lg_entry_eq]
  generalize (lg_sl ([.ref (ad .cl), .int a1, .int a2]) ++ List.replicate (3 - (lg_sl ([.ref (ad .cl), .int a1, .int a2])).length) Slot.unset).toArray = ls at hl ⊢
  have hl : lv_has ls 3 [(0, .ref (ad .cl)), (1, .int a1), (2, .int a2)] := hl
  generalize hHe : s.heap = H at hP hS ⊢
  have hS : va_S A s.heap H [] := by rw [hHe]; exact hS
  refine my_Q (fun Qn hQ => ?_)
  simp only [C7_ticksFor] at hF
  refine lv_aload_n hx hb dX7_ticksFor_0 rfl (lv_at hl 0 rfl) ?_
  refine lv_iload_n hx hb dX7_ticksFor_1 rfl (lv_at hl 1 rfl) ?_
  obtain ⟨t1, e2, hF⟩ := ob hF
  rcases t1 with xz9 | t3
  · have hF : some (Sum.inl xz9) = some (.inl xc) := hF
    have hPc := hP
    have hDc := hD
    have hFc := my_free hD hS hA
    obtain ⟨q8, h8⟩ := wc_at (cy := cy) (ad := ad) (ks := ks) (g := g) (u := u0) (κ := .cl) hk.1 True.intro
    refine vx_callv (vx_runV (As := [.int a1]) (rest := []) ⟨hx, hb, hml, hown, hts⟩ (c_X7_needStation_y l hst dC dI cy nb ad ks g hk u0 (a1) xz9 H.size e2) (cwV 1 hts (gV mw_631 mw_632 mw_633 mw_2 mw_634) rfl rfl rfl (by decide +kernel) ⟨Nat.le_of_ble_eq_true rfl, Nat.le_of_ble_eq_true rfl⟩) (my_preV hPc hK hDc hE hS hFc (va_recv (q := (RX7, TX7, 12)) hK hP (ci := 7) (q0 := q8) rfl h8)) rfl rfl hl.1 rfl (lv_room (Nat.le_of_ble_eq_true rfl)) dX7_ticksFor_2 ⟨Nat.le_of_ble_eq_true rfl, Nat.le_of_ble_eq_true rfl⟩) hS (fun q _ h => hFc q h) hFc (fun q _ h => hFc q h) (fun E9 ce9 q9 u9 t9 H1 locs1 ht9 hvm9 hp9 hB9 hz9 hk9 hS9 hc9 hv9 hcl9 => ?_) (fun u9 t9 H1 locs1 ht9 hvm9 hp9 _ _ _ _ => hp9.elim)
    have hZ := s4 hF
    rw [hQ]
    exact vx_out (fun x hx => (hout x hx).elim) hlocks hc9 hv9 hcl9 (fun t h1 h2 => ⟨(), trivial, ⟨hB9.1.trans (congrArg exn hZ), by rw [h1, ← ht9]; exact hB9.2⟩, hS9.F h1⟩) hS9.2.2 (Nat.le_of_ble_eq_true rfl) (Nat.le_of_ble_eq_true rfl)
  · dsimp only [tr] at hF
    have hPc := hP
    have hDc := hD
    have hFc := my_free hD hS hA
    obtain ⟨q8, h8⟩ := wc_at (cy := cy) (ad := ad) (ks := ks) (g := g) (u := u0) (κ := .cl) hk.1 True.intro
    refine va_callv (va_runV (As := [.int a1]) (rest := []) ⟨hx, hb, hml, hown, hts⟩ (c_X7_needStation l dC dI cy nb ad ks g hk u0 (a1) H.size e2) (cwV 1 hts (gV mw_631 mw_632 mw_633 mw_2 mw_634) rfl rfl rfl (by decide +kernel) ⟨Nat.le_of_ble_eq_true rfl, Nat.le_of_ble_eq_true rfl⟩) (my_preV hPc hK hDc hE hS hFc (va_recv (q := (RX7, TX7, 12)) hK hP (ci := 7) (q0 := q8) rfl h8)) rfl rfl hl.1 rfl (lv_room (Nat.le_of_ble_eq_true rfl)) dX7_ticksFor_2 ⟨Nat.le_of_ble_eq_true rfl, Nat.le_of_ble_eq_true rfl⟩) hS (fun q _ h => hFc q h) hFc (fun u t H1 locs ht hvm hw hB hz1 hk1 hS => ?_)
    clear h8
    obtain ⟨hP1, hD1⟩ := hB
    rw [ht] at hP1
    have hP := hP1
    have hD := hD1.weaken (fun k q _ h => hFc q.1 h)
    generalize H1 = H at hP hS ⊢
    clear hP1 hD1 hPc hDc hFc hk1 hz1 hvm ht
    refine lv_aload_n hx hb dX7_ticksFor_5 rfl (lv_at hl 0 rfl) ?_
    refine lv_iload_n hx hb dX7_ticksFor_6 rfl (lv_at hl 2 rfl) ?_
    obtain ⟨t4, e5, hF⟩ := ob hF
    rcases t4 with xz9 | t6
    · have hF : some (Sum.inl xz9) = some (.inl xc) := hF
      have hPc := hP
      have hDc := hD
      have hFc := my_free hD hS hA
      obtain ⟨q8, h8⟩ := wc_at (cy := cy) (ad := ad) (ks := ks) (g := g) (u := u0) (κ := .cl) hk.1 True.intro
      refine vx_callv (vx_runV (As := [.int a2]) (rest := []) ⟨hx, hb, hml, hown, hts⟩ (c_X7_needCard_y l hst dC dI cy nb ad ks g hk u0 (a2) xz9 H.size e5) (cwV 1 hts (gV mw_666 mw_667 mw_668 mw_2 mw_669) rfl rfl rfl (by decide +kernel) ⟨Nat.le_of_ble_eq_true rfl, Nat.le_of_ble_eq_true rfl⟩) (my_preV hPc hK hDc hE hS hFc (va_recv (q := (RX7, TX7, 12)) hK hP (ci := 7) (q0 := q8) rfl h8)) rfl rfl hl.1 rfl (lv_room (Nat.le_of_ble_eq_true rfl)) dX7_ticksFor_7 ⟨Nat.le_of_ble_eq_true rfl, Nat.le_of_ble_eq_true rfl⟩) hS (fun q _ h => hFc q h) hFc (fun q _ h => hFc q h) (fun E9 ce9 q9 u9 t9 H1 locs1 ht9 hvm9 hp9 hB9 hz9 hk9 hS9 hc9 hv9 hcl9 => ?_) (fun u9 t9 H1 locs1 ht9 hvm9 hp9 _ _ _ _ => hp9.elim)
      have hZ := s4 hF
      rw [hQ]
      exact vx_out (fun x hx => (hout x hx).elim) hlocks hc9 hv9 hcl9 (fun t h1 h2 => ⟨(), trivial, ⟨hB9.1.trans (congrArg exn hZ), by rw [h1, ← ht9]; exact hB9.2⟩, hS9.F h1⟩) hS9.2.2 (Nat.le_of_ble_eq_true rfl) (Nat.le_of_ble_eq_true rfl)
    · dsimp only [tr] at hF
      have hPc := hP
      have hDc := hD
      have hFc := my_free hD hS hA
      obtain ⟨q8, h8⟩ := wc_at (cy := cy) (ad := ad) (ks := ks) (g := g) (u := u0) (κ := .cl) hk.1 True.intro
      refine va_callv (va_runV (As := [.int a2]) (rest := []) ⟨hx, hb, hml, hown, hts⟩ (c_X7_needCard l dC dI cy nb ad ks g hk u0 (a2) H.size e5) (cwV 1 hts (gV mw_666 mw_667 mw_668 mw_2 mw_669) rfl rfl rfl (by decide +kernel) ⟨Nat.le_of_ble_eq_true rfl, Nat.le_of_ble_eq_true rfl⟩) (my_preV hPc hK hDc hE hS hFc (va_recv (q := (RX7, TX7, 12)) hK hP (ci := 7) (q0 := q8) rfl h8)) rfl rfl hl.1 rfl (lv_room (Nat.le_of_ble_eq_true rfl)) dX7_ticksFor_7 ⟨Nat.le_of_ble_eq_true rfl, Nat.le_of_ble_eq_true rfl⟩) hS (fun q _ h => hFc q h) hFc (fun u t H1 locs ht hvm hw hB hz1 hk1 hS => ?_)
      clear h8
      obtain ⟨hP1, hD1⟩ := hB
      rw [ht] at hP1
      have hP := hP1
      have hD := hD1.weaken (fun k q _ h => hFc q.1 h)
      generalize H1 = H at hP hS ⊢
      clear hP1 hD1 hPc hDc hFc hk1 hz1 hvm ht
      refine lv_aload_n hx hb dX7_ticksFor_10 rfl (lv_at hl 0 rfl) ?_
      obtain ⟨q9, h9⟩ := wc_at (cy := cy) (ad := ad) (ks := ks) (g := g) (u := u0) (κ := .cl) hk.1 True.intro
      refine va_get (D := (dC, dI)) (ci := 7) (v := .ref (ad (.ln 0))) (C := RX7) (T := TX7) (N := 12) hx hb hts inlX7 hown hK hP q9 h9 rfl 0 (by decide) (hts _ mw_18) (fun _ h9 => h9) rfl dX7_ticksFor_11 ?_
      clear h9
      obtain ⟨q9, h9⟩ := wc_at (cy := cy) (ad := ad) (ks := ks) (g := g) (u := u0) (κ := (.ln 0)) hk.1 (Or.inl (by decide))
      refine va_get (D := (dC, dI)) (ci := 3) (v := .ref (ad (.ss 0))) (C := RX3) (T := TX3) (N := 17) hx hb hts inlX3 hown hK hP q9 h9 rfl 10 (by decide) (hts _ mw_617) (fun _ h9 => h9) rfl dX7_ticksFor_14 ?_
      clear h9
      refine lv_iload_n hx hb dX7_ticksFor_17 rfl (lv_at hl 1 rfl) ?_
      obtain ⟨n7, e8, hF⟩ := ob hF
      obtain ⟨q9, h9⟩ := wc_at (cy := cy) (ad := ad) (ks := ks) (g := g) (u := u0) (κ := (.ss 0)) hk.1 (Or.inl (by decide))
      refine va_aldq hx hb hK hP q9 6 h9 rfl (ix_in e8) dX7_ticksFor_18 ?_
      refine my_top (y := .ref (ad (.st 0 n7))) (ixv (F := fun j => ad (.st 0 j)) e8) ?_
      clear h9
      refine lv_aload_n hx hb dX7_ticksFor_19 rfl (lv_at hl 0 rfl) ?_
      obtain ⟨q9, h9⟩ := wc_at (cy := cy) (ad := ad) (ks := ks) (g := g) (u := u0) (κ := .cl) hk.1 True.intro
      refine va_get (D := (dC, dI)) (ci := 7) (v := .ref (ad (.ln 0))) (C := RX7) (T := TX7) (N := 12) hx hb hts inlX7 hown hK hP q9 h9 rfl 0 (by decide) (hts _ mw_18) (fun _ h9 => h9) rfl dX7_ticksFor_20 ?_
      clear h9
      obtain ⟨q9, h9⟩ := wc_at (cy := cy) (ad := ad) (ks := ks) (g := g) (u := u0) (κ := (.ln 0)) hk.1 (Or.inl (by decide))
      refine va_get (D := (dC, dI)) (ci := 3) (v := .ref (ad (.cs 0))) (C := RX3) (T := TX3) (N := 17) hx hb hts inlX3 hown hK hP q9 h9 rfl 12 (by decide) (hts _ mw_657) (fun _ h9 => h9) rfl dX7_ticksFor_23 ?_
      clear h9
      refine lv_iload_n hx hb dX7_ticksFor_26 rfl (lv_at hl 2 rfl) ?_
      obtain ⟨n9, e10, hF⟩ := ob hF
      obtain ⟨q9, h9⟩ := wc_at (cy := cy) (ad := ad) (ks := ks) (g := g) (u := u0) (κ := (.cs 0)) hk.1 (Or.inl (by decide))
      refine va_aldq hx hb hK hP q9 8 h9 rfl (ix_in e10) dX7_ticksFor_27 ?_
      refine my_top (y := .ref (ad (.cd 0 n9))) (ixv (F := fun j => ad (.cd 0 j)) e10) ?_
      clear h9
      obtain ⟨q9, h9⟩ := wc_at (cy := cy) (ad := ad) (ks := ks) (g := g) (u := u0) (κ := (.cd 0 n9)) hk.1 ⟨(Or.inl (by decide)), (ix_lt e10)⟩
      refine va_get (D := (dC, dI)) (ci := 2) (v := .ref (ad (.tx (u0 (10 + 0) (137 + 25 * n9 + 2)).toNatClampNeg))) (C := RX1) (T := TX1) (N := 9) hx hb hts inlX1 hown hK hP q9 h9 rfl 2 (by decide) (hts _ mw_660) (fun _ h9 => h9) rfl dX7_ticksFor_28 ?_
      clear h9
      obtain ⟨x11, e12, hF⟩ := ob hF
      have hPc := hP
      have hDc := hD
      have hFc := my_free hD hS hA
      obtain ⟨q8, h8⟩ := wc_at (cy := cy) (ad := ad) (ks := ks) (g := g) (u := u0) (κ := (.st 0 n7)) hk.1 ⟨(Or.inl (by decide)), (ix_lt e8)⟩
      refine va_calli (va_runV (As := [.ref (ad (.tx (u0 (10 + 0) (137 + 25 * n9 + 2)).toNatClampNeg))]) (rest := []) ⟨hx, hb, hml, hown, hts⟩ (c_X6_ticksOf l dC dI cy nb ad ks g hk u0 0 n7 (u0 (10 + 0) (137 + 25 * n9 + 2)) (x11) H.size ⟨(Or.inl (by decide)), (ix_lt e8)⟩ e12) (cwV 1 hts (gV mw_843 mw_844 mw_845 mw_50 mw_846) rfl rfl rfl (by decide +kernel) ⟨Nat.le_of_ble_eq_true rfl, Nat.le_of_ble_eq_true rfl⟩) (my_preV hPc hK hDc hE hS hFc (va_recv (q := (RX6, TX6, 15)) hK hP (ci := 6) (q0 := q8) rfl h8)) rfl rfl hl.1 rfl (lv_room (Nat.le_of_ble_eq_true rfl)) dX7_ticksFor_31 ⟨Nat.le_of_ble_eq_true rfl, Nat.le_of_ble_eq_true rfl⟩) hS (fun q _ h => hFc q h) hFc (fun r u t H1 locs ht hvm hw hB hz1 hk1 hS => ?_)
      clear h8
      obtain ⟨hP1, hD1⟩ := hB
      rw [ht] at hP1
      have hP := hP1
      have hD := hD1.weaken (fun k q _ h => hFc q.1 h)
      generalize H1 = H at hP hS ⊢
      clear hP1 hD1 hPc hDc hFc hk1 hz1 hvm ht
      obtain rfl := hw.symm
      cases hF
set_option maxHeartbeats 4000000 in
set_option maxRecDepth 100000 in
theorem c_X7_today_y (l : Launch) (hst : l.stackTraces = false) (dC : Nat → ClassId) (dI : Nat → Nat → Nat) (cy : Nat → ClassId) (nb : Nat → Nat) (ad : CK → Nat) (ks : List CK) (g : CG) (hk : GA nb ad g ks) (u0 : RS) (a1 : Int32) (a2 : Int32) (xc : Int32) (sz : Nat) (hF : C7_today g u0 a1 a2 = some (.inl xc)) : vx_Met l yX7_today (wsg yX7_today cX7_today 3 (some .int)) ({ frames := 8, cells := 1, slots := 6, locals := 300 }) (va_Pc [.ref (ad .cl), .int a1, .int a2] (fun U => U.heap.size = sz ∧ va_P (dC, dI) vwCl (WC cy ad ks g u0) U.heap ∧ va_K (dC, dI) vwCl (tyL cy) U ∧ va_D (fun _ => True) (WC cy ad ks g u0) ∧ GE nb (va_A (WC cy ad ks g u0) sz) U)) (va_Qi (fun (_ : Int32) (_ : Unit) => False) (fun _ _ => True) (va_A (WC cy ad ks g u0) sz)) (vx_X (fun (_ : Unit) => True) (fun E9 _ t9 => E9 = exn xc ∧ va_P (dC, dI) vwCl (WC cy ad ks g u0) t9.heap) (va_A (WC cy ad ks g u0) sz)) 1 6 (va_A (WC cy ad ks g u0) sz) := by
  refine vx_ofW (cc := cX7_today) (maxL := 3) (ret := (some .int)) pn_X7 rfl ?_
  intro p e s m args below meth c s₁ B hml hout hv
  obtain ⟨rfl, hsz, hP, hK, hD0, hE⟩ := hv
  have hx := B.exec
  have hb := B.bytes
  have hr := B.returns
  have hts0 := atoms_spec (ws := (wsg yX7_today cX7_today 3 (some .int))) B.pre
  have hts : ∀ w ∈ wsL_law, w.before _ s = true := fun w h => hts0 w (List.mem_cons_of_mem _ h)
  have hown : s.vm.findClass RX7 = some m.cls := by have h9 := findClass_of_methodNamed B.named; exact h9
  have hlocks := B.notSynchronized
  subst hsz
  have hD := hD0.self (sz := s.heap.size)
  generalize hAe : va_A (WC cy ad ks g u0) s.heap.size = A at hD hE ⊢
  have hA : ∀ q : Nat, s.heap.size ≤ q → A q := fun q h => by rw [← hAe]; exact Or.inr h
  have hS : va_S A s.heap s.heap [] := va_S.rf
  have hl := lv_entry ([.ref (ad .cl), .int a1, .int a2]) (n := 3) (Nat.le_of_ble_eq_true rfl)
  rw [lg_entry_eq]
  generalize (lg_sl ([.ref (ad .cl), .int a1, .int a2]) ++ List.replicate (3 - (lg_sl ([.ref (ad .cl), .int a1, .int a2])).length) Slot.unset).toArray = ls at hl ⊢
  have hl : lv_has ls 3 [(0, .ref (ad .cl)), (1, .int a1), (2, .int a2)] := hl
  generalize hHe : s.heap = H at hP hS ⊢
  have hS : va_S A s.heap H [] := by rw [hHe]; exact hS
  refine my_Q (fun Qn hQ => ?_)
  simp only [C7_today] at hF
  refine lv_aload_n hx hb dX7_today_0 rfl (lv_at hl 0 rfl) ?_
  refine lv_iload_n hx hb dX7_today_1 rfl (lv_at hl 1 rfl) ?_
  obtain ⟨t1, e2, hF⟩ := ob hF
  rcases t1 with xz9 | t3
  · have hF : some (Sum.inl xz9) = some (.inl xc) := hF
    have hPc := hP
    have hDc := hD
    have hFc := my_free hD hS hA
    obtain ⟨q8, h8⟩ := wc_at (cy := cy) (ad := ad) (ks := ks) (g := g) (u := u0) (κ := .cl) hk.1 True.intro
    refine vx_callv (vx_runV (As := [.int a1]) (rest := []) ⟨hx, hb, hml, hown, hts⟩ (c_X7_needLot_y l hst dC dI cy nb ad ks g hk u0 (a1) xz9 H.size e2) (cwV 1 hts (gV mw_704 mw_705 mw_706 mw_2 mw_707) rfl rfl rfl (by decide +kernel) ⟨Nat.le_of_ble_eq_true rfl, Nat.le_of_ble_eq_true rfl⟩) (my_preV hPc hK hDc hE hS hFc (va_recv (q := (RX7, TX7, 12)) hK hP (ci := 7) (q0 := q8) rfl h8)) rfl rfl hl.1 rfl (lv_room (Nat.le_of_ble_eq_true rfl)) dX7_today_2 ⟨Nat.le_of_ble_eq_true rfl, Nat.le_of_ble_eq_true rfl⟩) hS (fun q _ h => hFc q h) hFc (fun q _ h => hFc q h) (fun E9 ce9 q9 u9 t9 H1 locs1 ht9 hvm9 hp9 hB9 hz9 hk9 hS9 hc9 hv9 hcl9 => ?_) (fun u9 t9 H1 locs1 ht9 hvm9 hp9 _ _ _ _ => hp9.elim)
    have hZ := s4 hF
    rw [hQ]
    exact vx_out (fun x hx => (hout x hx).elim) hlocks hc9 hv9 hcl9 (fun t h1 h2 => ⟨(), trivial, ⟨hB9.1.trans (congrArg exn hZ), by rw [h1, ← ht9]; exact hB9.2⟩, hS9.F h1⟩) hS9.2.2 (Nat.le_of_ble_eq_true rfl) (Nat.le_of_ble_eq_true rfl)
  · dsimp only [tr] at hF
    have hPc := hP
    have hDc := hD
    have hFc := my_free hD hS hA
    obtain ⟨q8, h8⟩ := wc_at (cy := cy) (ad := ad) (ks := ks) (g := g) (u := u0) (κ := .cl) hk.1 True.intro
    refine va_callv (va_runV (As := [.int a1]) (rest := []) ⟨hx, hb, hml, hown, hts⟩ (c_X7_needLot l dC dI cy nb ad ks g hk u0 (a1) H.size e2) (cwV 1 hts (gV mw_704 mw_705 mw_706 mw_2 mw_707) rfl rfl rfl (by decide +kernel) ⟨Nat.le_of_ble_eq_true rfl, Nat.le_of_ble_eq_true rfl⟩) (my_preV hPc hK hDc hE hS hFc (va_recv (q := (RX7, TX7, 12)) hK hP (ci := 7) (q0 := q8) rfl h8)) rfl rfl hl.1 rfl (lv_room (Nat.le_of_ble_eq_true rfl)) dX7_today_2 ⟨Nat.le_of_ble_eq_true rfl, Nat.le_of_ble_eq_true rfl⟩) hS (fun q _ h => hFc q h) hFc (fun u t H1 locs ht hvm hw hB hz1 hk1 hS => ?_)
    clear h8
    obtain ⟨hP1, hD1⟩ := hB
    rw [ht] at hP1
    have hP := hP1
    have hD := hD1.weaken (fun k q _ h => hFc q.1 h)
    generalize H1 = H at hP hS ⊢
    clear hP1 hD1 hPc hDc hFc hk1 hz1 hvm ht
    refine lv_iload_n hx hb dX7_today_5 rfl (lv_at hl 2 rfl) ?_
    refine lv_iconst (v := 0) hx hb dX7_today_6 (by decide) ?_
    refine lv_iconst (v := 1) hx hb dX7_today_7 (by decide) ?_
    obtain ⟨t4, e5, hF⟩ := ob hF
    rcases t4 with xz9 | t6
    · have hF : some (Sum.inl xz9) = some (.inl xc) := hF
      have hPc : va_P (dC, dI) vwCl ([] : va_W) H := fun k q h => by simp at h
      have hDc : va_D A ([] : va_W) := ⟨fun i j p q h => by simp at h, fun k q h => by simp at h⟩
      have hFc := my_free0 hS hA
      refine vx_callv (vx_runS (As := [.int a2, .int 0, .int 1]) (rest := []) ⟨hx, hb, hml, hown, hts⟩ (c_X7_needRange_x l hst dC dI cy nb (a2) (0) (1) xz9 H.size e5) (va_cwS 3 hts (gS mw_815 mw_816 mw_2 mw_817) rfl rfl rfl (by decide +kernel) ⟨Nat.le_of_ble_eq_true rfl, Nat.le_of_ble_eq_true rfl⟩) (my_preS hPc hK hDc hE hS hFc) rfl rfl hl.1 rfl (lv_room (Nat.le_of_ble_eq_true rfl)) dX7_today_8 ⟨Nat.le_of_ble_eq_true rfl, Nat.le_of_ble_eq_true rfl⟩) hS (fun q _ h => hFc q h) hFc (fun q _ h => hFc q h) (fun E9 ce9 q9 u9 t9 H1 locs1 ht9 hvm9 hp9 hB9 hz9 hk9 hS9 hc9 hv9 hcl9 => ?_) (fun u9 t9 H1 locs1 ht9 hvm9 hp9 _ _ _ _ => hp9.elim)
      have hZ := s4 hF
      rw [hQ]
      exact vx_out (fun x hx => (hout x hx).elim) hlocks hc9 hv9 hcl9 (fun t h1 h2 => ⟨(), trivial, ⟨hB9.trans (congrArg exn hZ), by rw [h1]; exact my_keep hP hk9⟩, hS9.F h1⟩) hS9.2.2 (Nat.le_of_ble_eq_true rfl) (Nat.le_of_ble_eq_true rfl)
    · dsimp only [tr] at hF
      have hPc : va_P (dC, dI) vwCl ([] : va_W) H := fun k q h => by simp at h
      have hDc : va_D A ([] : va_W) := ⟨fun i j p q h => by simp at h, fun k q h => by simp at h⟩
      have hFc := my_free0 hS hA
      refine va_callv (va_runS (As := [.int a2, .int 0, .int 1]) (rest := []) ⟨hx, hb, hml, hown, hts⟩ (c_X7_needRange l dC dI cy nb (a2) (0) (1) H.size e5) (va_cwS 3 hts (gS mw_815 mw_816 mw_2 mw_817) rfl rfl rfl (by decide +kernel) ⟨Nat.le_of_ble_eq_true rfl, Nat.le_of_ble_eq_true rfl⟩) (my_preS hPc hK hDc hE hS hFc) rfl rfl hl.1 rfl (lv_room (Nat.le_of_ble_eq_true rfl)) dX7_today_8 ⟨Nat.le_of_ble_eq_true rfl, Nat.le_of_ble_eq_true rfl⟩) hS (fun q _ h => hFc q h) hFc (fun u t H1 locs ht hvm hw hB hz1 hk1 hS => ?_)
      obtain ⟨hP1, hD1⟩ := hB
      rw [ht] at hP1
      have hP := my_keep hP hk1
      generalize H1 = H at hP hS ⊢
      clear hP1 hD1 hPc hDc hFc hk1 hz1 hvm ht
      refine lv_iload_n hx hb dX7_today_11 rfl (lv_at hl 2 rfl) ?_
      obtain ⟨t8, hJ9, hF⟩ := ob hF
      have join10 : ∀ (H : Heap) (locs : List Loc) (ls : Array Slot), va_P (dC, dI) vwCl (WC cy ad ks g u0) H → va_D A (WC cy ad ks g u0) → va_S A s.heap H locs → lv_has ls 3 [(0, .ref (ad .cl)), (1, .int a1), (2, .int a2)] → W p l e (headSpec (wsg yX7_today cX7_today 3 (some .int)) ({ frames := 8, cells := 1, slots := 6, locals := 300 })).room s m ([.ref (ad .cl), .int a1, .int a2] : List Value).toArray below meth c H locs 0 0 Qn (F0 m 42 ls [.int t8]) := by
        intro H locs ls hP hD hS hl
        cases hF
      clear hF
      have hF := hJ9
      clear hJ9
      refine lv_if_ne (tgt := 30) hx hb dX7_today_12 (by decide) (fun c7 => ?_) (fun c7 => ?_)
      · rw [if_neg c7] at hF
        refine lv_aload_n hx hb dX7_today_30 rfl (lv_at hl 0 rfl) ?_
        obtain ⟨q9, h9⟩ := wc_at (cy := cy) (ad := ad) (ks := ks) (g := g) (u := u0) (κ := .cl) hk.1 True.intro
        refine va_get (D := (dC, dI)) (ci := 7) (v := .ref (ad (.ln 0))) (C := RX7) (T := TX7) (N := 12) hx hb hts inlX7 hown hK hP q9 h9 rfl 0 (by decide) (hts _ mw_18) (fun _ h9 => h9) rfl dX7_today_31 ?_
        clear h9
        obtain ⟨q9, h9⟩ := wc_at (cy := cy) (ad := ad) (ks := ks) (g := g) (u := u0) (κ := (.ln 0)) hk.1 (Or.inl (by decide))
        refine va_get (D := (dC, dI)) (ci := 3) (v := .ref (ad (.ls 0))) (C := RX3) (T := TX3) (N := 17) hx hb hts inlX3 hown hK hP q9 h9 rfl 11 (by decide) (hts _ mw_697) (fun _ h9 => h9) rfl dX7_today_34 ?_
        clear h9
        refine lv_iload_n hx hb dX7_today_37 rfl (lv_at hl 1 rfl) ?_
        obtain ⟨n11, e12, hF⟩ := ob hF
        obtain ⟨q9, h9⟩ := wc_at (cy := cy) (ad := ad) (ks := ks) (g := g) (u := u0) (κ := (.ls 0)) hk.1 (Or.inl (by decide))
        refine va_aldq hx hb hK hP q9 7 h9 rfl (ix_in e12) dX7_today_38 ?_
        refine my_top (y := .ref (ad (.lo 0 n11))) (ixv (F := fun j => ad (.lo 0 j)) e12) ?_
        clear h9
        obtain ⟨q9, h9⟩ := wc_at (cy := cy) (ad := ad) (ks := ks) (g := g) (u := u0) (κ := (.lo 0 n11)) hk.1 ⟨(Or.inl (by decide)), (ix_lt e12)⟩
        refine va_get (D := (dC, dI)) (ci := 4) (v := .int (u0 (10 + 0) (113 + 4 * n11 + 3))) (C := RX4) (T := TX4) (N := 12) hx hb hts inlX4 hown hK hP q9 h9 rfl 9 (by decide) (hts _ mw_897) (fun _ h9 => h9) rfl dX7_today_39 ?_
        clear h9
        have ht := s1 hF
        subst ht
        exact join10 _ _ _ hP hD hS (lv_sub hl [0, 1, 2] rfl)
      · rw [if_pos c7] at hF
        refine lv_aload_n hx hb dX7_today_15 rfl (lv_at hl 0 rfl) ?_
        obtain ⟨q9, h9⟩ := wc_at (cy := cy) (ad := ad) (ks := ks) (g := g) (u := u0) (κ := .cl) hk.1 True.intro
        refine va_get (D := (dC, dI)) (ci := 7) (v := .ref (ad (.ln 0))) (C := RX7) (T := TX7) (N := 12) hx hb hts inlX7 hown hK hP q9 h9 rfl 0 (by decide) (hts _ mw_18) (fun _ h9 => h9) rfl dX7_today_16 ?_
        clear h9
        obtain ⟨q9, h9⟩ := wc_at (cy := cy) (ad := ad) (ks := ks) (g := g) (u := u0) (κ := (.ln 0)) hk.1 (Or.inl (by decide))
        refine va_get (D := (dC, dI)) (ci := 3) (v := .ref (ad (.ls 0))) (C := RX3) (T := TX3) (N := 17) hx hb hts inlX3 hown hK hP q9 h9 rfl 11 (by decide) (hts _ mw_697) (fun _ h9 => h9) rfl dX7_today_19 ?_
        clear h9
        refine lv_iload_n hx hb dX7_today_22 rfl (lv_at hl 1 rfl) ?_
        obtain ⟨n13, e14, hF⟩ := ob hF
        obtain ⟨q9, h9⟩ := wc_at (cy := cy) (ad := ad) (ks := ks) (g := g) (u := u0) (κ := (.ls 0)) hk.1 (Or.inl (by decide))
        refine va_aldq hx hb hK hP q9 7 h9 rfl (ix_in e14) dX7_today_23 ?_
        refine my_top (y := .ref (ad (.lo 0 n13))) (ixv (F := fun j => ad (.lo 0 j)) e14) ?_
        clear h9
        obtain ⟨q9, h9⟩ := wc_at (cy := cy) (ad := ad) (ks := ks) (g := g) (u := u0) (κ := (.lo 0 n13)) hk.1 ⟨(Or.inl (by decide)), (ix_lt e14)⟩
        refine va_get (D := (dC, dI)) (ci := 4) (v := .int (u0 (10 + 0) (113 + 4 * n13 + 2))) (C := RX4) (T := TX4) (N := 12) hx hb hts inlX4 hown hK hP q9 h9 rfl 8 (by decide) (hts _ mw_896) (fun _ h9 => h9) rfl dX7_today_24 ?_
        clear h9
        refine lv_goto (tgt := 42) hx hb dX7_today_27 (by decide) ?_
        have ht := s1 hF
        subst ht
        exact join10 _ _ _ hP hD hS (lv_sub hl [0, 1, 2] rfl)
set_option maxHeartbeats 4000000 in
set_option maxRecDepth 100000 in
theorem c_X7_total_y (l : Launch) (hst : l.stackTraces = false) (dC : Nat → ClassId) (dI : Nat → Nat → Nat) (cy : Nat → ClassId) (nb : Nat → Nat) (ad : CK → Nat) (ks : List CK) (g : CG) (hk : GA nb ad g ks) (u0 : RS) (a1 : Int32) (xc : Int32) (sz : Nat) (hF : C7_total g u0 a1 = some (.inl xc)) : vx_Met l yX7_total (wsg yX7_total cX7_total 2 (some .int)) ({ frames := 8, cells := 1, slots := 6, locals := 300 }) (va_Pc [.ref (ad .cl), .int a1] (fun U => U.heap.size = sz ∧ va_P (dC, dI) vwCl (WC cy ad ks g u0) U.heap ∧ va_K (dC, dI) vwCl (tyL cy) U ∧ va_D (fun _ => True) (WC cy ad ks g u0) ∧ GE nb (va_A (WC cy ad ks g u0) sz) U)) (va_Qi (fun (_ : Int32) (_ : Unit) => False) (fun _ _ => True) (va_A (WC cy ad ks g u0) sz)) (vx_X (fun (_ : Unit) => True) (fun E9 _ t9 => E9 = exn xc ∧ va_P (dC, dI) vwCl (WC cy ad ks g u0) t9.heap) (va_A (WC cy ad ks g u0) sz)) 1 6 (va_A (WC cy ad ks g u0) sz) := by
  refine vx_ofW (cc := cX7_total) (maxL := 2) (ret := (some .int)) pn_X7 rfl ?_
  intro p e s m args below meth c s₁ B hml hout hv
  obtain ⟨rfl, hsz, hP, hK, hD0, hE⟩ := hv
  have hx := B.exec
  have hb := B.bytes
  have hr := B.returns
  have hts0 := atoms_spec (ws := (wsg yX7_total cX7_total 2 (some .int))) B.pre
  have hts : ∀ w ∈ wsL_law, w.before _ s = true := fun w h => hts0 w (List.mem_cons_of_mem _ h)
  have hown : s.vm.findClass RX7 = some m.cls := by have h9 := findClass_of_methodNamed B.named; exact h9
  have hlocks := B.notSynchronized
  subst hsz
  have hD := hD0.self (sz := s.heap.size)
  generalize hAe : va_A (WC cy ad ks g u0) s.heap.size = A at hD hE ⊢
  have hA : ∀ q : Nat, s.heap.size ≤ q → A q := fun q h => by rw [← hAe]; exact Or.inr h
  have hS : va_S A s.heap s.heap [] := va_S.rf
  have hl := lv_entry ([.ref (ad .cl), .int a1]) (n := 2) (Nat.le_of_ble_eq_true rfl)
  rw [lg_entry_eq]
  generalize (lg_sl ([.ref (ad .cl), .int a1]) ++ List.replicate (2 - (lg_sl ([.ref (ad .cl), .int a1])).length) Slot.unset).toArray = ls at hl ⊢
  have hl : lv_has ls 2 [(0, .ref (ad .cl)), (1, .int a1)] := hl
  generalize hHe : s.heap = H at hP hS ⊢
  have hS : va_S A s.heap H [] := by rw [hHe]; exact hS
  refine my_Q (fun Qn hQ => ?_)
  simp only [C7_total] at hF
  refine lv_iload_n hx hb dX7_total_0 rfl (lv_at hl 1 rfl) ?_
  refine lv_iconst (v := 0) hx hb dX7_total_1 (by decide) ?_
  refine lv_iconst (v := 4) hx hb dX7_total_2 (by decide) ?_
  obtain ⟨t1, e2, hF⟩ := ob hF
  rcases t1 with xz9 | t3
  · have hF : some (Sum.inl xz9) = some (.inl xc) := hF
    have hPc : va_P (dC, dI) vwCl ([] : va_W) H := fun k q h => by simp at h
    have hDc : va_D A ([] : va_W) := ⟨fun i j p q h => by simp at h, fun k q h => by simp at h⟩
    have hFc := my_free0 hS hA
    refine vx_callv (vx_runS (As := [.int a1, .int 0, .int 4]) (rest := []) ⟨hx, hb, hml, hown, hts⟩ (c_X7_needRange_x l hst dC dI cy nb (a1) (0) (4) xz9 H.size e2) (va_cwS 3 hts (gS mw_815 mw_816 mw_2 mw_817) rfl rfl rfl (by decide +kernel) ⟨Nat.le_of_ble_eq_true rfl, Nat.le_of_ble_eq_true rfl⟩) (my_preS hPc hK hDc hE hS hFc) rfl rfl hl.1 rfl (lv_room (Nat.le_of_ble_eq_true rfl)) dX7_total_3 ⟨Nat.le_of_ble_eq_true rfl, Nat.le_of_ble_eq_true rfl⟩) hS (fun q _ h => hFc q h) hFc (fun q _ h => hFc q h) (fun E9 ce9 q9 u9 t9 H1 locs1 ht9 hvm9 hp9 hB9 hz9 hk9 hS9 hc9 hv9 hcl9 => ?_) (fun u9 t9 H1 locs1 ht9 hvm9 hp9 _ _ _ _ => hp9.elim)
    have hZ := s4 hF
    rw [hQ]
    exact vx_out (fun x hx => (hout x hx).elim) hlocks hc9 hv9 hcl9 (fun t h1 h2 => ⟨(), trivial, ⟨hB9.trans (congrArg exn hZ), by rw [h1]; exact my_keep hP hk9⟩, hS9.F h1⟩) hS9.2.2 (Nat.le_of_ble_eq_true rfl) (Nat.le_of_ble_eq_true rfl)
  · dsimp only [tr] at hF
    have hPc : va_P (dC, dI) vwCl ([] : va_W) H := fun k q h => by simp at h
    have hDc : va_D A ([] : va_W) := ⟨fun i j p q h => by simp at h, fun k q h => by simp at h⟩
    have hFc := my_free0 hS hA
    refine va_callv (va_runS (As := [.int a1, .int 0, .int 4]) (rest := []) ⟨hx, hb, hml, hown, hts⟩ (c_X7_needRange l dC dI cy nb (a1) (0) (4) H.size e2) (va_cwS 3 hts (gS mw_815 mw_816 mw_2 mw_817) rfl rfl rfl (by decide +kernel) ⟨Nat.le_of_ble_eq_true rfl, Nat.le_of_ble_eq_true rfl⟩) (my_preS hPc hK hDc hE hS hFc) rfl rfl hl.1 rfl (lv_room (Nat.le_of_ble_eq_true rfl)) dX7_total_3 ⟨Nat.le_of_ble_eq_true rfl, Nat.le_of_ble_eq_true rfl⟩) hS (fun q _ h => hFc q h) hFc (fun u t H1 locs ht hvm hw hB hz1 hk1 hS => ?_)
    obtain ⟨hP1, hD1⟩ := hB
    rw [ht] at hP1
    have hP := my_keep hP hk1
    generalize H1 = H at hP hS ⊢
    clear hP1 hD1 hPc hDc hFc hk1 hz1 hvm ht
    refine lv_aload_n hx hb dX7_total_6 rfl (lv_at hl 0 rfl) ?_
    obtain ⟨q9, h9⟩ := wc_at (cy := cy) (ad := ad) (ks := ks) (g := g) (u := u0) (κ := .cl) hk.1 True.intro
    refine va_get (D := (dC, dI)) (ci := 7) (v := .ref (ad (.ln 0))) (C := RX7) (T := TX7) (N := 12) hx hb hts inlX7 hown hK hP q9 h9 rfl 0 (by decide) (hts _ mw_18) (fun _ h9 => h9) rfl dX7_total_7 ?_
    clear h9
    obtain ⟨q9, h9⟩ := wc_at (cy := cy) (ad := ad) (ks := ks) (g := g) (u := u0) (κ := (.ln 0)) hk.1 (Or.inl (by decide))
    refine va_get (D := (dC, dI)) (ci := 3) (v := .ref (ad (.tt 0))) (C := RX3) (T := TX3) (N := 17) hx hb hts inlX3 hown hK hP q9 h9 rfl 15 (by decide) (hts _ mw_909) (fun _ h9 => h9) rfl dX7_total_10 ?_
    clear h9
    refine lv_iload_n hx hb dX7_total_13 rfl (lv_at hl 1 rfl) ?_
    obtain ⟨x4, e5, hF⟩ := ob hF
    obtain ⟨q9, h9⟩ := wc_at (cy := cy) (ad := ad) (ks := ks) (g := g) (u := u0) (κ := (.tt 0)) hk.1 (Or.inl (by decide))
    refine va_iald hx hb hK hP q9 1 h9 rfl (rdo_in e5) dX7_total_14 ?_
    refine my_topi (y := x4) (rdo_eq e5) ?_
    clear h9
    cases hF
set_option maxHeartbeats 4000000 in
set_option maxRecDepth 100000 in
theorem c_X7_writeCard_y (l : Launch) (hst : l.stackTraces = false) (dC : Nat → ClassId) (dI : Nat → Nat → Nat) (cy : Nat → ClassId) (nb : Nat → Nat) (ad : CK → Nat) (ks : List CK) (g : CG) (hk : GA nb ad g ks) (u0 : RS) (a1 : Int32) (xc : Int32) (sz : Nat) (hF : C7_writeCard g u0 a1 = some (.inl xc)) : vx_Met l yX7_writeCard (wsg yX7_writeCard cX7_writeCard 4 (some .int)) ({ frames := 8, cells := 1, slots := 6, locals := 300 }) (va_Pc [.ref (ad .cl), .int a1] (fun U => U.heap.size = sz ∧ va_P (dC, dI) vwCl (WC cy ad ks g u0) U.heap ∧ va_K (dC, dI) vwCl (tyL cy) U ∧ va_D (fun _ => True) (WC cy ad ks g u0) ∧ GE nb (va_A (WC cy ad ks g u0) sz) U)) (va_Qi (fun (_ : Int32) (_ : Unit) => False) (fun _ _ => True) (va_A (WC cy ad ks g u0) sz)) (vx_X (fun (_ : Unit) => True) (fun E9 _ t9 => E9 = exn xc ∧ va_P (dC, dI) vwCl (WC cy ad ks g u0) t9.heap) (va_A (WC cy ad ks g u0) sz)) 1 6 (va_A (WC cy ad ks g u0) sz) := by
  refine vx_ofW (cc := cX7_writeCard) (maxL := 4) (ret := (some .int)) pn_X7 rfl ?_
  intro p e s m args below meth c s₁ B hml hout hv
  obtain ⟨rfl, hsz, hP, hK, hD0, hE⟩ := hv
  have hx := B.exec
  have hb := B.bytes
  have hr := B.returns
  have hts0 := atoms_spec (ws := (wsg yX7_writeCard cX7_writeCard 4 (some .int))) B.pre
  have hts : ∀ w ∈ wsL_law, w.before _ s = true := fun w h => hts0 w (List.mem_cons_of_mem _ h)
  have hown : s.vm.findClass RX7 = some m.cls := by have h9 := findClass_of_methodNamed B.named; exact h9
  have hlocks := B.notSynchronized
  subst hsz
  have hD := hD0.self (sz := s.heap.size)
  generalize hAe : va_A (WC cy ad ks g u0) s.heap.size = A at hD hE ⊢
  have hA : ∀ q : Nat, s.heap.size ≤ q → A q := fun q h => by rw [← hAe]; exact Or.inr h
  have hS : va_S A s.heap s.heap [] := va_S.rf
  have hl := lv_entry ([.ref (ad .cl), .int a1]) (n := 4) (Nat.le_of_ble_eq_true rfl)
  rw [lg_entry_eq]
  generalize (lg_sl ([.ref (ad .cl), .int a1]) ++ List.replicate (4 - (lg_sl ([.ref (ad .cl), .int a1])).length) Slot.unset).toArray = ls at hl ⊢
  have hl : lv_has ls 4 [(0, .ref (ad .cl)), (1, .int a1)] := hl
  generalize hHe : s.heap = H at hP hS ⊢
  have hS : va_S A s.heap H [] := by rw [hHe]; exact hS
  refine my_Q (fun Qn hQ => ?_)
  simp only [C7_writeCard] at hF
  refine lv_aload_n hx hb dX7_writeCard_0 rfl (lv_at hl 0 rfl) ?_
  refine lv_iload_n hx hb dX7_writeCard_1 rfl (lv_at hl 1 rfl) ?_
  obtain ⟨t1, e2, hF⟩ := ob hF
  rcases t1 with xz9 | t3
  · have hF : some (Sum.inl xz9) = some (.inl xc) := hF
    have hPc := hP
    have hDc := hD
    have hFc := my_free hD hS hA
    obtain ⟨q8, h8⟩ := wc_at (cy := cy) (ad := ad) (ks := ks) (g := g) (u := u0) (κ := .cl) hk.1 True.intro
    refine vx_callv (vx_runV (As := [.int a1]) (rest := []) ⟨hx, hb, hml, hown, hts⟩ (c_X7_needCard_y l hst dC dI cy nb ad ks g hk u0 (a1) xz9 H.size e2) (cwV 1 hts (gV mw_666 mw_667 mw_668 mw_2 mw_669) rfl rfl rfl (by decide +kernel) ⟨Nat.le_of_ble_eq_true rfl, Nat.le_of_ble_eq_true rfl⟩) (my_preV hPc hK hDc hE hS hFc (va_recv (q := (RX7, TX7, 12)) hK hP (ci := 7) (q0 := q8) rfl h8)) rfl rfl hl.1 rfl (lv_room (Nat.le_of_ble_eq_true rfl)) dX7_writeCard_2 ⟨Nat.le_of_ble_eq_true rfl, Nat.le_of_ble_eq_true rfl⟩) hS (fun q _ h => hFc q h) hFc (fun q _ h => hFc q h) (fun E9 ce9 q9 u9 t9 H1 locs1 ht9 hvm9 hp9 hB9 hz9 hk9 hS9 hc9 hv9 hcl9 => ?_) (fun u9 t9 H1 locs1 ht9 hvm9 hp9 _ _ _ _ => hp9.elim)
    have hZ := s4 hF
    rw [hQ]
    exact vx_out (fun x hx => (hout x hx).elim) hlocks hc9 hv9 hcl9 (fun t h1 h2 => ⟨(), trivial, ⟨hB9.1.trans (congrArg exn hZ), by rw [h1, ← ht9]; exact hB9.2⟩, hS9.F h1⟩) hS9.2.2 (Nat.le_of_ble_eq_true rfl) (Nat.le_of_ble_eq_true rfl)
  · dsimp only [tr] at hF
    have hPc := hP
    have hDc := hD
    have hFc := my_free hD hS hA
    obtain ⟨q8, h8⟩ := wc_at (cy := cy) (ad := ad) (ks := ks) (g := g) (u := u0) (κ := .cl) hk.1 True.intro
    refine va_callv (va_runV (As := [.int a1]) (rest := []) ⟨hx, hb, hml, hown, hts⟩ (c_X7_needCard l dC dI cy nb ad ks g hk u0 (a1) H.size e2) (cwV 1 hts (gV mw_666 mw_667 mw_668 mw_2 mw_669) rfl rfl rfl (by decide +kernel) ⟨Nat.le_of_ble_eq_true rfl, Nat.le_of_ble_eq_true rfl⟩) (my_preV hPc hK hDc hE hS hFc (va_recv (q := (RX7, TX7, 12)) hK hP (ci := 7) (q0 := q8) rfl h8)) rfl rfl hl.1 rfl (lv_room (Nat.le_of_ble_eq_true rfl)) dX7_writeCard_2 ⟨Nat.le_of_ble_eq_true rfl, Nat.le_of_ble_eq_true rfl⟩) hS (fun q _ h => hFc q h) hFc (fun u t H1 locs ht hvm hw hB hz1 hk1 hS => ?_)
    clear h8
    obtain ⟨hP1, hD1⟩ := hB
    rw [ht] at hP1
    have hP := hP1
    have hD := hD1.weaken (fun k q _ h => hFc q.1 h)
    generalize H1 = H at hP hS ⊢
    clear hP1 hD1 hPc hDc hFc hk1 hz1 hvm ht
    refine lv_aload_n hx hb dX7_writeCard_5 rfl (lv_at hl 0 rfl) ?_
    obtain ⟨q9, h9⟩ := wc_at (cy := cy) (ad := ad) (ks := ks) (g := g) (u := u0) (κ := .cl) hk.1 True.intro
    refine va_get (D := (dC, dI)) (ci := 7) (v := .ref (ad (.ln 0))) (C := RX7) (T := TX7) (N := 12) hx hb hts inlX7 hown hK hP q9 h9 rfl 0 (by decide) (hts _ mw_18) (fun _ h9 => h9) rfl dX7_writeCard_6 ?_
    clear h9
    obtain ⟨q9, h9⟩ := wc_at (cy := cy) (ad := ad) (ks := ks) (g := g) (u := u0) (κ := (.ln 0)) hk.1 (Or.inl (by decide))
    refine va_get (D := (dC, dI)) (ci := 3) (v := .ref (ad (.cs 0))) (C := RX3) (T := TX3) (N := 17) hx hb hts inlX3 hown hK hP q9 h9 rfl 12 (by decide) (hts _ mw_657) (fun _ h9 => h9) rfl dX7_writeCard_9 ?_
    clear h9
    refine lv_iload_n hx hb dX7_writeCard_12 rfl (lv_at hl 1 rfl) ?_
    obtain ⟨n4, e5, hF⟩ := ob hF
    obtain ⟨q9, h9⟩ := wc_at (cy := cy) (ad := ad) (ks := ks) (g := g) (u := u0) (κ := (.cs 0)) hk.1 (Or.inl (by decide))
    refine va_aldq hx hb hK hP q9 8 h9 rfl (ix_in e5) dX7_writeCard_13 ?_
    refine my_top (y := .ref (ad (.cd 0 n4))) (ixv (F := fun j => ad (.cd 0 j)) e5) ?_
    clear h9
    obtain ⟨q9, h9⟩ := wc_at (cy := cy) (ad := ad) (ks := ks) (g := g) (u := u0) (κ := (.cd 0 n4)) hk.1 ⟨(Or.inl (by decide)), (ix_lt e5)⟩
    refine va_get (D := (dC, dI)) (ci := 2) (v := .ref (ad (.tx (u0 (10 + 0) (137 + 25 * n4 + 2)).toNatClampNeg))) (C := RX1) (T := TX1) (N := 9) hx hb hts inlX1 hown hK hP q9 h9 rfl 2 (by decide) (hts _ mw_660) (fun _ h9 => h9) rfl dX7_writeCard_14 ?_
    clear h9
    refine lv_astore_n (lv' := [(2, .ref (ad (.tx (u0 (10 + 0) (137 + 25 * n4 + 2)).toNatClampNeg))), (0, .ref (ad .cl)), (1, .int a1)]) hx hb dX7_writeCard_17 rfl hl (by decide) rfl (fun ls hl => ?_)
    refine lv_aload_n hx hb dX7_writeCard_18 rfl (lv_at hl 1 rfl) ?_
    refine lv_aload_n hx hb dX7_writeCard_19 rfl (lv_at hl 0 rfl) ?_
    obtain ⟨x6, e7, hF⟩ := ob hF
    obtain ⟨q9, h9⟩ := wc_at (cy := cy) (ad := ad) (ks := ks) (g := g) (u := u0) (κ := (.tx (u0 (10 + 0) (137 + 25 * n4 + 2)).toNatClampNeg)) hk.1 (tln_h e7)
    refine va_alen (v := x6) hx hb hK hP q9 0 h9 (ty := .byte) rfl (tln_l e7) dX7_writeCard_20 ?_
    clear h9
    refine lv_aload_n hx hb dX7_writeCard_21 rfl (lv_at hl 1 rfl) ?_
    obtain ⟨q9, h9⟩ := wc_at (cy := cy) (ad := ad) (ks := ks) (g := g) (u := u0) (κ := .cl) hk.1 True.intro
    refine va_get (D := (dC, dI)) (ci := 7) (v := .ref (ad .ou)) (C := RX7) (T := TX7) (N := 12) hx hb hts inlX7 hown hK hP q9 h9 rfl 3 (by decide) (hts _ mw_25) (fun _ h9 => h9) rfl dX7_writeCard_22 ?_
    clear h9
    obtain ⟨q9, h9⟩ := wc_at (cy := cy) (ad := ad) (ks := ks) (g := g) (u := u0) (κ := .ou) hk.1 True.intro
    refine va_alen (v := 16) hx hb hK hP q9 0 h9 rfl rfl dX7_writeCard_25 ?_
    clear h9
    refine va_mmin hx hb (hml.trans hl.1.symm) hown (hts _ mw_1459) (hts _ mw_233) (hts _ mw_234) (hts _ mw_235) (Nat.le_of_ble_eq_true rfl) (Nat.le_of_ble_eq_true rfl) (Nat.le_of_ble_eq_true rfl) (Nat.le_of_ble_eq_true rfl) dX7_writeCard_26 ?_
    obtain ⟨q9, h9, ez9⟩ := wc_set (cy := cy) (ad := ad) (ks := ks) (g := g) (u := u0) (κ := .cl) (r := 0) (i := 0) (v := (if (16 : Int32) < x6 then (16 : Int32) else x6)) hk.1 True.intro (own_cl (by decide)) (sf_cl_7)
    refine va_put (D := (dC, dI)) (ci := 7) (v := .int (if (16 : Int32) < x6 then (16 : Int32) else x6)) (ty := .int) (C := RX7) (T := TX7) (N := 12) hx hb hts inlX7 tyX7 tyX7_ok nmX7 hown hK hP hD hS q9 h9 rfl 7 (by decide) (hts _ mw_30) (fun _ h9 => h9) rfl (by decide +kernel) rfl rfl (Nat.le_of_ble_eq_true rfl) dX7_writeCard_29 (fun H locs hP hD hS => ?_)
    obtain ⟨u8, e9, hF⟩ := ob hF
    have hP : va_P (dC, dI) vwCl (WC cy ad ks g u8) H := by rw [← pt_eq e9, ← ez9]; exact hP
    have hD : va_D A (WC cy ad ks g u8) := by rw [← pt_eq e9, ← ez9]; exact hD
    clear ez9 h9
    refine lv_iconst (v := 0) hx hb dX7_writeCard_32 (by decide) ?_
    refine lv_istore_n (lv' := [(3, .int 0), (2, .ref (ad (.tx (u0 (10 + 0) (137 + 25 * n4 + 2)).toNatClampNeg))), (0, .ref (ad .cl)), (1, .int a1)]) hx hb dX7_writeCard_33 rfl hl (by decide) rfl (fun ls hl => ?_)
    obtain ⟨t12, hL13, hF⟩ := ob hF
    have kx14 : ∀ (H : Heap) (locs : List Loc) (ls : Array Slot), va_P (dC, dI) vwCl (WC cy ad ks g (t12.2)) H → va_D A (WC cy ad ks g (t12.2)) → va_S A s.heap H locs → lv_has ls 4 [(3, .int (t12.1)), (2, .ref (ad (.tx (u0 (10 + 0) (137 + 25 * n4 + 2)).toNatClampNeg))), (0, .ref (ad .cl)), (1, .int a1)] → W p l e (headSpec (wsg yX7_writeCard cX7_writeCard 4 (some .int)) ({ frames := 8, cells := 1, slots := 6, locals := 300 })).room s m ([.ref (ad .cl), .int a1] : List Value).toArray below meth c H locs 0 0 Qn (F0 m 61 ls []) := by
      intro H locs ls hP hD hS hl
      refine lv_aload_n hx hb dX7_writeCard_61 rfl (lv_at hl 2 rfl) ?_
      obtain ⟨q9, h9⟩ := wc_at (cy := cy) (ad := ad) (ks := ks) (g := g) (u := (t12.2)) (κ := .cl) hk.1 True.intro
      refine va_get (D := (dC, dI)) (ci := 7) (v := .int ((t12.2) 0 0)) (C := RX7) (T := TX7) (N := 12) hx hb hts inlX7 hown hK hP q9 h9 rfl 7 (by decide) (hts _ mw_30) (fun _ h9 => h9) rfl dX7_writeCard_62 ?_
      clear h9
      cases hF
    clear hF
    have loop16 : ∀ (m17 : Nat) (y10 : Int32) (u11 : RS), C7_writeCard_L34 u0 n4 a1 g m17 y10 u11 = some t12 → ∀ (H : Heap) (locs : List Loc) (ls : Array Slot), va_P (dC, dI) vwCl (WC cy ad ks g u11) H → va_D A (WC cy ad ks g u11) → va_S A s.heap H locs → lv_has ls 4 [(3, .int y10), (2, .ref (ad (.tx (u0 (10 + 0) (137 + 25 * n4 + 2)).toNatClampNeg))), (0, .ref (ad .cl)), (1, .int a1)] → W p l e (headSpec (wsg yX7_writeCard cX7_writeCard 4 (some .int)) ({ frames := 8, cells := 1, slots := 6, locals := 300 })).room s m ([.ref (ad .cl), .int a1] : List Value).toArray below meth c H locs 0 0 Qn (F0 m 34 ls []) := by
      intro m17
      induction m17 with
      | zero => intro y10 u11 hF; cases hF
      | succ m17 ih =>
        intro y10 u11 hF H locs ls hP hD hS hl
        simp only [C7_writeCard_L34] at hF
        refine lv_iload_n hx hb dX7_writeCard_34 rfl (lv_at hl 0 rfl) ?_
        refine lv_aload_n hx hb dX7_writeCard_35 rfl (lv_at hl 2 rfl) ?_
        obtain ⟨q9, h9⟩ := wc_at (cy := cy) (ad := ad) (ks := ks) (g := g) (u := u11) (κ := .cl) hk.1 True.intro
        refine va_get (D := (dC, dI)) (ci := 7) (v := .int (u11 0 0)) (C := RX7) (T := TX7) (N := 12) hx hb hts inlX7 hown hK hP q9 h9 rfl 7 (by decide) (hts _ mw_30) (fun _ h9 => h9) rfl dX7_writeCard_36 ?_
        clear h9
        refine lv_icmp_ge (tgt := 61) hx hb dX7_writeCard_39 (by decide) (fun c18 => ?_) (fun c18 => ?_)
        · rw [if_pos c18] at hF
          have ht := s1 hF
          subst ht
          exact kx14 _ _ _ hP hD hS (lv_sub hl [0, 1, 2, 3] rfl)
        · rw [if_neg c18] at hF
          refine lv_aload_n hx hb dX7_writeCard_42 rfl (lv_at hl 2 rfl) ?_
          obtain ⟨q9, h9⟩ := wc_at (cy := cy) (ad := ad) (ks := ks) (g := g) (u := u11) (κ := .cl) hk.1 True.intro
          refine va_get (D := (dC, dI)) (ci := 7) (v := .ref (ad .ou)) (C := RX7) (T := TX7) (N := 12) hx hb hts inlX7 hown hK hP q9 h9 rfl 3 (by decide) (hts _ mw_25) (fun _ h9 => h9) rfl dX7_writeCard_43 ?_
          clear h9
          refine lv_iload_n hx hb dX7_writeCard_46 rfl (lv_at hl 0 rfl) ?_
          refine lv_bipush (v := 97) hx hb dX7_writeCard_47 (by decide) ?_
          refine lv_aload_n hx hb dX7_writeCard_49 rfl (lv_at hl 1 rfl) ?_
          refine lv_iload_n hx hb dX7_writeCard_50 rfl (lv_at hl 0 rfl) ?_
          obtain ⟨x19, e20, hF⟩ := ob hF
          obtain ⟨q9, h9⟩ := wc_at (cy := cy) (ad := ad) (ks := ks) (g := g) (u := u11) (κ := (.tx (u0 (10 + 0) (137 + 25 * n4 + 2)).toNatClampNeg)) hk.1 (tbt_h e20)
          refine va_bald hx hb hK hP q9 0 h9 rfl (tbt_in e20) dX7_writeCard_51 ?_
          refine my_topi (y := x19) (tbt_eq e20) ?_
          clear h9
          refine lv_iadd hx hb dX7_writeCard_52 ?_
          refine lv_i2b (v := ((97 + x19)).toInt8.toInt32) hx hb dX7_writeCard_53 rfl ?_
          obtain ⟨u21, e22, hF⟩ := ob hF
          obtain ⟨q9, h9, ez9⟩ := wc_set (cy := cy) (ad := ad) (ks := ks) (g := g) (u := u11) (κ := .ou) (r := 1) (i := (y10 : Int32).toNatClampNeg) (v := (vp_nar .byte ((97 + x19)).toInt8.toInt32)) hk.1 True.intro own_ou (sf_ou)
          refine va_bast hx hb hK hP hD hS q9 0 h9 rfl (ws_in e22) dX7_writeCard_54 (fun H locs hP hD hS => ?_)
          have hP : va_P (dC, dI) vwCl (WC cy ad ks g u21) H := by rw [← ws_eq e22, ← ez9]; exact hP
          have hD : va_D A (WC cy ad ks g u21) := by rw [← ws_eq e22, ← ez9]; exact hD
          clear ez9 h9
          refine lv_iinc (v := (y10 + 1)) (lv' := [(3, .int (y10 + 1)), (2, .ref (ad (.tx (u0 (10 + 0) (137 + 25 * n4 + 2)).toNatClampNeg))), (0, .ref (ad .cl)), (1, .int a1)]) hx hb dX7_writeCard_55 hl (k := 0) rfl (by rfl) (by decide) rfl (fun ls hl => ?_)
          refine lv_goto (tgt := 34) hx hb dX7_writeCard_58 (by decide) ?_
          exact ih _ _ hF _ _ _ hP hD hS (lv_sub hl [0, 1, 2, 3] rfl)
    exact loop16 FUEL _ _ hL13 _ _ _ hP hD hS (lv_sub hl [0, 1, 2, 3] rfl)
